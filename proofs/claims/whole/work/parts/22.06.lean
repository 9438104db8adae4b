set_option maxRecDepth 20000 in
set_option maxHeartbeats 4000000 in
theorem e_lp_X5_goByNumber_4_56 (d : Nat) (hs : List Hr) (P : Option Value → Hp → Prop) : ∀ (n : Nat) (v1 : Int32) (v2 : Int32) (S : St) (q : Int32 × St), lp_X5_goByNumber_4 56 n v1 v2 S = some q → (WM mi_X5_goByNumber (d + 1) P 72 [some (.ref 56), some (.int q.1), none] [] (st q.2 hs)) → WM mi_X5_goByNumber (d + 1) P 4 [some (.ref 56), some (.int v1), some (.int v2)] [] (st S hs) := by
  intro n
  induction n with
  | zero =>
    intro v1 v2 S q hl
    cases hl
  | succ n ih =>
    intro v1 v2 S q hl ct
    rw [lp_X5_goByNumber_4] at hl
    refine Wp.stepsG 3 (fun cal X P' hk hX hP => ?_)
    show (2 ≤ v2 → X (72, [some (.ref 56), some (.int v1), some (.int v2)], [], st S hs, 0, 0)) ∧ (¬ 2 ≤ v2 → X (9, [some (.ref 56), some (.int v1), some (.int v2)], [], st S hs, 0, 0))
    refine ⟨fun hc => hX _ ?_, fun hc => hX _ ?_⟩
    · clear hP hX hk P' X cal
      rw [if_pos hc] at hl
      have hl := Option.some.inj hl
      subst hl
      exact Wp.weak (leL.k (leL.k (leL.n leL.z))) (ct)
    · clear hP hX hk P' X cal
      rw [if_neg hc] at hl
      refine Wp.stepsG 4 (fun cal X P' hk hX hP => ?_)
      show kcall cal ix_X5_signAt [.ref 56, .int (S.1 56 7)] (st S hs) [] 0 0 (0, 0) (fun v σ' c' m' => X (17, [some (.ref 56), some (.int v1), some (.int v2)], v.toList ++ [], σ', c', m'))
      obtain ⟨q1, hq1, hl⟩ := bd_some hl
      refine kcall0 rfl (hk _ _ _ _ _ _ (e_X5_signAt_56 (d + 0) S hs (S.1 56 7) q1 hq1 _ ?_))
      show X (17, [some (.ref 56), some (.int v1), some (.int v2)], [.int q1], st S hs, 0, 0)
      refine hX _ ?_
      clear hP hX hk P' X cal
      refine Wp.stepsG 2 (fun cal X P' hk hX hP => ?_)
      show (q1 < 48 → X (72, [some (.ref 56), some (.int v1), some (.int v2)], [], st S hs, 0, 0)) ∧ (¬ q1 < 48 → X (22, [some (.ref 56), some (.int v1), some (.int v2)], [], st S hs, 0, 0))
      refine ⟨fun hc => hX _ ?_, fun hc => hX _ ?_⟩
      · clear hP hX hk P' X cal
        rw [if_pos hc] at hl
        have hl := Option.some.inj hl
        subst hl
        exact Wp.weak (leL.k (leL.k (leL.n leL.z))) (ct)
      · clear hP hX hk P' X cal
        rw [if_neg hc] at hl
        refine Wp.stepsG 4 (fun cal X P' hk hX hP => ?_)
        show kcall cal ix_X5_signAt [.ref 56, .int (S.1 56 7)] (st S hs) [] 0 0 (0, 0) (fun v σ' c' m' => X (30, [some (.ref 56), some (.int v1), some (.int v2)], v.toList ++ [], σ', c', m'))
        obtain ⟨q2, hq2, hl⟩ := bd_some hl
        refine kcall0 rfl (hk _ _ _ _ _ _ (e_X5_signAt_56 (d + 0) S hs (S.1 56 7) q2 hq2 _ ?_))
        show X (30, [some (.ref 56), some (.int v1), some (.int v2)], [.int q2], st S hs, 0, 0)
        refine hX _ ?_
        clear hP hX hk P' X cal
        refine Wp.stepsG 2 (fun cal X P' hk hX hP => ?_)
        show (57 < q2 → X (72, [some (.ref 56), some (.int v1), some (.int v2)], [], st S hs, 0, 0)) ∧ (¬ 57 < q2 → X (35, [some (.ref 56), some (.int v1), some (.int v2)], [], st S hs, 0, 0))
        refine ⟨fun hc => hX _ ?_, fun hc => hX _ ?_⟩
        · clear hP hX hk P' X cal
          rw [if_pos hc] at hl
          have hl := Option.some.inj hl
          subst hl
          exact Wp.weak (leL.k (leL.k (leL.n leL.z))) (ct)
        · clear hP hX hk P' X cal
          rw [if_neg hc] at hl
          refine Wp.stepsG 9 (fun cal X P' hk hX hP => ?_)
          show kcall cal ix_X5_signAt [.ref 56, .int (S.1 56 7)] (st S hs) [.int ((if v1 < 0 then 0 else v1) * 10)] 0 0 (0, 0) (fun v σ' c' m' => X (51, [some (.ref 56), some (.int v1), some (.int v2)], v.toList ++ [.int ((if v1 < 0 then 0 else v1) * 10)], σ', c', m'))
          obtain ⟨q3, hq3, hl⟩ := bd_some hl
          refine kcall0 rfl (hk _ _ _ _ _ _ (e_X5_signAt_56 (d + 0) S hs (S.1 56 7) q3 hq3 _ ?_))
          show X (51, [some (.ref 56), some (.int v1), some (.int v2)], [.int q3, .int ((if v1 < 0 then 0 else v1) * 10)], st S hs, 0, 0)
          refine hX _ ?_
          clear hP hX hk P' X cal
          refine Wp.stepsG 12 (fun cal X P' hk hX hP => ?_)
          show X (4, [some (.ref 56), some (.int ((((if v1 < 0 then 0 else v1) * 10) + q3) - 48)), some (.int (v2 + 1))], [], st (sI S 56 7 ((S.1 56 7) + 1)) hs, 0, 0)
          refine hX _ ?_
          exact (ih ((((if v1 < 0 then 0 else v1) * 10) + q3) - 48) (v2 + 1) (sI S 56 7 ((S.1 56 7) + 1)) q hl ct)
set_option maxRecDepth 20000 in
set_option maxHeartbeats 4000000 in
theorem e_X5_goByNumber_56 (d : Nat) (S : St) (hs : List Hr) (v : Int32 × St) (hr : r_X5_goByNumber S 56 = some v) (P : Option Value → Hp → Prop) (h : P (some (.int v.1)) (st v.2 hs)) : Ev (d + 2) ix_X5_goByNumber 0 0 [.ref 56] (st S hs) P := by
  refine Ev.intro (M := mi_X5_goByNumber) rfl (Nat.le_of_ble_eq_true rfl) ?_
  unfold r_X5_goByNumber at hr
  refine Wp.stepsG 4 (fun cal X P' hk hX hP => ?_)
  show X (4, [some (.ref 56), some (.int (-1)), some (.int 0)], [], st S hs, 0, 0)
  refine hX _ ?_
  clear hP hX hk P' X cal
  obtain ⟨q4, hq4, hr⟩ := bd_some hr
  refine (e_lp_X5_goByNumber_4_56 d hs P _ (-1) 0 S q4 hq4 ?_)
  have hr := Option.some.inj hr
  subst hr
  refine Wp.stepsG 2 (fun cal X P' hk hX hP => ?_)
  exact hP _ _ h
set_option maxRecDepth 20000 in
set_option maxHeartbeats 4000000 in
theorem e_lp_X5_goByOneOf_1_2_56 (d : Nat) (hs : List Hr) (P : Option Value → Hp → Prop) (S : St) : ∀ (n : Nat) (v2 : Int32) (q : Nat × Int32), lp_X5_goByOneOf_1_2 S 56 n v2 = some q → (q.1 = 0 → WM mi_X5_goByOneOf (d + 1) P 26 [some (.ref 56), some (.ref 1), some (.int q.2)] [] (st S hs)) ∧ (q.1 = 1 → WM mi_X5_goByOneOf (d + 1) P 44 [some (.ref 56), some (.ref 1), none] [] (st S hs)) → WM mi_X5_goByOneOf (d + 1) P 2 [some (.ref 56), some (.ref 1), some (.int v2)] [] (st S hs) := by
  intro n
  induction n with
  | zero =>
    intro v2 q hl
    cases hl
  | succ n ih =>
    intro v2 q hl ct
    rw [lp_X5_goByOneOf_1_2] at hl
    refine Wp.stepsG 4 (fun cal X P' hk hX hP => ?_)
    show (6 ≤ v2 → X (44, [some (.ref 56), some (.ref 1), some (.int v2)], [], st S hs, 0, 0)) ∧ (¬ 6 ≤ v2 → X (10, [some (.ref 56), some (.ref 1), some (.int v2)], [], st S hs, 0, 0))
    refine ⟨fun hc => hX _ ?_, fun hc => hX _ ?_⟩
    · clear hP hX hk P' X cal
      rw [if_pos hc] at hl
      have hl := Option.some.inj hl
      subst hl
      exact Wp.weak (leL.k (leL.k (leL.n leL.z))) (ct.2 rfl)
    · clear hP hX hk P' X cal
      rw [if_neg hc] at hl
      refine Wp.stepsG 4 (fun cal X P' hk hX hP => ?_)
      show kcall cal ix_X5_signAt [.ref 56, .int (S.1 56 7)] (st S hs) [] 0 0 (0, 0) (fun v σ' c' m' => X (18, [some (.ref 56), some (.ref 1), some (.int v2)], v.toList ++ [], σ', c', m'))
      obtain ⟨q1, hq1, hl⟩ := bd_some hl
      refine kcall0 rfl (hk _ _ _ _ _ _ (e_X5_signAt_56 (d + 0) S hs (S.1 56 7) q1 hq1 _ ?_))
      show X (18, [some (.ref 56), some (.ref 1), some (.int v2)], [.int q1], st S hs, 0, 0)
      refine hX _ ?_
      clear hP hX hk P' X cal
      refine Wp.stepsG 3 (fun cal X P' hk hX hP => ?_)
      show vp_in v2 6 ∧ X (23, [some (.ref 56), some (.ref 1), some (.int v2)], [.int (cAt (bAt strB 1) v2.toNatClampNeg), .int q1], st S hs, 0, 0)
      obtain ⟨hg, hl⟩ := gd_some hl
      refine ⟨hg, hX _ ?_⟩
      clear hP hX hk P' X cal
      refine Wp.stepsG 1 (fun cal X P' hk hX hP => ?_)
      show (¬ q1 = (cAt (bAt strB 1) v2.toNatClampNeg) → X (38, [some (.ref 56), some (.ref 1), some (.int v2)], [], st S hs, 0, 0)) ∧ (q1 = (cAt (bAt strB 1) v2.toNatClampNeg) → X (26, [some (.ref 56), some (.ref 1), some (.int v2)], [], st S hs, 0, 0))
      refine ⟨fun hc => hX _ ?_, fun hc => hX _ ?_⟩
      · clear hP hX hk P' X cal
        rw [if_neg hc] at hl
        refine Wp.stepsG 2 (fun cal X P' hk hX hP => ?_)
        show X (2, [some (.ref 56), some (.ref 1), some (.int (v2 + 1))], [], st S hs, 0, 0)
        refine hX _ ?_
        exact (ih (v2 + 1) q hl ct)
      · clear hP hX hk P' X cal
        rw [if_pos hc] at hl
        have hl := Option.some.inj hl
        subst hl
        exact (ct.1 rfl)
set_option maxRecDepth 20000 in
set_option maxHeartbeats 4000000 in
theorem e_X5_goByOneOf_1_56 (d : Nat) (S : St) (hs : List Hr) (v : Int32 × St) (hr : r_X5_goByOneOf_1 S 56 = some v) (P : Option Value → Hp → Prop) (h : P (some (.int v.1)) (st v.2 hs)) : Ev (d + 2) ix_X5_goByOneOf 0 0 [.ref 56, .ref 1] (st S hs) P := by
  refine Ev.intro (M := mi_X5_goByOneOf) rfl (Nat.le_of_ble_eq_true rfl) ?_
  unfold r_X5_goByOneOf_1 at hr
  refine Wp.stepsG 2 (fun cal X P' hk hX hP => ?_)
  show X (2, [some (.ref 56), some (.ref 1), some (.int 0)], [], st S hs, 0, 0)
  refine hX _ ?_
  clear hP hX hk P' X cal
  obtain ⟨q2, hq2, hr⟩ := bd_some hr
  refine (e_lp_X5_goByOneOf_1_2_56 d hs P S _ 0 q2 hq2 ?_)
  refine ⟨fun hc => ?_, fun hc => ?_⟩
  · have hcc := hc
    rw [if_pos hcc] at hr
    have hr := Option.some.inj hr
    subst hr
    refine Wp.stepsG 8 (fun cal X P' hk hX hP => ?_)
    exact hP _ _ h
  · have hcc := hc
    rw [if_neg (fun z => by rw [z] at hcc; exact absurd hcc (by decide))] at hr
    have hr := Option.some.inj hr
    subst hr
    refine Wp.stepsG 2 (fun cal X P' hk hX hP => ?_)
    exact hP _ _ h
set_option maxRecDepth 20000 in
set_option maxHeartbeats 4000000 in
theorem e_lp_X5_goByOneOf_2_2_56 (d : Nat) (hs : List Hr) (P : Option Value → Hp → Prop) (S : St) : ∀ (n : Nat) (v2 : Int32) (q : Nat × Int32), lp_X5_goByOneOf_2_2 S 56 n v2 = some q → (q.1 = 0 → WM mi_X5_goByOneOf (d + 1) P 26 [some (.ref 56), some (.ref 2), some (.int q.2)] [] (st S hs)) ∧ (q.1 = 1 → WM mi_X5_goByOneOf (d + 1) P 44 [some (.ref 56), some (.ref 2), none] [] (st S hs)) → WM mi_X5_goByOneOf (d + 1) P 2 [some (.ref 56), some (.ref 2), some (.int v2)] [] (st S hs) := by
  intro n
  induction n with
  | zero =>
    intro v2 q hl
    cases hl
  | succ n ih =>
    intro v2 q hl ct
    rw [lp_X5_goByOneOf_2_2] at hl
    refine Wp.stepsG 4 (fun cal X P' hk hX hP => ?_)
    show (3 ≤ v2 → X (44, [some (.ref 56), some (.ref 2), some (.int v2)], [], st S hs, 0, 0)) ∧ (¬ 3 ≤ v2 → X (10, [some (.ref 56), some (.ref 2), some (.int v2)], [], st S hs, 0, 0))
    refine ⟨fun hc => hX _ ?_, fun hc => hX _ ?_⟩
    · clear hP hX hk P' X cal
      rw [if_pos hc] at hl
      have hl := Option.some.inj hl
      subst hl
      exact Wp.weak (leL.k (leL.k (leL.n leL.z))) (ct.2 rfl)
    · clear hP hX hk P' X cal
      rw [if_neg hc] at hl
      refine Wp.stepsG 4 (fun cal X P' hk hX hP => ?_)
      show kcall cal ix_X5_signAt [.ref 56, .int (S.1 56 7)] (st S hs) [] 0 0 (0, 0) (fun v σ' c' m' => X (18, [some (.ref 56), some (.ref 2), some (.int v2)], v.toList ++ [], σ', c', m'))
      obtain ⟨q1, hq1, hl⟩ := bd_some hl
      refine kcall0 rfl (hk _ _ _ _ _ _ (e_X5_signAt_56 (d + 0) S hs (S.1 56 7) q1 hq1 _ ?_))
      show X (18, [some (.ref 56), some (.ref 2), some (.int v2)], [.int q1], st S hs, 0, 0)
      refine hX _ ?_
      clear hP hX hk P' X cal
      refine Wp.stepsG 3 (fun cal X P' hk hX hP => ?_)
      show vp_in v2 3 ∧ X (23, [some (.ref 56), some (.ref 2), some (.int v2)], [.int (cAt (bAt strB 2) v2.toNatClampNeg), .int q1], st S hs, 0, 0)
      obtain ⟨hg, hl⟩ := gd_some hl
      refine ⟨hg, hX _ ?_⟩
      clear hP hX hk P' X cal
      refine Wp.stepsG 1 (fun cal X P' hk hX hP => ?_)
      show (¬ q1 = (cAt (bAt strB 2) v2.toNatClampNeg) → X (38, [some (.ref 56), some (.ref 2), some (.int v2)], [], st S hs, 0, 0)) ∧ (q1 = (cAt (bAt strB 2) v2.toNatClampNeg) → X (26, [some (.ref 56), some (.ref 2), some (.int v2)], [], st S hs, 0, 0))
      refine ⟨fun hc => hX _ ?_, fun hc => hX _ ?_⟩
      · clear hP hX hk P' X cal
        rw [if_neg hc] at hl
        refine Wp.stepsG 2 (fun cal X P' hk hX hP => ?_)
        show X (2, [some (.ref 56), some (.ref 2), some (.int (v2 + 1))], [], st S hs, 0, 0)
        refine hX _ ?_
        exact (ih (v2 + 1) q hl ct)
      · clear hP hX hk P' X cal
        rw [if_pos hc] at hl
        have hl := Option.some.inj hl
        subst hl
        exact (ct.1 rfl)
set_option maxRecDepth 20000 in
set_option maxHeartbeats 4000000 in
theorem e_X5_goByOneOf_2_56 (d : Nat) (S : St) (hs : List Hr) (v : Int32 × St) (hr : r_X5_goByOneOf_2 S 56 = some v) (P : Option Value → Hp → Prop) (h : P (some (.int v.1)) (st v.2 hs)) : Ev (d + 2) ix_X5_goByOneOf 0 0 [.ref 56, .ref 2] (st S hs) P := by
  refine Ev.intro (M := mi_X5_goByOneOf) rfl (Nat.le_of_ble_eq_true rfl) ?_
  unfold r_X5_goByOneOf_2 at hr
  refine Wp.stepsG 2 (fun cal X P' hk hX hP => ?_)
  show X (2, [some (.ref 56), some (.ref 2), some (.int 0)], [], st S hs, 0, 0)
  refine hX _ ?_
  clear hP hX hk P' X cal
  obtain ⟨q2, hq2, hr⟩ := bd_some hr
  refine (e_lp_X5_goByOneOf_2_2_56 d hs P S _ 0 q2 hq2 ?_)
  refine ⟨fun hc => ?_, fun hc => ?_⟩
  · have hcc := hc
    rw [if_pos hcc] at hr
    have hr := Option.some.inj hr
    subst hr
    refine Wp.stepsG 8 (fun cal X P' hk hX hP => ?_)
    exact hP _ _ h
  · have hcc := hc
    rw [if_neg (fun z => by rw [z] at hcc; exact absurd hcc (by decide))] at hr
    have hr := Option.some.inj hr
    subst hr
    refine Wp.stepsG 2 (fun cal X P' hk hX hP => ?_)
    exact hP _ _ h
set_option maxRecDepth 20000 in
set_option maxHeartbeats 4000000 in
theorem e_X5_add_56 (d : Nat) (S : St) (hs : List Hr) (a1 : Int32) (a2 : Int32) (v : Int32 × St) (hr : r_X5_add S 56 a1 a2 = some v) (P : Option Value → Hp → Prop) (h : P (some (.int v.1)) (st v.2 hs)) : Ev (d + 1) ix_X5_add 0 0 [.ref 56, .int a1, .int a2] (st S hs) P := by
  refine Ev.intro (M := mi_X5_add) rfl (Nat.le_of_ble_eq_true rfl) ?_
  unfold r_X5_add at hr
  refine Wp.stepsG 6 (fun cal X P' hk hX hP => ?_)
  show ((S.1 56 2) < 100 → X (14, [some (.ref 56), some (.int a1), some (.int a2)], [], st S hs, 0, 0)) ∧ (¬ (S.1 56 2) < 100 → X (12, [some (.ref 56), some (.int a1), some (.int a2)], [], st S hs, 0, 0))
  refine ⟨fun hc => hX _ ?_, fun hc => hX _ ?_⟩
  · clear hP hX hk P' X cal
    rw [if_pos hc] at hr
    refine Wp.stepsG 6 (fun cal X P' hk hX hP => ?_)
    show vp_in (S.1 56 2) 100 ∧ X (24, [some (.ref 56), some (.int a1), some (.int a2)], [], st (sA S 57 (upd (S.1 57) (S.1 56 2).toNatClampNeg a1)) hs, 0, 0)
    obtain ⟨hg, hr⟩ := gd_some hr
    refine ⟨hg, hX _ ?_⟩
    clear hP hX hk P' X cal
    refine Wp.stepsG 6 (fun cal X P' hk hX hP => ?_)
    show vp_in (S.1 56 2) 100 ∧ X (34, [some (.ref 56), some (.int a1), some (.int a2)], [], st (sA (sA S 57 (upd (S.1 57) (S.1 56 2).toNatClampNeg a1)) 58 (upd (S.1 58) (S.1 56 2).toNatClampNeg a2)) hs, 0, 0)
    obtain ⟨hg, hr⟩ := gd_some hr
    refine ⟨hg, hX _ ?_⟩
    clear hP hX hk P' X cal
    have hr := Option.some.inj hr
    subst hr
    refine Wp.stepsG 8 (fun cal X P' hk hX hP => ?_)
    exact ⟨Or.inr rfl, hP _ _ h⟩
  · clear hP hX hk P' X cal
    rw [if_neg hc] at hr
    have hr := Option.some.inj hr
    subst hr
    refine Wp.stepsG 2 (fun cal X P' hk hX hP => ?_)
    exact ⟨Or.inl rfl, hP _ _ h⟩
set_option maxRecDepth 20000 in
set_option maxHeartbeats 4000000 in
theorem e_X5_learnPart_d4_56 (d : Nat) (S : St) (hs : List Hr) (v : Int32 × St) (hr : r_X5_learnPart_d4 S 56 = some v) (P : Option Value → Hp → Prop) (h : P (some (.int v.1)) (st v.2 hs)) : Ev (d + 3) ix_X5_learnPart 0 0 [.ref 56, .int 4] (st S hs) P := by
  refine Ev.intro (M := mi_X5_learnPart) rfl (Nat.le_of_ble_eq_true rfl) ?_
  unfold r_X5_learnPart_d4 at hr
  refine Wp.stepsG 4 (fun cal X P' hk hX hP => ?_)
  show kcall cal ix_X5_signAt [.ref 56, .int (S.1 56 7)] (st S hs) [] 0 0 (0, 0) (fun v σ' c' m' => X (8, [some (.ref 56), some (.int 4), none, none, none, none], v.toList ++ [], σ', c', m'))
  obtain ⟨q1, hq1, hr⟩ := bd_some hr
  refine kcall0 rfl (hk _ _ _ _ _ _ (e_X5_signAt_56 (d + 1) S hs (S.1 56 7) q1 hq1 _ ?_))
  show X (8, [some (.ref 56), some (.int 4), none, none, none, none], [.int q1], st S hs, 0, 0)
  refine hX _ ?_
  clear hP hX hk P' X cal
  refine Wp.stepsG 4 (fun cal X P' hk hX hP => ?_)
  show (q1 = 33 → X (21, [some (.ref 56), some (.int 4), some (.int q1), none, none, none], [], st S hs, 0, 0)) ∧ (¬ q1 = 33 → X (15, [some (.ref 56), some (.int 4), some (.int q1), none, none, none], [], st S hs, 0, 0))
  refine ⟨fun hc => hX _ ?_, fun hc => hX _ ?_⟩
  · clear hP hX hk P' X cal
    rw [if_pos hc] at hr
    refine Wp.stepsG 3 (fun cal X P' hk hX hP => ?_)
    show ((4 : Int32) < 4 → X (28, [some (.ref 56), some (.int 4), some (.int q1), none, none, none], [], st S hs, 0, 0)) ∧ (¬ (4 : Int32) < 4 → X (26, [some (.ref 56), some (.int 4), some (.int q1), none, none, none], [], st S hs, 0, 0))
    refine ⟨fun hc => absurd hc (by decide), fun _ => hX _ ?_⟩
    clear hP hX hk P' X cal
    have hr := Option.some.inj hr
    subst hr
    refine Wp.stepsG 2 (fun cal X P' hk hX hP => ?_)
    exact ⟨Or.inl rfl, hP _ _ h⟩
  · clear hP hX hk P' X cal
    rw [if_neg hc] at hr
    refine Wp.stepsG 3 (fun cal X P' hk hX hP => ?_)
    show (¬ q1 = 40 → X (97, [some (.ref 56), some (.int 4), some (.int q1), none, none, none], [], st S hs, 0, 0)) ∧ (q1 = 40 → X (21, [some (.ref 56), some (.int 4), some (.int q1), none, none, none], [], st S hs, 0, 0))
    refine ⟨fun hc => hX _ ?_, fun hc => hX _ ?_⟩
    · clear hP hX hk P' X cal
      rw [if_neg hc] at hr
      refine Wp.stepsG 3 (fun cal X P' hk hX hP => ?_)
      show kcall cal ix_X5_goByOneOf [.ref 56, .ref 1] (st S hs) [] 0 0 (0, 0) (fun v σ' c' m' => X (103, [some (.ref 56), some (.int 4), some (.int q1), none, none, none], v.toList ++ [], σ', c', m'))
      obtain ⟨q2, hq2, hr⟩ := bd_some hr
      refine kcall0 rfl (hk _ _ _ _ _ _ (e_X5_goByOneOf_1_56 (d + 0) S hs q2 hq2 _ ?_))
      show X (103, [some (.ref 56), some (.int 4), some (.int q1), none, none, none], [.int q2.1], st q2.2 hs, 0, 0)
      refine hX _ ?_
      clear hP hX hk P' X cal
      refine Wp.stepsG 3 (fun cal X P' hk hX hP => ?_)
      show (0 ≤ q2.1 → X (112, [some (.ref 56), some (.int 4), some (.int q1), some (.int q2.1), none, none], [], st q2.2 hs, 0, 0)) ∧ (¬ 0 ≤ q2.1 → X (108, [some (.ref 56), some (.int 4), some (.int q1), some (.int q2.1), none, none], [], st q2.2 hs, 0, 0))
      refine ⟨fun hc => hX _ ?_, fun hc => hX _ ?_⟩
      · clear hP hX hk P' X cal
        rw [if_pos hc] at hr
        refine Wp.stepsG 3 (fun cal X P' hk hX hP => ?_)
        show kcall cal ix_X5_goByOneOf [.ref 56, .ref 2] (st q2.2 hs) [] 0 0 (0, 0) (fun v σ' c' m' => X (118, [some (.ref 56), some (.int 4), some (.int q1), some (.int q2.1), none, none], v.toList ++ [], σ', c', m'))
        obtain ⟨q3, hq3, hr⟩ := bd_some hr
        refine kcall0 rfl (hk _ _ _ _ _ _ (e_X5_goByOneOf_2_56 (d + 0) q2.2 hs q3 hq3 _ ?_))
        show X (118, [some (.ref 56), some (.int 4), some (.int q1), some (.int q2.1), none, none], [.int q3.1], st q3.2 hs, 0, 0)
        refine hX _ ?_
        clear hP hX hk P' X cal
        refine Wp.stepsG 3 (fun cal X P' hk hX hP => ?_)
        show (0 ≤ q3.1 → X (129, [some (.ref 56), some (.int 4), some (.int q1), some (.int q2.1), some (.int q3.1), none], [], st q3.2 hs, 0, 0)) ∧ (¬ 0 ≤ q3.1 → X (125, [some (.ref 56), some (.int 4), some (.int q1), some (.int q2.1), some (.int q3.1), none], [], st q3.2 hs, 0, 0))
        refine ⟨fun hc => hX _ ?_, fun hc => hX _ ?_⟩
        · clear hP hX hk P' X cal
          rw [if_pos hc] at hr
          refine Wp.stepsG 2 (fun cal X P' hk hX hP => ?_)
          show kcall cal ix_X5_goByNumber [.ref 56] (st q3.2 hs) [] 0 0 (0, 0) (fun v σ' c' m' => X (133, [some (.ref 56), some (.int 4), some (.int q1), some (.int q2.1), some (.int q3.1), none], v.toList ++ [], σ', c', m'))
          obtain ⟨q4, hq4, hr⟩ := bd_some hr
          refine kcall0 rfl (hk _ _ _ _ _ _ (e_X5_goByNumber_56 (d + 0) q3.2 hs q4 hq4 _ ?_))
          show X (133, [some (.ref 56), some (.int 4), some (.int q1), some (.int q2.1), some (.int q3.1), none], [.int q4.1], st q4.2 hs, 0, 0)
          refine hX _ ?_
          clear hP hX hk P' X cal
          refine Wp.stepsG 3 (fun cal X P' hk hX hP => ?_)
          show (q4.1 < 0 → X (159, [some (.ref 56), some (.int 4), some (.int q1), some (.int q2.1), some (.int q3.1), some (.int q4.1)], [], st q4.2 hs, 0, 0)) ∧ (¬ q4.1 < 0 → X (140, [some (.ref 56), some (.int 4), some (.int q1), some (.int q2.1), some (.int q3.1), some (.int q4.1)], [], st q4.2 hs, 0, 0))
          refine ⟨fun hc => hX _ ?_, fun hc => hX _ ?_⟩
          · clear hP hX hk P' X cal
            rw [if_pos hc] at hr
            have hr := Option.some.inj hr
            subst hr
            refine Wp.stepsG 2 (fun cal X P' hk hX hP => ?_)
            exact ⟨Or.inl rfl, hP _ _ h⟩
          · clear hP hX hk P' X cal
            rw [if_neg hc] at hr
            refine Wp.stepsG 8 (fun cal X P' hk hX hP => ?_)
            show kcall cal ix_X5_add [.ref 56, .int (((3 : Int32) * q2.1) + q3.1), .int q4.1] (st q4.2 hs) [] 0 0 (0, 0) (fun v σ' c' m' => X (152, [some (.ref 56), some (.int 4), some (.int q1), some (.int q2.1), some (.int q3.1), some (.int q4.1)], v.toList ++ [], σ', c', m'))
            obtain ⟨q5, hq5, hr⟩ := bd_some hr
            refine kcall0 rfl (hk _ _ _ _ _ _ (e_X5_add_56 (d + 1) q4.2 hs (((3 : Int32) * q2.1) + q3.1) q4.1 q5 hq5 _ ?_))
            show X (152, [some (.ref 56), some (.int 4), some (.int q1), some (.int q2.1), some (.int q3.1), some (.int q4.1)], [.int q5.1], st q5.2 hs, 0, 0)
            refine hX _ ?_
            clear hP hX hk P' X cal
            refine Wp.stepsG 1 (fun cal X P' hk hX hP => ?_)
            show (q5.1 = 0 → X (159, [some (.ref 56), some (.int 4), some (.int q1), some (.int q2.1), some (.int q3.1), some (.int q4.1)], [], st q5.2 hs, 0, 0)) ∧ (¬ q5.1 = 0 → X (155, [some (.ref 56), some (.int 4), some (.int q1), some (.int q2.1), some (.int q3.1), some (.int q4.1)], [], st q5.2 hs, 0, 0))
            refine ⟨fun hc => hX _ ?_, fun hc => hX _ ?_⟩
            · clear hP hX hk P' X cal
              rw [if_pos hc] at hr
              have hr := Option.some.inj hr
              subst hr
              refine Wp.stepsG 2 (fun cal X P' hk hX hP => ?_)
              exact ⟨Or.inl rfl, hP _ _ h⟩
            · clear hP hX hk P' X cal
              rw [if_neg hc] at hr
              have hr := Option.some.inj hr
              subst hr
              refine Wp.stepsG 3 (fun cal X P' hk hX hP => ?_)
              exact ⟨Or.inr rfl, hP _ _ h⟩
        · clear hP hX hk P' X cal
          rw [if_neg hc] at hr
          refine Wp.stepsG 5 (fun cal X P' hk hX hP => ?_)
          show (((-1) : Int32) < 0 → X (159, [some (.ref 56), some (.int 4), some (.int q1), some (.int q2.1), some (.int q3.1), some (.int (-1))], [], st q3.2 hs, 0, 0)) ∧ (¬ ((-1) : Int32) < 0 → X (140, [some (.ref 56), some (.int 4), some (.int q1), some (.int q2.1), some (.int q3.1), some (.int (-1))], [], st q3.2 hs, 0, 0))
          refine ⟨fun _ => hX _ ?_, fun hc => absurd hc (by decide)⟩
          clear hP hX hk P' X cal
          have hr := Option.some.inj hr
          subst hr
          refine Wp.stepsG 2 (fun cal X P' hk hX hP => ?_)
          exact ⟨Or.inl rfl, hP _ _ h⟩
      · clear hP hX hk P' X cal
        rw [if_neg hc] at hr
        refine Wp.stepsG 5 (fun cal X P' hk hX hP => ?_)
        show (0 ≤ ((-1) : Int32) → X (129, [some (.ref 56), some (.int 4), some (.int q1), some (.int q2.1), some (.int (-1)), none], [], st q2.2 hs, 0, 0)) ∧ (¬ 0 ≤ ((-1) : Int32) → X (125, [some (.ref 56), some (.int 4), some (.int q1), some (.int q2.1), some (.int (-1)), none], [], st q2.2 hs, 0, 0))
        refine ⟨fun hc => absurd hc (by decide), fun _ => hX _ ?_⟩
        clear hP hX hk P' X cal
        refine Wp.stepsG 5 (fun cal X P' hk hX hP => ?_)
        show (((-1) : Int32) < 0 → X (159, [some (.ref 56), some (.int 4), some (.int q1), some (.int q2.1), some (.int (-1)), some (.int (-1))], [], st q2.2 hs, 0, 0)) ∧ (¬ ((-1) : Int32) < 0 → X (140, [some (.ref 56), some (.int 4), some (.int q1), some (.int q2.1), some (.int (-1)), some (.int (-1))], [], st q2.2 hs, 0, 0))
        refine ⟨fun _ => hX _ ?_, fun hc => absurd hc (by decide)⟩
        clear hP hX hk P' X cal
        have hr := Option.some.inj hr
        subst hr
        refine Wp.stepsG 2 (fun cal X P' hk hX hP => ?_)
        exact ⟨Or.inl rfl, hP _ _ h⟩
    · clear hP hX hk P' X cal
      rw [if_pos hc] at hr
      refine Wp.stepsG 3 (fun cal X P' hk hX hP => ?_)
      show ((4 : Int32) < 4 → X (28, [some (.ref 56), some (.int 4), some (.int q1), none, none, none], [], st S hs, 0, 0)) ∧ (¬ (4 : Int32) < 4 → X (26, [some (.ref 56), some (.int 4), some (.int q1), none, none, none], [], st S hs, 0, 0))
      refine ⟨fun hc => absurd hc (by decide), fun _ => hX _ ?_⟩
      clear hP hX hk P' X cal
      have hr := Option.some.inj hr
      subst hr
      refine Wp.stepsG 2 (fun cal X P' hk hX hP => ?_)
      exact ⟨Or.inl rfl, hP _ _ h⟩
set_option maxRecDepth 20000 in
set_option maxHeartbeats 4000000 in
theorem e_lp_X5_learnBoth_d4_8_56 (d : Nat) (hs : List Hr) (P : Option Value → Hp → Prop) : ∀ (n : Nat) (v2 : Int32) (v3 : Int32) (S : St) (q : Int32 × St), lp_X5_learnBoth_d4_8 56 n v2 v3 S = some q → (WM mi_X5_learnBoth (d + 3) P 57 [some (.ref 56), some (.int 4), some (.int q.1), none] [] (st q.2 hs)) → WM mi_X5_learnBoth (d + 3) P 8 [some (.ref 56), some (.int 4), some (.int v2), some (.int v3)] [] (st S hs) := by
  intro n
  induction n with
  | zero =>
    intro v2 v3 S q hl
    cases hl
  | succ n ih =>
    intro v2 v3 S q hl ct
    rw [lp_X5_learnBoth_d4_8] at hl
    refine Wp.stepsG 3 (fun cal X P' hk hX hP => ?_)
    show (100 ≤ v3 → X (57, [some (.ref 56), some (.int 4), some (.int v2), some (.int v3)], [], st S hs, 0, 0)) ∧ (¬ 100 ≤ v3 → X (14, [some (.ref 56), some (.int 4), some (.int v2), some (.int v3)], [], st S hs, 0, 0))
    refine ⟨fun hc => hX _ ?_, fun hc => hX _ ?_⟩
    · clear hP hX hk P' X cal
      rw [if_pos hc] at hl
      have hl := Option.some.inj hl
      subst hl
      exact Wp.weak (leL.k (leL.k (leL.k (leL.n leL.z)))) (ct)
    · clear hP hX hk P' X cal
      rw [if_neg hc] at hl
      refine Wp.stepsG 2 (fun cal X P' hk hX hP => ?_)
      show (v2 = 0 → X (57, [some (.ref 56), some (.int 4), some (.int v2), some (.int v3)], [], st S hs, 0, 0)) ∧ (¬ v2 = 0 → X (18, [some (.ref 56), some (.int 4), some (.int v2), some (.int v3)], [], st S hs, 0, 0))
      refine ⟨fun hc => hX _ ?_, fun hc => hX _ ?_⟩
      · clear hP hX hk P' X cal
        rw [if_pos hc] at hl
        have hl := Option.some.inj hl
        subst hl
        exact Wp.weak (leL.k (leL.k (leL.k (leL.n leL.z)))) (ct)
      · clear hP hX hk P' X cal
        rw [if_neg hc] at hl
        refine Wp.stepsG 3 (fun cal X P' hk hX hP => ?_)
        show kcall cal ix_X5_goBy [.ref 56, .int 38] (st S hs) [] 0 0 (0, 0) (fun v σ' c' m' => X (24, [some (.ref 56), some (.int 4), some (.int v2), some (.int v3)], v.toList ++ [], σ', c', m'))
        obtain ⟨q2, hq2, hl⟩ := bd_some hl
        refine kcall0 rfl (hk _ _ _ _ _ _ (e_X5_goBy_56 (d + 1) S hs 38 q2 hq2 _ ?_))
        show X (24, [some (.ref 56), some (.int 4), some (.int v2), some (.int v3)], [.int q2.1], st q2.2 hs, 0, 0)
        refine hX _ ?_
        clear hP hX hk P' X cal
        refine Wp.stepsG 1 (fun cal X P' hk hX hP => ?_)
        show (q2.1 = 0 → X (57, [some (.ref 56), some (.int 4), some (.int v2), some (.int v3)], [], st q2.2 hs, 0, 0)) ∧ (¬ q2.1 = 0 → X (27, [some (.ref 56), some (.int 4), some (.int v2), some (.int v3)], [], st q2.2 hs, 0, 0))
        refine ⟨fun hc => hX _ ?_, fun hc => hX _ ?_⟩
        · clear hP hX hk P' X cal
          rw [if_pos hc] at hl
          have hl := Option.some.inj hl
          subst hl
          exact Wp.weak (leL.k (leL.k (leL.k (leL.n leL.z)))) (ct)
        · clear hP hX hk P' X cal
          rw [if_neg hc] at hl
          refine Wp.stepsG 3 (fun cal X P' hk hX hP => ?_)
          show kcall cal ix_X5_learnPart [.ref 56, .int 4] (st q2.2 hs) [] 0 0 (0, 0) (fun v σ' c' m' => X (32, [some (.ref 56), some (.int 4), some (.int v2), some (.int v3)], v.toList ++ [], σ', c', m'))
          obtain ⟨q3, hq3, hl⟩ := bd_some hl
          refine kcall0 rfl (hk _ _ _ _ _ _ (e_X5_learnPart_d4_56 (d + 0) q2.2 hs q3 hq3 _ ?_))
          show X (32, [some (.ref 56), some (.int 4), some (.int v2), some (.int v3)], [.int q3.1], st q3.2 hs, 0, 0)
          refine hX _ ?_
          clear hP hX hk P' X cal
          refine Wp.stepsG 1 (fun cal X P' hk hX hP => ?_)
          show (q3.1 = 0 → X (49, [some (.ref 56), some (.int 4), some (.int v2), some (.int v3)], [], st q3.2 hs, 0, 0)) ∧ (¬ q3.1 = 0 → X (35, [some (.ref 56), some (.int 4), some (.int v2), some (.int v3)], [], st q3.2 hs, 0, 0))
          refine ⟨fun hc => hX _ ?_, fun hc => hX _ ?_⟩
          · clear hP hX hk P' X cal
            rw [if_pos hc] at hl
            refine Wp.stepsG 4 (fun cal X P' hk hX hP => ?_)
            show X (8, [some (.ref 56), some (.int 4), some (.int 0), some (.int (v3 + 1))], [], st q3.2 hs, 0, 0)
            refine hX _ ?_
            exact (ih 0 (v3 + 1) q3.2 q hl ct)
          · clear hP hX hk P' X cal
            rw [if_neg hc] at hl
            refine Wp.stepsG 4 (fun cal X P' hk hX hP => ?_)
            show kcall cal ix_X5_add [.ref 56, .int 19, .int 0] (st q3.2 hs) [] 0 0 (0, 0) (fun v σ' c' m' => X (42, [some (.ref 56), some (.int 4), some (.int v2), some (.int v3)], v.toList ++ [], σ', c', m'))
            obtain ⟨q4, hq4, hl⟩ := bd_some hl
            refine kcall0 rfl (hk _ _ _ _ _ _ (e_X5_add_56 (d + 2) q3.2 hs 19 0 q4 hq4 _ ?_))
            show X (42, [some (.ref 56), some (.int 4), some (.int v2), some (.int v3)], [.int q4.1], st q4.2 hs, 0, 0)
            refine hX _ ?_
            clear hP hX hk P' X cal
            refine Wp.stepsG 1 (fun cal X P' hk hX hP => ?_)
            show (q4.1 = 0 → X (49, [some (.ref 56), some (.int 4), some (.int v2), some (.int v3)], [], st q4.2 hs, 0, 0)) ∧ (¬ q4.1 = 0 → X (45, [some (.ref 56), some (.int 4), some (.int v2), some (.int v3)], [], st q4.2 hs, 0, 0))
            refine ⟨fun hc => hX _ ?_, fun hc => hX _ ?_⟩
            · clear hP hX hk P' X cal
              rw [if_pos hc] at hl
              refine Wp.stepsG 4 (fun cal X P' hk hX hP => ?_)
              show X (8, [some (.ref 56), some (.int 4), some (.int 0), some (.int (v3 + 1))], [], st q4.2 hs, 0, 0)
              refine hX _ ?_
              exact (ih 0 (v3 + 1) q4.2 q hl ct)
            · clear hP hX hk P' X cal
              rw [if_neg hc] at hl
              refine Wp.stepsG 5 (fun cal X P' hk hX hP => ?_)
              show X (8, [some (.ref 56), some (.int 4), some (.int 1), some (.int (v3 + 1))], [], st q4.2 hs, 0, 0)
              refine hX _ ?_
              exact (ih 1 (v3 + 1) q4.2 q hl ct)
set_option maxRecDepth 20000 in
set_option maxHeartbeats 4000000 in
theorem e_X5_learnBoth_d4_56 (d : Nat) (S : St) (hs : List Hr) (v : Int32 × St) (hr : r_X5_learnBoth_d4 S 56 = some v) (P : Option Value → Hp → Prop) (h : P (some (.int v.1)) (st v.2 hs)) : Ev (d + 4) ix_X5_learnBoth 0 0 [.ref 56, .int 4] (st S hs) P := by
  refine Ev.intro (M := mi_X5_learnBoth) rfl (Nat.le_of_ble_eq_true rfl) ?_
  unfold r_X5_learnBoth_d4 at hr
  refine Wp.stepsG 3 (fun cal X P' hk hX hP => ?_)
  show kcall cal ix_X5_learnPart [.ref 56, .int 4] (st S hs) [] 0 0 (0, 0) (fun v σ' c' m' => X (5, [some (.ref 56), some (.int 4), none, none], v.toList ++ [], σ', c', m'))
  obtain ⟨q1, hq1, hr⟩ := bd_some hr
  refine kcall0 rfl (hk _ _ _ _ _ _ (e_X5_learnPart_d4_56 (d + 0) S hs q1 hq1 _ ?_))
  show X (5, [some (.ref 56), some (.int 4), none, none], [.int q1.1], st q1.2 hs, 0, 0)
  refine hX _ ?_
  clear hP hX hk P' X cal
  refine Wp.stepsG 3 (fun cal X P' hk hX hP => ?_)
  show X (8, [some (.ref 56), some (.int 4), some (.int q1.1), some (.int 0)], [], st q1.2 hs, 0, 0)
  refine hX _ ?_
  clear hP hX hk P' X cal
  obtain ⟨q5, hq5, hr⟩ := bd_some hr
  refine (e_lp_X5_learnBoth_d4_8_56 d hs P _ q1.1 0 q1.2 q5 hq5 ?_)
  obtain ⟨hb, hr⟩ := gd_some hr
  have hr := Option.some.inj hr
  subst hr
  refine Wp.stepsG 2 (fun cal X P' hk hX hP => ?_)
  exact ⟨hb, hP _ _ h⟩
set_option maxRecDepth 20000 in
set_option maxHeartbeats 4000000 in
theorem e_lp_X5_learnEither_d4_8_56 (d : Nat) (hs : List Hr) (P : Option Value → Hp → Prop) : ∀ (n : Nat) (v2 : Int32) (v3 : Int32) (S : St) (q : Int32 × St), lp_X5_learnEither_d4_8 56 n v2 v3 S = some q → (WM mi_X5_learnEither (d + 4) P 57 [some (.ref 56), some (.int 4), some (.int q.1), none] [] (st q.2 hs)) → WM mi_X5_learnEither (d + 4) P 8 [some (.ref 56), some (.int 4), some (.int v2), some (.int v3)] [] (st S hs) := by
  intro n
  induction n with
  | zero =>
    intro v2 v3 S q hl
    cases hl
  | succ n ih =>
    intro v2 v3 S q hl ct
    rw [lp_X5_learnEither_d4_8] at hl
    refine Wp.stepsG 3 (fun cal X P' hk hX hP => ?_)
    show (100 ≤ v3 → X (57, [some (.ref 56), some (.int 4), some (.int v2), some (.int v3)], [], st S hs, 0, 0)) ∧ (¬ 100 ≤ v3 → X (14, [some (.ref 56), some (.int 4), some (.int v2), some (.int v3)], [], st S hs, 0, 0))
    refine ⟨fun hc => hX _ ?_, fun hc => hX _ ?_⟩
    · clear hP hX hk P' X cal
      rw [if_pos hc] at hl
      have hl := Option.some.inj hl
      subst hl
      exact Wp.weak (leL.k (leL.k (leL.k (leL.n leL.z)))) (ct)
    · clear hP hX hk P' X cal
      rw [if_neg hc] at hl
      refine Wp.stepsG 2 (fun cal X P' hk hX hP => ?_)
      show (v2 = 0 → X (57, [some (.ref 56), some (.int 4), some (.int v2), some (.int v3)], [], st S hs, 0, 0)) ∧ (¬ v2 = 0 → X (18, [some (.ref 56), some (.int 4), some (.int v2), some (.int v3)], [], st S hs, 0, 0))
      refine ⟨fun hc => hX _ ?_, fun hc => hX _ ?_⟩
      · clear hP hX hk P' X cal
        rw [if_pos hc] at hl
        have hl := Option.some.inj hl
        subst hl
        exact Wp.weak (leL.k (leL.k (leL.k (leL.n leL.z)))) (ct)
      · clear hP hX hk P' X cal
        rw [if_neg hc] at hl
        refine Wp.stepsG 3 (fun cal X P' hk hX hP => ?_)
        show kcall cal ix_X5_goBy [.ref 56, .int 124] (st S hs) [] 0 0 (0, 0) (fun v σ' c' m' => X (24, [some (.ref 56), some (.int 4), some (.int v2), some (.int v3)], v.toList ++ [], σ', c', m'))
        obtain ⟨q2, hq2, hl⟩ := bd_some hl
        refine kcall0 rfl (hk _ _ _ _ _ _ (e_X5_goBy_56 (d + 2) S hs 124 q2 hq2 _ ?_))
        show X (24, [some (.ref 56), some (.int 4), some (.int v2), some (.int v3)], [.int q2.1], st q2.2 hs, 0, 0)
        refine hX _ ?_
        clear hP hX hk P' X cal
        refine Wp.stepsG 1 (fun cal X P' hk hX hP => ?_)
        show (q2.1 = 0 → X (57, [some (.ref 56), some (.int 4), some (.int v2), some (.int v3)], [], st q2.2 hs, 0, 0)) ∧ (¬ q2.1 = 0 → X (27, [some (.ref 56), some (.int 4), some (.int v2), some (.int v3)], [], st q2.2 hs, 0, 0))
        refine ⟨fun hc => hX _ ?_, fun hc => hX _ ?_⟩
        · clear hP hX hk P' X cal
          rw [if_pos hc] at hl
          have hl := Option.some.inj hl
          subst hl
          exact Wp.weak (leL.k (leL.k (leL.k (leL.n leL.z)))) (ct)
        · clear hP hX hk P' X cal
          rw [if_neg hc] at hl
          refine Wp.stepsG 3 (fun cal X P' hk hX hP => ?_)
          show kcall cal ix_X5_learnBoth [.ref 56, .int 4] (st q2.2 hs) [] 0 0 (0, 0) (fun v σ' c' m' => X (32, [some (.ref 56), some (.int 4), some (.int v2), some (.int v3)], v.toList ++ [], σ', c', m'))
          obtain ⟨q3, hq3, hl⟩ := bd_some hl
          refine kcall0 rfl (hk _ _ _ _ _ _ (e_X5_learnBoth_d4_56 (d + 0) q2.2 hs q3 hq3 _ ?_))
          show X (32, [some (.ref 56), some (.int 4), some (.int v2), some (.int v3)], [.int q3.1], st q3.2 hs, 0, 0)
          refine hX _ ?_
          clear hP hX hk P' X cal
          refine Wp.stepsG 1 (fun cal X P' hk hX hP => ?_)
          show (q3.1 = 0 → X (49, [some (.ref 56), some (.int 4), some (.int v2), some (.int v3)], [], st q3.2 hs, 0, 0)) ∧ (¬ q3.1 = 0 → X (35, [some (.ref 56), some (.int 4), some (.int v2), some (.int v3)], [], st q3.2 hs, 0, 0))
          refine ⟨fun hc => hX _ ?_, fun hc => hX _ ?_⟩
          · clear hP hX hk P' X cal
            rw [if_pos hc] at hl
            refine Wp.stepsG 4 (fun cal X P' hk hX hP => ?_)
            show X (8, [some (.ref 56), some (.int 4), some (.int 0), some (.int (v3 + 1))], [], st q3.2 hs, 0, 0)
            refine hX _ ?_
            exact (ih 0 (v3 + 1) q3.2 q hl ct)
          · clear hP hX hk P' X cal
            rw [if_neg hc] at hl
            refine Wp.stepsG 4 (fun cal X P' hk hX hP => ?_)
            show kcall cal ix_X5_add [.ref 56, .int 20, .int 0] (st q3.2 hs) [] 0 0 (0, 0) (fun v σ' c' m' => X (42, [some (.ref 56), some (.int 4), some (.int v2), some (.int v3)], v.toList ++ [], σ', c', m'))
            obtain ⟨q4, hq4, hl⟩ := bd_some hl
            refine kcall0 rfl (hk _ _ _ _ _ _ (e_X5_add_56 (d + 3) q3.2 hs 20 0 q4 hq4 _ ?_))
            show X (42, [some (.ref 56), some (.int 4), some (.int v2), some (.int v3)], [.int q4.1], st q4.2 hs, 0, 0)
            refine hX _ ?_
            clear hP hX hk P' X cal
            refine Wp.stepsG 1 (fun cal X P' hk hX hP => ?_)
            show (q4.1 = 0 → X (49, [some (.ref 56), some (.int 4), some (.int v2), some (.int v3)], [], st q4.2 hs, 0, 0)) ∧ (¬ q4.1 = 0 → X (45, [some (.ref 56), some (.int 4), some (.int v2), some (.int v3)], [], st q4.2 hs, 0, 0))
            refine ⟨fun hc => hX _ ?_, fun hc => hX _ ?_⟩
            · clear hP hX hk P' X cal
              rw [if_pos hc] at hl
              refine Wp.stepsG 4 (fun cal X P' hk hX hP => ?_)
              show X (8, [some (.ref 56), some (.int 4), some (.int 0), some (.int (v3 + 1))], [], st q4.2 hs, 0, 0)
              refine hX _ ?_
              exact (ih 0 (v3 + 1) q4.2 q hl ct)
            · clear hP hX hk P' X cal
              rw [if_neg hc] at hl
              refine Wp.stepsG 5 (fun cal X P' hk hX hP => ?_)
              show X (8, [some (.ref 56), some (.int 4), some (.int 1), some (.int (v3 + 1))], [], st q4.2 hs, 0, 0)
              refine hX _ ?_
              exact (ih 1 (v3 + 1) q4.2 q hl ct)
set_option maxRecDepth 20000 in
set_option maxHeartbeats 4000000 in
theorem e_X5_learnEither_d4_56 (d : Nat) (S : St) (hs : List Hr) (v : Int32 × St) (hr : r_X5_learnEither_d4 S 56 = some v) (P : Option Value → Hp → Prop) (h : P (some (.int v.1)) (st v.2 hs)) : Ev (d + 5) ix_X5_learnEither 0 0 [.ref 56, .int 4] (st S hs) P := by
  refine Ev.intro (M := mi_X5_learnEither) rfl (Nat.le_of_ble_eq_true rfl) ?_
  unfold r_X5_learnEither_d4 at hr
  refine Wp.stepsG 3 (fun cal X P' hk hX hP => ?_)
  show kcall cal ix_X5_learnBoth [.ref 56, .int 4] (st S hs) [] 0 0 (0, 0) (fun v σ' c' m' => X (5, [some (.ref 56), some (.int 4), none, none], v.toList ++ [], σ', c', m'))
  obtain ⟨q1, hq1, hr⟩ := bd_some hr
  refine kcall0 rfl (hk _ _ _ _ _ _ (e_X5_learnBoth_d4_56 (d + 0) S hs q1 hq1 _ ?_))
  show X (5, [some (.ref 56), some (.int 4), none, none], [.int q1.1], st q1.2 hs, 0, 0)
  refine hX _ ?_
  clear hP hX hk P' X cal
  refine Wp.stepsG 3 (fun cal X P' hk hX hP => ?_)
  show X (8, [some (.ref 56), some (.int 4), some (.int q1.1), some (.int 0)], [], st q1.2 hs, 0, 0)
  refine hX _ ?_
  clear hP hX hk P' X cal
  obtain ⟨q5, hq5, hr⟩ := bd_some hr
  refine (e_lp_X5_learnEither_d4_8_56 d hs P _ q1.1 0 q1.2 q5 hq5 ?_)
  obtain ⟨hb, hr⟩ := gd_some hr
  have hr := Option.some.inj hr
  subst hr
  refine Wp.stepsG 2 (fun cal X P' hk hX hP => ?_)
  exact ⟨hb, hP _ _ h⟩
set_option maxRecDepth 20000 in
set_option maxHeartbeats 4000000 in
theorem e_X5_learnPart_d3_56 (d : Nat) (S : St) (hs : List Hr) (v : Int32 × St) (hr : r_X5_learnPart_d3 S 56 = some v) (P : Option Value → Hp → Prop) (h : P (some (.int v.1)) (st v.2 hs)) : Ev (d + 6) ix_X5_learnPart 0 0 [.ref 56, .int 3] (st S hs) P := by
  refine Ev.intro (M := mi_X5_learnPart) rfl (Nat.le_of_ble_eq_true rfl) ?_
  unfold r_X5_learnPart_d3 at hr
  refine Wp.stepsG 4 (fun cal X P' hk hX hP => ?_)
  show kcall cal ix_X5_signAt [.ref 56, .int (S.1 56 7)] (st S hs) [] 0 0 (0, 0) (fun v σ' c' m' => X (8, [some (.ref 56), some (.int 3), none, none, none, none], v.toList ++ [], σ', c', m'))
  obtain ⟨q1, hq1, hr⟩ := bd_some hr
  refine kcall0 rfl (hk _ _ _ _ _ _ (e_X5_signAt_56 (d + 4) S hs (S.1 56 7) q1 hq1 _ ?_))
  show X (8, [some (.ref 56), some (.int 3), none, none, none, none], [.int q1], st S hs, 0, 0)
  refine hX _ ?_
  clear hP hX hk P' X cal
  refine Wp.stepsG 4 (fun cal X P' hk hX hP => ?_)
  show (q1 = 33 → X (21, [some (.ref 56), some (.int 3), some (.int q1), none, none, none], [], st S hs, 0, 0)) ∧ (¬ q1 = 33 → X (15, [some (.ref 56), some (.int 3), some (.int q1), none, none, none], [], st S hs, 0, 0))
  refine ⟨fun hc => hX _ ?_, fun hc => hX _ ?_⟩
  · clear hP hX hk P' X cal
    rw [if_pos hc] at hr
    refine Wp.stepsG 3 (fun cal X P' hk hX hP => ?_)
    show ((3 : Int32) < 4 → X (28, [some (.ref 56), some (.int 3), some (.int q1), none, none, none], [], st S hs, 0, 0)) ∧ (¬ (3 : Int32) < 4 → X (26, [some (.ref 56), some (.int 3), some (.int q1), none, none, none], [], st S hs, 0, 0))
    refine ⟨fun _ => hX _ ?_, fun hc => absurd hc (by decide)⟩
    clear hP hX hk P' X cal
    refine Wp.stepsG 9 (fun cal X P' hk hX hP => ?_)
    show (¬ q1 = 33 → X (72, [some (.ref 56), some (.int 3), some (.int q1), none, none, none], [], st (sI S 56 7 ((S.1 56 7) + 1)) hs, 0, 0)) ∧ (q1 = 33 → X (44, [some (.ref 56), some (.int 3), some (.int q1), none, none, none], [], st (sI S 56 7 ((S.1 56 7) + 1)) hs, 0, 0))
    refine ⟨fun hc => hX _ ?_, fun hc => hX _ ?_⟩
    · clear hP hX hk P' X cal
      rw [if_neg hc] at hr
      refine Wp.stepsG 5 (fun cal X P' hk hX hP => ?_)
      show kcall cal ix_X5_learnEither [.ref 56, .int 4] (st (sI S 56 7 ((S.1 56 7) + 1)) hs) [] 0 0 (0, 0) (fun v σ' c' m' => X (79, [some (.ref 56), some (.int 3), some (.int q1), none, none, none], v.toList ++ [], σ', c', m'))
      obtain ⟨q2, hq2, hr⟩ := bd_some hr
      refine kcall0 rfl (hk _ _ _ _ _ _ (e_X5_learnEither_d4_56 (d + 0) (sI S 56 7 ((S.1 56 7) + 1)) hs q2 hq2 _ ?_))
      show X (79, [some (.ref 56), some (.int 3), some (.int q1), none, none, none], [.int q2.1], st q2.2 hs, 0, 0)
      refine hX _ ?_
      clear hP hX hk P' X cal
      refine Wp.stepsG 1 (fun cal X P' hk hX hP => ?_)
      show (q2.1 = 0 → X (95, [some (.ref 56), some (.int 3), some (.int q1), none, none, none], [], st q2.2 hs, 0, 0)) ∧ (¬ q2.1 = 0 → X (82, [some (.ref 56), some (.int 3), some (.int q1), none, none, none], [], st q2.2 hs, 0, 0))
      refine ⟨fun hc => hX _ ?_, fun hc => hX _ ?_⟩
      · clear hP hX hk P' X cal
        rw [if_pos hc] at hr
        have hr := Option.some.inj hr
        subst hr
        refine Wp.stepsG 2 (fun cal X P' hk hX hP => ?_)
        exact ⟨Or.inl rfl, hP _ _ h⟩
      · clear hP hX hk P' X cal
        rw [if_neg hc] at hr
        refine Wp.stepsG 3 (fun cal X P' hk hX hP => ?_)
        show kcall cal ix_X5_goBy [.ref 56, .int 41] (st q2.2 hs) [] 0 0 (0, 0) (fun v σ' c' m' => X (88, [some (.ref 56), some (.int 3), some (.int q1), none, none, none], v.toList ++ [], σ', c', m'))
        obtain ⟨q3, hq3, hr⟩ := bd_some hr
        refine kcall0 rfl (hk _ _ _ _ _ _ (e_X5_goBy_56 (d + 3) q2.2 hs 41 q3 hq3 _ ?_))
        show X (88, [some (.ref 56), some (.int 3), some (.int q1), none, none, none], [.int q3.1], st q3.2 hs, 0, 0)
        refine hX _ ?_
        clear hP hX hk P' X cal
        refine Wp.stepsG 1 (fun cal X P' hk hX hP => ?_)
        show (q3.1 = 0 → X (95, [some (.ref 56), some (.int 3), some (.int q1), none, none, none], [], st q3.2 hs, 0, 0)) ∧ (¬ q3.1 = 0 → X (91, [some (.ref 56), some (.int 3), some (.int q1), none, none, none], [], st q3.2 hs, 0, 0))
        refine ⟨fun hc => hX _ ?_, fun hc => hX _ ?_⟩
        · clear hP hX hk P' X cal
          rw [if_pos hc] at hr
          have hr := Option.some.inj hr
          subst hr
          refine Wp.stepsG 2 (fun cal X P' hk hX hP => ?_)
          exact ⟨Or.inl rfl, hP _ _ h⟩
        · clear hP hX hk P' X cal
          rw [if_neg hc] at hr
          have hr := Option.some.inj hr
          subst hr
          refine Wp.stepsG 3 (fun cal X P' hk hX hP => ?_)
          exact ⟨Or.inr rfl, hP _ _ h⟩
    · clear hP hX hk P' X cal
      rw [if_pos hc] at hr
      refine Wp.stepsG 5 (fun cal X P' hk hX hP => ?_)
      show kcall cal ix_X5_learnPart [.ref 56, .int 4] (st (sI S 56 7 ((S.1 56 7) + 1)) hs) [] 0 0 (0, 0) (fun v σ' c' m' => X (51, [some (.ref 56), some (.int 3), some (.int q1), none, none, none], v.toList ++ [], σ', c', m'))
      obtain ⟨q4, hq4, hr⟩ := bd_some hr
      refine kcall0 rfl (hk _ _ _ _ _ _ (e_X5_learnPart_d4_56 (d + 2) (sI S 56 7 ((S.1 56 7) + 1)) hs q4 hq4 _ ?_))
      show X (51, [some (.ref 56), some (.int 3), some (.int q1), none, none, none], [.int q4.1], st q4.2 hs, 0, 0)
      refine hX _ ?_
      clear hP hX hk P' X cal
      refine Wp.stepsG 1 (fun cal X P' hk hX hP => ?_)
      show (q4.1 = 0 → X (68, [some (.ref 56), some (.int 3), some (.int q1), none, none, none], [], st q4.2 hs, 0, 0)) ∧ (¬ q4.1 = 0 → X (54, [some (.ref 56), some (.int 3), some (.int q1), none, none, none], [], st q4.2 hs, 0, 0))
      refine ⟨fun hc => hX _ ?_, fun hc => hX _ ?_⟩
      · clear hP hX hk P' X cal
        rw [if_pos hc] at hr
        have hr := Option.some.inj hr
        subst hr
        refine Wp.stepsG 3 (fun cal X P' hk hX hP => ?_)
        exact ⟨Or.inl rfl, hP _ _ h⟩
      · clear hP hX hk P' X cal
        rw [if_neg hc] at hr
        refine Wp.stepsG 4 (fun cal X P' hk hX hP => ?_)
        show kcall cal ix_X5_add [.ref 56, .int 18, .int 0] (st q4.2 hs) [] 0 0 (0, 0) (fun v σ' c' m' => X (61, [some (.ref 56), some (.int 3), some (.int q1), none, none, none], v.toList ++ [], σ', c', m'))
        obtain ⟨q5, hq5, hr⟩ := bd_some hr
        refine kcall0 rfl (hk _ _ _ _ _ _ (e_X5_add_56 (d + 4) q4.2 hs 18 0 q5 hq5 _ ?_))
        show X (61, [some (.ref 56), some (.int 3), some (.int q1), none, none, none], [.int q5.1], st q5.2 hs, 0, 0)
        refine hX _ ?_
        clear hP hX hk P' X cal
        refine Wp.stepsG 1 (fun cal X P' hk hX hP => ?_)
        show (q5.1 = 0 → X (68, [some (.ref 56), some (.int 3), some (.int q1), none, none, none], [], st q5.2 hs, 0, 0)) ∧ (¬ q5.1 = 0 → X (64, [some (.ref 56), some (.int 3), some (.int q1), none, none, none], [], st q5.2 hs, 0, 0))
        refine ⟨fun hc => hX _ ?_, fun hc => hX _ ?_⟩
        · clear hP hX hk P' X cal
          rw [if_pos hc] at hr
          have hr := Option.some.inj hr
          subst hr
          refine Wp.stepsG 3 (fun cal X P' hk hX hP => ?_)
          exact ⟨Or.inl rfl, hP _ _ h⟩
        · clear hP hX hk P' X cal
          rw [if_neg hc] at hr
          have hr := Option.some.inj hr
          subst hr
          refine Wp.stepsG 3 (fun cal X P' hk hX hP => ?_)
          exact ⟨Or.inr rfl, hP _ _ h⟩
  · clear hP hX hk P' X cal
    rw [if_neg hc] at hr
    refine Wp.stepsG 3 (fun cal X P' hk hX hP => ?_)
    show (¬ q1 = 40 → X (97, [some (.ref 56), some (.int 3), some (.int q1), none, none, none], [], st S hs, 0, 0)) ∧ (q1 = 40 → X (21, [some (.ref 56), some (.int 3), some (.int q1), none, none, none], [], st S hs, 0, 0))
    refine ⟨fun hc => hX _ ?_, fun hc => hX _ ?_⟩
    · clear hP hX hk P' X cal
      rw [if_neg hc] at hr
      refine Wp.stepsG 3 (fun cal X P' hk hX hP => ?_)
      show kcall cal ix_X5_goByOneOf [.ref 56, .ref 1] (st S hs) [] 0 0 (0, 0) (fun v σ' c' m' => X (103, [some (.ref 56), some (.int 3), some (.int q1), none, none, none], v.toList ++ [], σ', c', m'))
      obtain ⟨q6, hq6, hr⟩ := bd_some hr
      refine kcall0 rfl (hk _ _ _ _ _ _ (e_X5_goByOneOf_1_56 (d + 3) S hs q6 hq6 _ ?_))
      show X (103, [some (.ref 56), some (.int 3), some (.int q1), none, none, none], [.int q6.1], st q6.2 hs, 0, 0)
      refine hX _ ?_
      clear hP hX hk P' X cal
      refine Wp.stepsG 3 (fun cal X P' hk hX hP => ?_)
      show (0 ≤ q6.1 → X (112, [some (.ref 56), some (.int 3), some (.int q1), some (.int q6.1), none, none], [], st q6.2 hs, 0, 0)) ∧ (¬ 0 ≤ q6.1 → X (108, [some (.ref 56), some (.int 3), some (.int q1), some (.int q6.1), none, none], [], st q6.2 hs, 0, 0))
      refine ⟨fun hc => hX _ ?_, fun hc => hX _ ?_⟩
      · clear hP hX hk P' X cal
        rw [if_pos hc] at hr
        refine Wp.stepsG 3 (fun cal X P' hk hX hP => ?_)
        show kcall cal ix_X5_goByOneOf [.ref 56, .ref 2] (st q6.2 hs) [] 0 0 (0, 0) (fun v σ' c' m' => X (118, [some (.ref 56), some (.int 3), some (.int q1), some (.int q6.1), none, none], v.toList ++ [], σ', c', m'))
        obtain ⟨q7, hq7, hr⟩ := bd_some hr
        refine kcall0 rfl (hk _ _ _ _ _ _ (e_X5_goByOneOf_2_56 (d + 3) q6.2 hs q7 hq7 _ ?_))
        show X (118, [some (.ref 56), some (.int 3), some (.int q1), some (.int q6.1), none, none], [.int q7.1], st q7.2 hs, 0, 0)
        refine hX _ ?_
        clear hP hX hk P' X cal
        refine Wp.stepsG 3 (fun cal X P' hk hX hP => ?_)
        show (0 ≤ q7.1 → X (129, [some (.ref 56), some (.int 3), some (.int q1), some (.int q6.1), some (.int q7.1), none], [], st q7.2 hs, 0, 0)) ∧ (¬ 0 ≤ q7.1 → X (125, [some (.ref 56), some (.int 3), some (.int q1), some (.int q6.1), some (.int q7.1), none], [], st q7.2 hs, 0, 0))
        refine ⟨fun hc => hX _ ?_, fun hc => hX _ ?_⟩
        · clear hP hX hk P' X cal
          rw [if_pos hc] at hr
          refine Wp.stepsG 2 (fun cal X P' hk hX hP => ?_)
          show kcall cal ix_X5_goByNumber [.ref 56] (st q7.2 hs) [] 0 0 (0, 0) (fun v σ' c' m' => X (133, [some (.ref 56), some (.int 3), some (.int q1), some (.int q6.1), some (.int q7.1), none], v.toList ++ [], σ', c', m'))
          obtain ⟨q8, hq8, hr⟩ := bd_some hr
          refine kcall0 rfl (hk _ _ _ _ _ _ (e_X5_goByNumber_56 (d + 3) q7.2 hs q8 hq8 _ ?_))
          show X (133, [some (.ref 56), some (.int 3), some (.int q1), some (.int q6.1), some (.int q7.1), none], [.int q8.1], st q8.2 hs, 0, 0)
          refine hX _ ?_
          clear hP hX hk P' X cal
          refine Wp.stepsG 3 (fun cal X P' hk hX hP => ?_)
          show (q8.1 < 0 → X (159, [some (.ref 56), some (.int 3), some (.int q1), some (.int q6.1), some (.int q7.1), some (.int q8.1)], [], st q8.2 hs, 0, 0)) ∧ (¬ q8.1 < 0 → X (140, [some (.ref 56), some (.int 3), some (.int q1), some (.int q6.1), some (.int q7.1), some (.int q8.1)], [], st q8.2 hs, 0, 0))
          refine ⟨fun hc => hX _ ?_, fun hc => hX _ ?_⟩
          · clear hP hX hk P' X cal
            rw [if_pos hc] at hr
            have hr := Option.some.inj hr
            subst hr
            refine Wp.stepsG 2 (fun cal X P' hk hX hP => ?_)
            exact ⟨Or.inl rfl, hP _ _ h⟩
          · clear hP hX hk P' X cal
            rw [if_neg hc] at hr
            refine Wp.stepsG 8 (fun cal X P' hk hX hP => ?_)
            show kcall cal ix_X5_add [.ref 56, .int (((3 : Int32) * q6.1) + q7.1), .int q8.1] (st q8.2 hs) [] 0 0 (0, 0) (fun v σ' c' m' => X (152, [some (.ref 56), some (.int 3), some (.int q1), some (.int q6.1), some (.int q7.1), some (.int q8.1)], v.toList ++ [], σ', c', m'))
            obtain ⟨q9, hq9, hr⟩ := bd_some hr
            refine kcall0 rfl (hk _ _ _ _ _ _ (e_X5_add_56 (d + 4) q8.2 hs (((3 : Int32) * q6.1) + q7.1) q8.1 q9 hq9 _ ?_))
            show X (152, [some (.ref 56), some (.int 3), some (.int q1), some (.int q6.1), some (.int q7.1), some (.int q8.1)], [.int q9.1], st q9.2 hs, 0, 0)
            refine hX _ ?_
            clear hP hX hk P' X cal
            refine Wp.stepsG 1 (fun cal X P' hk hX hP => ?_)
            show (q9.1 = 0 → X (159, [some (.ref 56), some (.int 3), some (.int q1), some (.int q6.1), some (.int q7.1), some (.int q8.1)], [], st q9.2 hs, 0, 0)) ∧ (¬ q9.1 = 0 → X (155, [some (.ref 56), some (.int 3), some (.int q1), some (.int q6.1), some (.int q7.1), some (.int q8.1)], [], st q9.2 hs, 0, 0))
            refine ⟨fun hc => hX _ ?_, fun hc => hX _ ?_⟩
            · clear hP hX hk P' X cal
              rw [if_pos hc] at hr
              have hr := Option.some.inj hr
              subst hr
              refine Wp.stepsG 2 (fun cal X P' hk hX hP => ?_)
              exact ⟨Or.inl rfl, hP _ _ h⟩
            · clear hP hX hk P' X cal
              rw [if_neg hc] at hr
              have hr := Option.some.inj hr
              subst hr
              refine Wp.stepsG 3 (fun cal X P' hk hX hP => ?_)
              exact ⟨Or.inr rfl, hP _ _ h⟩
        · clear hP hX hk P' X cal
          rw [if_neg hc] at hr
          refine Wp.stepsG 5 (fun cal X P' hk hX hP => ?_)
          show (((-1) : Int32) < 0 → X (159, [some (.ref 56), some (.int 3), some (.int q1), some (.int q6.1), some (.int q7.1), some (.int (-1))], [], st q7.2 hs, 0, 0)) ∧ (¬ ((-1) : Int32) < 0 → X (140, [some (.ref 56), some (.int 3), some (.int q1), some (.int q6.1), some (.int q7.1), some (.int (-1))], [], st q7.2 hs, 0, 0))
          refine ⟨fun _ => hX _ ?_, fun hc => absurd hc (by decide)⟩
          clear hP hX hk P' X cal
          have hr := Option.some.inj hr
          subst hr
          refine Wp.stepsG 2 (fun cal X P' hk hX hP => ?_)
          exact ⟨Or.inl rfl, hP _ _ h⟩
      · clear hP hX hk P' X cal
        rw [if_neg hc] at hr
        refine Wp.stepsG 5 (fun cal X P' hk hX hP => ?_)
        show (0 ≤ ((-1) : Int32) → X (129, [some (.ref 56), some (.int 3), some (.int q1), some (.int q6.1), some (.int (-1)), none], [], st q6.2 hs, 0, 0)) ∧ (¬ 0 ≤ ((-1) : Int32) → X (125, [some (.ref 56), some (.int 3), some (.int q1), some (.int q6.1), some (.int (-1)), none], [], st q6.2 hs, 0, 0))
        refine ⟨fun hc => absurd hc (by decide), fun _ => hX _ ?_⟩
        clear hP hX hk P' X cal
        refine Wp.stepsG 5 (fun cal X P' hk hX hP => ?_)
        show (((-1) : Int32) < 0 → X (159, [some (.ref 56), some (.int 3), some (.int q1), some (.int q6.1), some (.int (-1)), some (.int (-1))], [], st q6.2 hs, 0, 0)) ∧ (¬ ((-1) : Int32) < 0 → X (140, [some (.ref 56), some (.int 3), some (.int q1), some (.int q6.1), some (.int (-1)), some (.int (-1))], [], st q6.2 hs, 0, 0))
        refine ⟨fun _ => hX _ ?_, fun hc => absurd hc (by decide)⟩
        clear hP hX hk P' X cal
        have hr := Option.some.inj hr
        subst hr
        refine Wp.stepsG 2 (fun cal X P' hk hX hP => ?_)
        exact ⟨Or.inl rfl, hP _ _ h⟩
    · clear hP hX hk P' X cal
      rw [if_pos hc] at hr
      refine Wp.stepsG 3 (fun cal X P' hk hX hP => ?_)
      show ((3 : Int32) < 4 → X (28, [some (.ref 56), some (.int 3), some (.int q1), none, none, none], [], st S hs, 0, 0)) ∧ (¬ (3 : Int32) < 4 → X (26, [some (.ref 56), some (.int 3), some (.int q1), none, none, none], [], st S hs, 0, 0))
      refine ⟨fun _ => hX _ ?_, fun hc => absurd hc (by decide)⟩
      clear hP hX hk P' X cal
      refine Wp.stepsG 9 (fun cal X P' hk hX hP => ?_)
      show (¬ q1 = 33 → X (72, [some (.ref 56), some (.int 3), some (.int q1), none, none, none], [], st (sI S 56 7 ((S.1 56 7) + 1)) hs, 0, 0)) ∧ (q1 = 33 → X (44, [some (.ref 56), some (.int 3), some (.int q1), none, none, none], [], st (sI S 56 7 ((S.1 56 7) + 1)) hs, 0, 0))
      refine ⟨fun hc => hX _ ?_, fun hc => hX _ ?_⟩
      · clear hP hX hk P' X cal
        rw [if_neg hc] at hr
        refine Wp.stepsG 5 (fun cal X P' hk hX hP => ?_)
        show kcall cal ix_X5_learnEither [.ref 56, .int 4] (st (sI S 56 7 ((S.1 56 7) + 1)) hs) [] 0 0 (0, 0) (fun v σ' c' m' => X (79, [some (.ref 56), some (.int 3), some (.int q1), none, none, none], v.toList ++ [], σ', c', m'))
        obtain ⟨q10, hq10, hr⟩ := bd_some hr
        refine kcall0 rfl (hk _ _ _ _ _ _ (e_X5_learnEither_d4_56 (d + 0) (sI S 56 7 ((S.1 56 7) + 1)) hs q10 hq10 _ ?_))
        show X (79, [some (.ref 56), some (.int 3), some (.int q1), none, none, none], [.int q10.1], st q10.2 hs, 0, 0)
        refine hX _ ?_
        clear hP hX hk P' X cal
        refine Wp.stepsG 1 (fun cal X P' hk hX hP => ?_)
        show (q10.1 = 0 → X (95, [some (.ref 56), some (.int 3), some (.int q1), none, none, none], [], st q10.2 hs, 0, 0)) ∧ (¬ q10.1 = 0 → X (82, [some (.ref 56), some (.int 3), some (.int q1), none, none, none], [], st q10.2 hs, 0, 0))
        refine ⟨fun hc => hX _ ?_, fun hc => hX _ ?_⟩
        · clear hP hX hk P' X cal
          rw [if_pos hc] at hr
          have hr := Option.some.inj hr
          subst hr
          refine Wp.stepsG 2 (fun cal X P' hk hX hP => ?_)
          exact ⟨Or.inl rfl, hP _ _ h⟩
        · clear hP hX hk P' X cal
          rw [if_neg hc] at hr
          refine Wp.stepsG 3 (fun cal X P' hk hX hP => ?_)
          show kcall cal ix_X5_goBy [.ref 56, .int 41] (st q10.2 hs) [] 0 0 (0, 0) (fun v σ' c' m' => X (88, [some (.ref 56), some (.int 3), some (.int q1), none, none, none], v.toList ++ [], σ', c', m'))
          obtain ⟨q11, hq11, hr⟩ := bd_some hr
          refine kcall0 rfl (hk _ _ _ _ _ _ (e_X5_goBy_56 (d + 3) q10.2 hs 41 q11 hq11 _ ?_))
          show X (88, [some (.ref 56), some (.int 3), some (.int q1), none, none, none], [.int q11.1], st q11.2 hs, 0, 0)
          refine hX _ ?_
          clear hP hX hk P' X cal
          refine Wp.stepsG 1 (fun cal X P' hk hX hP => ?_)
          show (q11.1 = 0 → X (95, [some (.ref 56), some (.int 3), some (.int q1), none, none, none], [], st q11.2 hs, 0, 0)) ∧ (¬ q11.1 = 0 → X (91, [some (.ref 56), some (.int 3), some (.int q1), none, none, none], [], st q11.2 hs, 0, 0))
          refine ⟨fun hc => hX _ ?_, fun hc => hX _ ?_⟩
          · clear hP hX hk P' X cal
            rw [if_pos hc] at hr
            have hr := Option.some.inj hr
            subst hr
            refine Wp.stepsG 2 (fun cal X P' hk hX hP => ?_)
            exact ⟨Or.inl rfl, hP _ _ h⟩
          · clear hP hX hk P' X cal
            rw [if_neg hc] at hr
            have hr := Option.some.inj hr
            subst hr
            refine Wp.stepsG 3 (fun cal X P' hk hX hP => ?_)
            exact ⟨Or.inr rfl, hP _ _ h⟩
      · clear hP hX hk P' X cal
        rw [if_pos hc] at hr
        refine Wp.stepsG 5 (fun cal X P' hk hX hP => ?_)
        show kcall cal ix_X5_learnPart [.ref 56, .int 4] (st (sI S 56 7 ((S.1 56 7) + 1)) hs) [] 0 0 (0, 0) (fun v σ' c' m' => X (51, [some (.ref 56), some (.int 3), some (.int q1), none, none, none], v.toList ++ [], σ', c', m'))
        obtain ⟨q12, hq12, hr⟩ := bd_some hr
        refine kcall0 rfl (hk _ _ _ _ _ _ (e_X5_learnPart_d4_56 (d + 2) (sI S 56 7 ((S.1 56 7) + 1)) hs q12 hq12 _ ?_))
        show X (51, [some (.ref 56), some (.int 3), some (.int q1), none, none, none], [.int q12.1], st q12.2 hs, 0, 0)
        refine hX _ ?_
        clear hP hX hk P' X cal
        refine Wp.stepsG 1 (fun cal X P' hk hX hP => ?_)
        show (q12.1 = 0 → X (68, [some (.ref 56), some (.int 3), some (.int q1), none, none, none], [], st q12.2 hs, 0, 0)) ∧ (¬ q12.1 = 0 → X (54, [some (.ref 56), some (.int 3), some (.int q1), none, none, none], [], st q12.2 hs, 0, 0))
        refine ⟨fun hc => hX _ ?_, fun hc => hX _ ?_⟩
        · clear hP hX hk P' X cal
          rw [if_pos hc] at hr
          have hr := Option.some.inj hr
          subst hr
          refine Wp.stepsG 3 (fun cal X P' hk hX hP => ?_)
          exact ⟨Or.inl rfl, hP _ _ h⟩
        · clear hP hX hk P' X cal
          rw [if_neg hc] at hr
          refine Wp.stepsG 4 (fun cal X P' hk hX hP => ?_)
          show kcall cal ix_X5_add [.ref 56, .int 18, .int 0] (st q12.2 hs) [] 0 0 (0, 0) (fun v σ' c' m' => X (61, [some (.ref 56), some (.int 3), some (.int q1), none, none, none], v.toList ++ [], σ', c', m'))
          obtain ⟨q13, hq13, hr⟩ := bd_some hr
          refine kcall0 rfl (hk _ _ _ _ _ _ (e_X5_add_56 (d + 4) q12.2 hs 18 0 q13 hq13 _ ?_))
          show X (61, [some (.ref 56), some (.int 3), some (.int q1), none, none, none], [.int q13.1], st q13.2 hs, 0, 0)
          refine hX _ ?_
          clear hP hX hk P' X cal
          refine Wp.stepsG 1 (fun cal X P' hk hX hP => ?_)
          show (q13.1 = 0 → X (68, [some (.ref 56), some (.int 3), some (.int q1), none, none, none], [], st q13.2 hs, 0, 0)) ∧ (¬ q13.1 = 0 → X (64, [some (.ref 56), some (.int 3), some (.int q1), none, none, none], [], st q13.2 hs, 0, 0))
          refine ⟨fun hc => hX _ ?_, fun hc => hX _ ?_⟩
          · clear hP hX hk P' X cal
            rw [if_pos hc] at hr
            have hr := Option.some.inj hr
            subst hr
            refine Wp.stepsG 3 (fun cal X P' hk hX hP => ?_)
            exact ⟨Or.inl rfl, hP _ _ h⟩
          · clear hP hX hk P' X cal
            rw [if_neg hc] at hr
            have hr := Option.some.inj hr
            subst hr
            refine Wp.stepsG 3 (fun cal X P' hk hX hP => ?_)
            exact ⟨Or.inr rfl, hP _ _ h⟩
set_option maxRecDepth 20000 in
set_option maxHeartbeats 4000000 in
theorem e_lp_X5_learnBoth_d3_8_56 (d : Nat) (hs : List Hr) (P : Option Value → Hp → Prop) : ∀ (n : Nat) (v2 : Int32) (v3 : Int32) (S : St) (q : Int32 × St), lp_X5_learnBoth_d3_8 56 n v2 v3 S = some q → (WM mi_X5_learnBoth (d + 6) P 57 [some (.ref 56), some (.int 3), some (.int q.1), none] [] (st q.2 hs)) → WM mi_X5_learnBoth (d + 6) P 8 [some (.ref 56), some (.int 3), some (.int v2), some (.int v3)] [] (st S hs) := by
  intro n
  induction n with
  | zero =>
    intro v2 v3 S q hl
    cases hl
  | succ n ih =>
    intro v2 v3 S q hl ct
    rw [lp_X5_learnBoth_d3_8] at hl
    refine Wp.stepsG 3 (fun cal X P' hk hX hP => ?_)
    show (100 ≤ v3 → X (57, [some (.ref 56), some (.int 3), some (.int v2), some (.int v3)], [], st S hs, 0, 0)) ∧ (¬ 100 ≤ v3 → X (14, [some (.ref 56), some (.int 3), some (.int v2), some (.int v3)], [], st S hs, 0, 0))
    refine ⟨fun hc => hX _ ?_, fun hc => hX _ ?_⟩
    · clear hP hX hk P' X cal
      rw [if_pos hc] at hl
      have hl := Option.some.inj hl
      subst hl
      exact Wp.weak (leL.k (leL.k (leL.k (leL.n leL.z)))) (ct)
    · clear hP hX hk P' X cal
      rw [if_neg hc] at hl
      refine Wp.stepsG 2 (fun cal X P' hk hX hP => ?_)
      show (v2 = 0 → X (57, [some (.ref 56), some (.int 3), some (.int v2), some (.int v3)], [], st S hs, 0, 0)) ∧ (¬ v2 = 0 → X (18, [some (.ref 56), some (.int 3), some (.int v2), some (.int v3)], [], st S hs, 0, 0))
      refine ⟨fun hc => hX _ ?_, fun hc => hX _ ?_⟩
      · clear hP hX hk P' X cal
        rw [if_pos hc] at hl
        have hl := Option.some.inj hl
        subst hl
        exact Wp.weak (leL.k (leL.k (leL.k (leL.n leL.z)))) (ct)
      · clear hP hX hk P' X cal
        rw [if_neg hc] at hl
        refine Wp.stepsG 3 (fun cal X P' hk hX hP => ?_)
        show kcall cal ix_X5_goBy [.ref 56, .int 38] (st S hs) [] 0 0 (0, 0) (fun v σ' c' m' => X (24, [some (.ref 56), some (.int 3), some (.int v2), some (.int v3)], v.toList ++ [], σ', c', m'))
        obtain ⟨q2, hq2, hl⟩ := bd_some hl
        refine kcall0 rfl (hk _ _ _ _ _ _ (e_X5_goBy_56 (d + 4) S hs 38 q2 hq2 _ ?_))
        show X (24, [some (.ref 56), some (.int 3), some (.int v2), some (.int v3)], [.int q2.1], st q2.2 hs, 0, 0)
        refine hX _ ?_
        clear hP hX hk P' X cal
        refine Wp.stepsG 1 (fun cal X P' hk hX hP => ?_)
        show (q2.1 = 0 → X (57, [some (.ref 56), some (.int 3), some (.int v2), some (.int v3)], [], st q2.2 hs, 0, 0)) ∧ (¬ q2.1 = 0 → X (27, [some (.ref 56), some (.int 3), some (.int v2), some (.int v3)], [], st q2.2 hs, 0, 0))
        refine ⟨fun hc => hX _ ?_, fun hc => hX _ ?_⟩
        · clear hP hX hk P' X cal
          rw [if_pos hc] at hl
          have hl := Option.some.inj hl
          subst hl
          exact Wp.weak (leL.k (leL.k (leL.k (leL.n leL.z)))) (ct)
        · clear hP hX hk P' X cal
          rw [if_neg hc] at hl
          refine Wp.stepsG 3 (fun cal X P' hk hX hP => ?_)
          show kcall cal ix_X5_learnPart [.ref 56, .int 3] (st q2.2 hs) [] 0 0 (0, 0) (fun v σ' c' m' => X (32, [some (.ref 56), some (.int 3), some (.int v2), some (.int v3)], v.toList ++ [], σ', c', m'))
          obtain ⟨q3, hq3, hl⟩ := bd_some hl
          refine kcall0 rfl (hk _ _ _ _ _ _ (e_X5_learnPart_d3_56 (d + 0) q2.2 hs q3 hq3 _ ?_))
          show X (32, [some (.ref 56), some (.int 3), some (.int v2), some (.int v3)], [.int q3.1], st q3.2 hs, 0, 0)
          refine hX _ ?_
          clear hP hX hk P' X cal
          refine Wp.stepsG 1 (fun cal X P' hk hX hP => ?_)
          show (q3.1 = 0 → X (49, [some (.ref 56), some (.int 3), some (.int v2), some (.int v3)], [], st q3.2 hs, 0, 0)) ∧ (¬ q3.1 = 0 → X (35, [some (.ref 56), some (.int 3), some (.int v2), some (.int v3)], [], st q3.2 hs, 0, 0))
          refine ⟨fun hc => hX _ ?_, fun hc => hX _ ?_⟩
          · clear hP hX hk P' X cal
            rw [if_pos hc] at hl
            refine Wp.stepsG 4 (fun cal X P' hk hX hP => ?_)
            show X (8, [some (.ref 56), some (.int 3), some (.int 0), some (.int (v3 + 1))], [], st q3.2 hs, 0, 0)
            refine hX _ ?_
            exact (ih 0 (v3 + 1) q3.2 q hl ct)
          · clear hP hX hk P' X cal
            rw [if_neg hc] at hl
            refine Wp.stepsG 4 (fun cal X P' hk hX hP => ?_)
            show kcall cal ix_X5_add [.ref 56, .int 19, .int 0] (st q3.2 hs) [] 0 0 (0, 0) (fun v σ' c' m' => X (42, [some (.ref 56), some (.int 3), some (.int v2), some (.int v3)], v.toList ++ [], σ', c', m'))
            obtain ⟨q4, hq4, hl⟩ := bd_some hl
            refine kcall0 rfl (hk _ _ _ _ _ _ (e_X5_add_56 (d + 5) q3.2 hs 19 0 q4 hq4 _ ?_))
            show X (42, [some (.ref 56), some (.int 3), some (.int v2), some (.int v3)], [.int q4.1], st q4.2 hs, 0, 0)
            refine hX _ ?_
            clear hP hX hk P' X cal
            refine Wp.stepsG 1 (fun cal X P' hk hX hP => ?_)
            show (q4.1 = 0 → X (49, [some (.ref 56), some (.int 3), some (.int v2), some (.int v3)], [], st q4.2 hs, 0, 0)) ∧ (¬ q4.1 = 0 → X (45, [some (.ref 56), some (.int 3), some (.int v2), some (.int v3)], [], st q4.2 hs, 0, 0))
            refine ⟨fun hc => hX _ ?_, fun hc => hX _ ?_⟩
            · clear hP hX hk P' X cal
              rw [if_pos hc] at hl
              refine Wp.stepsG 4 (fun cal X P' hk hX hP => ?_)
              show X (8, [some (.ref 56), some (.int 3), some (.int 0), some (.int (v3 + 1))], [], st q4.2 hs, 0, 0)
              refine hX _ ?_
              exact (ih 0 (v3 + 1) q4.2 q hl ct)
            · clear hP hX hk P' X cal
              rw [if_neg hc] at hl
              refine Wp.stepsG 5 (fun cal X P' hk hX hP => ?_)
              show X (8, [some (.ref 56), some (.int 3), some (.int 1), some (.int (v3 + 1))], [], st q4.2 hs, 0, 0)
              refine hX _ ?_
              exact (ih 1 (v3 + 1) q4.2 q hl ct)
set_option maxRecDepth 20000 in
set_option maxHeartbeats 4000000 in
theorem e_X5_learnBoth_d3_56 (d : Nat) (S : St) (hs : List Hr) (v : Int32 × St) (hr : r_X5_learnBoth_d3 S 56 = some v) (P : Option Value → Hp → Prop) (h : P (some (.int v.1)) (st v.2 hs)) : Ev (d + 7) ix_X5_learnBoth 0 0 [.ref 56, .int 3] (st S hs) P := by
  refine Ev.intro (M := mi_X5_learnBoth) rfl (Nat.le_of_ble_eq_true rfl) ?_
  unfold r_X5_learnBoth_d3 at hr
  refine Wp.stepsG 3 (fun cal X P' hk hX hP => ?_)
  show kcall cal ix_X5_learnPart [.ref 56, .int 3] (st S hs) [] 0 0 (0, 0) (fun v σ' c' m' => X (5, [some (.ref 56), some (.int 3), none, none], v.toList ++ [], σ', c', m'))
  obtain ⟨q1, hq1, hr⟩ := bd_some hr
  refine kcall0 rfl (hk _ _ _ _ _ _ (e_X5_learnPart_d3_56 (d + 0) S hs q1 hq1 _ ?_))
  show X (5, [some (.ref 56), some (.int 3), none, none], [.int q1.1], st q1.2 hs, 0, 0)
  refine hX _ ?_
  clear hP hX hk P' X cal
  refine Wp.stepsG 3 (fun cal X P' hk hX hP => ?_)
  show X (8, [some (.ref 56), some (.int 3), some (.int q1.1), some (.int 0)], [], st q1.2 hs, 0, 0)
  refine hX _ ?_
  clear hP hX hk P' X cal
  obtain ⟨q5, hq5, hr⟩ := bd_some hr
  refine (e_lp_X5_learnBoth_d3_8_56 d hs P _ q1.1 0 q1.2 q5 hq5 ?_)
  obtain ⟨hb, hr⟩ := gd_some hr
  have hr := Option.some.inj hr
  subst hr
  refine Wp.stepsG 2 (fun cal X P' hk hX hP => ?_)
  exact ⟨hb, hP _ _ h⟩
set_option maxRecDepth 20000 in
set_option maxHeartbeats 4000000 in
theorem e_lp_X5_learnEither_d3_8_56 (d : Nat) (hs : List Hr) (P : Option Value → Hp → Prop) : ∀ (n : Nat) (v2 : Int32) (v3 : Int32) (S : St) (q : Int32 × St), lp_X5_learnEither_d3_8 56 n v2 v3 S = some q → (WM mi_X5_learnEither (d + 7) P 57 [some (.ref 56), some (.int 3), some (.int q.1), none] [] (st q.2 hs)) → WM mi_X5_learnEither (d + 7) P 8 [some (.ref 56), some (.int 3), some (.int v2), some (.int v3)] [] (st S hs) := by
  intro n
  induction n with
  | zero =>
    intro v2 v3 S q hl
    cases hl
  | succ n ih =>
    intro v2 v3 S q hl ct
    rw [lp_X5_learnEither_d3_8] at hl
    refine Wp.stepsG 3 (fun cal X P' hk hX hP => ?_)
    show (100 ≤ v3 → X (57, [some (.ref 56), some (.int 3), some (.int v2), some (.int v3)], [], st S hs, 0, 0)) ∧ (¬ 100 ≤ v3 → X (14, [some (.ref 56), some (.int 3), some (.int v2), some (.int v3)], [], st S hs, 0, 0))
    refine ⟨fun hc => hX _ ?_, fun hc => hX _ ?_⟩
    · clear hP hX hk P' X cal
      rw [if_pos hc] at hl
      have hl := Option.some.inj hl
      subst hl
      exact Wp.weak (leL.k (leL.k (leL.k (leL.n leL.z)))) (ct)
    · clear hP hX hk P' X cal
      rw [if_neg hc] at hl
      refine Wp.stepsG 2 (fun cal X P' hk hX hP => ?_)
      show (v2 = 0 → X (57, [some (.ref 56), some (.int 3), some (.int v2), some (.int v3)], [], st S hs, 0, 0)) ∧ (¬ v2 = 0 → X (18, [some (.ref 56), some (.int 3), some (.int v2), some (.int v3)], [], st S hs, 0, 0))
      refine ⟨fun hc => hX _ ?_, fun hc => hX _ ?_⟩
      · clear hP hX hk P' X cal
        rw [if_pos hc] at hl
        have hl := Option.some.inj hl
        subst hl
        exact Wp.weak (leL.k (leL.k (leL.k (leL.n leL.z)))) (ct)
      · clear hP hX hk P' X cal
        rw [if_neg hc] at hl
        refine Wp.stepsG 3 (fun cal X P' hk hX hP => ?_)
        show kcall cal ix_X5_goBy [.ref 56, .int 124] (st S hs) [] 0 0 (0, 0) (fun v σ' c' m' => X (24, [some (.ref 56), some (.int 3), some (.int v2), some (.int v3)], v.toList ++ [], σ', c', m'))
        obtain ⟨q2, hq2, hl⟩ := bd_some hl
        refine kcall0 rfl (hk _ _ _ _ _ _ (e_X5_goBy_56 (d + 5) S hs 124 q2 hq2 _ ?_))
        show X (24, [some (.ref 56), some (.int 3), some (.int v2), some (.int v3)], [.int q2.1], st q2.2 hs, 0, 0)
        refine hX _ ?_
        clear hP hX hk P' X cal
        refine Wp.stepsG 1 (fun cal X P' hk hX hP => ?_)
        show (q2.1 = 0 → X (57, [some (.ref 56), some (.int 3), some (.int v2), some (.int v3)], [], st q2.2 hs, 0, 0)) ∧ (¬ q2.1 = 0 → X (27, [some (.ref 56), some (.int 3), some (.int v2), some (.int v3)], [], st q2.2 hs, 0, 0))
        refine ⟨fun hc => hX _ ?_, fun hc => hX _ ?_⟩
        · clear hP hX hk P' X cal
          rw [if_pos hc] at hl
          have hl := Option.some.inj hl
          subst hl
          exact Wp.weak (leL.k (leL.k (leL.k (leL.n leL.z)))) (ct)
        · clear hP hX hk P' X cal
          rw [if_neg hc] at hl
          refine Wp.stepsG 3 (fun cal X P' hk hX hP => ?_)
          show kcall cal ix_X5_learnBoth [.ref 56, .int 3] (st q2.2 hs) [] 0 0 (0, 0) (fun v σ' c' m' => X (32, [some (.ref 56), some (.int 3), some (.int v2), some (.int v3)], v.toList ++ [], σ', c', m'))
          obtain ⟨q3, hq3, hl⟩ := bd_some hl
          refine kcall0 rfl (hk _ _ _ _ _ _ (e_X5_learnBoth_d3_56 (d + 0) q2.2 hs q3 hq3 _ ?_))
          show X (32, [some (.ref 56), some (.int 3), some (.int v2), some (.int v3)], [.int q3.1], st q3.2 hs, 0, 0)
          refine hX _ ?_
          clear hP hX hk P' X cal
          refine Wp.stepsG 1 (fun cal X P' hk hX hP => ?_)
          show (q3.1 = 0 → X (49, [some (.ref 56), some (.int 3), some (.int v2), some (.int v3)], [], st q3.2 hs, 0, 0)) ∧ (¬ q3.1 = 0 → X (35, [some (.ref 56), some (.int 3), some (.int v2), some (.int v3)], [], st q3.2 hs, 0, 0))
          refine ⟨fun hc => hX _ ?_, fun hc => hX _ ?_⟩
          · clear hP hX hk P' X cal
            rw [if_pos hc] at hl
            refine Wp.stepsG 4 (fun cal X P' hk hX hP => ?_)
            show X (8, [some (.ref 56), some (.int 3), some (.int 0), some (.int (v3 + 1))], [], st q3.2 hs, 0, 0)
            refine hX _ ?_
            exact (ih 0 (v3 + 1) q3.2 q hl ct)
          · clear hP hX hk P' X cal
            rw [if_neg hc] at hl
            refine Wp.stepsG 4 (fun cal X P' hk hX hP => ?_)
            show kcall cal ix_X5_add [.ref 56, .int 20, .int 0] (st q3.2 hs) [] 0 0 (0, 0) (fun v σ' c' m' => X (42, [some (.ref 56), some (.int 3), some (.int v2), some (.int v3)], v.toList ++ [], σ', c', m'))
            obtain ⟨q4, hq4, hl⟩ := bd_some hl
            refine kcall0 rfl (hk _ _ _ _ _ _ (e_X5_add_56 (d + 6) q3.2 hs 20 0 q4 hq4 _ ?_))
            show X (42, [some (.ref 56), some (.int 3), some (.int v2), some (.int v3)], [.int q4.1], st q4.2 hs, 0, 0)
            refine hX _ ?_
            clear hP hX hk P' X cal
            refine Wp.stepsG 1 (fun cal X P' hk hX hP => ?_)
            show (q4.1 = 0 → X (49, [some (.ref 56), some (.int 3), some (.int v2), some (.int v3)], [], st q4.2 hs, 0, 0)) ∧ (¬ q4.1 = 0 → X (45, [some (.ref 56), some (.int 3), some (.int v2), some (.int v3)], [], st q4.2 hs, 0, 0))
            refine ⟨fun hc => hX _ ?_, fun hc => hX _ ?_⟩
            · clear hP hX hk P' X cal
              rw [if_pos hc] at hl
              refine Wp.stepsG 4 (fun cal X P' hk hX hP => ?_)
              show X (8, [some (.ref 56), some (.int 3), some (.int 0), some (.int (v3 + 1))], [], st q4.2 hs, 0, 0)
              refine hX _ ?_
              exact (ih 0 (v3 + 1) q4.2 q hl ct)
            · clear hP hX hk P' X cal
              rw [if_neg hc] at hl
              refine Wp.stepsG 5 (fun cal X P' hk hX hP => ?_)
              show X (8, [some (.ref 56), some (.int 3), some (.int 1), some (.int (v3 + 1))], [], st q4.2 hs, 0, 0)
              refine hX _ ?_
              exact (ih 1 (v3 + 1) q4.2 q hl ct)
set_option maxRecDepth 20000 in
set_option maxHeartbeats 4000000 in
theorem e_X5_learnEither_d3_56 (d : Nat) (S : St) (hs : List Hr) (v : Int32 × St) (hr : r_X5_learnEither_d3 S 56 = some v) (P : Option Value → Hp → Prop) (h : P (some (.int v.1)) (st v.2 hs)) : Ev (d + 8) ix_X5_learnEither 0 0 [.ref 56, .int 3] (st S hs) P := by
  refine Ev.intro (M := mi_X5_learnEither) rfl (Nat.le_of_ble_eq_true rfl) ?_
  unfold r_X5_learnEither_d3 at hr
  refine Wp.stepsG 3 (fun cal X P' hk hX hP => ?_)
  show kcall cal ix_X5_learnBoth [.ref 56, .int 3] (st S hs) [] 0 0 (0, 0) (fun v σ' c' m' => X (5, [some (.ref 56), some (.int 3), none, none], v.toList ++ [], σ', c', m'))
  obtain ⟨q1, hq1, hr⟩ := bd_some hr
  refine kcall0 rfl (hk _ _ _ _ _ _ (e_X5_learnBoth_d3_56 (d + 0) S hs q1 hq1 _ ?_))
  show X (5, [some (.ref 56), some (.int 3), none, none], [.int q1.1], st q1.2 hs, 0, 0)
  refine hX _ ?_
  clear hP hX hk P' X cal
  refine Wp.stepsG 3 (fun cal X P' hk hX hP => ?_)
  show X (8, [some (.ref 56), some (.int 3), some (.int q1.1), some (.int 0)], [], st q1.2 hs, 0, 0)
  refine hX _ ?_
  clear hP hX hk P' X cal
  obtain ⟨q5, hq5, hr⟩ := bd_some hr
  refine (e_lp_X5_learnEither_d3_8_56 d hs P _ q1.1 0 q1.2 q5 hq5 ?_)
  obtain ⟨hb, hr⟩ := gd_some hr
  have hr := Option.some.inj hr
  subst hr
  refine Wp.stepsG 2 (fun cal X P' hk hX hP => ?_)
  exact ⟨hb, hP _ _ h⟩
set_option maxRecDepth 20000 in
set_option maxHeartbeats 4000000 in
theorem e_X5_learnPart_d2_56 (d : Nat) (S : St) (hs : List Hr) (v : Int32 × St) (hr : r_X5_learnPart_d2 S 56 = some v) (P : Option Value → Hp → Prop) (h : P (some (.int v.1)) (st v.2 hs)) : Ev (d + 9) ix_X5_learnPart 0 0 [.ref 56, .int 2] (st S hs) P := by
  refine Ev.intro (M := mi_X5_learnPart) rfl (Nat.le_of_ble_eq_true rfl) ?_
  unfold r_X5_learnPart_d2 at hr
  refine Wp.stepsG 4 (fun cal X P' hk hX hP => ?_)
  show kcall cal ix_X5_signAt [.ref 56, .int (S.1 56 7)] (st S hs) [] 0 0 (0, 0) (fun v σ' c' m' => X (8, [some (.ref 56), some (.int 2), none, none, none, none], v.toList ++ [], σ', c', m'))
  obtain ⟨q1, hq1, hr⟩ := bd_some hr
  refine kcall0 rfl (hk _ _ _ _ _ _ (e_X5_signAt_56 (d + 7) S hs (S.1 56 7) q1 hq1 _ ?_))
  show X (8, [some (.ref 56), some (.int 2), none, none, none, none], [.int q1], st S hs, 0, 0)
  refine hX _ ?_
  clear hP hX hk P' X cal
  refine Wp.stepsG 4 (fun cal X P' hk hX hP => ?_)
  show (q1 = 33 → X (21, [some (.ref 56), some (.int 2), some (.int q1), none, none, none], [], st S hs, 0, 0)) ∧ (¬ q1 = 33 → X (15, [some (.ref 56), some (.int 2), some (.int q1), none, none, none], [], st S hs, 0, 0))
  refine ⟨fun hc => hX _ ?_, fun hc => hX _ ?_⟩
  · clear hP hX hk P' X cal
    rw [if_pos hc] at hr
    refine Wp.stepsG 3 (fun cal X P' hk hX hP => ?_)
    show ((2 : Int32) < 4 → X (28, [some (.ref 56), some (.int 2), some (.int q1), none, none, none], [], st S hs, 0, 0)) ∧ (¬ (2 : Int32) < 4 → X (26, [some (.ref 56), some (.int 2), some (.int q1), none, none, none], [], st S hs, 0, 0))
    refine ⟨fun _ => hX _ ?_, fun hc => absurd hc (by decide)⟩
    clear hP hX hk P' X cal
    refine Wp.stepsG 9 (fun cal X P' hk hX hP => ?_)
    show (¬ q1 = 33 → X (72, [some (.ref 56), some (.int 2), some (.int q1), none, none, none], [], st (sI S 56 7 ((S.1 56 7) + 1)) hs, 0, 0)) ∧ (q1 = 33 → X (44, [some (.ref 56), some (.int 2), some (.int q1), none, none, none], [], st (sI S 56 7 ((S.1 56 7) + 1)) hs, 0, 0))
    refine ⟨fun hc => hX _ ?_, fun hc => hX _ ?_⟩
    · clear hP hX hk P' X cal
      rw [if_neg hc] at hr
      refine Wp.stepsG 5 (fun cal X P' hk hX hP => ?_)
      show kcall cal ix_X5_learnEither [.ref 56, .int 3] (st (sI S 56 7 ((S.1 56 7) + 1)) hs) [] 0 0 (0, 0) (fun v σ' c' m' => X (79, [some (.ref 56), some (.int 2), some (.int q1), none, none, none], v.toList ++ [], σ', c', m'))
      obtain ⟨q2, hq2, hr⟩ := bd_some hr
      refine kcall0 rfl (hk _ _ _ _ _ _ (e_X5_learnEither_d3_56 (d + 0) (sI S 56 7 ((S.1 56 7) + 1)) hs q2 hq2 _ ?_))
      show X (79, [some (.ref 56), some (.int 2), some (.int q1), none, none, none], [.int q2.1], st q2.2 hs, 0, 0)
      refine hX _ ?_
      clear hP hX hk P' X cal
      refine Wp.stepsG 1 (fun cal X P' hk hX hP => ?_)
      show (q2.1 = 0 → X (95, [some (.ref 56), some (.int 2), some (.int q1), none, none, none], [], st q2.2 hs, 0, 0)) ∧ (¬ q2.1 = 0 → X (82, [some (.ref 56), some (.int 2), some (.int q1), none, none, none], [], st q2.2 hs, 0, 0))
      refine ⟨fun hc => hX _ ?_, fun hc => hX _ ?_⟩
      · clear hP hX hk P' X cal
        rw [if_pos hc] at hr
        have hr := Option.some.inj hr
        subst hr
        refine Wp.stepsG 2 (fun cal X P' hk hX hP => ?_)
        exact ⟨Or.inl rfl, hP _ _ h⟩
      · clear hP hX hk P' X cal
        rw [if_neg hc] at hr
        refine Wp.stepsG 3 (fun cal X P' hk hX hP => ?_)
        show kcall cal ix_X5_goBy [.ref 56, .int 41] (st q2.2 hs) [] 0 0 (0, 0) (fun v σ' c' m' => X (88, [some (.ref 56), some (.int 2), some (.int q1), none, none, none], v.toList ++ [], σ', c', m'))
        obtain ⟨q3, hq3, hr⟩ := bd_some hr
        refine kcall0 rfl (hk _ _ _ _ _ _ (e_X5_goBy_56 (d + 6) q2.2 hs 41 q3 hq3 _ ?_))
        show X (88, [some (.ref 56), some (.int 2), some (.int q1), none, none, none], [.int q3.1], st q3.2 hs, 0, 0)
        refine hX _ ?_
        clear hP hX hk P' X cal
        refine Wp.stepsG 1 (fun cal X P' hk hX hP => ?_)
        show (q3.1 = 0 → X (95, [some (.ref 56), some (.int 2), some (.int q1), none, none, none], [], st q3.2 hs, 0, 0)) ∧ (¬ q3.1 = 0 → X (91, [some (.ref 56), some (.int 2), some (.int q1), none, none, none], [], st q3.2 hs, 0, 0))
        refine ⟨fun hc => hX _ ?_, fun hc => hX _ ?_⟩
        · clear hP hX hk P' X cal
          rw [if_pos hc] at hr
          have hr := Option.some.inj hr
          subst hr
          refine Wp.stepsG 2 (fun cal X P' hk hX hP => ?_)
          exact ⟨Or.inl rfl, hP _ _ h⟩
        · clear hP hX hk P' X cal
          rw [if_neg hc] at hr
          have hr := Option.some.inj hr
          subst hr
          refine Wp.stepsG 3 (fun cal X P' hk hX hP => ?_)
          exact ⟨Or.inr rfl, hP _ _ h⟩
    · clear hP hX hk P' X cal
      rw [if_pos hc] at hr
      refine Wp.stepsG 5 (fun cal X P' hk hX hP => ?_)
      show kcall cal ix_X5_learnPart [.ref 56, .int 3] (st (sI S 56 7 ((S.1 56 7) + 1)) hs) [] 0 0 (0, 0) (fun v σ' c' m' => X (51, [some (.ref 56), some (.int 2), some (.int q1), none, none, none], v.toList ++ [], σ', c', m'))
      obtain ⟨q4, hq4, hr⟩ := bd_some hr
      refine kcall0 rfl (hk _ _ _ _ _ _ (e_X5_learnPart_d3_56 (d + 2) (sI S 56 7 ((S.1 56 7) + 1)) hs q4 hq4 _ ?_))
      show X (51, [some (.ref 56), some (.int 2), some (.int q1), none, none, none], [.int q4.1], st q4.2 hs, 0, 0)
      refine hX _ ?_
      clear hP hX hk P' X cal
      refine Wp.stepsG 1 (fun cal X P' hk hX hP => ?_)
      show (q4.1 = 0 → X (68, [some (.ref 56), some (.int 2), some (.int q1), none, none, none], [], st q4.2 hs, 0, 0)) ∧ (¬ q4.1 = 0 → X (54, [some (.ref 56), some (.int 2), some (.int q1), none, none, none], [], st q4.2 hs, 0, 0))
      refine ⟨fun hc => hX _ ?_, fun hc => hX _ ?_⟩
      · clear hP hX hk P' X cal
        rw [if_pos hc] at hr
        have hr := Option.some.inj hr
        subst hr
        refine Wp.stepsG 3 (fun cal X P' hk hX hP => ?_)
        exact ⟨Or.inl rfl, hP _ _ h⟩
      · clear hP hX hk P' X cal
        rw [if_neg hc] at hr
        refine Wp.stepsG 4 (fun cal X P' hk hX hP => ?_)
        show kcall cal ix_X5_add [.ref 56, .int 18, .int 0] (st q4.2 hs) [] 0 0 (0, 0) (fun v σ' c' m' => X (61, [some (.ref 56), some (.int 2), some (.int q1), none, none, none], v.toList ++ [], σ', c', m'))
        obtain ⟨q5, hq5, hr⟩ := bd_some hr
        refine kcall0 rfl (hk _ _ _ _ _ _ (e_X5_add_56 (d + 7) q4.2 hs 18 0 q5 hq5 _ ?_))
        show X (61, [some (.ref 56), some (.int 2), some (.int q1), none, none, none], [.int q5.1], st q5.2 hs, 0, 0)
        refine hX _ ?_
        clear hP hX hk P' X cal
        refine Wp.stepsG 1 (fun cal X P' hk hX hP => ?_)
        show (q5.1 = 0 → X (68, [some (.ref 56), some (.int 2), some (.int q1), none, none, none], [], st q5.2 hs, 0, 0)) ∧ (¬ q5.1 = 0 → X (64, [some (.ref 56), some (.int 2), some (.int q1), none, none, none], [], st q5.2 hs, 0, 0))
        refine ⟨fun hc => hX _ ?_, fun hc => hX _ ?_⟩
        · clear hP hX hk P' X cal
          rw [if_pos hc] at hr
          have hr := Option.some.inj hr
          subst hr
          refine Wp.stepsG 3 (fun cal X P' hk hX hP => ?_)
          exact ⟨Or.inl rfl, hP _ _ h⟩
        · clear hP hX hk P' X cal
          rw [if_neg hc] at hr
          have hr := Option.some.inj hr
          subst hr
          refine Wp.stepsG 3 (fun cal X P' hk hX hP => ?_)
          exact ⟨Or.inr rfl, hP _ _ h⟩
  · clear hP hX hk P' X cal
    rw [if_neg hc] at hr
    refine Wp.stepsG 3 (fun cal X P' hk hX hP => ?_)
    show (¬ q1 = 40 → X (97, [some (.ref 56), some (.int 2), some (.int q1), none, none, none], [], st S hs, 0, 0)) ∧ (q1 = 40 → X (21, [some (.ref 56), some (.int 2), some (.int q1), none, none, none], [], st S hs, 0, 0))
    refine ⟨fun hc => hX _ ?_, fun hc => hX _ ?_⟩
    · clear hP hX hk P' X cal
      rw [if_neg hc] at hr
      refine Wp.stepsG 3 (fun cal X P' hk hX hP => ?_)
      show kcall cal ix_X5_goByOneOf [.ref 56, .ref 1] (st S hs) [] 0 0 (0, 0) (fun v σ' c' m' => X (103, [some (.ref 56), some (.int 2), some (.int q1), none, none, none], v.toList ++ [], σ', c', m'))
      obtain ⟨q6, hq6, hr⟩ := bd_some hr
      refine kcall0 rfl (hk _ _ _ _ _ _ (e_X5_goByOneOf_1_56 (d + 6) S hs q6 hq6 _ ?_))
      show X (103, [some (.ref 56), some (.int 2), some (.int q1), none, none, none], [.int q6.1], st q6.2 hs, 0, 0)
      refine hX _ ?_
      clear hP hX hk P' X cal
      refine Wp.stepsG 3 (fun cal X P' hk hX hP => ?_)
      show (0 ≤ q6.1 → X (112, [some (.ref 56), some (.int 2), some (.int q1), some (.int q6.1), none, none], [], st q6.2 hs, 0, 0)) ∧ (¬ 0 ≤ q6.1 → X (108, [some (.ref 56), some (.int 2), some (.int q1), some (.int q6.1), none, none], [], st q6.2 hs, 0, 0))
      refine ⟨fun hc => hX _ ?_, fun hc => hX _ ?_⟩
      · clear hP hX hk P' X cal
        rw [if_pos hc] at hr
        refine Wp.stepsG 3 (fun cal X P' hk hX hP => ?_)
        show kcall cal ix_X5_goByOneOf [.ref 56, .ref 2] (st q6.2 hs) [] 0 0 (0, 0) (fun v σ' c' m' => X (118, [some (.ref 56), some (.int 2), some (.int q1), some (.int q6.1), none, none], v.toList ++ [], σ', c', m'))
        obtain ⟨q7, hq7, hr⟩ := bd_some hr
        refine kcall0 rfl (hk _ _ _ _ _ _ (e_X5_goByOneOf_2_56 (d + 6) q6.2 hs q7 hq7 _ ?_))
        show X (118, [some (.ref 56), some (.int 2), some (.int q1), some (.int q6.1), none, none], [.int q7.1], st q7.2 hs, 0, 0)
        refine hX _ ?_
        clear hP hX hk P' X cal
        refine Wp.stepsG 3 (fun cal X P' hk hX hP => ?_)
        show (0 ≤ q7.1 → X (129, [some (.ref 56), some (.int 2), some (.int q1), some (.int q6.1), some (.int q7.1), none], [], st q7.2 hs, 0, 0)) ∧ (¬ 0 ≤ q7.1 → X (125, [some (.ref 56), some (.int 2), some (.int q1), some (.int q6.1), some (.int q7.1), none], [], st q7.2 hs, 0, 0))
        refine ⟨fun hc => hX _ ?_, fun hc => hX _ ?_⟩
        · clear hP hX hk P' X cal
          rw [if_pos hc] at hr
          refine Wp.stepsG 2 (fun cal X P' hk hX hP => ?_)
          show kcall cal ix_X5_goByNumber [.ref 56] (st q7.2 hs) [] 0 0 (0, 0) (fun v σ' c' m' => X (133, [some (.ref 56), some (.int 2), some (.int q1), some (.int q6.1), some (.int q7.1), none], v.toList ++ [], σ', c', m'))
          obtain ⟨q8, hq8, hr⟩ := bd_some hr
          refine kcall0 rfl (hk _ _ _ _ _ _ (e_X5_goByNumber_56 (d + 6) q7.2 hs q8 hq8 _ ?_))
          show X (133, [some (.ref 56), some (.int 2), some (.int q1), some (.int q6.1), some (.int q7.1), none], [.int q8.1], st q8.2 hs, 0, 0)
          refine hX _ ?_
          clear hP hX hk P' X cal
          refine Wp.stepsG 3 (fun cal X P' hk hX hP => ?_)
          show (q8.1 < 0 → X (159, [some (.ref 56), some (.int 2), some (.int q1), some (.int q6.1), some (.int q7.1), some (.int q8.1)], [], st q8.2 hs, 0, 0)) ∧ (¬ q8.1 < 0 → X (140, [some (.ref 56), some (.int 2), some (.int q1), some (.int q6.1), some (.int q7.1), some (.int q8.1)], [], st q8.2 hs, 0, 0))
          refine ⟨fun hc => hX _ ?_, fun hc => hX _ ?_⟩
          · clear hP hX hk P' X cal
            rw [if_pos hc] at hr
            have hr := Option.some.inj hr
            subst hr
            refine Wp.stepsG 2 (fun cal X P' hk hX hP => ?_)
            exact ⟨Or.inl rfl, hP _ _ h⟩
          · clear hP hX hk P' X cal
            rw [if_neg hc] at hr
            refine Wp.stepsG 8 (fun cal X P' hk hX hP => ?_)
            show kcall cal ix_X5_add [.ref 56, .int (((3 : Int32) * q6.1) + q7.1), .int q8.1] (st q8.2 hs) [] 0 0 (0, 0) (fun v σ' c' m' => X (152, [some (.ref 56), some (.int 2), some (.int q1), some (.int q6.1), some (.int q7.1), some (.int q8.1)], v.toList ++ [], σ', c', m'))
            obtain ⟨q9, hq9, hr⟩ := bd_some hr
            refine kcall0 rfl (hk _ _ _ _ _ _ (e_X5_add_56 (d + 7) q8.2 hs (((3 : Int32) * q6.1) + q7.1) q8.1 q9 hq9 _ ?_))
            show X (152, [some (.ref 56), some (.int 2), some (.int q1), some (.int q6.1), some (.int q7.1), some (.int q8.1)], [.int q9.1], st q9.2 hs, 0, 0)
            refine hX _ ?_
            clear hP hX hk P' X cal
            refine Wp.stepsG 1 (fun cal X P' hk hX hP => ?_)
            show (q9.1 = 0 → X (159, [some (.ref 56), some (.int 2), some (.int q1), some (.int q6.1), some (.int q7.1), some (.int q8.1)], [], st q9.2 hs, 0, 0)) ∧ (¬ q9.1 = 0 → X (155, [some (.ref 56), some (.int 2), some (.int q1), some (.int q6.1), some (.int q7.1), some (.int q8.1)], [], st q9.2 hs, 0, 0))
            refine ⟨fun hc => hX _ ?_, fun hc => hX _ ?_⟩
            · clear hP hX hk P' X cal
              rw [if_pos hc] at hr
              have hr := Option.some.inj hr
              subst hr
              refine Wp.stepsG 2 (fun cal X P' hk hX hP => ?_)
              exact ⟨Or.inl rfl, hP _ _ h⟩
            · clear hP hX hk P' X cal
              rw [if_neg hc] at hr
              have hr := Option.some.inj hr
              subst hr
              refine Wp.stepsG 3 (fun cal X P' hk hX hP => ?_)
              exact ⟨Or.inr rfl, hP _ _ h⟩
        · clear hP hX hk P' X cal
          rw [if_neg hc] at hr
          refine Wp.stepsG 5 (fun cal X P' hk hX hP => ?_)
          show (((-1) : Int32) < 0 → X (159, [some (.ref 56), some (.int 2), some (.int q1), some (.int q6.1), some (.int q7.1), some (.int (-1))], [], st q7.2 hs, 0, 0)) ∧ (¬ ((-1) : Int32) < 0 → X (140, [some (.ref 56), some (.int 2), some (.int q1), some (.int q6.1), some (.int q7.1), some (.int (-1))], [], st q7.2 hs, 0, 0))
          refine ⟨fun _ => hX _ ?_, fun hc => absurd hc (by decide)⟩
          clear hP hX hk P' X cal
          have hr := Option.some.inj hr
          subst hr
          refine Wp.stepsG 2 (fun cal X P' hk hX hP => ?_)
          exact ⟨Or.inl rfl, hP _ _ h⟩
      · clear hP hX hk P' X cal
        rw [if_neg hc] at hr
        refine Wp.stepsG 5 (fun cal X P' hk hX hP => ?_)
        show (0 ≤ ((-1) : Int32) → X (129, [some (.ref 56), some (.int 2), some (.int q1), some (.int q6.1), some (.int (-1)), none], [], st q6.2 hs, 0, 0)) ∧ (¬ 0 ≤ ((-1) : Int32) → X (125, [some (.ref 56), some (.int 2), some (.int q1), some (.int q6.1), some (.int (-1)), none], [], st q6.2 hs, 0, 0))
        refine ⟨fun hc => absurd hc (by decide), fun _ => hX _ ?_⟩
        clear hP hX hk P' X cal
        refine Wp.stepsG 5 (fun cal X P' hk hX hP => ?_)
        show (((-1) : Int32) < 0 → X (159, [some (.ref 56), some (.int 2), some (.int q1), some (.int q6.1), some (.int (-1)), some (.int (-1))], [], st q6.2 hs, 0, 0)) ∧ (¬ ((-1) : Int32) < 0 → X (140, [some (.ref 56), some (.int 2), some (.int q1), some (.int q6.1), some (.int (-1)), some (.int (-1))], [], st q6.2 hs, 0, 0))
        refine ⟨fun _ => hX _ ?_, fun hc => absurd hc (by decide)⟩
        clear hP hX hk P' X cal
        have hr := Option.some.inj hr
        subst hr
        refine Wp.stepsG 2 (fun cal X P' hk hX hP => ?_)
        exact ⟨Or.inl rfl, hP _ _ h⟩
    · clear hP hX hk P' X cal
      rw [if_pos hc] at hr
      refine Wp.stepsG 3 (fun cal X P' hk hX hP => ?_)
      show ((2 : Int32) < 4 → X (28, [some (.ref 56), some (.int 2), some (.int q1), none, none, none], [], st S hs, 0, 0)) ∧ (¬ (2 : Int32) < 4 → X (26, [some (.ref 56), some (.int 2), some (.int q1), none, none, none], [], st S hs, 0, 0))
      refine ⟨fun _ => hX _ ?_, fun hc => absurd hc (by decide)⟩
      clear hP hX hk P' X cal
      refine Wp.stepsG 9 (fun cal X P' hk hX hP => ?_)
      show (¬ q1 = 33 → X (72, [some (.ref 56), some (.int 2), some (.int q1), none, none, none], [], st (sI S 56 7 ((S.1 56 7) + 1)) hs, 0, 0)) ∧ (q1 = 33 → X (44, [some (.ref 56), some (.int 2), some (.int q1), none, none, none], [], st (sI S 56 7 ((S.1 56 7) + 1)) hs, 0, 0))
      refine ⟨fun hc => hX _ ?_, fun hc => hX _ ?_⟩
      · clear hP hX hk P' X cal
        rw [if_neg hc] at hr
        refine Wp.stepsG 5 (fun cal X P' hk hX hP => ?_)
        show kcall cal ix_X5_learnEither [.ref 56, .int 3] (st (sI S 56 7 ((S.1 56 7) + 1)) hs) [] 0 0 (0, 0) (fun v σ' c' m' => X (79, [some (.ref 56), some (.int 2), some (.int q1), none, none, none], v.toList ++ [], σ', c', m'))
        obtain ⟨q10, hq10, hr⟩ := bd_some hr
        refine kcall0 rfl (hk _ _ _ _ _ _ (e_X5_learnEither_d3_56 (d + 0) (sI S 56 7 ((S.1 56 7) + 1)) hs q10 hq10 _ ?_))
        show X (79, [some (.ref 56), some (.int 2), some (.int q1), none, none, none], [.int q10.1], st q10.2 hs, 0, 0)
        refine hX _ ?_
        clear hP hX hk P' X cal
        refine Wp.stepsG 1 (fun cal X P' hk hX hP => ?_)
        show (q10.1 = 0 → X (95, [some (.ref 56), some (.int 2), some (.int q1), none, none, none], [], st q10.2 hs, 0, 0)) ∧ (¬ q10.1 = 0 → X (82, [some (.ref 56), some (.int 2), some (.int q1), none, none, none], [], st q10.2 hs, 0, 0))
        refine ⟨fun hc => hX _ ?_, fun hc => hX _ ?_⟩
        · clear hP hX hk P' X cal
          rw [if_pos hc] at hr
          have hr := Option.some.inj hr
          subst hr
          refine Wp.stepsG 2 (fun cal X P' hk hX hP => ?_)
          exact ⟨Or.inl rfl, hP _ _ h⟩
        · clear hP hX hk P' X cal
          rw [if_neg hc] at hr
          refine Wp.stepsG 3 (fun cal X P' hk hX hP => ?_)
          show kcall cal ix_X5_goBy [.ref 56, .int 41] (st q10.2 hs) [] 0 0 (0, 0) (fun v σ' c' m' => X (88, [some (.ref 56), some (.int 2), some (.int q1), none, none, none], v.toList ++ [], σ', c', m'))
          obtain ⟨q11, hq11, hr⟩ := bd_some hr
          refine kcall0 rfl (hk _ _ _ _ _ _ (e_X5_goBy_56 (d + 6) q10.2 hs 41 q11 hq11 _ ?_))
          show X (88, [some (.ref 56), some (.int 2), some (.int q1), none, none, none], [.int q11.1], st q11.2 hs, 0, 0)
          refine hX _ ?_
          clear hP hX hk P' X cal
          refine Wp.stepsG 1 (fun cal X P' hk hX hP => ?_)
          show (q11.1 = 0 → X (95, [some (.ref 56), some (.int 2), some (.int q1), none, none, none], [], st q11.2 hs, 0, 0)) ∧ (¬ q11.1 = 0 → X (91, [some (.ref 56), some (.int 2), some (.int q1), none, none, none], [], st q11.2 hs, 0, 0))
          refine ⟨fun hc => hX _ ?_, fun hc => hX _ ?_⟩
          · clear hP hX hk P' X cal
            rw [if_pos hc] at hr
            have hr := Option.some.inj hr
            subst hr
            refine Wp.stepsG 2 (fun cal X P' hk hX hP => ?_)
            exact ⟨Or.inl rfl, hP _ _ h⟩
          · clear hP hX hk P' X cal
            rw [if_neg hc] at hr
            have hr := Option.some.inj hr
            subst hr
            refine Wp.stepsG 3 (fun cal X P' hk hX hP => ?_)
            exact ⟨Or.inr rfl, hP _ _ h⟩
      · clear hP hX hk P' X cal
        rw [if_pos hc] at hr
        refine Wp.stepsG 5 (fun cal X P' hk hX hP => ?_)
        show kcall cal ix_X5_learnPart [.ref 56, .int 3] (st (sI S 56 7 ((S.1 56 7) + 1)) hs) [] 0 0 (0, 0) (fun v σ' c' m' => X (51, [some (.ref 56), some (.int 2), some (.int q1), none, none, none], v.toList ++ [], σ', c', m'))
        obtain ⟨q12, hq12, hr⟩ := bd_some hr
        refine kcall0 rfl (hk _ _ _ _ _ _ (e_X5_learnPart_d3_56 (d + 2) (sI S 56 7 ((S.1 56 7) + 1)) hs q12 hq12 _ ?_))
        show X (51, [some (.ref 56), some (.int 2), some (.int q1), none, none, none], [.int q12.1], st q12.2 hs, 0, 0)
        refine hX _ ?_
        clear hP hX hk P' X cal
        refine Wp.stepsG 1 (fun cal X P' hk hX hP => ?_)
        show (q12.1 = 0 → X (68, [some (.ref 56), some (.int 2), some (.int q1), none, none, none], [], st q12.2 hs, 0, 0)) ∧ (¬ q12.1 = 0 → X (54, [some (.ref 56), some (.int 2), some (.int q1), none, none, none], [], st q12.2 hs, 0, 0))
        refine ⟨fun hc => hX _ ?_, fun hc => hX _ ?_⟩
        · clear hP hX hk P' X cal
          rw [if_pos hc] at hr
          have hr := Option.some.inj hr
          subst hr
          refine Wp.stepsG 3 (fun cal X P' hk hX hP => ?_)
          exact ⟨Or.inl rfl, hP _ _ h⟩
        · clear hP hX hk P' X cal
          rw [if_neg hc] at hr
          refine Wp.stepsG 4 (fun cal X P' hk hX hP => ?_)
          show kcall cal ix_X5_add [.ref 56, .int 18, .int 0] (st q12.2 hs) [] 0 0 (0, 0) (fun v σ' c' m' => X (61, [some (.ref 56), some (.int 2), some (.int q1), none, none, none], v.toList ++ [], σ', c', m'))
          obtain ⟨q13, hq13, hr⟩ := bd_some hr
          refine kcall0 rfl (hk _ _ _ _ _ _ (e_X5_add_56 (d + 7) q12.2 hs 18 0 q13 hq13 _ ?_))
          show X (61, [some (.ref 56), some (.int 2), some (.int q1), none, none, none], [.int q13.1], st q13.2 hs, 0, 0)
          refine hX _ ?_
          clear hP hX hk P' X cal
          refine Wp.stepsG 1 (fun cal X P' hk hX hP => ?_)
          show (q13.1 = 0 → X (68, [some (.ref 56), some (.int 2), some (.int q1), none, none, none], [], st q13.2 hs, 0, 0)) ∧ (¬ q13.1 = 0 → X (64, [some (.ref 56), some (.int 2), some (.int q1), none, none, none], [], st q13.2 hs, 0, 0))
          refine ⟨fun hc => hX _ ?_, fun hc => hX _ ?_⟩
          · clear hP hX hk P' X cal
            rw [if_pos hc] at hr
            have hr := Option.some.inj hr
            subst hr
            refine Wp.stepsG 3 (fun cal X P' hk hX hP => ?_)
            exact ⟨Or.inl rfl, hP _ _ h⟩
          · clear hP hX hk P' X cal
            rw [if_neg hc] at hr
            have hr := Option.some.inj hr
            subst hr
            refine Wp.stepsG 3 (fun cal X P' hk hX hP => ?_)
            exact ⟨Or.inr rfl, hP _ _ h⟩
set_option maxRecDepth 20000 in
set_option maxHeartbeats 4000000 in
theorem e_lp_X5_learnBoth_d2_8_56 (d : Nat) (hs : List Hr) (P : Option Value → Hp → Prop) : ∀ (n : Nat) (v2 : Int32) (v3 : Int32) (S : St) (q : Int32 × St), lp_X5_learnBoth_d2_8 56 n v2 v3 S = some q → (WM mi_X5_learnBoth (d + 9) P 57 [some (.ref 56), some (.int 2), some (.int q.1), none] [] (st q.2 hs)) → WM mi_X5_learnBoth (d + 9) P 8 [some (.ref 56), some (.int 2), some (.int v2), some (.int v3)] [] (st S hs) := by
  intro n
  induction n with
  | zero =>
    intro v2 v3 S q hl
    cases hl
  | succ n ih =>
    intro v2 v3 S q hl ct
    rw [lp_X5_learnBoth_d2_8] at hl
    refine Wp.stepsG 3 (fun cal X P' hk hX hP => ?_)
    show (100 ≤ v3 → X (57, [some (.ref 56), some (.int 2), some (.int v2), some (.int v3)], [], st S hs, 0, 0)) ∧ (¬ 100 ≤ v3 → X (14, [some (.ref 56), some (.int 2), some (.int v2), some (.int v3)], [], st S hs, 0, 0))
    refine ⟨fun hc => hX _ ?_, fun hc => hX _ ?_⟩
    · clear hP hX hk P' X cal
      rw [if_pos hc] at hl
      have hl := Option.some.inj hl
      subst hl
      exact Wp.weak (leL.k (leL.k (leL.k (leL.n leL.z)))) (ct)
    · clear hP hX hk P' X cal
      rw [if_neg hc] at hl
      refine Wp.stepsG 2 (fun cal X P' hk hX hP => ?_)
      show (v2 = 0 → X (57, [some (.ref 56), some (.int 2), some (.int v2), some (.int v3)], [], st S hs, 0, 0)) ∧ (¬ v2 = 0 → X (18, [some (.ref 56), some (.int 2), some (.int v2), some (.int v3)], [], st S hs, 0, 0))
      refine ⟨fun hc => hX _ ?_, fun hc => hX _ ?_⟩
      · clear hP hX hk P' X cal
        rw [if_pos hc] at hl
        have hl := Option.some.inj hl
        subst hl
        exact Wp.weak (leL.k (leL.k (leL.k (leL.n leL.z)))) (ct)
      · clear hP hX hk P' X cal
        rw [if_neg hc] at hl
        refine Wp.stepsG 3 (fun cal X P' hk hX hP => ?_)
        show kcall cal ix_X5_goBy [.ref 56, .int 38] (st S hs) [] 0 0 (0, 0) (fun v σ' c' m' => X (24, [some (.ref 56), some (.int 2), some (.int v2), some (.int v3)], v.toList ++ [], σ', c', m'))
        obtain ⟨q2, hq2, hl⟩ := bd_some hl
        refine kcall0 rfl (hk _ _ _ _ _ _ (e_X5_goBy_56 (d + 7) S hs 38 q2 hq2 _ ?_))
        show X (24, [some (.ref 56), some (.int 2), some (.int v2), some (.int v3)], [.int q2.1], st q2.2 hs, 0, 0)
        refine hX _ ?_
        clear hP hX hk P' X cal
        refine Wp.stepsG 1 (fun cal X P' hk hX hP => ?_)
        show (q2.1 = 0 → X (57, [some (.ref 56), some (.int 2), some (.int v2), some (.int v3)], [], st q2.2 hs, 0, 0)) ∧ (¬ q2.1 = 0 → X (27, [some (.ref 56), some (.int 2), some (.int v2), some (.int v3)], [], st q2.2 hs, 0, 0))
        refine ⟨fun hc => hX _ ?_, fun hc => hX _ ?_⟩
        · clear hP hX hk P' X cal
          rw [if_pos hc] at hl
          have hl := Option.some.inj hl
          subst hl
          exact Wp.weak (leL.k (leL.k (leL.k (leL.n leL.z)))) (ct)
        · clear hP hX hk P' X cal
          rw [if_neg hc] at hl
          refine Wp.stepsG 3 (fun cal X P' hk hX hP => ?_)
          show kcall cal ix_X5_learnPart [.ref 56, .int 2] (st q2.2 hs) [] 0 0 (0, 0) (fun v σ' c' m' => X (32, [some (.ref 56), some (.int 2), some (.int v2), some (.int v3)], v.toList ++ [], σ', c', m'))
          obtain ⟨q3, hq3, hl⟩ := bd_some hl
          refine kcall0 rfl (hk _ _ _ _ _ _ (e_X5_learnPart_d2_56 (d + 0) q2.2 hs q3 hq3 _ ?_))
          show X (32, [some (.ref 56), some (.int 2), some (.int v2), some (.int v3)], [.int q3.1], st q3.2 hs, 0, 0)
          refine hX _ ?_
          clear hP hX hk P' X cal
          refine Wp.stepsG 1 (fun cal X P' hk hX hP => ?_)
          show (q3.1 = 0 → X (49, [some (.ref 56), some (.int 2), some (.int v2), some (.int v3)], [], st q3.2 hs, 0, 0)) ∧ (¬ q3.1 = 0 → X (35, [some (.ref 56), some (.int 2), some (.int v2), some (.int v3)], [], st q3.2 hs, 0, 0))
          refine ⟨fun hc => hX _ ?_, fun hc => hX _ ?_⟩
          · clear hP hX hk P' X cal
            rw [if_pos hc] at hl
            refine Wp.stepsG 4 (fun cal X P' hk hX hP => ?_)
            show X (8, [some (.ref 56), some (.int 2), some (.int 0), some (.int (v3 + 1))], [], st q3.2 hs, 0, 0)
            refine hX _ ?_
            exact (ih 0 (v3 + 1) q3.2 q hl ct)
          · clear hP hX hk P' X cal
            rw [if_neg hc] at hl
            refine Wp.stepsG 4 (fun cal X P' hk hX hP => ?_)
            show kcall cal ix_X5_add [.ref 56, .int 19, .int 0] (st q3.2 hs) [] 0 0 (0, 0) (fun v σ' c' m' => X (42, [some (.ref 56), some (.int 2), some (.int v2), some (.int v3)], v.toList ++ [], σ', c', m'))
            obtain ⟨q4, hq4, hl⟩ := bd_some hl
            refine kcall0 rfl (hk _ _ _ _ _ _ (e_X5_add_56 (d + 8) q3.2 hs 19 0 q4 hq4 _ ?_))
            show X (42, [some (.ref 56), some (.int 2), some (.int v2), some (.int v3)], [.int q4.1], st q4.2 hs, 0, 0)
            refine hX _ ?_
            clear hP hX hk P' X cal
            refine Wp.stepsG 1 (fun cal X P' hk hX hP => ?_)
            show (q4.1 = 0 → X (49, [some (.ref 56), some (.int 2), some (.int v2), some (.int v3)], [], st q4.2 hs, 0, 0)) ∧ (¬ q4.1 = 0 → X (45, [some (.ref 56), some (.int 2), some (.int v2), some (.int v3)], [], st q4.2 hs, 0, 0))
            refine ⟨fun hc => hX _ ?_, fun hc => hX _ ?_⟩
            · clear hP hX hk P' X cal
              rw [if_pos hc] at hl
              refine Wp.stepsG 4 (fun cal X P' hk hX hP => ?_)
              show X (8, [some (.ref 56), some (.int 2), some (.int 0), some (.int (v3 + 1))], [], st q4.2 hs, 0, 0)
              refine hX _ ?_
              exact (ih 0 (v3 + 1) q4.2 q hl ct)
            · clear hP hX hk P' X cal
              rw [if_neg hc] at hl
              refine Wp.stepsG 5 (fun cal X P' hk hX hP => ?_)
              show X (8, [some (.ref 56), some (.int 2), some (.int 1), some (.int (v3 + 1))], [], st q4.2 hs, 0, 0)
              refine hX _ ?_
              exact (ih 1 (v3 + 1) q4.2 q hl ct)
set_option maxRecDepth 20000 in
set_option maxHeartbeats 4000000 in
theorem e_X5_learnBoth_d2_56 (d : Nat) (S : St) (hs : List Hr) (v : Int32 × St) (hr : r_X5_learnBoth_d2 S 56 = some v) (P : Option Value → Hp → Prop) (h : P (some (.int v.1)) (st v.2 hs)) : Ev (d + 10) ix_X5_learnBoth 0 0 [.ref 56, .int 2] (st S hs) P := by
  refine Ev.intro (M := mi_X5_learnBoth) rfl (Nat.le_of_ble_eq_true rfl) ?_
  unfold r_X5_learnBoth_d2 at hr
  refine Wp.stepsG 3 (fun cal X P' hk hX hP => ?_)
  show kcall cal ix_X5_learnPart [.ref 56, .int 2] (st S hs) [] 0 0 (0, 0) (fun v σ' c' m' => X (5, [some (.ref 56), some (.int 2), none, none], v.toList ++ [], σ', c', m'))
  obtain ⟨q1, hq1, hr⟩ := bd_some hr
  refine kcall0 rfl (hk _ _ _ _ _ _ (e_X5_learnPart_d2_56 (d + 0) S hs q1 hq1 _ ?_))
  show X (5, [some (.ref 56), some (.int 2), none, none], [.int q1.1], st q1.2 hs, 0, 0)
  refine hX _ ?_
  clear hP hX hk P' X cal
  refine Wp.stepsG 3 (fun cal X P' hk hX hP => ?_)
  show X (8, [some (.ref 56), some (.int 2), some (.int q1.1), some (.int 0)], [], st q1.2 hs, 0, 0)
  refine hX _ ?_
  clear hP hX hk P' X cal
  obtain ⟨q5, hq5, hr⟩ := bd_some hr
  refine (e_lp_X5_learnBoth_d2_8_56 d hs P _ q1.1 0 q1.2 q5 hq5 ?_)
  obtain ⟨hb, hr⟩ := gd_some hr
  have hr := Option.some.inj hr
  subst hr
  refine Wp.stepsG 2 (fun cal X P' hk hX hP => ?_)
  exact ⟨hb, hP _ _ h⟩
set_option maxRecDepth 20000 in
set_option maxHeartbeats 4000000 in
theorem e_lp_X5_learnEither_d2_8_56 (d : Nat) (hs : List Hr) (P : Option Value → Hp → Prop) : ∀ (n : Nat) (v2 : Int32) (v3 : Int32) (S : St) (q : Int32 × St), lp_X5_learnEither_d2_8 56 n v2 v3 S = some q → (WM mi_X5_learnEither (d + 10) P 57 [some (.ref 56), some (.int 2), some (.int q.1), none] [] (st q.2 hs)) → WM mi_X5_learnEither (d + 10) P 8 [some (.ref 56), some (.int 2), some (.int v2), some (.int v3)] [] (st S hs) := by
  intro n
  induction n with
  | zero =>
    intro v2 v3 S q hl
    cases hl
  | succ n ih =>
    intro v2 v3 S q hl ct
    rw [lp_X5_learnEither_d2_8] at hl
    refine Wp.stepsG 3 (fun cal X P' hk hX hP => ?_)
    show (100 ≤ v3 → X (57, [some (.ref 56), some (.int 2), some (.int v2), some (.int v3)], [], st S hs, 0, 0)) ∧ (¬ 100 ≤ v3 → X (14, [some (.ref 56), some (.int 2), some (.int v2), some (.int v3)], [], st S hs, 0, 0))
    refine ⟨fun hc => hX _ ?_, fun hc => hX _ ?_⟩
    · clear hP hX hk P' X cal
      rw [if_pos hc] at hl
      have hl := Option.some.inj hl
      subst hl
      exact Wp.weak (leL.k (leL.k (leL.k (leL.n leL.z)))) (ct)
    · clear hP hX hk P' X cal
      rw [if_neg hc] at hl
      refine Wp.stepsG 2 (fun cal X P' hk hX hP => ?_)
      show (v2 = 0 → X (57, [some (.ref 56), some (.int 2), some (.int v2), some (.int v3)], [], st S hs, 0, 0)) ∧ (¬ v2 = 0 → X (18, [some (.ref 56), some (.int 2), some (.int v2), some (.int v3)], [], st S hs, 0, 0))
      refine ⟨fun hc => hX _ ?_, fun hc => hX _ ?_⟩
      · clear hP hX hk P' X cal
        rw [if_pos hc] at hl
        have hl := Option.some.inj hl
        subst hl
        exact Wp.weak (leL.k (leL.k (leL.k (leL.n leL.z)))) (ct)
      · clear hP hX hk P' X cal
        rw [if_neg hc] at hl
        refine Wp.stepsG 3 (fun cal X P' hk hX hP => ?_)
        show kcall cal ix_X5_goBy [.ref 56, .int 124] (st S hs) [] 0 0 (0, 0) (fun v σ' c' m' => X (24, [some (.ref 56), some (.int 2), some (.int v2), some (.int v3)], v.toList ++ [], σ', c', m'))
        obtain ⟨q2, hq2, hl⟩ := bd_some hl
        refine kcall0 rfl (hk _ _ _ _ _ _ (e_X5_goBy_56 (d + 8) S hs 124 q2 hq2 _ ?_))
        show X (24, [some (.ref 56), some (.int 2), some (.int v2), some (.int v3)], [.int q2.1], st q2.2 hs, 0, 0)
        refine hX _ ?_
        clear hP hX hk P' X cal
        refine Wp.stepsG 1 (fun cal X P' hk hX hP => ?_)
        show (q2.1 = 0 → X (57, [some (.ref 56), some (.int 2), some (.int v2), some (.int v3)], [], st q2.2 hs, 0, 0)) ∧ (¬ q2.1 = 0 → X (27, [some (.ref 56), some (.int 2), some (.int v2), some (.int v3)], [], st q2.2 hs, 0, 0))
        refine ⟨fun hc => hX _ ?_, fun hc => hX _ ?_⟩
        · clear hP hX hk P' X cal
          rw [if_pos hc] at hl
          have hl := Option.some.inj hl
          subst hl
          exact Wp.weak (leL.k (leL.k (leL.k (leL.n leL.z)))) (ct)
        · clear hP hX hk P' X cal
          rw [if_neg hc] at hl
          refine Wp.stepsG 3 (fun cal X P' hk hX hP => ?_)
          show kcall cal ix_X5_learnBoth [.ref 56, .int 2] (st q2.2 hs) [] 0 0 (0, 0) (fun v σ' c' m' => X (32, [some (.ref 56), some (.int 2), some (.int v2), some (.int v3)], v.toList ++ [], σ', c', m'))
          obtain ⟨q3, hq3, hl⟩ := bd_some hl
          refine kcall0 rfl (hk _ _ _ _ _ _ (e_X5_learnBoth_d2_56 (d + 0) q2.2 hs q3 hq3 _ ?_))
          show X (32, [some (.ref 56), some (.int 2), some (.int v2), some (.int v3)], [.int q3.1], st q3.2 hs, 0, 0)
          refine hX _ ?_
          clear hP hX hk P' X cal
          refine Wp.stepsG 1 (fun cal X P' hk hX hP => ?_)
          show (q3.1 = 0 → X (49, [some (.ref 56), some (.int 2), some (.int v2), some (.int v3)], [], st q3.2 hs, 0, 0)) ∧ (¬ q3.1 = 0 → X (35, [some (.ref 56), some (.int 2), some (.int v2), some (.int v3)], [], st q3.2 hs, 0, 0))
          refine ⟨fun hc => hX _ ?_, fun hc => hX _ ?_⟩
          · clear hP hX hk P' X cal
            rw [if_pos hc] at hl
            refine Wp.stepsG 4 (fun cal X P' hk hX hP => ?_)
            show X (8, [some (.ref 56), some (.int 2), some (.int 0), some (.int (v3 + 1))], [], st q3.2 hs, 0, 0)
            refine hX _ ?_
            exact (ih 0 (v3 + 1) q3.2 q hl ct)
          · clear hP hX hk P' X cal
            rw [if_neg hc] at hl
            refine Wp.stepsG 4 (fun cal X P' hk hX hP => ?_)
            show kcall cal ix_X5_add [.ref 56, .int 20, .int 0] (st q3.2 hs) [] 0 0 (0, 0) (fun v σ' c' m' => X (42, [some (.ref 56), some (.int 2), some (.int v2), some (.int v3)], v.toList ++ [], σ', c', m'))
            obtain ⟨q4, hq4, hl⟩ := bd_some hl
            refine kcall0 rfl (hk _ _ _ _ _ _ (e_X5_add_56 (d + 9) q3.2 hs 20 0 q4 hq4 _ ?_))
            show X (42, [some (.ref 56), some (.int 2), some (.int v2), some (.int v3)], [.int q4.1], st q4.2 hs, 0, 0)
            refine hX _ ?_
            clear hP hX hk P' X cal
            refine Wp.stepsG 1 (fun cal X P' hk hX hP => ?_)
            show (q4.1 = 0 → X (49, [some (.ref 56), some (.int 2), some (.int v2), some (.int v3)], [], st q4.2 hs, 0, 0)) ∧ (¬ q4.1 = 0 → X (45, [some (.ref 56), some (.int 2), some (.int v2), some (.int v3)], [], st q4.2 hs, 0, 0))
            refine ⟨fun hc => hX _ ?_, fun hc => hX _ ?_⟩
            · clear hP hX hk P' X cal
              rw [if_pos hc] at hl
              refine Wp.stepsG 4 (fun cal X P' hk hX hP => ?_)
              show X (8, [some (.ref 56), some (.int 2), some (.int 0), some (.int (v3 + 1))], [], st q4.2 hs, 0, 0)
              refine hX _ ?_
              exact (ih 0 (v3 + 1) q4.2 q hl ct)
            · clear hP hX hk P' X cal
              rw [if_neg hc] at hl
              refine Wp.stepsG 5 (fun cal X P' hk hX hP => ?_)
              show X (8, [some (.ref 56), some (.int 2), some (.int 1), some (.int (v3 + 1))], [], st q4.2 hs, 0, 0)
              refine hX _ ?_
              exact (ih 1 (v3 + 1) q4.2 q hl ct)
set_option maxRecDepth 20000 in
set_option maxHeartbeats 4000000 in
theorem e_X5_learnEither_d2_56 (d : Nat) (S : St) (hs : List Hr) (v : Int32 × St) (hr : r_X5_learnEither_d2 S 56 = some v) (P : Option Value → Hp → Prop) (h : P (some (.int v.1)) (st v.2 hs)) : Ev (d + 11) ix_X5_learnEither 0 0 [.ref 56, .int 2] (st S hs) P := by
  refine Ev.intro (M := mi_X5_learnEither) rfl (Nat.le_of_ble_eq_true rfl) ?_
  unfold r_X5_learnEither_d2 at hr
  refine Wp.stepsG 3 (fun cal X P' hk hX hP => ?_)
  show kcall cal ix_X5_learnBoth [.ref 56, .int 2] (st S hs) [] 0 0 (0, 0) (fun v σ' c' m' => X (5, [some (.ref 56), some (.int 2), none, none], v.toList ++ [], σ', c', m'))
  obtain ⟨q1, hq1, hr⟩ := bd_some hr
  refine kcall0 rfl (hk _ _ _ _ _ _ (e_X5_learnBoth_d2_56 (d + 0) S hs q1 hq1 _ ?_))
  show X (5, [some (.ref 56), some (.int 2), none, none], [.int q1.1], st q1.2 hs, 0, 0)
  refine hX _ ?_
  clear hP hX hk P' X cal
  refine Wp.stepsG 3 (fun cal X P' hk hX hP => ?_)
  show X (8, [some (.ref 56), some (.int 2), some (.int q1.1), some (.int 0)], [], st q1.2 hs, 0, 0)
  refine hX _ ?_
  clear hP hX hk P' X cal
  obtain ⟨q5, hq5, hr⟩ := bd_some hr
  refine (e_lp_X5_learnEither_d2_8_56 d hs P _ q1.1 0 q1.2 q5 hq5 ?_)
  obtain ⟨hb, hr⟩ := gd_some hr
  have hr := Option.some.inj hr
  subst hr
  refine Wp.stepsG 2 (fun cal X P' hk hX hP => ?_)
  exact ⟨hb, hP _ _ h⟩
set_option maxRecDepth 20000 in
set_option maxHeartbeats 4000000 in
theorem e_X5_learnPart_d1_56 (d : Nat) (S : St) (hs : List Hr) (v : Int32 × St) (hr : r_X5_learnPart_d1 S 56 = some v) (P : Option Value → Hp → Prop) (h : P (some (.int v.1)) (st v.2 hs)) : Ev (d + 12) ix_X5_learnPart 0 0 [.ref 56, .int 1] (st S hs) P := by
  refine Ev.intro (M := mi_X5_learnPart) rfl (Nat.le_of_ble_eq_true rfl) ?_
  unfold r_X5_learnPart_d1 at hr
  refine Wp.stepsG 4 (fun cal X P' hk hX hP => ?_)
  show kcall cal ix_X5_signAt [.ref 56, .int (S.1 56 7)] (st S hs) [] 0 0 (0, 0) (fun v σ' c' m' => X (8, [some (.ref 56), some (.int 1), none, none, none, none], v.toList ++ [], σ', c', m'))
  obtain ⟨q1, hq1, hr⟩ := bd_some hr
  refine kcall0 rfl (hk _ _ _ _ _ _ (e_X5_signAt_56 (d + 10) S hs (S.1 56 7) q1 hq1 _ ?_))
  show X (8, [some (.ref 56), some (.int 1), none, none, none, none], [.int q1], st S hs, 0, 0)
  refine hX _ ?_
  clear hP hX hk P' X cal
  refine Wp.stepsG 4 (fun cal X P' hk hX hP => ?_)
  show (q1 = 33 → X (21, [some (.ref 56), some (.int 1), some (.int q1), none, none, none], [], st S hs, 0, 0)) ∧ (¬ q1 = 33 → X (15, [some (.ref 56), some (.int 1), some (.int q1), none, none, none], [], st S hs, 0, 0))
  refine ⟨fun hc => hX _ ?_, fun hc => hX _ ?_⟩
  · clear hP hX hk P' X cal
    rw [if_pos hc] at hr
    refine Wp.stepsG 3 (fun cal X P' hk hX hP => ?_)
    show ((1 : Int32) < 4 → X (28, [some (.ref 56), some (.int 1), some (.int q1), none, none, none], [], st S hs, 0, 0)) ∧ (¬ (1 : Int32) < 4 → X (26, [some (.ref 56), some (.int 1), some (.int q1), none, none, none], [], st S hs, 0, 0))
    refine ⟨fun _ => hX _ ?_, fun hc => absurd hc (by decide)⟩
    clear hP hX hk P' X cal
    refine Wp.stepsG 9 (fun cal X P' hk hX hP => ?_)
    show (¬ q1 = 33 → X (72, [some (.ref 56), some (.int 1), some (.int q1), none, none, none], [], st (sI S 56 7 ((S.1 56 7) + 1)) hs, 0, 0)) ∧ (q1 = 33 → X (44, [some (.ref 56), some (.int 1), some (.int q1), none, none, none], [], st (sI S 56 7 ((S.1 56 7) + 1)) hs, 0, 0))
    refine ⟨fun hc => hX _ ?_, fun hc => hX _ ?_⟩
    · clear hP hX hk P' X cal
      rw [if_neg hc] at hr
      refine Wp.stepsG 5 (fun cal X P' hk hX hP => ?_)
      show kcall cal ix_X5_learnEither [.ref 56, .int 2] (st (sI S 56 7 ((S.1 56 7) + 1)) hs) [] 0 0 (0, 0) (fun v σ' c' m' => X (79, [some (.ref 56), some (.int 1), some (.int q1), none, none, none], v.toList ++ [], σ', c', m'))
      obtain ⟨q2, hq2, hr⟩ := bd_some hr
      refine kcall0 rfl (hk _ _ _ _ _ _ (e_X5_learnEither_d2_56 (d + 0) (sI S 56 7 ((S.1 56 7) + 1)) hs q2 hq2 _ ?_))
      show X (79, [some (.ref 56), some (.int 1), some (.int q1), none, none, none], [.int q2.1], st q2.2 hs, 0, 0)
      refine hX _ ?_
      clear hP hX hk P' X cal
      refine Wp.stepsG 1 (fun cal X P' hk hX hP => ?_)
      show (q2.1 = 0 → X (95, [some (.ref 56), some (.int 1), some (.int q1), none, none, none], [], st q2.2 hs, 0, 0)) ∧ (¬ q2.1 = 0 → X (82, [some (.ref 56), some (.int 1), some (.int q1), none, none, none], [], st q2.2 hs, 0, 0))
      refine ⟨fun hc => hX _ ?_, fun hc => hX _ ?_⟩
      · clear hP hX hk P' X cal
        rw [if_pos hc] at hr
        have hr := Option.some.inj hr
        subst hr
        refine Wp.stepsG 2 (fun cal X P' hk hX hP => ?_)
        exact ⟨Or.inl rfl, hP _ _ h⟩
      · clear hP hX hk P' X cal
        rw [if_neg hc] at hr
        refine Wp.stepsG 3 (fun cal X P' hk hX hP => ?_)
        show kcall cal ix_X5_goBy [.ref 56, .int 41] (st q2.2 hs) [] 0 0 (0, 0) (fun v σ' c' m' => X (88, [some (.ref 56), some (.int 1), some (.int q1), none, none, none], v.toList ++ [], σ', c', m'))
        obtain ⟨q3, hq3, hr⟩ := bd_some hr
        refine kcall0 rfl (hk _ _ _ _ _ _ (e_X5_goBy_56 (d + 9) q2.2 hs 41 q3 hq3 _ ?_))
        show X (88, [some (.ref 56), some (.int 1), some (.int q1), none, none, none], [.int q3.1], st q3.2 hs, 0, 0)
        refine hX _ ?_
        clear hP hX hk P' X cal
        refine Wp.stepsG 1 (fun cal X P' hk hX hP => ?_)
        show (q3.1 = 0 → X (95, [some (.ref 56), some (.int 1), some (.int q1), none, none, none], [], st q3.2 hs, 0, 0)) ∧ (¬ q3.1 = 0 → X (91, [some (.ref 56), some (.int 1), some (.int q1), none, none, none], [], st q3.2 hs, 0, 0))
        refine ⟨fun hc => hX _ ?_, fun hc => hX _ ?_⟩
        · clear hP hX hk P' X cal
          rw [if_pos hc] at hr
          have hr := Option.some.inj hr
          subst hr
          refine Wp.stepsG 2 (fun cal X P' hk hX hP => ?_)
          exact ⟨Or.inl rfl, hP _ _ h⟩
        · clear hP hX hk P' X cal
          rw [if_neg hc] at hr
          have hr := Option.some.inj hr
          subst hr
          refine Wp.stepsG 3 (fun cal X P' hk hX hP => ?_)
          exact ⟨Or.inr rfl, hP _ _ h⟩
    · clear hP hX hk P' X cal
      rw [if_pos hc] at hr
      refine Wp.stepsG 5 (fun cal X P' hk hX hP => ?_)
      show kcall cal ix_X5_learnPart [.ref 56, .int 2] (st (sI S 56 7 ((S.1 56 7) + 1)) hs) [] 0 0 (0, 0) (fun v σ' c' m' => X (51, [some (.ref 56), some (.int 1), some (.int q1), none, none, none], v.toList ++ [], σ', c', m'))
      obtain ⟨q4, hq4, hr⟩ := bd_some hr
      refine kcall0 rfl (hk _ _ _ _ _ _ (e_X5_learnPart_d2_56 (d + 2) (sI S 56 7 ((S.1 56 7) + 1)) hs q4 hq4 _ ?_))
      show X (51, [some (.ref 56), some (.int 1), some (.int q1), none, none, none], [.int q4.1], st q4.2 hs, 0, 0)
      refine hX _ ?_
      clear hP hX hk P' X cal
      refine Wp.stepsG 1 (fun cal X P' hk hX hP => ?_)
      show (q4.1 = 0 → X (68, [some (.ref 56), some (.int 1), some (.int q1), none, none, none], [], st q4.2 hs, 0, 0)) ∧ (¬ q4.1 = 0 → X (54, [some (.ref 56), some (.int 1), some (.int q1), none, none, none], [], st q4.2 hs, 0, 0))
      refine ⟨fun hc => hX _ ?_, fun hc => hX _ ?_⟩
      · clear hP hX hk P' X cal
        rw [if_pos hc] at hr
        have hr := Option.some.inj hr
        subst hr
        refine Wp.stepsG 3 (fun cal X P' hk hX hP => ?_)
        exact ⟨Or.inl rfl, hP _ _ h⟩
      · clear hP hX hk P' X cal
        rw [if_neg hc] at hr
        refine Wp.stepsG 4 (fun cal X P' hk hX hP => ?_)
        show kcall cal ix_X5_add [.ref 56, .int 18, .int 0] (st q4.2 hs) [] 0 0 (0, 0) (fun v σ' c' m' => X (61, [some (.ref 56), some (.int 1), some (.int q1), none, none, none], v.toList ++ [], σ', c', m'))
        obtain ⟨q5, hq5, hr⟩ := bd_some hr
        refine kcall0 rfl (hk _ _ _ _ _ _ (e_X5_add_56 (d + 10) q4.2 hs 18 0 q5 hq5 _ ?_))
        show X (61, [some (.ref 56), some (.int 1), some (.int q1), none, none, none], [.int q5.1], st q5.2 hs, 0, 0)
        refine hX _ ?_
        clear hP hX hk P' X cal
        refine Wp.stepsG 1 (fun cal X P' hk hX hP => ?_)
        show (q5.1 = 0 → X (68, [some (.ref 56), some (.int 1), some (.int q1), none, none, none], [], st q5.2 hs, 0, 0)) ∧ (¬ q5.1 = 0 → X (64, [some (.ref 56), some (.int 1), some (.int q1), none, none, none], [], st q5.2 hs, 0, 0))
        refine ⟨fun hc => hX _ ?_, fun hc => hX _ ?_⟩
        · clear hP hX hk P' X cal
          rw [if_pos hc] at hr
          have hr := Option.some.inj hr
          subst hr
          refine Wp.stepsG 3 (fun cal X P' hk hX hP => ?_)
          exact ⟨Or.inl rfl, hP _ _ h⟩
        · clear hP hX hk P' X cal
          rw [if_neg hc] at hr
          have hr := Option.some.inj hr
          subst hr
          refine Wp.stepsG 3 (fun cal X P' hk hX hP => ?_)
          exact ⟨Or.inr rfl, hP _ _ h⟩
  · clear hP hX hk P' X cal
    rw [if_neg hc] at hr
    refine Wp.stepsG 3 (fun cal X P' hk hX hP => ?_)
    show (¬ q1 = 40 → X (97, [some (.ref 56), some (.int 1), some (.int q1), none, none, none], [], st S hs, 0, 0)) ∧ (q1 = 40 → X (21, [some (.ref 56), some (.int 1), some (.int q1), none, none, none], [], st S hs, 0, 0))
    refine ⟨fun hc => hX _ ?_, fun hc => hX _ ?_⟩
    · clear hP hX hk P' X cal
      rw [if_neg hc] at hr
      refine Wp.stepsG 3 (fun cal X P' hk hX hP => ?_)
      show kcall cal ix_X5_goByOneOf [.ref 56, .ref 1] (st S hs) [] 0 0 (0, 0) (fun v σ' c' m' => X (103, [some (.ref 56), some (.int 1), some (.int q1), none, none, none], v.toList ++ [], σ', c', m'))
      obtain ⟨q6, hq6, hr⟩ := bd_some hr
      refine kcall0 rfl (hk _ _ _ _ _ _ (e_X5_goByOneOf_1_56 (d + 9) S hs q6 hq6 _ ?_))
      show X (103, [some (.ref 56), some (.int 1), some (.int q1), none, none, none], [.int q6.1], st q6.2 hs, 0, 0)
      refine hX _ ?_
      clear hP hX hk P' X cal
      refine Wp.stepsG 3 (fun cal X P' hk hX hP => ?_)
      show (0 ≤ q6.1 → X (112, [some (.ref 56), some (.int 1), some (.int q1), some (.int q6.1), none, none], [], st q6.2 hs, 0, 0)) ∧ (¬ 0 ≤ q6.1 → X (108, [some (.ref 56), some (.int 1), some (.int q1), some (.int q6.1), none, none], [], st q6.2 hs, 0, 0))
      refine ⟨fun hc => hX _ ?_, fun hc => hX _ ?_⟩
      · clear hP hX hk P' X cal
        rw [if_pos hc] at hr
        refine Wp.stepsG 3 (fun cal X P' hk hX hP => ?_)
        show kcall cal ix_X5_goByOneOf [.ref 56, .ref 2] (st q6.2 hs) [] 0 0 (0, 0) (fun v σ' c' m' => X (118, [some (.ref 56), some (.int 1), some (.int q1), some (.int q6.1), none, none], v.toList ++ [], σ', c', m'))
        obtain ⟨q7, hq7, hr⟩ := bd_some hr
        refine kcall0 rfl (hk _ _ _ _ _ _ (e_X5_goByOneOf_2_56 (d + 9) q6.2 hs q7 hq7 _ ?_))
        show X (118, [some (.ref 56), some (.int 1), some (.int q1), some (.int q6.1), none, none], [.int q7.1], st q7.2 hs, 0, 0)
        refine hX _ ?_
        clear hP hX hk P' X cal
        refine Wp.stepsG 3 (fun cal X P' hk hX hP => ?_)
        show (0 ≤ q7.1 → X (129, [some (.ref 56), some (.int 1), some (.int q1), some (.int q6.1), some (.int q7.1), none], [], st q7.2 hs, 0, 0)) ∧ (¬ 0 ≤ q7.1 → X (125, [some (.ref 56), some (.int 1), some (.int q1), some (.int q6.1), some (.int q7.1), none], [], st q7.2 hs, 0, 0))
        refine ⟨fun hc => hX _ ?_, fun hc => hX _ ?_⟩
        · clear hP hX hk P' X cal
          rw [if_pos hc] at hr
          refine Wp.stepsG 2 (fun cal X P' hk hX hP => ?_)
          show kcall cal ix_X5_goByNumber [.ref 56] (st q7.2 hs) [] 0 0 (0, 0) (fun v σ' c' m' => X (133, [some (.ref 56), some (.int 1), some (.int q1), some (.int q6.1), some (.int q7.1), none], v.toList ++ [], σ', c', m'))
          obtain ⟨q8, hq8, hr⟩ := bd_some hr
          refine kcall0 rfl (hk _ _ _ _ _ _ (e_X5_goByNumber_56 (d + 9) q7.2 hs q8 hq8 _ ?_))
          show X (133, [some (.ref 56), some (.int 1), some (.int q1), some (.int q6.1), some (.int q7.1), none], [.int q8.1], st q8.2 hs, 0, 0)
          refine hX _ ?_
          clear hP hX hk P' X cal
          refine Wp.stepsG 3 (fun cal X P' hk hX hP => ?_)
          show (q8.1 < 0 → X (159, [some (.ref 56), some (.int 1), some (.int q1), some (.int q6.1), some (.int q7.1), some (.int q8.1)], [], st q8.2 hs, 0, 0)) ∧ (¬ q8.1 < 0 → X (140, [some (.ref 56), some (.int 1), some (.int q1), some (.int q6.1), some (.int q7.1), some (.int q8.1)], [], st q8.2 hs, 0, 0))
          refine ⟨fun hc => hX _ ?_, fun hc => hX _ ?_⟩
          · clear hP hX hk P' X cal
            rw [if_pos hc] at hr
            have hr := Option.some.inj hr
            subst hr
            refine Wp.stepsG 2 (fun cal X P' hk hX hP => ?_)
            exact ⟨Or.inl rfl, hP _ _ h⟩
          · clear hP hX hk P' X cal
            rw [if_neg hc] at hr
            refine Wp.stepsG 8 (fun cal X P' hk hX hP => ?_)
            show kcall cal ix_X5_add [.ref 56, .int (((3 : Int32) * q6.1) + q7.1), .int q8.1] (st q8.2 hs) [] 0 0 (0, 0) (fun v σ' c' m' => X (152, [some (.ref 56), some (.int 1), some (.int q1), some (.int q6.1), some (.int q7.1), some (.int q8.1)], v.toList ++ [], σ', c', m'))
            obtain ⟨q9, hq9, hr⟩ := bd_some hr
            refine kcall0 rfl (hk _ _ _ _ _ _ (e_X5_add_56 (d + 10) q8.2 hs (((3 : Int32) * q6.1) + q7.1) q8.1 q9 hq9 _ ?_))
            show X (152, [some (.ref 56), some (.int 1), some (.int q1), some (.int q6.1), some (.int q7.1), some (.int q8.1)], [.int q9.1], st q9.2 hs, 0, 0)
            refine hX _ ?_
            clear hP hX hk P' X cal
            refine Wp.stepsG 1 (fun cal X P' hk hX hP => ?_)
            show (q9.1 = 0 → X (159, [some (.ref 56), some (.int 1), some (.int q1), some (.int q6.1), some (.int q7.1), some (.int q8.1)], [], st q9.2 hs, 0, 0)) ∧ (¬ q9.1 = 0 → X (155, [some (.ref 56), some (.int 1), some (.int q1), some (.int q6.1), some (.int q7.1), some (.int q8.1)], [], st q9.2 hs, 0, 0))
            refine ⟨fun hc => hX _ ?_, fun hc => hX _ ?_⟩
            · clear hP hX hk P' X cal
              rw [if_pos hc] at hr
              have hr := Option.some.inj hr
              subst hr
              refine Wp.stepsG 2 (fun cal X P' hk hX hP => ?_)
              exact ⟨Or.inl rfl, hP _ _ h⟩
            · clear hP hX hk P' X cal
              rw [if_neg hc] at hr
              have hr := Option.some.inj hr
              subst hr
              refine Wp.stepsG 3 (fun cal X P' hk hX hP => ?_)
              exact ⟨Or.inr rfl, hP _ _ h⟩
        · clear hP hX hk P' X cal
          rw [if_neg hc] at hr
          refine Wp.stepsG 5 (fun cal X P' hk hX hP => ?_)
          show (((-1) : Int32) < 0 → X (159, [some (.ref 56), some (.int 1), some (.int q1), some (.int q6.1), some (.int q7.1), some (.int (-1))], [], st q7.2 hs, 0, 0)) ∧ (¬ ((-1) : Int32) < 0 → X (140, [some (.ref 56), some (.int 1), some (.int q1), some (.int q6.1), some (.int q7.1), some (.int (-1))], [], st q7.2 hs, 0, 0))
          refine ⟨fun _ => hX _ ?_, fun hc => absurd hc (by decide)⟩
          clear hP hX hk P' X cal
          have hr := Option.some.inj hr
          subst hr
          refine Wp.stepsG 2 (fun cal X P' hk hX hP => ?_)
          exact ⟨Or.inl rfl, hP _ _ h⟩
      · clear hP hX hk P' X cal
        rw [if_neg hc] at hr
        refine Wp.stepsG 5 (fun cal X P' hk hX hP => ?_)
        show (0 ≤ ((-1) : Int32) → X (129, [some (.ref 56), some (.int 1), some (.int q1), some (.int q6.1), some (.int (-1)), none], [], st q6.2 hs, 0, 0)) ∧ (¬ 0 ≤ ((-1) : Int32) → X (125, [some (.ref 56), some (.int 1), some (.int q1), some (.int q6.1), some (.int (-1)), none], [], st q6.2 hs, 0, 0))
        refine ⟨fun hc => absurd hc (by decide), fun _ => hX _ ?_⟩
        clear hP hX hk P' X cal
        refine Wp.stepsG 5 (fun cal X P' hk hX hP => ?_)
        show (((-1) : Int32) < 0 → X (159, [some (.ref 56), some (.int 1), some (.int q1), some (.int q6.1), some (.int (-1)), some (.int (-1))], [], st q6.2 hs, 0, 0)) ∧ (¬ ((-1) : Int32) < 0 → X (140, [some (.ref 56), some (.int 1), some (.int q1), some (.int q6.1), some (.int (-1)), some (.int (-1))], [], st q6.2 hs, 0, 0))
        refine ⟨fun _ => hX _ ?_, fun hc => absurd hc (by decide)⟩
        clear hP hX hk P' X cal
        have hr := Option.some.inj hr
        subst hr
        refine Wp.stepsG 2 (fun cal X P' hk hX hP => ?_)
        exact ⟨Or.inl rfl, hP _ _ h⟩
    · clear hP hX hk P' X cal
      rw [if_pos hc] at hr
      refine Wp.stepsG 3 (fun cal X P' hk hX hP => ?_)
      show ((1 : Int32) < 4 → X (28, [some (.ref 56), some (.int 1), some (.int q1), none, none, none], [], st S hs, 0, 0)) ∧ (¬ (1 : Int32) < 4 → X (26, [some (.ref 56), some (.int 1), some (.int q1), none, none, none], [], st S hs, 0, 0))
      refine ⟨fun _ => hX _ ?_, fun hc => absurd hc (by decide)⟩
      clear hP hX hk P' X cal
      refine Wp.stepsG 9 (fun cal X P' hk hX hP => ?_)
      show (¬ q1 = 33 → X (72, [some (.ref 56), some (.int 1), some (.int q1), none, none, none], [], st (sI S 56 7 ((S.1 56 7) + 1)) hs, 0, 0)) ∧ (q1 = 33 → X (44, [some (.ref 56), some (.int 1), some (.int q1), none, none, none], [], st (sI S 56 7 ((S.1 56 7) + 1)) hs, 0, 0))
      refine ⟨fun hc => hX _ ?_, fun hc => hX _ ?_⟩
      · clear hP hX hk P' X cal
        rw [if_neg hc] at hr
        refine Wp.stepsG 5 (fun cal X P' hk hX hP => ?_)
        show kcall cal ix_X5_learnEither [.ref 56, .int 2] (st (sI S 56 7 ((S.1 56 7) + 1)) hs) [] 0 0 (0, 0) (fun v σ' c' m' => X (79, [some (.ref 56), some (.int 1), some (.int q1), none, none, none], v.toList ++ [], σ', c', m'))
        obtain ⟨q10, hq10, hr⟩ := bd_some hr
        refine kcall0 rfl (hk _ _ _ _ _ _ (e_X5_learnEither_d2_56 (d + 0) (sI S 56 7 ((S.1 56 7) + 1)) hs q10 hq10 _ ?_))
        show X (79, [some (.ref 56), some (.int 1), some (.int q1), none, none, none], [.int q10.1], st q10.2 hs, 0, 0)
        refine hX _ ?_
        clear hP hX hk P' X cal
        refine Wp.stepsG 1 (fun cal X P' hk hX hP => ?_)
        show (q10.1 = 0 → X (95, [some (.ref 56), some (.int 1), some (.int q1), none, none, none], [], st q10.2 hs, 0, 0)) ∧ (¬ q10.1 = 0 → X (82, [some (.ref 56), some (.int 1), some (.int q1), none, none, none], [], st q10.2 hs, 0, 0))
        refine ⟨fun hc => hX _ ?_, fun hc => hX _ ?_⟩
        · clear hP hX hk P' X cal
          rw [if_pos hc] at hr
          have hr := Option.some.inj hr
          subst hr
          refine Wp.stepsG 2 (fun cal X P' hk hX hP => ?_)
          exact ⟨Or.inl rfl, hP _ _ h⟩
        · clear hP hX hk P' X cal
          rw [if_neg hc] at hr
          refine Wp.stepsG 3 (fun cal X P' hk hX hP => ?_)
          show kcall cal ix_X5_goBy [.ref 56, .int 41] (st q10.2 hs) [] 0 0 (0, 0) (fun v σ' c' m' => X (88, [some (.ref 56), some (.int 1), some (.int q1), none, none, none], v.toList ++ [], σ', c', m'))
          obtain ⟨q11, hq11, hr⟩ := bd_some hr
          refine kcall0 rfl (hk _ _ _ _ _ _ (e_X5_goBy_56 (d + 9) q10.2 hs 41 q11 hq11 _ ?_))
          show X (88, [some (.ref 56), some (.int 1), some (.int q1), none, none, none], [.int q11.1], st q11.2 hs, 0, 0)
          refine hX _ ?_
          clear hP hX hk P' X cal
          refine Wp.stepsG 1 (fun cal X P' hk hX hP => ?_)
          show (q11.1 = 0 → X (95, [some (.ref 56), some (.int 1), some (.int q1), none, none, none], [], st q11.2 hs, 0, 0)) ∧ (¬ q11.1 = 0 → X (91, [some (.ref 56), some (.int 1), some (.int q1), none, none, none], [], st q11.2 hs, 0, 0))
          refine ⟨fun hc => hX _ ?_, fun hc => hX _ ?_⟩
          · clear hP hX hk P' X cal
            rw [if_pos hc] at hr
            have hr := Option.some.inj hr
            subst hr
            refine Wp.stepsG 2 (fun cal X P' hk hX hP => ?_)
            exact ⟨Or.inl rfl, hP _ _ h⟩
          · clear hP hX hk P' X cal
            rw [if_neg hc] at hr
            have hr := Option.some.inj hr
            subst hr
            refine Wp.stepsG 3 (fun cal X P' hk hX hP => ?_)
            exact ⟨Or.inr rfl, hP _ _ h⟩
      · clear hP hX hk P' X cal
        rw [if_pos hc] at hr
        refine Wp.stepsG 5 (fun cal X P' hk hX hP => ?_)
        show kcall cal ix_X5_learnPart [.ref 56, .int 2] (st (sI S 56 7 ((S.1 56 7) + 1)) hs) [] 0 0 (0, 0) (fun v σ' c' m' => X (51, [some (.ref 56), some (.int 1), some (.int q1), none, none, none], v.toList ++ [], σ', c', m'))
        obtain ⟨q12, hq12, hr⟩ := bd_some hr
        refine kcall0 rfl (hk _ _ _ _ _ _ (e_X5_learnPart_d2_56 (d + 2) (sI S 56 7 ((S.1 56 7) + 1)) hs q12 hq12 _ ?_))
        show X (51, [some (.ref 56), some (.int 1), some (.int q1), none, none, none], [.int q12.1], st q12.2 hs, 0, 0)
        refine hX _ ?_
        clear hP hX hk P' X cal
        refine Wp.stepsG 1 (fun cal X P' hk hX hP => ?_)
        show (q12.1 = 0 → X (68, [some (.ref 56), some (.int 1), some (.int q1), none, none, none], [], st q12.2 hs, 0, 0)) ∧ (¬ q12.1 = 0 → X (54, [some (.ref 56), some (.int 1), some (.int q1), none, none, none], [], st q12.2 hs, 0, 0))
        refine ⟨fun hc => hX _ ?_, fun hc => hX _ ?_⟩
        · clear hP hX hk P' X cal
          rw [if_pos hc] at hr
          have hr := Option.some.inj hr
          subst hr
          refine Wp.stepsG 3 (fun cal X P' hk hX hP => ?_)
          exact ⟨Or.inl rfl, hP _ _ h⟩
        · clear hP hX hk P' X cal
          rw [if_neg hc] at hr
          refine Wp.stepsG 4 (fun cal X P' hk hX hP => ?_)
          show kcall cal ix_X5_add [.ref 56, .int 18, .int 0] (st q12.2 hs) [] 0 0 (0, 0) (fun v σ' c' m' => X (61, [some (.ref 56), some (.int 1), some (.int q1), none, none, none], v.toList ++ [], σ', c', m'))
          obtain ⟨q13, hq13, hr⟩ := bd_some hr
          refine kcall0 rfl (hk _ _ _ _ _ _ (e_X5_add_56 (d + 10) q12.2 hs 18 0 q13 hq13 _ ?_))
          show X (61, [some (.ref 56), some (.int 1), some (.int q1), none, none, none], [.int q13.1], st q13.2 hs, 0, 0)
          refine hX _ ?_
          clear hP hX hk P' X cal
          refine Wp.stepsG 1 (fun cal X P' hk hX hP => ?_)
          show (q13.1 = 0 → X (68, [some (.ref 56), some (.int 1), some (.int q1), none, none, none], [], st q13.2 hs, 0, 0)) ∧ (¬ q13.1 = 0 → X (64, [some (.ref 56), some (.int 1), some (.int q1), none, none, none], [], st q13.2 hs, 0, 0))
          refine ⟨fun hc => hX _ ?_, fun hc => hX _ ?_⟩
          · clear hP hX hk P' X cal
            rw [if_pos hc] at hr
            have hr := Option.some.inj hr
            subst hr
            refine Wp.stepsG 3 (fun cal X P' hk hX hP => ?_)
            exact ⟨Or.inl rfl, hP _ _ h⟩
          · clear hP hX hk P' X cal
            rw [if_neg hc] at hr
            have hr := Option.some.inj hr
            subst hr
            refine Wp.stepsG 3 (fun cal X P' hk hX hP => ?_)
            exact ⟨Or.inr rfl, hP _ _ h⟩
set_option maxRecDepth 20000 in
set_option maxHeartbeats 4000000 in
theorem e_lp_X5_learnBoth_d1_8_56 (d : Nat) (hs : List Hr) (P : Option Value → Hp → Prop) : ∀ (n : Nat) (v2 : Int32) (v3 : Int32) (S : St) (q : Int32 × St), lp_X5_learnBoth_d1_8 56 n v2 v3 S = some q → (WM mi_X5_learnBoth (d + 12) P 57 [some (.ref 56), some (.int 1), some (.int q.1), none] [] (st q.2 hs)) → WM mi_X5_learnBoth (d + 12) P 8 [some (.ref 56), some (.int 1), some (.int v2), some (.int v3)] [] (st S hs) := by
  intro n
  induction n with
  | zero =>
    intro v2 v3 S q hl
    cases hl
  | succ n ih =>
    intro v2 v3 S q hl ct
    rw [lp_X5_learnBoth_d1_8] at hl
    refine Wp.stepsG 3 (fun cal X P' hk hX hP => ?_)
    show (100 ≤ v3 → X (57, [some (.ref 56), some (.int 1), some (.int v2), some (.int v3)], [], st S hs, 0, 0)) ∧ (¬ 100 ≤ v3 → X (14, [some (.ref 56), some (.int 1), some (.int v2), some (.int v3)], [], st S hs, 0, 0))
    refine ⟨fun hc => hX _ ?_, fun hc => hX _ ?_⟩
    · clear hP hX hk P' X cal
      rw [if_pos hc] at hl
      have hl := Option.some.inj hl
      subst hl
      exact Wp.weak (leL.k (leL.k (leL.k (leL.n leL.z)))) (ct)
    · clear hP hX hk P' X cal
      rw [if_neg hc] at hl
      refine Wp.stepsG 2 (fun cal X P' hk hX hP => ?_)
      show (v2 = 0 → X (57, [some (.ref 56), some (.int 1), some (.int v2), some (.int v3)], [], st S hs, 0, 0)) ∧ (¬ v2 = 0 → X (18, [some (.ref 56), some (.int 1), some (.int v2), some (.int v3)], [], st S hs, 0, 0))
      refine ⟨fun hc => hX _ ?_, fun hc => hX _ ?_⟩
      · clear hP hX hk P' X cal
        rw [if_pos hc] at hl
        have hl := Option.some.inj hl
        subst hl
        exact Wp.weak (leL.k (leL.k (leL.k (leL.n leL.z)))) (ct)
      · clear hP hX hk P' X cal
        rw [if_neg hc] at hl
        refine Wp.stepsG 3 (fun cal X P' hk hX hP => ?_)
        show kcall cal ix_X5_goBy [.ref 56, .int 38] (st S hs) [] 0 0 (0, 0) (fun v σ' c' m' => X (24, [some (.ref 56), some (.int 1), some (.int v2), some (.int v3)], v.toList ++ [], σ', c', m'))
        obtain ⟨q2, hq2, hl⟩ := bd_some hl
        refine kcall0 rfl (hk _ _ _ _ _ _ (e_X5_goBy_56 (d + 10) S hs 38 q2 hq2 _ ?_))
        show X (24, [some (.ref 56), some (.int 1), some (.int v2), some (.int v3)], [.int q2.1], st q2.2 hs, 0, 0)
        refine hX _ ?_
        clear hP hX hk P' X cal
        refine Wp.stepsG 1 (fun cal X P' hk hX hP => ?_)
        show (q2.1 = 0 → X (57, [some (.ref 56), some (.int 1), some (.int v2), some (.int v3)], [], st q2.2 hs, 0, 0)) ∧ (¬ q2.1 = 0 → X (27, [some (.ref 56), some (.int 1), some (.int v2), some (.int v3)], [], st q2.2 hs, 0, 0))
        refine ⟨fun hc => hX _ ?_, fun hc => hX _ ?_⟩
        · clear hP hX hk P' X cal
          rw [if_pos hc] at hl
          have hl := Option.some.inj hl
          subst hl
          exact Wp.weak (leL.k (leL.k (leL.k (leL.n leL.z)))) (ct)
        · clear hP hX hk P' X cal
          rw [if_neg hc] at hl
          refine Wp.stepsG 3 (fun cal X P' hk hX hP => ?_)
          show kcall cal ix_X5_learnPart [.ref 56, .int 1] (st q2.2 hs) [] 0 0 (0, 0) (fun v σ' c' m' => X (32, [some (.ref 56), some (.int 1), some (.int v2), some (.int v3)], v.toList ++ [], σ', c', m'))
          obtain ⟨q3, hq3, hl⟩ := bd_some hl
          refine kcall0 rfl (hk _ _ _ _ _ _ (e_X5_learnPart_d1_56 (d + 0) q2.2 hs q3 hq3 _ ?_))
          show X (32, [some (.ref 56), some (.int 1), some (.int v2), some (.int v3)], [.int q3.1], st q3.2 hs, 0, 0)
          refine hX _ ?_
          clear hP hX hk P' X cal
          refine Wp.stepsG 1 (fun cal X P' hk hX hP => ?_)
          show (q3.1 = 0 → X (49, [some (.ref 56), some (.int 1), some (.int v2), some (.int v3)], [], st q3.2 hs, 0, 0)) ∧ (¬ q3.1 = 0 → X (35, [some (.ref 56), some (.int 1), some (.int v2), some (.int v3)], [], st q3.2 hs, 0, 0))
          refine ⟨fun hc => hX _ ?_, fun hc => hX _ ?_⟩
          · clear hP hX hk P' X cal
            rw [if_pos hc] at hl
            refine Wp.stepsG 4 (fun cal X P' hk hX hP => ?_)
            show X (8, [some (.ref 56), some (.int 1), some (.int 0), some (.int (v3 + 1))], [], st q3.2 hs, 0, 0)
            refine hX _ ?_
            exact (ih 0 (v3 + 1) q3.2 q hl ct)
          · clear hP hX hk P' X cal
            rw [if_neg hc] at hl
            refine Wp.stepsG 4 (fun cal X P' hk hX hP => ?_)
            show kcall cal ix_X5_add [.ref 56, .int 19, .int 0] (st q3.2 hs) [] 0 0 (0, 0) (fun v σ' c' m' => X (42, [some (.ref 56), some (.int 1), some (.int v2), some (.int v3)], v.toList ++ [], σ', c', m'))
            obtain ⟨q4, hq4, hl⟩ := bd_some hl
            refine kcall0 rfl (hk _ _ _ _ _ _ (e_X5_add_56 (d + 11) q3.2 hs 19 0 q4 hq4 _ ?_))
            show X (42, [some (.ref 56), some (.int 1), some (.int v2), some (.int v3)], [.int q4.1], st q4.2 hs, 0, 0)
            refine hX _ ?_
            clear hP hX hk P' X cal
            refine Wp.stepsG 1 (fun cal X P' hk hX hP => ?_)
            show (q4.1 = 0 → X (49, [some (.ref 56), some (.int 1), some (.int v2), some (.int v3)], [], st q4.2 hs, 0, 0)) ∧ (¬ q4.1 = 0 → X (45, [some (.ref 56), some (.int 1), some (.int v2), some (.int v3)], [], st q4.2 hs, 0, 0))
            refine ⟨fun hc => hX _ ?_, fun hc => hX _ ?_⟩
            · clear hP hX hk P' X cal
              rw [if_pos hc] at hl
              refine Wp.stepsG 4 (fun cal X P' hk hX hP => ?_)
              show X (8, [some (.ref 56), some (.int 1), some (.int 0), some (.int (v3 + 1))], [], st q4.2 hs, 0, 0)
              refine hX _ ?_
              exact (ih 0 (v3 + 1) q4.2 q hl ct)
            · clear hP hX hk P' X cal
              rw [if_neg hc] at hl
              refine Wp.stepsG 5 (fun cal X P' hk hX hP => ?_)
              show X (8, [some (.ref 56), some (.int 1), some (.int 1), some (.int (v3 + 1))], [], st q4.2 hs, 0, 0)
              refine hX _ ?_
              exact (ih 1 (v3 + 1) q4.2 q hl ct)
set_option maxRecDepth 20000 in
set_option maxHeartbeats 4000000 in
theorem e_X5_learnBoth_d1_56 (d : Nat) (S : St) (hs : List Hr) (v : Int32 × St) (hr : r_X5_learnBoth_d1 S 56 = some v) (P : Option Value → Hp → Prop) (h : P (some (.int v.1)) (st v.2 hs)) : Ev (d + 13) ix_X5_learnBoth 0 0 [.ref 56, .int 1] (st S hs) P := by
  refine Ev.intro (M := mi_X5_learnBoth) rfl (Nat.le_of_ble_eq_true rfl) ?_
  unfold r_X5_learnBoth_d1 at hr
  refine Wp.stepsG 3 (fun cal X P' hk hX hP => ?_)
  show kcall cal ix_X5_learnPart [.ref 56, .int 1] (st S hs) [] 0 0 (0, 0) (fun v σ' c' m' => X (5, [some (.ref 56), some (.int 1), none, none], v.toList ++ [], σ', c', m'))
  obtain ⟨q1, hq1, hr⟩ := bd_some hr
  refine kcall0 rfl (hk _ _ _ _ _ _ (e_X5_learnPart_d1_56 (d + 0) S hs q1 hq1 _ ?_))
  show X (5, [some (.ref 56), some (.int 1), none, none], [.int q1.1], st q1.2 hs, 0, 0)
  refine hX _ ?_
  clear hP hX hk P' X cal
  refine Wp.stepsG 3 (fun cal X P' hk hX hP => ?_)
  show X (8, [some (.ref 56), some (.int 1), some (.int q1.1), some (.int 0)], [], st q1.2 hs, 0, 0)
  refine hX _ ?_
  clear hP hX hk P' X cal
  obtain ⟨q5, hq5, hr⟩ := bd_some hr
  refine (e_lp_X5_learnBoth_d1_8_56 d hs P _ q1.1 0 q1.2 q5 hq5 ?_)
  obtain ⟨hb, hr⟩ := gd_some hr
  have hr := Option.some.inj hr
  subst hr
  refine Wp.stepsG 2 (fun cal X P' hk hX hP => ?_)
  exact ⟨hb, hP _ _ h⟩
set_option maxRecDepth 20000 in
set_option maxHeartbeats 4000000 in
theorem e_lp_X5_learnEither_d1_8_56 (d : Nat) (hs : List Hr) (P : Option Value → Hp → Prop) : ∀ (n : Nat) (v2 : Int32) (v3 : Int32) (S : St) (q : Int32 × St), lp_X5_learnEither_d1_8 56 n v2 v3 S = some q → (WM mi_X5_learnEither (d + 13) P 57 [some (.ref 56), some (.int 1), some (.int q.1), none] [] (st q.2 hs)) → WM mi_X5_learnEither (d + 13) P 8 [some (.ref 56), some (.int 1), some (.int v2), some (.int v3)] [] (st S hs) := by
  intro n
  induction n with
  | zero =>
    intro v2 v3 S q hl
    cases hl
  | succ n ih =>
    intro v2 v3 S q hl ct
    rw [lp_X5_learnEither_d1_8] at hl
    refine Wp.stepsG 3 (fun cal X P' hk hX hP => ?_)
    show (100 ≤ v3 → X (57, [some (.ref 56), some (.int 1), some (.int v2), some (.int v3)], [], st S hs, 0, 0)) ∧ (¬ 100 ≤ v3 → X (14, [some (.ref 56), some (.int 1), some (.int v2), some (.int v3)], [], st S hs, 0, 0))
    refine ⟨fun hc => hX _ ?_, fun hc => hX _ ?_⟩
    · clear hP hX hk P' X cal
      rw [if_pos hc] at hl
      have hl := Option.some.inj hl
      subst hl
      exact Wp.weak (leL.k (leL.k (leL.k (leL.n leL.z)))) (ct)
    · clear hP hX hk P' X cal
      rw [if_neg hc] at hl
      refine Wp.stepsG 2 (fun cal X P' hk hX hP => ?_)
      show (v2 = 0 → X (57, [some (.ref 56), some (.int 1), some (.int v2), some (.int v3)], [], st S hs, 0, 0)) ∧ (¬ v2 = 0 → X (18, [some (.ref 56), some (.int 1), some (.int v2), some (.int v3)], [], st S hs, 0, 0))
      refine ⟨fun hc => hX _ ?_, fun hc => hX _ ?_⟩
      · clear hP hX hk P' X cal
        rw [if_pos hc] at hl
        have hl := Option.some.inj hl
        subst hl
        exact Wp.weak (leL.k (leL.k (leL.k (leL.n leL.z)))) (ct)
      · clear hP hX hk P' X cal
        rw [if_neg hc] at hl
        refine Wp.stepsG 3 (fun cal X P' hk hX hP => ?_)
        show kcall cal ix_X5_goBy [.ref 56, .int 124] (st S hs) [] 0 0 (0, 0) (fun v σ' c' m' => X (24, [some (.ref 56), some (.int 1), some (.int v2), some (.int v3)], v.toList ++ [], σ', c', m'))
        obtain ⟨q2, hq2, hl⟩ := bd_some hl
        refine kcall0 rfl (hk _ _ _ _ _ _ (e_X5_goBy_56 (d + 11) S hs 124 q2 hq2 _ ?_))
        show X (24, [some (.ref 56), some (.int 1), some (.int v2), some (.int v3)], [.int q2.1], st q2.2 hs, 0, 0)
        refine hX _ ?_
        clear hP hX hk P' X cal
        refine Wp.stepsG 1 (fun cal X P' hk hX hP => ?_)
        show (q2.1 = 0 → X (57, [some (.ref 56), some (.int 1), some (.int v2), some (.int v3)], [], st q2.2 hs, 0, 0)) ∧ (¬ q2.1 = 0 → X (27, [some (.ref 56), some (.int 1), some (.int v2), some (.int v3)], [], st q2.2 hs, 0, 0))
        refine ⟨fun hc => hX _ ?_, fun hc => hX _ ?_⟩
        · clear hP hX hk P' X cal
          rw [if_pos hc] at hl
          have hl := Option.some.inj hl
          subst hl
          exact Wp.weak (leL.k (leL.k (leL.k (leL.n leL.z)))) (ct)
        · clear hP hX hk P' X cal
          rw [if_neg hc] at hl
          refine Wp.stepsG 3 (fun cal X P' hk hX hP => ?_)
          show kcall cal ix_X5_learnBoth [.ref 56, .int 1] (st q2.2 hs) [] 0 0 (0, 0) (fun v σ' c' m' => X (32, [some (.ref 56), some (.int 1), some (.int v2), some (.int v3)], v.toList ++ [], σ', c', m'))
          obtain ⟨q3, hq3, hl⟩ := bd_some hl
          refine kcall0 rfl (hk _ _ _ _ _ _ (e_X5_learnBoth_d1_56 (d + 0) q2.2 hs q3 hq3 _ ?_))
          show X (32, [some (.ref 56), some (.int 1), some (.int v2), some (.int v3)], [.int q3.1], st q3.2 hs, 0, 0)
          refine hX _ ?_
          clear hP hX hk P' X cal
          refine Wp.stepsG 1 (fun cal X P' hk hX hP => ?_)
          show (q3.1 = 0 → X (49, [some (.ref 56), some (.int 1), some (.int v2), some (.int v3)], [], st q3.2 hs, 0, 0)) ∧ (¬ q3.1 = 0 → X (35, [some (.ref 56), some (.int 1), some (.int v2), some (.int v3)], [], st q3.2 hs, 0, 0))
          refine ⟨fun hc => hX _ ?_, fun hc => hX _ ?_⟩
          · clear hP hX hk P' X cal
            rw [if_pos hc] at hl
            refine Wp.stepsG 4 (fun cal X P' hk hX hP => ?_)
            show X (8, [some (.ref 56), some (.int 1), some (.int 0), some (.int (v3 + 1))], [], st q3.2 hs, 0, 0)
            refine hX _ ?_
            exact (ih 0 (v3 + 1) q3.2 q hl ct)
          · clear hP hX hk P' X cal
            rw [if_neg hc] at hl
            refine Wp.stepsG 4 (fun cal X P' hk hX hP => ?_)
            show kcall cal ix_X5_add [.ref 56, .int 20, .int 0] (st q3.2 hs) [] 0 0 (0, 0) (fun v σ' c' m' => X (42, [some (.ref 56), some (.int 1), some (.int v2), some (.int v3)], v.toList ++ [], σ', c', m'))
            obtain ⟨q4, hq4, hl⟩ := bd_some hl
            refine kcall0 rfl (hk _ _ _ _ _ _ (e_X5_add_56 (d + 12) q3.2 hs 20 0 q4 hq4 _ ?_))
            show X (42, [some (.ref 56), some (.int 1), some (.int v2), some (.int v3)], [.int q4.1], st q4.2 hs, 0, 0)
            refine hX _ ?_
            clear hP hX hk P' X cal
            refine Wp.stepsG 1 (fun cal X P' hk hX hP => ?_)
            show (q4.1 = 0 → X (49, [some (.ref 56), some (.int 1), some (.int v2), some (.int v3)], [], st q4.2 hs, 0, 0)) ∧ (¬ q4.1 = 0 → X (45, [some (.ref 56), some (.int 1), some (.int v2), some (.int v3)], [], st q4.2 hs, 0, 0))
            refine ⟨fun hc => hX _ ?_, fun hc => hX _ ?_⟩
            · clear hP hX hk P' X cal
              rw [if_pos hc] at hl
              refine Wp.stepsG 4 (fun cal X P' hk hX hP => ?_)
              show X (8, [some (.ref 56), some (.int 1), some (.int 0), some (.int (v3 + 1))], [], st q4.2 hs, 0, 0)
              refine hX _ ?_
              exact (ih 0 (v3 + 1) q4.2 q hl ct)
            · clear hP hX hk P' X cal
              rw [if_neg hc] at hl
              refine Wp.stepsG 5 (fun cal X P' hk hX hP => ?_)
              show X (8, [some (.ref 56), some (.int 1), some (.int 1), some (.int (v3 + 1))], [], st q4.2 hs, 0, 0)
              refine hX _ ?_
              exact (ih 1 (v3 + 1) q4.2 q hl ct)
set_option maxRecDepth 20000 in
set_option maxHeartbeats 4000000 in
theorem e_X5_learnEither_d1_56 (d : Nat) (S : St) (hs : List Hr) (v : Int32 × St) (hr : r_X5_learnEither_d1 S 56 = some v) (P : Option Value → Hp → Prop) (h : P (some (.int v.1)) (st v.2 hs)) : Ev (d + 14) ix_X5_learnEither 0 0 [.ref 56, .int 1] (st S hs) P := by
  refine Ev.intro (M := mi_X5_learnEither) rfl (Nat.le_of_ble_eq_true rfl) ?_
  unfold r_X5_learnEither_d1 at hr
  refine Wp.stepsG 3 (fun cal X P' hk hX hP => ?_)
  show kcall cal ix_X5_learnBoth [.ref 56, .int 1] (st S hs) [] 0 0 (0, 0) (fun v σ' c' m' => X (5, [some (.ref 56), some (.int 1), none, none], v.toList ++ [], σ', c', m'))
  obtain ⟨q1, hq1, hr⟩ := bd_some hr
  refine kcall0 rfl (hk _ _ _ _ _ _ (e_X5_learnBoth_d1_56 (d + 0) S hs q1 hq1 _ ?_))
  show X (5, [some (.ref 56), some (.int 1), none, none], [.int q1.1], st q1.2 hs, 0, 0)
  refine hX _ ?_
  clear hP hX hk P' X cal
  refine Wp.stepsG 3 (fun cal X P' hk hX hP => ?_)
  show X (8, [some (.ref 56), some (.int 1), some (.int q1.1), some (.int 0)], [], st q1.2 hs, 0, 0)
  refine hX _ ?_
  clear hP hX hk P' X cal
  obtain ⟨q5, hq5, hr⟩ := bd_some hr
  refine (e_lp_X5_learnEither_d1_8_56 d hs P _ q1.1 0 q1.2 q5 hq5 ?_)
  obtain ⟨hb, hr⟩ := gd_some hr
  have hr := Option.some.inj hr
  subst hr
  refine Wp.stepsG 2 (fun cal X P' hk hX hP => ?_)
  exact ⟨hb, hP _ _ h⟩
set_option maxRecDepth 20000 in
set_option maxHeartbeats 4000000 in
theorem e_X5_learnPart_d0_56 (d : Nat) (S : St) (hs : List Hr) (v : Int32 × St) (hr : r_X5_learnPart_d0 S 56 = some v) (P : Option Value → Hp → Prop) (h : P (some (.int v.1)) (st v.2 hs)) : Ev (d + 15) ix_X5_learnPart 0 0 [.ref 56, .int 0] (st S hs) P := by
  refine Ev.intro (M := mi_X5_learnPart) rfl (Nat.le_of_ble_eq_true rfl) ?_
  unfold r_X5_learnPart_d0 at hr
  refine Wp.stepsG 4 (fun cal X P' hk hX hP => ?_)
  show kcall cal ix_X5_signAt [.ref 56, .int (S.1 56 7)] (st S hs) [] 0 0 (0, 0) (fun v σ' c' m' => X (8, [some (.ref 56), some (.int 0), none, none, none, none], v.toList ++ [], σ', c', m'))
  obtain ⟨q1, hq1, hr⟩ := bd_some hr
  refine kcall0 rfl (hk _ _ _ _ _ _ (e_X5_signAt_56 (d + 13) S hs (S.1 56 7) q1 hq1 _ ?_))
  show X (8, [some (.ref 56), some (.int 0), none, none, none, none], [.int q1], st S hs, 0, 0)
  refine hX _ ?_
  clear hP hX hk P' X cal
  refine Wp.stepsG 4 (fun cal X P' hk hX hP => ?_)
  show (q1 = 33 → X (21, [some (.ref 56), some (.int 0), some (.int q1), none, none, none], [], st S hs, 0, 0)) ∧ (¬ q1 = 33 → X (15, [some (.ref 56), some (.int 0), some (.int q1), none, none, none], [], st S hs, 0, 0))
  refine ⟨fun hc => hX _ ?_, fun hc => hX _ ?_⟩
  · clear hP hX hk P' X cal
    rw [if_pos hc] at hr
    refine Wp.stepsG 3 (fun cal X P' hk hX hP => ?_)
    show ((0 : Int32) < 4 → X (28, [some (.ref 56), some (.int 0), some (.int q1), none, none, none], [], st S hs, 0, 0)) ∧ (¬ (0 : Int32) < 4 → X (26, [some (.ref 56), some (.int 0), some (.int q1), none, none, none], [], st S hs, 0, 0))
    refine ⟨fun _ => hX _ ?_, fun hc => absurd hc (by decide)⟩
    clear hP hX hk P' X cal
    refine Wp.stepsG 9 (fun cal X P' hk hX hP => ?_)
    show (¬ q1 = 33 → X (72, [some (.ref 56), some (.int 0), some (.int q1), none, none, none], [], st (sI S 56 7 ((S.1 56 7) + 1)) hs, 0, 0)) ∧ (q1 = 33 → X (44, [some (.ref 56), some (.int 0), some (.int q1), none, none, none], [], st (sI S 56 7 ((S.1 56 7) + 1)) hs, 0, 0))
    refine ⟨fun hc => hX _ ?_, fun hc => hX _ ?_⟩
    · clear hP hX hk P' X cal
      rw [if_neg hc] at hr
      refine Wp.stepsG 5 (fun cal X P' hk hX hP => ?_)
      show kcall cal ix_X5_learnEither [.ref 56, .int 1] (st (sI S 56 7 ((S.1 56 7) + 1)) hs) [] 0 0 (0, 0) (fun v σ' c' m' => X (79, [some (.ref 56), some (.int 0), some (.int q1), none, none, none], v.toList ++ [], σ', c', m'))
      obtain ⟨q2, hq2, hr⟩ := bd_some hr
      refine kcall0 rfl (hk _ _ _ _ _ _ (e_X5_learnEither_d1_56 (d + 0) (sI S 56 7 ((S.1 56 7) + 1)) hs q2 hq2 _ ?_))
      show X (79, [some (.ref 56), some (.int 0), some (.int q1), none, none, none], [.int q2.1], st q2.2 hs, 0, 0)
      refine hX _ ?_
      clear hP hX hk P' X cal
      refine Wp.stepsG 1 (fun cal X P' hk hX hP => ?_)
      show (q2.1 = 0 → X (95, [some (.ref 56), some (.int 0), some (.int q1), none, none, none], [], st q2.2 hs, 0, 0)) ∧ (¬ q2.1 = 0 → X (82, [some (.ref 56), some (.int 0), some (.int q1), none, none, none], [], st q2.2 hs, 0, 0))
      refine ⟨fun hc => hX _ ?_, fun hc => hX _ ?_⟩
      · clear hP hX hk P' X cal
        rw [if_pos hc] at hr
        have hr := Option.some.inj hr
        subst hr
        refine Wp.stepsG 2 (fun cal X P' hk hX hP => ?_)
        exact ⟨Or.inl rfl, hP _ _ h⟩
      · clear hP hX hk P' X cal
        rw [if_neg hc] at hr
        refine Wp.stepsG 3 (fun cal X P' hk hX hP => ?_)
        show kcall cal ix_X5_goBy [.ref 56, .int 41] (st q2.2 hs) [] 0 0 (0, 0) (fun v σ' c' m' => X (88, [some (.ref 56), some (.int 0), some (.int q1), none, none, none], v.toList ++ [], σ', c', m'))
        obtain ⟨q3, hq3, hr⟩ := bd_some hr
        refine kcall0 rfl (hk _ _ _ _ _ _ (e_X5_goBy_56 (d + 12) q2.2 hs 41 q3 hq3 _ ?_))
        show X (88, [some (.ref 56), some (.int 0), some (.int q1), none, none, none], [.int q3.1], st q3.2 hs, 0, 0)
        refine hX _ ?_
        clear hP hX hk P' X cal
        refine Wp.stepsG 1 (fun cal X P' hk hX hP => ?_)
        show (q3.1 = 0 → X (95, [some (.ref 56), some (.int 0), some (.int q1), none, none, none], [], st q3.2 hs, 0, 0)) ∧ (¬ q3.1 = 0 → X (91, [some (.ref 56), some (.int 0), some (.int q1), none, none, none], [], st q3.2 hs, 0, 0))
        refine ⟨fun hc => hX _ ?_, fun hc => hX _ ?_⟩
        · clear hP hX hk P' X cal
          rw [if_pos hc] at hr
          have hr := Option.some.inj hr
          subst hr
          refine Wp.stepsG 2 (fun cal X P' hk hX hP => ?_)
          exact ⟨Or.inl rfl, hP _ _ h⟩
        · clear hP hX hk P' X cal
          rw [if_neg hc] at hr
          have hr := Option.some.inj hr
          subst hr
          refine Wp.stepsG 3 (fun cal X P' hk hX hP => ?_)
          exact ⟨Or.inr rfl, hP _ _ h⟩
    · clear hP hX hk P' X cal
      rw [if_pos hc] at hr
      refine Wp.stepsG 5 (fun cal X P' hk hX hP => ?_)
      show kcall cal ix_X5_learnPart [.ref 56, .int 1] (st (sI S 56 7 ((S.1 56 7) + 1)) hs) [] 0 0 (0, 0) (fun v σ' c' m' => X (51, [some (.ref 56), some (.int 0), some (.int q1), none, none, none], v.toList ++ [], σ', c', m'))
      obtain ⟨q4, hq4, hr⟩ := bd_some hr
      refine kcall0 rfl (hk _ _ _ _ _ _ (e_X5_learnPart_d1_56 (d + 2) (sI S 56 7 ((S.1 56 7) + 1)) hs q4 hq4 _ ?_))
      show X (51, [some (.ref 56), some (.int 0), some (.int q1), none, none, none], [.int q4.1], st q4.2 hs, 0, 0)
      refine hX _ ?_
      clear hP hX hk P' X cal
      refine Wp.stepsG 1 (fun cal X P' hk hX hP => ?_)
      show (q4.1 = 0 → X (68, [some (.ref 56), some (.int 0), some (.int q1), none, none, none], [], st q4.2 hs, 0, 0)) ∧ (¬ q4.1 = 0 → X (54, [some (.ref 56), some (.int 0), some (.int q1), none, none, none], [], st q4.2 hs, 0, 0))
      refine ⟨fun hc => hX _ ?_, fun hc => hX _ ?_⟩
      · clear hP hX hk P' X cal
        rw [if_pos hc] at hr
        have hr := Option.some.inj hr
        subst hr
        refine Wp.stepsG 3 (fun cal X P' hk hX hP => ?_)
        exact ⟨Or.inl rfl, hP _ _ h⟩
      · clear hP hX hk P' X cal
        rw [if_neg hc] at hr
        refine Wp.stepsG 4 (fun cal X P' hk hX hP => ?_)
        show kcall cal ix_X5_add [.ref 56, .int 18, .int 0] (st q4.2 hs) [] 0 0 (0, 0) (fun v σ' c' m' => X (61, [some (.ref 56), some (.int 0), some (.int q1), none, none, none], v.toList ++ [], σ', c', m'))
        obtain ⟨q5, hq5, hr⟩ := bd_some hr
        refine kcall0 rfl (hk _ _ _ _ _ _ (e_X5_add_56 (d + 13) q4.2 hs 18 0 q5 hq5 _ ?_))
        show X (61, [some (.ref 56), some (.int 0), some (.int q1), none, none, none], [.int q5.1], st q5.2 hs, 0, 0)
        refine hX _ ?_
        clear hP hX hk P' X cal
        refine Wp.stepsG 1 (fun cal X P' hk hX hP => ?_)
        show (q5.1 = 0 → X (68, [some (.ref 56), some (.int 0), some (.int q1), none, none, none], [], st q5.2 hs, 0, 0)) ∧ (¬ q5.1 = 0 → X (64, [some (.ref 56), some (.int 0), some (.int q1), none, none, none], [], st q5.2 hs, 0, 0))
        refine ⟨fun hc => hX _ ?_, fun hc => hX _ ?_⟩
        · clear hP hX hk P' X cal
          rw [if_pos hc] at hr
          have hr := Option.some.inj hr
          subst hr
          refine Wp.stepsG 3 (fun cal X P' hk hX hP => ?_)
          exact ⟨Or.inl rfl, hP _ _ h⟩
        · clear hP hX hk P' X cal
          rw [if_neg hc] at hr
          have hr := Option.some.inj hr
          subst hr
          refine Wp.stepsG 3 (fun cal X P' hk hX hP => ?_)
          exact ⟨Or.inr rfl, hP _ _ h⟩
  · clear hP hX hk P' X cal
    rw [if_neg hc] at hr
    refine Wp.stepsG 3 (fun cal X P' hk hX hP => ?_)
    show (¬ q1 = 40 → X (97, [some (.ref 56), some (.int 0), some (.int q1), none, none, none], [], st S hs, 0, 0)) ∧ (q1 = 40 → X (21, [some (.ref 56), some (.int 0), some (.int q1), none, none, none], [], st S hs, 0, 0))
    refine ⟨fun hc => hX _ ?_, fun hc => hX _ ?_⟩
    · clear hP hX hk P' X cal
      rw [if_neg hc] at hr
      refine Wp.stepsG 3 (fun cal X P' hk hX hP => ?_)
      show kcall cal ix_X5_goByOneOf [.ref 56, .ref 1] (st S hs) [] 0 0 (0, 0) (fun v σ' c' m' => X (103, [some (.ref 56), some (.int 0), some (.int q1), none, none, none], v.toList ++ [], σ', c', m'))
      obtain ⟨q6, hq6, hr⟩ := bd_some hr
      refine kcall0 rfl (hk _ _ _ _ _ _ (e_X5_goByOneOf_1_56 (d + 12) S hs q6 hq6 _ ?_))
      show X (103, [some (.ref 56), some (.int 0), some (.int q1), none, none, none], [.int q6.1], st q6.2 hs, 0, 0)
      refine hX _ ?_
      clear hP hX hk P' X cal
      refine Wp.stepsG 3 (fun cal X P' hk hX hP => ?_)
      show (0 ≤ q6.1 → X (112, [some (.ref 56), some (.int 0), some (.int q1), some (.int q6.1), none, none], [], st q6.2 hs, 0, 0)) ∧ (¬ 0 ≤ q6.1 → X (108, [some (.ref 56), some (.int 0), some (.int q1), some (.int q6.1), none, none], [], st q6.2 hs, 0, 0))
      refine ⟨fun hc => hX _ ?_, fun hc => hX _ ?_⟩
      · clear hP hX hk P' X cal
        rw [if_pos hc] at hr
        refine Wp.stepsG 3 (fun cal X P' hk hX hP => ?_)
        show kcall cal ix_X5_goByOneOf [.ref 56, .ref 2] (st q6.2 hs) [] 0 0 (0, 0) (fun v σ' c' m' => X (118, [some (.ref 56), some (.int 0), some (.int q1), some (.int q6.1), none, none], v.toList ++ [], σ', c', m'))
        obtain ⟨q7, hq7, hr⟩ := bd_some hr
        refine kcall0 rfl (hk _ _ _ _ _ _ (e_X5_goByOneOf_2_56 (d + 12) q6.2 hs q7 hq7 _ ?_))
        show X (118, [some (.ref 56), some (.int 0), some (.int q1), some (.int q6.1), none, none], [.int q7.1], st q7.2 hs, 0, 0)
        refine hX _ ?_
        clear hP hX hk P' X cal
        refine Wp.stepsG 3 (fun cal X P' hk hX hP => ?_)
        show (0 ≤ q7.1 → X (129, [some (.ref 56), some (.int 0), some (.int q1), some (.int q6.1), some (.int q7.1), none], [], st q7.2 hs, 0, 0)) ∧ (¬ 0 ≤ q7.1 → X (125, [some (.ref 56), some (.int 0), some (.int q1), some (.int q6.1), some (.int q7.1), none], [], st q7.2 hs, 0, 0))
        refine ⟨fun hc => hX _ ?_, fun hc => hX _ ?_⟩
        · clear hP hX hk P' X cal
          rw [if_pos hc] at hr
          refine Wp.stepsG 2 (fun cal X P' hk hX hP => ?_)
          show kcall cal ix_X5_goByNumber [.ref 56] (st q7.2 hs) [] 0 0 (0, 0) (fun v σ' c' m' => X (133, [some (.ref 56), some (.int 0), some (.int q1), some (.int q6.1), some (.int q7.1), none], v.toList ++ [], σ', c', m'))
          obtain ⟨q8, hq8, hr⟩ := bd_some hr
          refine kcall0 rfl (hk _ _ _ _ _ _ (e_X5_goByNumber_56 (d + 12) q7.2 hs q8 hq8 _ ?_))
          show X (133, [some (.ref 56), some (.int 0), some (.int q1), some (.int q6.1), some (.int q7.1), none], [.int q8.1], st q8.2 hs, 0, 0)
          refine hX _ ?_
          clear hP hX hk P' X cal
          refine Wp.stepsG 3 (fun cal X P' hk hX hP => ?_)
          show (q8.1 < 0 → X (159, [some (.ref 56), some (.int 0), some (.int q1), some (.int q6.1), some (.int q7.1), some (.int q8.1)], [], st q8.2 hs, 0, 0)) ∧ (¬ q8.1 < 0 → X (140, [some (.ref 56), some (.int 0), some (.int q1), some (.int q6.1), some (.int q7.1), some (.int q8.1)], [], st q8.2 hs, 0, 0))
          refine ⟨fun hc => hX _ ?_, fun hc => hX _ ?_⟩
          · clear hP hX hk P' X cal
            rw [if_pos hc] at hr
            have hr := Option.some.inj hr
            subst hr
            refine Wp.stepsG 2 (fun cal X P' hk hX hP => ?_)
            exact ⟨Or.inl rfl, hP _ _ h⟩
          · clear hP hX hk P' X cal
            rw [if_neg hc] at hr
            refine Wp.stepsG 8 (fun cal X P' hk hX hP => ?_)
            show kcall cal ix_X5_add [.ref 56, .int (((3 : Int32) * q6.1) + q7.1), .int q8.1] (st q8.2 hs) [] 0 0 (0, 0) (fun v σ' c' m' => X (152, [some (.ref 56), some (.int 0), some (.int q1), some (.int q6.1), some (.int q7.1), some (.int q8.1)], v.toList ++ [], σ', c', m'))
            obtain ⟨q9, hq9, hr⟩ := bd_some hr
            refine kcall0 rfl (hk _ _ _ _ _ _ (e_X5_add_56 (d + 13) q8.2 hs (((3 : Int32) * q6.1) + q7.1) q8.1 q9 hq9 _ ?_))
            show X (152, [some (.ref 56), some (.int 0), some (.int q1), some (.int q6.1), some (.int q7.1), some (.int q8.1)], [.int q9.1], st q9.2 hs, 0, 0)
            refine hX _ ?_
            clear hP hX hk P' X cal
            refine Wp.stepsG 1 (fun cal X P' hk hX hP => ?_)
            show (q9.1 = 0 → X (159, [some (.ref 56), some (.int 0), some (.int q1), some (.int q6.1), some (.int q7.1), some (.int q8.1)], [], st q9.2 hs, 0, 0)) ∧ (¬ q9.1 = 0 → X (155, [some (.ref 56), some (.int 0), some (.int q1), some (.int q6.1), some (.int q7.1), some (.int q8.1)], [], st q9.2 hs, 0, 0))
            refine ⟨fun hc => hX _ ?_, fun hc => hX _ ?_⟩
            · clear hP hX hk P' X cal
              rw [if_pos hc] at hr
              have hr := Option.some.inj hr
              subst hr
              refine Wp.stepsG 2 (fun cal X P' hk hX hP => ?_)
              exact ⟨Or.inl rfl, hP _ _ h⟩
            · clear hP hX hk P' X cal
              rw [if_neg hc] at hr
              have hr := Option.some.inj hr
              subst hr
              refine Wp.stepsG 3 (fun cal X P' hk hX hP => ?_)
              exact ⟨Or.inr rfl, hP _ _ h⟩
        · clear hP hX hk P' X cal
          rw [if_neg hc] at hr
          refine Wp.stepsG 5 (fun cal X P' hk hX hP => ?_)
          show (((-1) : Int32) < 0 → X (159, [some (.ref 56), some (.int 0), some (.int q1), some (.int q6.1), some (.int q7.1), some (.int (-1))], [], st q7.2 hs, 0, 0)) ∧ (¬ ((-1) : Int32) < 0 → X (140, [some (.ref 56), some (.int 0), some (.int q1), some (.int q6.1), some (.int q7.1), some (.int (-1))], [], st q7.2 hs, 0, 0))
          refine ⟨fun _ => hX _ ?_, fun hc => absurd hc (by decide)⟩
          clear hP hX hk P' X cal
          have hr := Option.some.inj hr
          subst hr
          refine Wp.stepsG 2 (fun cal X P' hk hX hP => ?_)
          exact ⟨Or.inl rfl, hP _ _ h⟩
      · clear hP hX hk P' X cal
        rw [if_neg hc] at hr
        refine Wp.stepsG 5 (fun cal X P' hk hX hP => ?_)
        show (0 ≤ ((-1) : Int32) → X (129, [some (.ref 56), some (.int 0), some (.int q1), some (.int q6.1), some (.int (-1)), none], [], st q6.2 hs, 0, 0)) ∧ (¬ 0 ≤ ((-1) : Int32) → X (125, [some (.ref 56), some (.int 0), some (.int q1), some (.int q6.1), some (.int (-1)), none], [], st q6.2 hs, 0, 0))
        refine ⟨fun hc => absurd hc (by decide), fun _ => hX _ ?_⟩
        clear hP hX hk P' X cal
        refine Wp.stepsG 5 (fun cal X P' hk hX hP => ?_)
        show (((-1) : Int32) < 0 → X (159, [some (.ref 56), some (.int 0), some (.int q1), some (.int q6.1), some (.int (-1)), some (.int (-1))], [], st q6.2 hs, 0, 0)) ∧ (¬ ((-1) : Int32) < 0 → X (140, [some (.ref 56), some (.int 0), some (.int q1), some (.int q6.1), some (.int (-1)), some (.int (-1))], [], st q6.2 hs, 0, 0))
        refine ⟨fun _ => hX _ ?_, fun hc => absurd hc (by decide)⟩
        clear hP hX hk P' X cal
        have hr := Option.some.inj hr
        subst hr
        refine Wp.stepsG 2 (fun cal X P' hk hX hP => ?_)
        exact ⟨Or.inl rfl, hP _ _ h⟩
    · clear hP hX hk P' X cal
      rw [if_pos hc] at hr
      refine Wp.stepsG 3 (fun cal X P' hk hX hP => ?_)
      show ((0 : Int32) < 4 → X (28, [some (.ref 56), some (.int 0), some (.int q1), none, none, none], [], st S hs, 0, 0)) ∧ (¬ (0 : Int32) < 4 → X (26, [some (.ref 56), some (.int 0), some (.int q1), none, none, none], [], st S hs, 0, 0))
      refine ⟨fun _ => hX _ ?_, fun hc => absurd hc (by decide)⟩
      clear hP hX hk P' X cal
      refine Wp.stepsG 9 (fun cal X P' hk hX hP => ?_)
      show (¬ q1 = 33 → X (72, [some (.ref 56), some (.int 0), some (.int q1), none, none, none], [], st (sI S 56 7 ((S.1 56 7) + 1)) hs, 0, 0)) ∧ (q1 = 33 → X (44, [some (.ref 56), some (.int 0), some (.int q1), none, none, none], [], st (sI S 56 7 ((S.1 56 7) + 1)) hs, 0, 0))
      refine ⟨fun hc => hX _ ?_, fun hc => hX _ ?_⟩
      · clear hP hX hk P' X cal
        rw [if_neg hc] at hr
        refine Wp.stepsG 5 (fun cal X P' hk hX hP => ?_)
        show kcall cal ix_X5_learnEither [.ref 56, .int 1] (st (sI S 56 7 ((S.1 56 7) + 1)) hs) [] 0 0 (0, 0) (fun v σ' c' m' => X (79, [some (.ref 56), some (.int 0), some (.int q1), none, none, none], v.toList ++ [], σ', c', m'))
        obtain ⟨q10, hq10, hr⟩ := bd_some hr
        refine kcall0 rfl (hk _ _ _ _ _ _ (e_X5_learnEither_d1_56 (d + 0) (sI S 56 7 ((S.1 56 7) + 1)) hs q10 hq10 _ ?_))
        show X (79, [some (.ref 56), some (.int 0), some (.int q1), none, none, none], [.int q10.1], st q10.2 hs, 0, 0)
        refine hX _ ?_
        clear hP hX hk P' X cal
        refine Wp.stepsG 1 (fun cal X P' hk hX hP => ?_)
        show (q10.1 = 0 → X (95, [some (.ref 56), some (.int 0), some (.int q1), none, none, none], [], st q10.2 hs, 0, 0)) ∧ (¬ q10.1 = 0 → X (82, [some (.ref 56), some (.int 0), some (.int q1), none, none, none], [], st q10.2 hs, 0, 0))
        refine ⟨fun hc => hX _ ?_, fun hc => hX _ ?_⟩
        · clear hP hX hk P' X cal
          rw [if_pos hc] at hr
          have hr := Option.some.inj hr
          subst hr
          refine Wp.stepsG 2 (fun cal X P' hk hX hP => ?_)
          exact ⟨Or.inl rfl, hP _ _ h⟩
        · clear hP hX hk P' X cal
          rw [if_neg hc] at hr
          refine Wp.stepsG 3 (fun cal X P' hk hX hP => ?_)
          show kcall cal ix_X5_goBy [.ref 56, .int 41] (st q10.2 hs) [] 0 0 (0, 0) (fun v σ' c' m' => X (88, [some (.ref 56), some (.int 0), some (.int q1), none, none, none], v.toList ++ [], σ', c', m'))
          obtain ⟨q11, hq11, hr⟩ := bd_some hr
          refine kcall0 rfl (hk _ _ _ _ _ _ (e_X5_goBy_56 (d + 12) q10.2 hs 41 q11 hq11 _ ?_))
          show X (88, [some (.ref 56), some (.int 0), some (.int q1), none, none, none], [.int q11.1], st q11.2 hs, 0, 0)
          refine hX _ ?_
          clear hP hX hk P' X cal
          refine Wp.stepsG 1 (fun cal X P' hk hX hP => ?_)
          show (q11.1 = 0 → X (95, [some (.ref 56), some (.int 0), some (.int q1), none, none, none], [], st q11.2 hs, 0, 0)) ∧ (¬ q11.1 = 0 → X (91, [some (.ref 56), some (.int 0), some (.int q1), none, none, none], [], st q11.2 hs, 0, 0))
          refine ⟨fun hc => hX _ ?_, fun hc => hX _ ?_⟩
          · clear hP hX hk P' X cal
            rw [if_pos hc] at hr
            have hr := Option.some.inj hr
            subst hr
            refine Wp.stepsG 2 (fun cal X P' hk hX hP => ?_)
            exact ⟨Or.inl rfl, hP _ _ h⟩
          · clear hP hX hk P' X cal
            rw [if_neg hc] at hr
            have hr := Option.some.inj hr
            subst hr
            refine Wp.stepsG 3 (fun cal X P' hk hX hP => ?_)
            exact ⟨Or.inr rfl, hP _ _ h⟩
      · clear hP hX hk P' X cal
        rw [if_pos hc] at hr
        refine Wp.stepsG 5 (fun cal X P' hk hX hP => ?_)
        show kcall cal ix_X5_learnPart [.ref 56, .int 1] (st (sI S 56 7 ((S.1 56 7) + 1)) hs) [] 0 0 (0, 0) (fun v σ' c' m' => X (51, [some (.ref 56), some (.int 0), some (.int q1), none, none, none], v.toList ++ [], σ', c', m'))
        obtain ⟨q12, hq12, hr⟩ := bd_some hr
        refine kcall0 rfl (hk _ _ _ _ _ _ (e_X5_learnPart_d1_56 (d + 2) (sI S 56 7 ((S.1 56 7) + 1)) hs q12 hq12 _ ?_))
        show X (51, [some (.ref 56), some (.int 0), some (.int q1), none, none, none], [.int q12.1], st q12.2 hs, 0, 0)
        refine hX _ ?_
        clear hP hX hk P' X cal
        refine Wp.stepsG 1 (fun cal X P' hk hX hP => ?_)
        show (q12.1 = 0 → X (68, [some (.ref 56), some (.int 0), some (.int q1), none, none, none], [], st q12.2 hs, 0, 0)) ∧ (¬ q12.1 = 0 → X (54, [some (.ref 56), some (.int 0), some (.int q1), none, none, none], [], st q12.2 hs, 0, 0))
        refine ⟨fun hc => hX _ ?_, fun hc => hX _ ?_⟩
        · clear hP hX hk P' X cal
          rw [if_pos hc] at hr
          have hr := Option.some.inj hr
          subst hr
          refine Wp.stepsG 3 (fun cal X P' hk hX hP => ?_)
          exact ⟨Or.inl rfl, hP _ _ h⟩
        · clear hP hX hk P' X cal
          rw [if_neg hc] at hr
          refine Wp.stepsG 4 (fun cal X P' hk hX hP => ?_)
          show kcall cal ix_X5_add [.ref 56, .int 18, .int 0] (st q12.2 hs) [] 0 0 (0, 0) (fun v σ' c' m' => X (61, [some (.ref 56), some (.int 0), some (.int q1), none, none, none], v.toList ++ [], σ', c', m'))
          obtain ⟨q13, hq13, hr⟩ := bd_some hr
          refine kcall0 rfl (hk _ _ _ _ _ _ (e_X5_add_56 (d + 13) q12.2 hs 18 0 q13 hq13 _ ?_))
          show X (61, [some (.ref 56), some (.int 0), some (.int q1), none, none, none], [.int q13.1], st q13.2 hs, 0, 0)
          refine hX _ ?_
          clear hP hX hk P' X cal
          refine Wp.stepsG 1 (fun cal X P' hk hX hP => ?_)
          show (q13.1 = 0 → X (68, [some (.ref 56), some (.int 0), some (.int q1), none, none, none], [], st q13.2 hs, 0, 0)) ∧ (¬ q13.1 = 0 → X (64, [some (.ref 56), some (.int 0), some (.int q1), none, none, none], [], st q13.2 hs, 0, 0))
          refine ⟨fun hc => hX _ ?_, fun hc => hX _ ?_⟩
          · clear hP hX hk P' X cal
            rw [if_pos hc] at hr
            have hr := Option.some.inj hr
            subst hr
            refine Wp.stepsG 3 (fun cal X P' hk hX hP => ?_)
            exact ⟨Or.inl rfl, hP _ _ h⟩
          · clear hP hX hk P' X cal
            rw [if_neg hc] at hr
            have hr := Option.some.inj hr
            subst hr
            refine Wp.stepsG 3 (fun cal X P' hk hX hP => ?_)
            exact ⟨Or.inr rfl, hP _ _ h⟩
set_option maxRecDepth 20000 in
set_option maxHeartbeats 4000000 in
theorem e_lp_X5_learnBoth_d0_8_56 (d : Nat) (hs : List Hr) (P : Option Value → Hp → Prop) : ∀ (n : Nat) (v2 : Int32) (v3 : Int32) (S : St) (q : Int32 × St), lp_X5_learnBoth_d0_8 56 n v2 v3 S = some q → (WM mi_X5_learnBoth (d + 15) P 57 [some (.ref 56), some (.int 0), some (.int q.1), none] [] (st q.2 hs)) → WM mi_X5_learnBoth (d + 15) P 8 [some (.ref 56), some (.int 0), some (.int v2), some (.int v3)] [] (st S hs) := by
  intro n
  induction n with
  | zero =>
    intro v2 v3 S q hl
    cases hl
  | succ n ih =>
    intro v2 v3 S q hl ct
    rw [lp_X5_learnBoth_d0_8] at hl
    refine Wp.stepsG 3 (fun cal X P' hk hX hP => ?_)
    show (100 ≤ v3 → X (57, [some (.ref 56), some (.int 0), some (.int v2), some (.int v3)], [], st S hs, 0, 0)) ∧ (¬ 100 ≤ v3 → X (14, [some (.ref 56), some (.int 0), some (.int v2), some (.int v3)], [], st S hs, 0, 0))
    refine ⟨fun hc => hX _ ?_, fun hc => hX _ ?_⟩
    · clear hP hX hk P' X cal
      rw [if_pos hc] at hl
      have hl := Option.some.inj hl
      subst hl
      exact Wp.weak (leL.k (leL.k (leL.k (leL.n leL.z)))) (ct)
    · clear hP hX hk P' X cal
      rw [if_neg hc] at hl
      refine Wp.stepsG 2 (fun cal X P' hk hX hP => ?_)
      show (v2 = 0 → X (57, [some (.ref 56), some (.int 0), some (.int v2), some (.int v3)], [], st S hs, 0, 0)) ∧ (¬ v2 = 0 → X (18, [some (.ref 56), some (.int 0), some (.int v2), some (.int v3)], [], st S hs, 0, 0))
      refine ⟨fun hc => hX _ ?_, fun hc => hX _ ?_⟩
      · clear hP hX hk P' X cal
        rw [if_pos hc] at hl
        have hl := Option.some.inj hl
        subst hl
        exact Wp.weak (leL.k (leL.k (leL.k (leL.n leL.z)))) (ct)
      · clear hP hX hk P' X cal
        rw [if_neg hc] at hl
        refine Wp.stepsG 3 (fun cal X P' hk hX hP => ?_)
        show kcall cal ix_X5_goBy [.ref 56, .int 38] (st S hs) [] 0 0 (0, 0) (fun v σ' c' m' => X (24, [some (.ref 56), some (.int 0), some (.int v2), some (.int v3)], v.toList ++ [], σ', c', m'))
        obtain ⟨q2, hq2, hl⟩ := bd_some hl
        refine kcall0 rfl (hk _ _ _ _ _ _ (e_X5_goBy_56 (d + 13) S hs 38 q2 hq2 _ ?_))
        show X (24, [some (.ref 56), some (.int 0), some (.int v2), some (.int v3)], [.int q2.1], st q2.2 hs, 0, 0)
        refine hX _ ?_
        clear hP hX hk P' X cal
        refine Wp.stepsG 1 (fun cal X P' hk hX hP => ?_)
        show (q2.1 = 0 → X (57, [some (.ref 56), some (.int 0), some (.int v2), some (.int v3)], [], st q2.2 hs, 0, 0)) ∧ (¬ q2.1 = 0 → X (27, [some (.ref 56), some (.int 0), some (.int v2), some (.int v3)], [], st q2.2 hs, 0, 0))
        refine ⟨fun hc => hX _ ?_, fun hc => hX _ ?_⟩
        · clear hP hX hk P' X cal
          rw [if_pos hc] at hl
          have hl := Option.some.inj hl
          subst hl
          exact Wp.weak (leL.k (leL.k (leL.k (leL.n leL.z)))) (ct)
        · clear hP hX hk P' X cal
          rw [if_neg hc] at hl
          refine Wp.stepsG 3 (fun cal X P' hk hX hP => ?_)
          show kcall cal ix_X5_learnPart [.ref 56, .int 0] (st q2.2 hs) [] 0 0 (0, 0) (fun v σ' c' m' => X (32, [some (.ref 56), some (.int 0), some (.int v2), some (.int v3)], v.toList ++ [], σ', c', m'))
          obtain ⟨q3, hq3, hl⟩ := bd_some hl
          refine kcall0 rfl (hk _ _ _ _ _ _ (e_X5_learnPart_d0_56 (d + 0) q2.2 hs q3 hq3 _ ?_))
          show X (32, [some (.ref 56), some (.int 0), some (.int v2), some (.int v3)], [.int q3.1], st q3.2 hs, 0, 0)
          refine hX _ ?_
          clear hP hX hk P' X cal
          refine Wp.stepsG 1 (fun cal X P' hk hX hP => ?_)
          show (q3.1 = 0 → X (49, [some (.ref 56), some (.int 0), some (.int v2), some (.int v3)], [], st q3.2 hs, 0, 0)) ∧ (¬ q3.1 = 0 → X (35, [some (.ref 56), some (.int 0), some (.int v2), some (.int v3)], [], st q3.2 hs, 0, 0))
          refine ⟨fun hc => hX _ ?_, fun hc => hX _ ?_⟩
          · clear hP hX hk P' X cal
            rw [if_pos hc] at hl
            refine Wp.stepsG 4 (fun cal X P' hk hX hP => ?_)
            show X (8, [some (.ref 56), some (.int 0), some (.int 0), some (.int (v3 + 1))], [], st q3.2 hs, 0, 0)
            refine hX _ ?_
            exact (ih 0 (v3 + 1) q3.2 q hl ct)
          · clear hP hX hk P' X cal
            rw [if_neg hc] at hl
            refine Wp.stepsG 4 (fun cal X P' hk hX hP => ?_)
            show kcall cal ix_X5_add [.ref 56, .int 19, .int 0] (st q3.2 hs) [] 0 0 (0, 0) (fun v σ' c' m' => X (42, [some (.ref 56), some (.int 0), some (.int v2), some (.int v3)], v.toList ++ [], σ', c', m'))
            obtain ⟨q4, hq4, hl⟩ := bd_some hl
            refine kcall0 rfl (hk _ _ _ _ _ _ (e_X5_add_56 (d + 14) q3.2 hs 19 0 q4 hq4 _ ?_))
            show X (42, [some (.ref 56), some (.int 0), some (.int v2), some (.int v3)], [.int q4.1], st q4.2 hs, 0, 0)
            refine hX _ ?_
            clear hP hX hk P' X cal
            refine Wp.stepsG 1 (fun cal X P' hk hX hP => ?_)
            show (q4.1 = 0 → X (49, [some (.ref 56), some (.int 0), some (.int v2), some (.int v3)], [], st q4.2 hs, 0, 0)) ∧ (¬ q4.1 = 0 → X (45, [some (.ref 56), some (.int 0), some (.int v2), some (.int v3)], [], st q4.2 hs, 0, 0))
            refine ⟨fun hc => hX _ ?_, fun hc => hX _ ?_⟩
            · clear hP hX hk P' X cal
              rw [if_pos hc] at hl
              refine Wp.stepsG 4 (fun cal X P' hk hX hP => ?_)
              show X (8, [some (.ref 56), some (.int 0), some (.int 0), some (.int (v3 + 1))], [], st q4.2 hs, 0, 0)
              refine hX _ ?_
              exact (ih 0 (v3 + 1) q4.2 q hl ct)
            · clear hP hX hk P' X cal
              rw [if_neg hc] at hl
              refine Wp.stepsG 5 (fun cal X P' hk hX hP => ?_)
              show X (8, [some (.ref 56), some (.int 0), some (.int 1), some (.int (v3 + 1))], [], st q4.2 hs, 0, 0)
              refine hX _ ?_
              exact (ih 1 (v3 + 1) q4.2 q hl ct)
