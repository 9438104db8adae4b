def lp_X12_takesWord_2 (f1 : Int32) (f2 : Int32) : Nat → Int32 → St → Option (Nat × St)
  | 0, _, _ => none
  | n + 1, v3, S =>
    if f2 ≤ v3 then
      some (1, S)
    else
      gd (¬ ((f1 + v3) < 0 ∨ 15 ≤ (f1 + v3).toNatClampNeg)) (
        (r_X12_takes S ((S.1 92) (f1 + v3).toNatClampNeg)).bind fun q1 =>
        if q1.1 = 0 then
          some (0, q1.2)
        else
          lp_X12_takesWord_2 f1 f2 n (v3 + 1) q1.2)
set_option maxRecDepth 20000 in
set_option maxHeartbeats 4000000 in
theorem e_lp_X12_takesWord_2 (d : Nat) (hs : List Hr) (P : Option Value → Hp → Prop) (f1 : Int32) (f2 : Int32) : ∀ (n : Nat) (v3 : Int32) (S : St) (q : Nat × St), lp_X12_takesWord_2 f1 f2 n v3 S = some q → (q.1 = 0 → WM mi_X12_takesWord (d + 2) P 22 [some (.ref 76), some (.int f1), some (.int f2), none] [] (st q.2 hs)) ∧ (q.1 = 1 → WM mi_X12_takesWord (d + 2) P 30 [some (.ref 76), some (.int f1), some (.int f2), none] [] (st q.2 hs)) → WM mi_X12_takesWord (d + 2) P 2 [some (.ref 76), some (.int f1), some (.int f2), some (.int v3)] [] (st S hs) := by
  intro n
  induction n with
  | zero =>
    intro v3 S q hl
    cases hl
  | succ n ih =>
    intro v3 S q hl ct
    rw [lp_X12_takesWord_2] at hl
    refine Wp.stepsG 3 (fun cal X P' hk hX hP => ?_)
    show (f2 ≤ v3 → X (30, [some (.ref 76), some (.int f1), some (.int f2), some (.int v3)], [], st S hs, 0, 0)) ∧ (¬ f2 ≤ v3 → X (7, [some (.ref 76), some (.int f1), some (.int f2), some (.int v3)], [], st S hs, 0, 0))
    refine ⟨fun hc => hX _ ?_, fun hc => hX _ ?_⟩
    · clear hP hX hk P' X cal
      rw [if_pos hc] at hl
      have hl := Option.some.inj hl
      subst hl
      exact Wp.weak (leL.k (leL.k (leL.k (leL.n leL.z)))) (ct.2 rfl)
    · clear hP hX hk P' X cal
      rw [if_neg hc] at hl
      refine Wp.stepsG 7 (fun cal X P' hk hX hP => ?_)
      show vp_in (f1 + v3) 15 ∧ X (16, [some (.ref 76), some (.int f1), some (.int f2), some (.int v3)], [.int ((S.1 92) (f1 + v3).toNatClampNeg), .ref 76], st S hs, 0, 0)
      obtain ⟨hg, hl⟩ := gd_some hl
      refine ⟨hg, hX _ ?_⟩
      clear hP hX hk P' X cal
      refine Wp.stepsG 1 (fun cal X P' hk hX hP => ?_)
      show kcall cal ix_X12_takes [.ref 76, .int ((S.1 92) (f1 + v3).toNatClampNeg)] (st S hs) [] 0 0 (0, 0) (fun v σ' c' m' => X (19, [some (.ref 76), some (.int f1), some (.int f2), some (.int v3)], v.toList ++ [], σ', c', m'))
      obtain ⟨q1, hq1, hl⟩ := bd_some hl
      refine kcall0 rfl (hk _ _ _ _ _ _ (e_X12_takes (d + 0) S hs ((S.1 92) (f1 + v3).toNatClampNeg) q1 hq1 _ ?_))
      show X (19, [some (.ref 76), some (.int f1), some (.int f2), some (.int v3)], [.int q1.1], st q1.2 hs, 0, 0)
      refine hX _ ?_
      clear hP hX hk P' X cal
      refine Wp.stepsG 1 (fun cal X P' hk hX hP => ?_)
      show (¬ q1.1 = 0 → X (24, [some (.ref 76), some (.int f1), some (.int f2), some (.int v3)], [], st q1.2 hs, 0, 0)) ∧ (q1.1 = 0 → X (22, [some (.ref 76), some (.int f1), some (.int f2), some (.int v3)], [], st q1.2 hs, 0, 0))
      refine ⟨fun hc => hX _ ?_, fun hc => hX _ ?_⟩
      · clear hP hX hk P' X cal
        rw [if_neg hc] at hl
        refine Wp.stepsG 2 (fun cal X P' hk hX hP => ?_)
        show X (2, [some (.ref 76), some (.int f1), some (.int f2), some (.int (v3 + 1))], [], st q1.2 hs, 0, 0)
        refine hX _ ?_
        exact (ih (v3 + 1) q1.2 q hl ct)
      · clear hP hX hk P' X cal
        rw [if_pos hc] at hl
        have hl := Option.some.inj hl
        subst hl
        exact Wp.weak (leL.k (leL.k (leL.k (leL.n leL.z)))) (ct.1 rfl)
def r_X12_takesWord (S : St) (a1 : Int32) (a2 : Int32) : Option (Int32 × St) :=
  (lp_X12_takesWord_2 a1 a2 4000 0 S).bind fun q2 =>
  if q2.1 = 0 then
    some (0, q2.2)
  else
    (r_X12_takes q2.2 32).bind fun q3 =>
    gd (q3.1 = 0 ∨ q3.1 = 1) (some (q3.1, q3.2))
set_option maxRecDepth 20000 in
set_option maxHeartbeats 4000000 in
theorem e_X12_takesWord (d : Nat) (S : St) (hs : List Hr) (a1 : Int32) (a2 : Int32) (v : Int32 × St) (hr : r_X12_takesWord S a1 a2 = some v) (P : Option Value → Hp → Prop) (h : P (some (.int v.1)) (st v.2 hs)) : Ev (d + 3) ix_X12_takesWord 0 0 [.ref 76, .int a1, .int a2] (st S hs) P := by
  refine Ev.intro (M := mi_X12_takesWord) rfl (Nat.le_of_ble_eq_true rfl) ?_
  unfold r_X12_takesWord at hr
  refine Wp.stepsG 2 (fun cal X P' hk hX hP => ?_)
  show X (2, [some (.ref 76), some (.int a1), some (.int a2), some (.int 0)], [], st S hs, 0, 0)
  refine hX _ ?_
  clear hP hX hk P' X cal
  obtain ⟨q2, hq2, hr⟩ := bd_some hr
  refine (e_lp_X12_takesWord_2 d hs P a1 a2 _ 0 S q2 hq2 ?_)
  refine ⟨fun hc => ?_, fun hc => ?_⟩
  · have hcc := hc
    rw [if_pos hcc] at hr
    have hr := Option.some.inj hr
    subst hr
    refine Wp.stepsG 2 (fun cal X P' hk hX hP => ?_)
    exact ⟨Or.inl rfl, hP _ _ h⟩
  · have hcc := hc
    rw [if_neg (fun z => by rw [z] at hcc; exact absurd hcc (by decide))] at hr
    refine Wp.stepsG 3 (fun cal X P' hk hX hP => ?_)
    show kcall cal ix_X12_takes [.ref 76, .int 32] (st q2.2 hs) [] 0 0 (0, 0) (fun v σ' c' m' => X (36, [some (.ref 76), some (.int a1), some (.int a2), none], v.toList ++ [], σ', c', m'))
    obtain ⟨q3, hq3, hr⟩ := bd_some hr
    refine kcall0 rfl (hk _ _ _ _ _ _ (e_X12_takes (d + 0) q2.2 hs 32 q3 hq3 _ ?_))
    show X (36, [some (.ref 76), some (.int a1), some (.int a2), none], [.int q3.1], st q3.2 hs, 0, 0)
    refine hX _ ?_
    clear hP hX hk P' X cal
    obtain ⟨hb, hr⟩ := gd_some hr
    have hr := Option.some.inj hr
    subst hr
    refine Wp.stepsG 1 (fun cal X P' hk hX hP => ?_)
    exact ⟨hb, hP _ _ h⟩
def r_X12_isDigit (S : St) : Option Int32 :=
  (r_X12_next S).bind fun q1 =>
  gd ((r_X12_in q1 48 57) = 0 ∨ (r_X12_in q1 48 57) = 1) (some (r_X12_in q1 48 57))
set_option maxRecDepth 20000 in
set_option maxHeartbeats 4000000 in
theorem e_X12_isDigit (d : Nat) (S : St) (hs : List Hr) (v : Int32) (hr : r_X12_isDigit S = some v) (P : Option Value → Hp → Prop) (h : P (some (.int v)) (st S hs)) : Ev (d + 2) ix_X12_isDigit 0 0 [.ref 76] (st S hs) P := by
  refine Ev.intro (M := mi_X12_isDigit) rfl (Nat.le_of_ble_eq_true rfl) ?_
  unfold r_X12_isDigit at hr
  refine Wp.stepsG 3 (fun cal X P' hk hX hP => ?_)
  show kcall cal ix_X12_next [.ref 76] (st S hs) [.ref 76] 0 0 (0, 0) (fun v σ' c' m' => X (5, [some (.ref 76)], v.toList ++ [.ref 76], σ', c', m'))
  obtain ⟨q1, hq1, hr⟩ := bd_some hr
  refine kcall0 rfl (hk _ _ _ _ _ _ (e_X12_next (d + 0) S hs q1 hq1 _ ?_))
  show X (5, [some (.ref 76)], [.int q1, .ref 76], st S hs, 0, 0)
  refine hX _ ?_
  clear hP hX hk P' X cal
  refine Wp.stepsG 3 (fun cal X P' hk hX hP => ?_)
  show kcall cal ix_X12_in [.ref 76, .int q1, .int 48, .int 57] (st S hs) [] 0 0 (0, 0) (fun v σ' c' m' => X (12, [some (.ref 76)], v.toList ++ [], σ', c', m'))
  refine kcall0 rfl (hk _ _ _ _ _ _ (e_X12_in (d + 0) S hs q1 48 57 _ ?_))
  show X (12, [some (.ref 76)], [.int (r_X12_in q1 48 57)], st S hs, 0, 0)
  refine hX _ ?_
  clear hP hX hk P' X cal
  obtain ⟨hb, hr⟩ := gd_some hr
  have hr := Option.some.inj hr
  subst hr
  refine Wp.stepsG 1 (fun cal X P' hk hX hP => ?_)
  exact ⟨hb, hP _ _ h⟩
def lp_X12_takesNumber_16 : Nat → Int32 → St → Option (St)
  | 0, _, _ => none
  | n + 1, v1, S =>
    if 2 ≤ v1 then
      some S
    else
      (r_X12_isDigit S).bind fun q2 =>
      if q2 = 0 then
        some S
      else
        (r_X12_next S).bind fun q3 =>
        lp_X12_takesNumber_16 n (v1 + 1) (sI (sI S 76 14 ((((10 : Int32) * (S.1 76 14)) + q3) - 48)) 76 13 ((S.1 76 13) + 1))
set_option maxRecDepth 20000 in
set_option maxHeartbeats 4000000 in
theorem e_lp_X12_takesNumber_16 (d : Nat) (hs : List Hr) (P : Option Value → Hp → Prop) : ∀ (n : Nat) (v1 : Int32) (S : St) (q : St), lp_X12_takesNumber_16 n v1 S = some q → (WM mi_X12_takesNumber (d + 2) P 63 [some (.ref 76), none] [] (st q hs)) → WM mi_X12_takesNumber (d + 2) P 16 [some (.ref 76), some (.int v1)] [] (st S hs) := by
  intro n
  induction n with
  | zero =>
    intro v1 S q hl
    cases hl
  | succ n ih =>
    intro v1 S q hl ct
    rw [lp_X12_takesNumber_16] at hl
    refine Wp.stepsG 3 (fun cal X P' hk hX hP => ?_)
    show (2 ≤ v1 → X (63, [some (.ref 76), some (.int v1)], [], st S hs, 0, 0)) ∧ (¬ 2 ≤ v1 → X (21, [some (.ref 76), some (.int v1)], [], st S hs, 0, 0))
    refine ⟨fun hc => hX _ ?_, fun hc => hX _ ?_⟩
    · clear hP hX hk P' X cal
      rw [if_pos hc] at hl
      have hl := Option.some.inj hl
      subst hl
      exact Wp.weak (leL.k (leL.n leL.z)) (ct)
    · clear hP hX hk P' X cal
      rw [if_neg hc] at hl
      refine Wp.stepsG 2 (fun cal X P' hk hX hP => ?_)
      show kcall cal ix_X12_isDigit [.ref 76] (st S hs) [] 0 0 (0, 0) (fun v σ' c' m' => X (25, [some (.ref 76), some (.int v1)], v.toList ++ [], σ', c', m'))
      obtain ⟨q2, hq2, hl⟩ := bd_some hl
      refine kcall0 rfl (hk _ _ _ _ _ _ (e_X12_isDigit (d + 0) S hs q2 hq2 _ ?_))
      show X (25, [some (.ref 76), some (.int v1)], [.int q2], st S hs, 0, 0)
      refine hX _ ?_
      clear hP hX hk P' X cal
      refine Wp.stepsG 1 (fun cal X P' hk hX hP => ?_)
      show (q2 = 0 → X (63, [some (.ref 76), some (.int v1)], [], st S hs, 0, 0)) ∧ (¬ q2 = 0 → X (28, [some (.ref 76), some (.int v1)], [], st S hs, 0, 0))
      refine ⟨fun hc => hX _ ?_, fun hc => hX _ ?_⟩
      · clear hP hX hk P' X cal
        rw [if_pos hc] at hl
        have hl := Option.some.inj hl
        subst hl
        exact Wp.weak (leL.k (leL.n leL.z)) (ct)
      · clear hP hX hk P' X cal
        rw [if_neg hc] at hl
        refine Wp.stepsG 7 (fun cal X P' hk hX hP => ?_)
        show kcall cal ix_X12_next [.ref 76] (st S hs) [.int ((10 : Int32) * (S.1 76 14)), .ref 76] 0 0 (0, 0) (fun v σ' c' m' => X (40, [some (.ref 76), some (.int v1)], v.toList ++ [.int ((10 : Int32) * (S.1 76 14)), .ref 76], σ', c', m'))
        obtain ⟨q3, hq3, hl⟩ := bd_some hl
        refine kcall0 rfl (hk _ _ _ _ _ _ (e_X12_next (d + 1) S hs q3 hq3 _ ?_))
        show X (40, [some (.ref 76), some (.int v1)], [.int q3, .int ((10 : Int32) * (S.1 76 14)), .ref 76], st S hs, 0, 0)
        refine hX _ ?_
        clear hP hX hk P' X cal
        refine Wp.stepsG 12 (fun cal X P' hk hX hP => ?_)
        show X (16, [some (.ref 76), some (.int (v1 + 1))], [], st (sI (sI S 76 14 ((((10 : Int32) * (S.1 76 14)) + q3) - 48)) 76 13 ((S.1 76 13) + 1)) hs, 0, 0)
        refine hX _ ?_
        exact (ih (v1 + 1) (sI (sI S 76 14 ((((10 : Int32) * (S.1 76 14)) + q3) - 48)) 76 13 ((S.1 76 13) + 1)) q hl ct)
def r_X12_takesNumber (S : St) : Option (Int32 × St) :=
  (r_X12_isDigit S).bind fun q1 =>
  if q1 = 0 then
    some (0, S)
  else
    (lp_X12_takesNumber_16 4000 0 (sI S 76 14 0)).bind fun q4 =>
      some (1, q4)
set_option maxRecDepth 20000 in
set_option maxHeartbeats 4000000 in
theorem e_X12_takesNumber (d : Nat) (S : St) (hs : List Hr) (v : Int32 × St) (hr : r_X12_takesNumber S = some v) (P : Option Value → Hp → Prop) (h : P (some (.int v.1)) (st v.2 hs)) : Ev (d + 3) ix_X12_takesNumber 0 0 [.ref 76] (st S hs) P := by
  refine Ev.intro (M := mi_X12_takesNumber) rfl (Nat.le_of_ble_eq_true rfl) ?_
  unfold r_X12_takesNumber at hr
  refine Wp.stepsG 2 (fun cal X P' hk hX hP => ?_)
  show kcall cal ix_X12_isDigit [.ref 76] (st S hs) [] 0 0 (0, 0) (fun v σ' c' m' => X (4, [some (.ref 76), none], v.toList ++ [], σ', c', m'))
  obtain ⟨q1, hq1, hr⟩ := bd_some hr
  refine kcall0 rfl (hk _ _ _ _ _ _ (e_X12_isDigit (d + 0) S hs q1 hq1 _ ?_))
  show X (4, [some (.ref 76), none], [.int q1], st S hs, 0, 0)
  refine hX _ ?_
  clear hP hX hk P' X cal
  refine Wp.stepsG 1 (fun cal X P' hk hX hP => ?_)
  show (¬ q1 = 0 → X (9, [some (.ref 76), none], [], st S hs, 0, 0)) ∧ (q1 = 0 → X (7, [some (.ref 76), none], [], st S hs, 0, 0))
  refine ⟨fun hc => hX _ ?_, fun hc => hX _ ?_⟩
  · clear hP hX hk P' X cal
    rw [if_neg hc] at hr
    refine Wp.stepsG 5 (fun cal X P' hk hX hP => ?_)
    show X (16, [some (.ref 76), some (.int 0)], [], st (sI S 76 14 0) hs, 0, 0)
    refine hX _ ?_
    clear hP hX hk P' X cal
    obtain ⟨q4, hq4, hr⟩ := bd_some hr
    refine (e_lp_X12_takesNumber_16 d hs P _ 0 (sI S 76 14 0) q4 hq4 ?_)
    have hr := Option.some.inj hr
    subst hr
    refine Wp.stepsG 2 (fun cal X P' hk hX hP => ?_)
    exact ⟨Or.inr rfl, hP _ _ h⟩
  · clear hP hX hk P' X cal
    rw [if_pos hc] at hr
    have hr := Option.some.inj hr
    subst hr
    refine Wp.stepsG 2 (fun cal X P' hk hX hP => ?_)
    exact ⟨Or.inl rfl, hP _ _ h⟩
def r_X12_emits (S : St) (a1 : Int32) : Option (Int32 × St) :=
  gd (¬ ((S.1 76 23) < 0 ∨ 600 ≤ (S.1 76 23).toNatClampNeg)) (
    some (0, sI (sA S 90 (upd (S.1 90) (S.1 76 23).toNatClampNeg a1)) 76 23 ((S.1 76 23) + 1)))
set_option maxRecDepth 20000 in
set_option maxHeartbeats 4000000 in
theorem e_X12_emits (d : Nat) (S : St) (hs : List Hr) (a1 : Int32) (v : Int32 × St) (hr : r_X12_emits S a1 = some v) (P : Option Value → Hp → Prop) (h : P none (st v.2 hs)) : Ev (d + 1) ix_X12_emits 0 0 [.ref 76, .int a1] (st S hs) P := by
  refine Ev.intro (M := mi_X12_emits) rfl (Nat.le_of_ble_eq_true rfl) ?_
  unfold r_X12_emits at hr
  refine Wp.stepsG 6 (fun cal X P' hk hX hP => ?_)
  show vp_in (S.1 76 23) 600 ∧ X (10, [some (.ref 76), some (.int a1)], [], st (sA S 90 (upd (S.1 90) (S.1 76 23).toNatClampNeg a1)) hs, 0, 0)
  obtain ⟨hg, hr⟩ := gd_some hr
  refine ⟨hg, hX _ ?_⟩
  clear hP hX hk P' X cal
  have hr := Option.some.inj hr
  subst hr
  refine Wp.stepsG 7 (fun cal X P' hk hX hP => ?_)
  exact hP _ _ h
def lp_X12_whole_0 : Nat → St → Option (St)
  | 0, _ => none
  | n + 1, S =>
    if (S.1 76 24) ≤ 0 then
      some S
    else
      gd (¬ (((S.1 76 24) - 1) < 0 ∨ 101 ≤ ((S.1 76 24) - 1).toNatClampNeg)) (
        if ((S.1 91) ((S.1 76 24) - 1).toNatClampNeg) = 33 then
          (r_X12_emits S (-33)).bind fun q1 =>
          lp_X12_whole_0 n (sI (sI q1.2 76 24 ((q1.2.1 76 24) - 1)) 76 25 ((q1.2.1 76 25) - 1))
        else
          some S)
set_option maxRecDepth 20000 in
set_option maxHeartbeats 4000000 in
theorem e_lp_X12_whole_0 (d : Nat) (hs : List Hr) (P : Option Value → Hp → Prop) : ∀ (n : Nat) (S : St) (q : St), lp_X12_whole_0 n S = some q → (WM mi_X12_whole (d + 1) P 52 [some (.ref 76)] [] (st q hs)) → WM mi_X12_whole (d + 1) P 0 [some (.ref 76)] [] (st S hs) := by
  intro n
  induction n with
  | zero =>
    intro S q hl
    cases hl
  | succ n ih =>
    intro S q hl ct
    rw [lp_X12_whole_0] at hl
    refine Wp.stepsG 3 (fun cal X P' hk hX hP => ?_)
    show ((S.1 76 24) ≤ 0 → X (52, [some (.ref 76)], [], st S hs, 0, 0)) ∧ (¬ (S.1 76 24) ≤ 0 → X (7, [some (.ref 76)], [], st S hs, 0, 0))
    refine ⟨fun hc => hX _ ?_, fun hc => hX _ ?_⟩
    · clear hP hX hk P' X cal
      rw [if_pos hc] at hl
      have hl := Option.some.inj hl
      subst hl
      exact (ct)
    · clear hP hX hk P' X cal
      rw [if_neg hc] at hl
      refine Wp.stepsG 7 (fun cal X P' hk hX hP => ?_)
      show vp_in ((S.1 76 24) - 1) 101 ∧ X (18, [some (.ref 76)], [.int ((S.1 91) ((S.1 76 24) - 1).toNatClampNeg)], st S hs, 0, 0)
      obtain ⟨hg, hl⟩ := gd_some hl
      refine ⟨hg, hX _ ?_⟩
      clear hP hX hk P' X cal
      refine Wp.stepsG 2 (fun cal X P' hk hX hP => ?_)
      show (¬ ((S.1 91) ((S.1 76 24) - 1).toNatClampNeg) = 33 → X (52, [some (.ref 76)], [], st S hs, 0, 0)) ∧ (((S.1 91) ((S.1 76 24) - 1).toNatClampNeg) = 33 → X (23, [some (.ref 76)], [], st S hs, 0, 0))
      refine ⟨fun hc => hX _ ?_, fun hc => hX _ ?_⟩
      · clear hP hX hk P' X cal
        rw [if_neg hc] at hl
        have hl := Option.some.inj hl
        subst hl
        exact (ct)
      · clear hP hX hk P' X cal
        rw [if_pos hc] at hl
        refine Wp.stepsG 3 (fun cal X P' hk hX hP => ?_)
        show kcall cal ix_X12_emits [.ref 76, .int (-33)] (st S hs) [] 0 0 (0, 0) (fun v σ' c' m' => X (29, [some (.ref 76)], v.toList ++ [], σ', c', m'))
        obtain ⟨q1, hq1, hl⟩ := bd_some hl
        refine kcall0 rfl (hk _ _ _ _ _ _ (e_X12_emits (d + 0) S hs (-33) q1 hq1 _ ?_))
        show X (29, [some (.ref 76)], [], st q1.2 hs, 0, 0)
        refine hX _ ?_
        clear hP hX hk P' X cal
        refine Wp.stepsG 13 (fun cal X P' hk hX hP => ?_)
        show X (0, [some (.ref 76)], [], st (sI (sI q1.2 76 24 ((q1.2.1 76 24) - 1)) 76 25 ((q1.2.1 76 25) - 1)) hs, 0, 0)
        refine hX _ ?_
        exact (ih (sI (sI q1.2 76 24 ((q1.2.1 76 24) - 1)) 76 25 ((q1.2.1 76 25) - 1)) q hl ct)
def r_X12_whole (S : St) : Option (Int32 × St) :=
  (lp_X12_whole_0 4000 S).bind fun q2 =>
    some (0, q2)
set_option maxRecDepth 20000 in
set_option maxHeartbeats 4000000 in
theorem e_X12_whole (d : Nat) (S : St) (hs : List Hr) (v : Int32 × St) (hr : r_X12_whole S = some v) (P : Option Value → Hp → Prop) (h : P none (st v.2 hs)) : Ev (d + 2) ix_X12_whole 0 0 [.ref 76] (st S hs) P := by
  refine Ev.intro (M := mi_X12_whole) rfl (Nat.le_of_ble_eq_true rfl) ?_
  unfold r_X12_whole at hr
  obtain ⟨q2, hq2, hr⟩ := bd_some hr
  refine (e_lp_X12_whole_0 d hs P _ S q2 hq2 ?_)
  have hr := Option.some.inj hr
  subst hr
  refine Wp.stepsG 1 (fun cal X P' hk hX hP => ?_)
  exact hP _ _ h
def lp_X12_settle_0 (f1 : Int32) : Nat → St → Option (St)
  | 0, _ => none
  | n + 1, S =>
    if (S.1 76 24) ≤ 0 then
      some S
    else
      gd (¬ (((S.1 76 24) - 1) < 0 ∨ 101 ≤ ((S.1 76 24) - 1).toNatClampNeg)) (
        if ((S.1 91) ((S.1 76 24) - 1).toNatClampNeg) = 38 then
          gd (¬ (((S.1 76 24) - 1) < 0 ∨ 101 ≤ ((S.1 76 24) - 1).toNatClampNeg)) (
            (r_X12_emits (sI S 76 24 ((S.1 76 24) - 1)) (-((S.1 91) ((S.1 76 24) - 1).toNatClampNeg))).bind fun q1 =>
            lp_X12_settle_0 f1 n q1.2)
        else
          gd (¬ (((S.1 76 24) - 1) < 0 ∨ 101 ≤ ((S.1 76 24) - 1).toNatClampNeg)) (
            if ((S.1 91) ((S.1 76 24) - 1).toNatClampNeg) = 124 then
              if f1 = 38 then
                some S
              else
                gd (¬ (((S.1 76 24) - 1) < 0 ∨ 101 ≤ ((S.1 76 24) - 1).toNatClampNeg)) (
                  (r_X12_emits (sI S 76 24 ((S.1 76 24) - 1)) (-((S.1 91) ((S.1 76 24) - 1).toNatClampNeg))).bind fun q2 =>
                  lp_X12_settle_0 f1 n q2.2)
            else
              some S))
set_option maxRecDepth 20000 in
set_option maxHeartbeats 4000000 in
theorem e_lp_X12_settle_0 (d : Nat) (hs : List Hr) (P : Option Value → Hp → Prop) (f1 : Int32) : ∀ (n : Nat) (S : St) (q : St), lp_X12_settle_0 f1 n S = some q → (WM mi_X12_settle (d + 1) P 72 [some (.ref 76), some (.int f1)] [] (st q hs)) → WM mi_X12_settle (d + 1) P 0 [some (.ref 76), some (.int f1)] [] (st S hs) := by
  intro n
  induction n with
  | zero =>
    intro S q hl
    cases hl
  | succ n ih =>
    intro S q hl ct
    rw [lp_X12_settle_0] at hl
    refine Wp.stepsG 3 (fun cal X P' hk hX hP => ?_)
    show ((S.1 76 24) ≤ 0 → X (72, [some (.ref 76), some (.int f1)], [], st S hs, 0, 0)) ∧ (¬ (S.1 76 24) ≤ 0 → X (7, [some (.ref 76), some (.int f1)], [], st S hs, 0, 0))
    refine ⟨fun hc => hX _ ?_, fun hc => hX _ ?_⟩
    · clear hP hX hk P' X cal
      rw [if_pos hc] at hl
      have hl := Option.some.inj hl
      subst hl
      exact (ct)
    · clear hP hX hk P' X cal
      rw [if_neg hc] at hl
      refine Wp.stepsG 7 (fun cal X P' hk hX hP => ?_)
      show vp_in ((S.1 76 24) - 1) 101 ∧ X (18, [some (.ref 76), some (.int f1)], [.int ((S.1 91) ((S.1 76 24) - 1).toNatClampNeg)], st S hs, 0, 0)
      obtain ⟨hg, hl⟩ := gd_some hl
      refine ⟨hg, hX _ ?_⟩
      clear hP hX hk P' X cal
      refine Wp.stepsG 2 (fun cal X P' hk hX hP => ?_)
      show (((S.1 91) ((S.1 76 24) - 1).toNatClampNeg) = 38 → X (45, [some (.ref 76), some (.int f1)], [], st S hs, 0, 0)) ∧ (¬ ((S.1 91) ((S.1 76 24) - 1).toNatClampNeg) = 38 → X (23, [some (.ref 76), some (.int f1)], [], st S hs, 0, 0))
      refine ⟨fun hc => hX _ ?_, fun hc => hX _ ?_⟩
      · clear hP hX hk P' X cal
        rw [if_pos hc] at hl
        refine Wp.stepsG 12 (fun cal X P' hk hX hP => ?_)
        show vp_in ((S.1 76 24) - 1) 101 ∧ X (65, [some (.ref 76), some (.int f1)], [.int ((S.1 91) ((S.1 76 24) - 1).toNatClampNeg), .ref 76], st (sI S 76 24 ((S.1 76 24) - 1)) hs, 0, 0)
        obtain ⟨hg, hl⟩ := gd_some hl
        refine ⟨hg, hX _ ?_⟩
        clear hP hX hk P' X cal
        refine Wp.stepsG 2 (fun cal X P' hk hX hP => ?_)
        show kcall cal ix_X12_emits [.ref 76, .int (-((S.1 91) ((S.1 76 24) - 1).toNatClampNeg))] (st (sI S 76 24 ((S.1 76 24) - 1)) hs) [] 0 0 (0, 0) (fun v σ' c' m' => X (69, [some (.ref 76), some (.int f1)], v.toList ++ [], σ', c', m'))
        obtain ⟨q1, hq1, hl⟩ := bd_some hl
        refine kcall0 rfl (hk _ _ _ _ _ _ (e_X12_emits (d + 0) (sI S 76 24 ((S.1 76 24) - 1)) hs (-((S.1 91) ((S.1 76 24) - 1).toNatClampNeg)) q1 hq1 _ ?_))
        show X (69, [some (.ref 76), some (.int f1)], [], st q1.2 hs, 0, 0)
        refine hX _ ?_
        clear hP hX hk P' X cal
        refine Wp.stepsG 1 (fun cal X P' hk hX hP => ?_)
        show X (0, [some (.ref 76), some (.int f1)], [], st q1.2 hs, 0, 0)
        refine hX _ ?_
        exact (ih q1.2 q hl ct)
      · clear hP hX hk P' X cal
        rw [if_neg hc] at hl
        refine Wp.stepsG 7 (fun cal X P' hk hX hP => ?_)
        show vp_in ((S.1 76 24) - 1) 101 ∧ X (34, [some (.ref 76), some (.int f1)], [.int ((S.1 91) ((S.1 76 24) - 1).toNatClampNeg)], st S hs, 0, 0)
        obtain ⟨hg, hl⟩ := gd_some hl
        refine ⟨hg, hX _ ?_⟩
        clear hP hX hk P' X cal
        refine Wp.stepsG 2 (fun cal X P' hk hX hP => ?_)
        show (¬ ((S.1 91) ((S.1 76 24) - 1).toNatClampNeg) = 124 → X (72, [some (.ref 76), some (.int f1)], [], st S hs, 0, 0)) ∧ (((S.1 91) ((S.1 76 24) - 1).toNatClampNeg) = 124 → X (39, [some (.ref 76), some (.int f1)], [], st S hs, 0, 0))
        refine ⟨fun hc => hX _ ?_, fun hc => hX _ ?_⟩
        · clear hP hX hk P' X cal
          rw [if_neg hc] at hl
          have hl := Option.some.inj hl
          subst hl
          exact (ct)
        · clear hP hX hk P' X cal
          rw [if_pos hc] at hl
          refine Wp.stepsG 3 (fun cal X P' hk hX hP => ?_)
          show (f1 = 38 → X (72, [some (.ref 76), some (.int f1)], [], st S hs, 0, 0)) ∧ (¬ f1 = 38 → X (45, [some (.ref 76), some (.int f1)], [], st S hs, 0, 0))
          refine ⟨fun hc => hX _ ?_, fun hc => hX _ ?_⟩
          · clear hP hX hk P' X cal
            rw [if_pos hc] at hl
            have hl := Option.some.inj hl
            subst hl
            exact (ct)
          · clear hP hX hk P' X cal
            rw [if_neg hc] at hl
            refine Wp.stepsG 12 (fun cal X P' hk hX hP => ?_)
            show vp_in ((S.1 76 24) - 1) 101 ∧ X (65, [some (.ref 76), some (.int f1)], [.int ((S.1 91) ((S.1 76 24) - 1).toNatClampNeg), .ref 76], st (sI S 76 24 ((S.1 76 24) - 1)) hs, 0, 0)
            obtain ⟨hg, hl⟩ := gd_some hl
            refine ⟨hg, hX _ ?_⟩
            clear hP hX hk P' X cal
            refine Wp.stepsG 2 (fun cal X P' hk hX hP => ?_)
            show kcall cal ix_X12_emits [.ref 76, .int (-((S.1 91) ((S.1 76 24) - 1).toNatClampNeg))] (st (sI S 76 24 ((S.1 76 24) - 1)) hs) [] 0 0 (0, 0) (fun v σ' c' m' => X (69, [some (.ref 76), some (.int f1)], v.toList ++ [], σ', c', m'))
            obtain ⟨q2, hq2, hl⟩ := bd_some hl
            refine kcall0 rfl (hk _ _ _ _ _ _ (e_X12_emits (d + 0) (sI S 76 24 ((S.1 76 24) - 1)) hs (-((S.1 91) ((S.1 76 24) - 1).toNatClampNeg)) q2 hq2 _ ?_))
            show X (69, [some (.ref 76), some (.int f1)], [], st q2.2 hs, 0, 0)
            refine hX _ ?_
            clear hP hX hk P' X cal
            refine Wp.stepsG 1 (fun cal X P' hk hX hP => ?_)
            show X (0, [some (.ref 76), some (.int f1)], [], st q2.2 hs, 0, 0)
            refine hX _ ?_
            exact (ih q2.2 q hl ct)
def r_X12_settle (S : St) (a1 : Int32) : Option (Int32 × St) :=
  (lp_X12_settle_0 a1 4000 S).bind fun q3 =>
    some (0, q3)
set_option maxRecDepth 20000 in
set_option maxHeartbeats 4000000 in
theorem e_X12_settle (d : Nat) (S : St) (hs : List Hr) (a1 : Int32) (v : Int32 × St) (hr : r_X12_settle S a1 = some v) (P : Option Value → Hp → Prop) (h : P none (st v.2 hs)) : Ev (d + 2) ix_X12_settle 0 0 [.ref 76, .int a1] (st S hs) P := by
  refine Ev.intro (M := mi_X12_settle) rfl (Nat.le_of_ble_eq_true rfl) ?_
  unfold r_X12_settle at hr
  obtain ⟨q3, hq3, hr⟩ := bd_some hr
  refine (e_lp_X12_settle_0 d hs P a1 _ S q3 hq3 ?_)
  have hr := Option.some.inj hr
  subst hr
  refine Wp.stepsG 1 (fun cal X P' hk hX hP => ?_)
  exact hP _ _ h
def r_X12_place (a1 : Int32) : Int32 :=
  if a1 = 103 then
    3
  else
  if a1 = 104 then
    0
  else
  if a1 = 105 then
    (-1)
  else
  if a1 = 106 then
    (-1)
  else
  if a1 = 107 then
    1
  else
  if a1 = 108 then
    (-1)
  else
  if a1 = 109 then
    (-1)
  else
  if a1 = 110 then
    (-1)
  else
  if a1 = 111 then
    (-1)
  else
  if a1 = 112 then
    (-1)
  else
  if a1 = 113 then
    (-1)
  else
  if a1 = 114 then
    (-1)
  else
  if a1 = 115 then
    2
  else
  if a1 = 116 then
    4
  else
  if a1 = 117 then
    (-1)
  else
  if a1 = 118 then
    (-1)
  else
  if a1 = 119 then
    5
  else
    (-1)
set_option maxRecDepth 20000 in
set_option maxHeartbeats 4000000 in
theorem e_X12_place (d : Nat) (S : St) (hs : List Hr) (a1 : Int32) (P : Option Value → Hp → Prop) (h : P (some (.int (r_X12_place a1))) (st S hs)) : Ev (d + 1) ix_X12_place 0 0 [.ref 76, .int a1] (st S hs) P := by
  refine Ev.intro (M := mi_X12_place) rfl (Nat.le_of_ble_eq_true rfl) ?_
  unfold r_X12_place at h
  refine Wp.stepsG 2 (fun cal X P' hk hX hP => ?_)
  show (a1 = 103 → X (90, [some (.ref 76), some (.int a1)], [], st S hs, 0, 0)) ∧ (¬ a1 = 103 → (a1 = 104 → X (84, [some (.ref 76), some (.int a1)], [], st S hs, 0, 0)) ∧ (¬ a1 = 104 → (a1 = 105 → X (96, [some (.ref 76), some (.int a1)], [], st S hs, 0, 0)) ∧ (¬ a1 = 105 → (a1 = 106 → X (96, [some (.ref 76), some (.int a1)], [], st S hs, 0, 0)) ∧ (¬ a1 = 106 → (a1 = 107 → X (86, [some (.ref 76), some (.int a1)], [], st S hs, 0, 0)) ∧ (¬ a1 = 107 → (a1 = 108 → X (96, [some (.ref 76), some (.int a1)], [], st S hs, 0, 0)) ∧ (¬ a1 = 108 → (a1 = 109 → X (96, [some (.ref 76), some (.int a1)], [], st S hs, 0, 0)) ∧ (¬ a1 = 109 → (a1 = 110 → X (96, [some (.ref 76), some (.int a1)], [], st S hs, 0, 0)) ∧ (¬ a1 = 110 → (a1 = 111 → X (96, [some (.ref 76), some (.int a1)], [], st S hs, 0, 0)) ∧ (¬ a1 = 111 → (a1 = 112 → X (96, [some (.ref 76), some (.int a1)], [], st S hs, 0, 0)) ∧ (¬ a1 = 112 → (a1 = 113 → X (96, [some (.ref 76), some (.int a1)], [], st S hs, 0, 0)) ∧ (¬ a1 = 113 → (a1 = 114 → X (96, [some (.ref 76), some (.int a1)], [], st S hs, 0, 0)) ∧ (¬ a1 = 114 → (a1 = 115 → X (88, [some (.ref 76), some (.int a1)], [], st S hs, 0, 0)) ∧ (¬ a1 = 115 → (a1 = 116 → X (92, [some (.ref 76), some (.int a1)], [], st S hs, 0, 0)) ∧ (¬ a1 = 116 → (a1 = 117 → X (96, [some (.ref 76), some (.int a1)], [], st S hs, 0, 0)) ∧ (¬ a1 = 117 → (a1 = 118 → X (96, [some (.ref 76), some (.int a1)], [], st S hs, 0, 0)) ∧ (¬ a1 = 118 → (a1 = 119 → X (94, [some (.ref 76), some (.int a1)], [], st S hs, 0, 0)) ∧ (¬ a1 = 119 → X (96, [some (.ref 76), some (.int a1)], [], st S hs, 0, 0))))))))))))))))))
  refine ⟨fun hc => hX _ ?_, fun hc => ?_⟩
  · clear hP hX hk P' X cal
    rw [if_pos hc] at h
    refine Wp.stepsG 2 (fun cal X P' hk hX hP => ?_)
    exact hP _ _ h
  · rw [if_neg hc] at h
    refine ⟨fun hc => hX _ ?_, fun hc => ?_⟩
    · clear hP hX hk P' X cal
      rw [if_pos hc] at h
      refine Wp.stepsG 2 (fun cal X P' hk hX hP => ?_)
      exact hP _ _ h
    · rw [if_neg hc] at h
      refine ⟨fun hc => hX _ ?_, fun hc => ?_⟩
      · clear hP hX hk P' X cal
        rw [if_pos hc] at h
        refine Wp.stepsG 2 (fun cal X P' hk hX hP => ?_)
        exact hP _ _ h
      · rw [if_neg hc] at h
        refine ⟨fun hc => hX _ ?_, fun hc => ?_⟩
        · clear hP hX hk P' X cal
          rw [if_pos hc] at h
          refine Wp.stepsG 2 (fun cal X P' hk hX hP => ?_)
          exact hP _ _ h
        · rw [if_neg hc] at h
          refine ⟨fun hc => hX _ ?_, fun hc => ?_⟩
          · clear hP hX hk P' X cal
            rw [if_pos hc] at h
            refine Wp.stepsG 2 (fun cal X P' hk hX hP => ?_)
            exact hP _ _ h
          · rw [if_neg hc] at h
            refine ⟨fun hc => hX _ ?_, fun hc => ?_⟩
            · clear hP hX hk P' X cal
              rw [if_pos hc] at h
              refine Wp.stepsG 2 (fun cal X P' hk hX hP => ?_)
              exact hP _ _ h
            · rw [if_neg hc] at h
              refine ⟨fun hc => hX _ ?_, fun hc => ?_⟩
              · clear hP hX hk P' X cal
                rw [if_pos hc] at h
                refine Wp.stepsG 2 (fun cal X P' hk hX hP => ?_)
                exact hP _ _ h
              · rw [if_neg hc] at h
                refine ⟨fun hc => hX _ ?_, fun hc => ?_⟩
                · clear hP hX hk P' X cal
                  rw [if_pos hc] at h
                  refine Wp.stepsG 2 (fun cal X P' hk hX hP => ?_)
                  exact hP _ _ h
                · rw [if_neg hc] at h
                  refine ⟨fun hc => hX _ ?_, fun hc => ?_⟩
                  · clear hP hX hk P' X cal
                    rw [if_pos hc] at h
                    refine Wp.stepsG 2 (fun cal X P' hk hX hP => ?_)
                    exact hP _ _ h
                  · rw [if_neg hc] at h
                    refine ⟨fun hc => hX _ ?_, fun hc => ?_⟩
                    · clear hP hX hk P' X cal
                      rw [if_pos hc] at h
                      refine Wp.stepsG 2 (fun cal X P' hk hX hP => ?_)
                      exact hP _ _ h
                    · rw [if_neg hc] at h
                      refine ⟨fun hc => hX _ ?_, fun hc => ?_⟩
                      · clear hP hX hk P' X cal
                        rw [if_pos hc] at h
                        refine Wp.stepsG 2 (fun cal X P' hk hX hP => ?_)
                        exact hP _ _ h
                      · rw [if_neg hc] at h
                        refine ⟨fun hc => hX _ ?_, fun hc => ?_⟩
                        · clear hP hX hk P' X cal
                          rw [if_pos hc] at h
                          refine Wp.stepsG 2 (fun cal X P' hk hX hP => ?_)
                          exact hP _ _ h
                        · rw [if_neg hc] at h
                          refine ⟨fun hc => hX _ ?_, fun hc => ?_⟩
                          · clear hP hX hk P' X cal
                            rw [if_pos hc] at h
                            refine Wp.stepsG 2 (fun cal X P' hk hX hP => ?_)
                            exact hP _ _ h
                          · rw [if_neg hc] at h
                            refine ⟨fun hc => hX _ ?_, fun hc => ?_⟩
                            · clear hP hX hk P' X cal
                              rw [if_pos hc] at h
                              refine Wp.stepsG 2 (fun cal X P' hk hX hP => ?_)
                              exact hP _ _ h
                            · rw [if_neg hc] at h
                              refine ⟨fun hc => hX _ ?_, fun hc => ?_⟩
                              · clear hP hX hk P' X cal
                                rw [if_pos hc] at h
                                refine Wp.stepsG 2 (fun cal X P' hk hX hP => ?_)
                                exact hP _ _ h
                              · rw [if_neg hc] at h
                                refine ⟨fun hc => hX _ ?_, fun hc => ?_⟩
                                · clear hP hX hk P' X cal
                                  rw [if_pos hc] at h
                                  refine Wp.stepsG 2 (fun cal X P' hk hX hP => ?_)
                                  exact hP _ _ h
                                · rw [if_neg hc] at h
                                  refine ⟨fun hc => hX _ ?_, fun hc => hX _ ?_⟩
                                  · clear hP hX hk P' X cal
                                    rw [if_pos hc] at h
                                    refine Wp.stepsG 2 (fun cal X P' hk hX hP => ?_)
                                    exact hP _ _ h
                                  · rw [if_neg hc] at h
                                    clear hP hX hk P' X cal
                                    refine Wp.stepsG 2 (fun cal X P' hk hX hP => ?_)
                                    exact hP _ _ h
def r_X12_takesTest (S : St) : Option (Int32 × St) :=
  (r_X12_next S).bind fun q1 =>
  if 0 ≤ (r_X12_place q1) then
    (r_X12_next (sI S 76 13 ((S.1 76 13) + 1))).bind fun q2 =>
    if (r_X12_in q2 60 62) = 0 then
      some (0, sI S 76 13 ((S.1 76 13) + 1))
    else
      (r_X12_takesNumber (sI (sI S 76 13 ((S.1 76 13) + 1)) 76 13 (((S.1 76 13) + 1) + 1))).bind fun q3 =>
      if q3.1 = 0 then
        some (0, q3.2)
      else
        (r_X12_emits q3.2 ((((1000 : Int32) * (r_X12_place q1)) + ((100 : Int32) * (q2 - 60))) + (q3.2.1 76 14))).bind fun q4 =>
        (r_X12_whole q4.2).bind fun q5 =>
        some (1, q5.2)
  else
    some (0, S)
set_option maxRecDepth 20000 in
set_option maxHeartbeats 4000000 in
theorem e_X12_takesTest (d : Nat) (S : St) (hs : List Hr) (v : Int32 × St) (hr : r_X12_takesTest S = some v) (P : Option Value → Hp → Prop) (h : P (some (.int v.1)) (st v.2 hs)) : Ev (d + 4) ix_X12_takesTest 0 0 [.ref 76] (st S hs) P := by
  refine Ev.intro (M := mi_X12_takesTest) rfl (Nat.le_of_ble_eq_true rfl) ?_
  unfold r_X12_takesTest at hr
  refine Wp.stepsG 3 (fun cal X P' hk hX hP => ?_)
  show kcall cal ix_X12_next [.ref 76] (st S hs) [.ref 76] 0 0 (0, 0) (fun v σ' c' m' => X (5, [some (.ref 76), none, none], v.toList ++ [.ref 76], σ', c', m'))
  obtain ⟨q1, hq1, hr⟩ := bd_some hr
  refine kcall0 rfl (hk _ _ _ _ _ _ (e_X12_next (d + 2) S hs q1 hq1 _ ?_))
  show X (5, [some (.ref 76), none, none], [.int q1, .ref 76], st S hs, 0, 0)
  refine hX _ ?_
  clear hP hX hk P' X cal
  refine Wp.stepsG 1 (fun cal X P' hk hX hP => ?_)
  show kcall cal ix_X12_place [.ref 76, .int q1] (st S hs) [] 0 0 (0, 0) (fun v σ' c' m' => X (8, [some (.ref 76), none, none], v.toList ++ [], σ', c', m'))
  refine kcall0 rfl (hk _ _ _ _ _ _ (e_X12_place (d + 2) S hs q1 _ ?_))
  show X (8, [some (.ref 76), none, none], [.int (r_X12_place q1)], st S hs, 0, 0)
  refine hX _ ?_
  clear hP hX hk P' X cal
  refine Wp.stepsG 3 (fun cal X P' hk hX hP => ?_)
  show (0 ≤ (r_X12_place q1) → X (15, [some (.ref 76), some (.int (r_X12_place q1)), none], [], st S hs, 0, 0)) ∧ (¬ 0 ≤ (r_X12_place q1) → X (13, [some (.ref 76), some (.int (r_X12_place q1)), none], [], st S hs, 0, 0))
  refine ⟨fun hc => hX _ ?_, fun hc => hX _ ?_⟩
  · clear hP hX hk P' X cal
    rw [if_pos hc] at hr
    refine Wp.stepsG 8 (fun cal X P' hk hX hP => ?_)
    show kcall cal ix_X12_next [.ref 76] (st (sI S 76 13 ((S.1 76 13) + 1)) hs) [] 0 0 (0, 0) (fun v σ' c' m' => X (29, [some (.ref 76), some (.int (r_X12_place q1)), none], v.toList ++ [], σ', c', m'))
    obtain ⟨q2, hq2, hr⟩ := bd_some hr
    refine kcall0 rfl (hk _ _ _ _ _ _ (e_X12_next (d + 2) (sI S 76 13 ((S.1 76 13) + 1)) hs q2 hq2 _ ?_))
    show X (29, [some (.ref 76), some (.int (r_X12_place q1)), none], [.int q2], st (sI S 76 13 ((S.1 76 13) + 1)) hs, 0, 0)
    refine hX _ ?_
    clear hP hX hk P' X cal
    refine Wp.stepsG 6 (fun cal X P' hk hX hP => ?_)
    show kcall cal ix_X12_in [.ref 76, .int q2, .int 60, .int 62] (st (sI S 76 13 ((S.1 76 13) + 1)) hs) [] 0 0 (0, 0) (fun v σ' c' m' => X (39, [some (.ref 76), some (.int (r_X12_place q1)), some (.int q2)], v.toList ++ [], σ', c', m'))
    refine kcall0 rfl (hk _ _ _ _ _ _ (e_X12_in (d + 2) (sI S 76 13 ((S.1 76 13) + 1)) hs q2 60 62 _ ?_))
    show X (39, [some (.ref 76), some (.int (r_X12_place q1)), some (.int q2)], [.int (r_X12_in q2 60 62)], st (sI S 76 13 ((S.1 76 13) + 1)) hs, 0, 0)
    refine hX _ ?_
    clear hP hX hk P' X cal
    refine Wp.stepsG 1 (fun cal X P' hk hX hP => ?_)
    show (¬ (r_X12_in q2 60 62) = 0 → X (44, [some (.ref 76), some (.int (r_X12_place q1)), some (.int q2)], [], st (sI S 76 13 ((S.1 76 13) + 1)) hs, 0, 0)) ∧ ((r_X12_in q2 60 62) = 0 → X (42, [some (.ref 76), some (.int (r_X12_place q1)), some (.int q2)], [], st (sI S 76 13 ((S.1 76 13) + 1)) hs, 0, 0))
    refine ⟨fun hc => hX _ ?_, fun hc => hX _ ?_⟩
    · clear hP hX hk P' X cal
      rw [if_neg hc] at hr
      refine Wp.stepsG 8 (fun cal X P' hk hX hP => ?_)
      show kcall cal ix_X12_takesNumber [.ref 76] (st (sI (sI S 76 13 ((S.1 76 13) + 1)) 76 13 (((S.1 76 13) + 1) + 1)) hs) [] 0 0 (0, 0) (fun v σ' c' m' => X (58, [some (.ref 76), some (.int (r_X12_place q1)), some (.int q2)], v.toList ++ [], σ', c', m'))
      obtain ⟨q3, hq3, hr⟩ := bd_some hr
      refine kcall0 rfl (hk _ _ _ _ _ _ (e_X12_takesNumber (d + 0) (sI (sI S 76 13 ((S.1 76 13) + 1)) 76 13 (((S.1 76 13) + 1) + 1)) hs q3 hq3 _ ?_))
      show X (58, [some (.ref 76), some (.int (r_X12_place q1)), some (.int q2)], [.int q3.1], st q3.2 hs, 0, 0)
      refine hX _ ?_
      clear hP hX hk P' X cal
      refine Wp.stepsG 1 (fun cal X P' hk hX hP => ?_)
      show (¬ q3.1 = 0 → X (63, [some (.ref 76), some (.int (r_X12_place q1)), some (.int q2)], [], st q3.2 hs, 0, 0)) ∧ (q3.1 = 0 → X (61, [some (.ref 76), some (.int (r_X12_place q1)), some (.int q2)], [], st q3.2 hs, 0, 0))
      refine ⟨fun hc => hX _ ?_, fun hc => hX _ ?_⟩
      · clear hP hX hk P' X cal
        rw [if_neg hc] at hr
        refine Wp.stepsG 14 (fun cal X P' hk hX hP => ?_)
        show kcall cal ix_X12_emits [.ref 76, .int ((((1000 : Int32) * (r_X12_place q1)) + ((100 : Int32) * (q2 - 60))) + (q3.2.1 76 14))] (st q3.2 hs) [] 0 0 (0, 0) (fun v σ' c' m' => X (85, [some (.ref 76), some (.int (r_X12_place q1)), some (.int q2)], v.toList ++ [], σ', c', m'))
        obtain ⟨q4, hq4, hr⟩ := bd_some hr
        refine kcall0 rfl (hk _ _ _ _ _ _ (e_X12_emits (d + 2) q3.2 hs ((((1000 : Int32) * (r_X12_place q1)) + ((100 : Int32) * (q2 - 60))) + (q3.2.1 76 14)) q4 hq4 _ ?_))
        show X (85, [some (.ref 76), some (.int (r_X12_place q1)), some (.int q2)], [], st q4.2 hs, 0, 0)
        refine hX _ ?_
        clear hP hX hk P' X cal
        refine Wp.stepsG 2 (fun cal X P' hk hX hP => ?_)
        show kcall cal ix_X12_whole [.ref 76] (st q4.2 hs) [] 0 0 (0, 0) (fun v σ' c' m' => X (89, [some (.ref 76), some (.int (r_X12_place q1)), some (.int q2)], v.toList ++ [], σ', c', m'))
        obtain ⟨q5, hq5, hr⟩ := bd_some hr
        refine kcall0 rfl (hk _ _ _ _ _ _ (e_X12_whole (d + 1) q4.2 hs q5 hq5 _ ?_))
        show X (89, [some (.ref 76), some (.int (r_X12_place q1)), some (.int q2)], [], st q5.2 hs, 0, 0)
        refine hX _ ?_
        clear hP hX hk P' X cal
        have hr := Option.some.inj hr
        subst hr
        refine Wp.stepsG 2 (fun cal X P' hk hX hP => ?_)
        exact ⟨Or.inr rfl, hP _ _ h⟩
      · clear hP hX hk P' X cal
        rw [if_pos hc] at hr
        have hr := Option.some.inj hr
        subst hr
        refine Wp.stepsG 2 (fun cal X P' hk hX hP => ?_)
        exact ⟨Or.inl rfl, hP _ _ h⟩
    · clear hP hX hk P' X cal
      rw [if_pos hc] at hr
      have hr := Option.some.inj hr
      subst hr
      refine Wp.stepsG 2 (fun cal X P' hk hX hP => ?_)
      exact ⟨Or.inl rfl, hP _ _ h⟩
  · clear hP hX hk P' X cal
    rw [if_neg hc] at hr
    have hr := Option.some.inj hr
    subst hr
    refine Wp.stepsG 2 (fun cal X P' hk hX hP => ?_)
    exact ⟨Or.inl rfl, hP _ _ h⟩
