theorem aok11 {c : Nat} (h : isFam c = true) : aOk (clsOf RX3) c = true := by
  unfold aOk famB
  rw [h]
  cases Nat.beq 3 c <;> rfl
theorem fam3 {c : Nat} (h : isFam c = true) : famB 3 c = true := by
  unfold famB
  rw [h]
  cases Nat.beq 3 c <;> rfl
theorem bif_bool (b : Bool) : (bif b then (1 : Int32) else 0) = 0 ∨ (bif b then (1 : Int32) else 0) = 1 := by
  cases b
  · exact Or.inl rfl
  · exact Or.inr rfl
def r_X11_hearerAt (S : St) (a1 : Int32) : Option (Option Nat) :=
  if (r_X11_within a1 0 ((S.1 8 3) - 1)) = 0 then
    some none
  else
    gd (¬ (a1 < 0 ∨ 6 ≤ a1.toNatClampNeg)) (
      some (S.2.2 11 a1.toNatClampNeg))
set_option maxRecDepth 20000 in
set_option maxHeartbeats 4000000 in
theorem e_X11_hearerAt (d : Nat) (S : St) (hs : List Hr) (a1 : Int32) (v : (Option Nat)) (hr : r_X11_hearerAt S a1 = some v) (P : Option Value → Hp → Prop) (h : P (some (va_rf v)) (st S hs)) : Ev (d + 2) ix_X11_hearerAt 0 0 [.ref 7, .int a1] (st S hs) P := by
  refine Ev.intro (M := mi_X11_hearerAt) rfl (Nat.le_of_ble_eq_true rfl) ?_
  unfold r_X11_hearerAt at hr
  refine Wp.stepsG 8 (fun cal X P' hk hX hP => ?_)
  show kcall cal ix_X11_within [.int a1, .int 0, .int ((S.1 8 3) - 1)] (st S hs) [] 0 0 (0, 0) (fun v σ' c' m' => X (14, [some (.ref 7), some (.int a1)], v.toList ++ [], σ', c', m'))
  refine kcall0 rfl (hk _ _ _ _ _ _ (e_X11_within (d + 0) S hs a1 0 ((S.1 8 3) - 1) _ ?_))
  show X (14, [some (.ref 7), some (.int a1)], [.int (r_X11_within a1 0 ((S.1 8 3) - 1))], st S hs, 0, 0)
  refine hX _ ?_
  clear hP hX hk P' X cal
  refine Wp.stepsG 1 (fun cal X P' hk hX hP => ?_)
  show ((r_X11_within a1 0 ((S.1 8 3) - 1)) = 0 → X (29, [some (.ref 7), some (.int a1)], [], st S hs, 0, 0)) ∧ (¬ (r_X11_within a1 0 ((S.1 8 3) - 1)) = 0 → X (17, [some (.ref 7), some (.int a1)], [], st S hs, 0, 0))
  refine ⟨fun hc => hX _ ?_, fun hc => hX _ ?_⟩
  · clear hP hX hk P' X cal
    rw [if_pos hc] at hr
    have hr := Option.some.inj hr
    subst hr
    refine Wp.stepsG 2 (fun cal X P' hk hX hP => ?_)
    exact hP _ _ h
  · clear hP hX hk P' X cal
    rw [if_neg hc] at hr
    refine Wp.stepsG 5 (fun cal X P' hk hX hP => ?_)
    show vp_in a1 6 ∧ X (26, [some (.ref 7), some (.int a1)], [va_rf (S.2.2 11 a1.toNatClampNeg)], st S hs, 0, 0)
    obtain ⟨hg, hr⟩ := gd_some hr
    refine ⟨hg, hX _ ?_⟩
    clear hP hX hk P' X cal
    have hr := Option.some.inj hr
    subst hr
    refine Wp.stepsG 2 (fun cal X P' hk hX hP => ?_)
    exact kR_rf (hP _ _ h)
def r_X11_knowsThen (S : St) (q : Hr) (a2 : Int32) (a3 : Int32) (a4 : Int32) : Option Int32 :=
  gd (¬ (((q.2.2.1 * 4) + (a4 - a4 / 4 * 4)) < 0 ∨ 24 ≤ ((q.2.2.1 * 4) + (a4 - a4 / 4 * 4)).toNatClampNeg)) (
    if a2 ≤ 0 then
      some 0
    else
      (r_X11_daysTold S).bind fun q1 =>
      (r_sel_memory S q q1 ((S.1 14) ((q.2.2.1 * 4) + (a4 - a4 / 4 * 4)).toNatClampNeg)).bind fun q2 =>
      if q2 ≤ (a4 - a3) then
        some 0
      else
        some 1)
set_option maxRecDepth 20000 in
set_option maxHeartbeats 4000000 in
theorem e_X11_knowsThen (d : Nat) (S : St) (hs : List Hr) (a : Nat) (q : Hr) (ha : ∀ S, gH (st S hs) a = some (hrC q)) (fa : isFam q.1 = true) (a2 : Int32) (a3 : Int32) (a4 : Int32) (v : Int32) (hr : r_X11_knowsThen S q a2 a3 a4 = some v) (P : Option Value → Hp → Prop) (h : P (some (.int v)) (st S hs)) : Ev (d + 4) ix_X11_knowsThen 0 0 [.ref 7, .ref a, .int a2, .int a3, .int a4] (st S hs) P := by
  refine Ev.intro (M := mi_X11_knowsThen) rfl (Nat.le_of_ble_eq_true rfl) ?_
  unfold r_X11_knowsThen at hr
  refine Wp.stepsG 5 (fun cal X P' hk hX hP => ?_)
  refine kObj_at (ha _) (kB_at (fam3 fa) ?_)
  show X (11, [some (.ref 7), some (.ref a), some (.int a2), some (.int a3), some (.int a4), none], [.int q.2.2.1, .ref 14], st S hs, 0, 0)
  refine hX _ ?_
  clear hP hX hk P' X cal
  refine Wp.stepsG 5 (fun cal X P' hk hX hP => ?_)
  show ¬ (4 : Int32) = 0 ∧ X (17, [some (.ref 7), some (.ref a), some (.int a2), some (.int a3), some (.int a4), none], [.int (a4 - a4 / 4 * 4), .int (q.2.2.1 * 4), .ref 14], st S hs, 0, 0)
  refine ⟨(show ¬ (4 : Int32) = 0 from by decide), hX _ ?_⟩
  clear hP hX hk P' X cal
  refine Wp.stepsG 2 (fun cal X P' hk hX hP => ?_)
  show vp_in ((q.2.2.1 * 4) + (a4 - a4 / 4 * 4)) 24 ∧ X (19, [some (.ref 7), some (.ref a), some (.int a2), some (.int a3), some (.int a4), none], [.int ((S.1 14) ((q.2.2.1 * 4) + (a4 - a4 / 4 * 4)).toNatClampNeg)], st S hs, 0, 0)
  obtain ⟨hg, hr⟩ := gd_some hr
  refine ⟨hg, hX _ ?_⟩
  clear hP hX hk P' X cal
  refine Wp.stepsG 3 (fun cal X P' hk hX hP => ?_)
  show (a2 ≤ 0 → X (46, [some (.ref 7), some (.ref a), some (.int a2), some (.int a3), some (.int a4), some (.int ((S.1 14) ((q.2.2.1 * 4) + (a4 - a4 / 4 * 4)).toNatClampNeg))], [], st S hs, 0, 0)) ∧ (¬ a2 ≤ 0 → X (25, [some (.ref 7), some (.ref a), some (.int a2), some (.int a3), some (.int a4), some (.int ((S.1 14) ((q.2.2.1 * 4) + (a4 - a4 / 4 * 4)).toNatClampNeg))], [], st S hs, 0, 0))
  refine ⟨fun hc => hX _ ?_, fun hc => hX _ ?_⟩
  · clear hP hX hk P' X cal
    rw [if_pos hc] at hr
    have hr := Option.some.inj hr
    subst hr
    refine Wp.stepsG 2 (fun cal X P' hk hX hP => ?_)
    exact ⟨Or.inl rfl, hP _ _ h⟩
  · clear hP hX hk P' X cal
    rw [if_neg hc] at hr
    refine Wp.stepsG 6 (fun cal X P' hk hX hP => ?_)
    show kcall cal ix_X11_daysTold [.ref 7] (st S hs) [.ref a, .int (a4 - a3)] 0 0 (0, 0) (fun v σ' c' m' => X (34, [some (.ref 7), some (.ref a), some (.int a2), some (.int a3), some (.int a4), some (.int ((S.1 14) ((q.2.2.1 * 4) + (a4 - a4 / 4 * 4)).toNatClampNeg))], v.toList ++ [.ref a, .int (a4 - a3)], σ', c', m'))
    obtain ⟨q1, hq1, hr⟩ := bd_some hr
    refine kcall0 rfl (hk _ _ _ _ _ _ (e_X11_daysTold (d + 0) S hs q1 hq1 _ ?_))
    show X (34, [some (.ref 7), some (.ref a), some (.int a2), some (.int a3), some (.int a4), some (.int ((S.1 14) ((q.2.2.1 * 4) + (a4 - a4 / 4 * 4)).toNatClampNeg))], [.int q1, .ref a, .int (a4 - a3)], st S hs, 0, 0)
    refine hX _ ?_
    clear hP hX hk P' X cal
    refine Wp.stepsG 2 (fun cal X P' hk hX hP => ?_)
    obtain ⟨q2, hq2, hr⟩ := bd_some hr
    refine kObj_at (ha _) (disp_at hk rfl (e_sel_memory (d + 2) S hs a q ha q1 ((S.1 14) ((q.2.2.1 * 4) + (a4 - a4 / 4 * 4)).toNatClampNeg) q2 hq2 _ ?_))
    show X (39, [some (.ref 7), some (.ref a), some (.int a2), some (.int a3), some (.int a4), some (.int ((S.1 14) ((q.2.2.1 * 4) + (a4 - a4 / 4 * 4)).toNatClampNeg))], [.int q2, .int (a4 - a3)], st S hs, 0, 0)
    refine hX _ ?_
    clear hP hX hk P' X cal
    refine Wp.stepsG 1 (fun cal X P' hk hX hP => ?_)
    show (q2 ≤ (a4 - a3) → X (46, [some (.ref 7), some (.ref a), some (.int a2), some (.int a3), some (.int a4), some (.int ((S.1 14) ((q.2.2.1 * 4) + (a4 - a4 / 4 * 4)).toNatClampNeg))], [], st S hs, 0, 0)) ∧ (¬ q2 ≤ (a4 - a3) → X (42, [some (.ref 7), some (.ref a), some (.int a2), some (.int a3), some (.int a4), some (.int ((S.1 14) ((q.2.2.1 * 4) + (a4 - a4 / 4 * 4)).toNatClampNeg))], [], st S hs, 0, 0))
    refine ⟨fun hc => hX _ ?_, fun hc => hX _ ?_⟩
    · clear hP hX hk P' X cal
      rw [if_pos hc] at hr
      have hr := Option.some.inj hr
      subst hr
      refine Wp.stepsG 2 (fun cal X P' hk hX hP => ?_)
      exact ⟨Or.inl rfl, hP _ _ h⟩
    · clear hP hX hk P' X cal
      rw [if_neg hc] at hr
      have hr := Option.some.inj hr
      subst hr
      refine Wp.stepsG 3 (fun cal X P' hk hX hP => ?_)
      exact ⟨Or.inr rfl, hP _ _ h⟩
def lp_X11_knowersThen_6 (S : St) (hs : List Hr) (f1 : Int32) (f2 : Int32) (f3 : Int32) : Nat → Int32 → Int32 → Option (Int32)
  | 0, _, _ => none
  | n + 1, v4, v5 =>
    if (S.1 8 3) ≤ v5 then
      some v4
    else
      (r_X11_hearerAt S v5).bind fun q1 =>
      oH hs (q1) (
        lp_X11_knowersThen_6 S hs f1 f2 f3 n v4 (v5 + 1)) (fun zb2 =>
        if (r_X11_in f2 v5) = 0 then
          lp_X11_knowersThen_6 S hs f1 f2 f3 n v4 (v5 + 1)
        else
          (r_X11_timesOf S v5 f1).bind fun q3 =>
          gd (¬ (((v5 * 8) + f1) < 0 ∨ 48 ≤ ((v5 * 8) + f1).toNatClampNeg)) (
            (r_X11_knowsThen S zb2 q3 ((S.1 13) ((v5 * 8) + f1).toNatClampNeg) f3).bind fun q4 =>
            if q4 = 0 then
              lp_X11_knowersThen_6 S hs f1 f2 f3 n v4 (v5 + 1)
            else
              lp_X11_knowersThen_6 S hs f1 f2 f3 n (v4 ||| ((1 : Int32) <<< (v5 &&& 31))) (v5 + 1)))
set_option maxRecDepth 20000 in
set_option maxHeartbeats 4000000 in
theorem e_lp_X11_knowersThen_6 (d : Nat) (hs : List Hr) (P : Option Value → Hp → Prop) (S : St) (f1 : Int32) (f2 : Int32) (f3 : Int32) : ∀ (n : Nat) (v4 : Int32) (v5 : Int32) (q : Int32), lp_X11_knowersThen_6 S hs f1 f2 f3 n v4 v5 = some q → (WM mi_X11_knowersThen (d + 4) P 87 [some (.ref 7), some (.int f1), some (.int f2), some (.int f3), some (.int q), none, none] [] (st S hs)) → WM mi_X11_knowersThen (d + 4) P 6 [some (.ref 7), some (.int f1), some (.int f2), some (.int f3), some (.int v4), some (.int v5), none] [] (st S hs) := by
  intro n
  induction n with
  | zero =>
    intro v4 v5 q hl
    cases hl
  | succ n ih =>
    intro v4 v5 q hl ct
    rw [lp_X11_knowersThen_6] at hl
    refine Wp.stepsG 5 (fun cal X P' hk hX hP => ?_)
    show ((S.1 8 3) ≤ v5 → X (87, [some (.ref 7), some (.int f1), some (.int f2), some (.int f3), some (.int v4), some (.int v5), none], [], st S hs, 0, 0)) ∧ (¬ (S.1 8 3) ≤ v5 → X (18, [some (.ref 7), some (.int f1), some (.int f2), some (.int f3), some (.int v4), some (.int v5), none], [], st S hs, 0, 0))
    refine ⟨fun hc => hX _ ?_, fun hc => hX _ ?_⟩
    · clear hP hX hk P' X cal
      rw [if_pos hc] at hl
      have hl := Option.some.inj hl
      subst hl
      exact Wp.weak (leL.k (leL.k (leL.k (leL.k (leL.k (leL.n (leL.k leL.z))))))) (ct)
    · clear hP hX hk P' X cal
      rw [if_neg hc] at hl
      refine Wp.stepsG 3 (fun cal X P' hk hX hP => ?_)
      show kcall cal ix_X11_hearerAt [.ref 7, .int v5] (st S hs) [] 0 0 (0, 0) (fun v σ' c' m' => X (24, [some (.ref 7), some (.int f1), some (.int f2), some (.int f3), some (.int v4), some (.int v5), none], v.toList ++ [], σ', c', m'))
      obtain ⟨q1, hq1, hl⟩ := bd_some hl
      refine kcall0 rfl (hk _ _ _ _ _ _ (e_X11_hearerAt (d + 2) S hs v5 q1 hq1 _ ?_))
      show X (24, [some (.ref 7), some (.int f1), some (.int f2), some (.int f3), some (.int v4), some (.int v5), none], [va_rf q1], st S hs, 0, 0)
      refine hX _ ?_
      clear hP hX hk P' X cal
      rcases oH_some hl with ⟨hz, hl⟩ | ⟨b2, zb2, hz, hb2, fb2, hl⟩
      · rw [hz]
        refine Wp.stepsG 5 (fun cal X P' hk hX hP => ?_)
        show X (6, [some (.ref 7), some (.int f1), some (.int f2), some (.int f3), some (.int v4), some (.int (v5 + 1)), some (.null)], [], st S hs, 0, 0)
        refine hX _ ?_
        exact Wp.weak (leL.k (leL.k (leL.k (leL.k (leL.k (leL.k (leL.n leL.z))))))) (ih v4 (v5 + 1) q hl ct)
      · rw [hz]
        refine Wp.stepsG 6 (fun cal X P' hk hX hP => ?_)
        show kcall cal ix_X11_in [.int f2, .int v5] (st S hs) [] 0 0 (0, 0) (fun v σ' c' m' => X (37, [some (.ref 7), some (.int f1), some (.int f2), some (.int f3), some (.int v4), some (.int v5), some (.ref b2)], v.toList ++ [], σ', c', m'))
        refine kcall0 rfl (hk _ _ _ _ _ _ (e_X11_in (d + 3) S hs f2 v5 _ ?_))
        show X (37, [some (.ref 7), some (.int f1), some (.int f2), some (.int f3), some (.int v4), some (.int v5), some (.ref b2)], [.int (r_X11_in f2 v5)], st S hs, 0, 0)
        refine hX _ ?_
        clear hP hX hk P' X cal
        refine Wp.stepsG 1 (fun cal X P' hk hX hP => ?_)
        show ((r_X11_in f2 v5) = 0 → X (81, [some (.ref 7), some (.int f1), some (.int f2), some (.int f3), some (.int v4), some (.int v5), some (.ref b2)], [], st S hs, 0, 0)) ∧ (¬ (r_X11_in f2 v5) = 0 → X (40, [some (.ref 7), some (.int f1), some (.int f2), some (.int f3), some (.int v4), some (.int v5), some (.ref b2)], [], st S hs, 0, 0))
        refine ⟨fun hc => hX _ ?_, fun hc => hX _ ?_⟩
        · clear hP hX hk P' X cal
          rw [if_pos hc] at hl
          refine Wp.stepsG 2 (fun cal X P' hk hX hP => ?_)
          show X (6, [some (.ref 7), some (.int f1), some (.int f2), some (.int f3), some (.int v4), some (.int (v5 + 1)), some (.ref b2)], [], st S hs, 0, 0)
          refine hX _ ?_
          exact Wp.weak (leL.k (leL.k (leL.k (leL.k (leL.k (leL.k (leL.n leL.z))))))) (ih v4 (v5 + 1) q hl ct)
        · clear hP hX hk P' X cal
          rw [if_neg hc] at hl
          refine Wp.stepsG 6 (fun cal X P' hk hX hP => ?_)
          show kcall cal ix_X11_timesOf [.ref 7, .int v5, .int f1] (st S hs) [.ref b2, .ref 7] 0 0 (0, 0) (fun v σ' c' m' => X (50, [some (.ref 7), some (.int f1), some (.int f2), some (.int f3), some (.int v4), some (.int v5), some (.ref b2)], v.toList ++ [.ref b2, .ref 7], σ', c', m'))
          obtain ⟨q3, hq3, hl⟩ := bd_some hl
          refine kcall0 rfl (hk _ _ _ _ _ _ (e_X11_timesOf (d + 3) S hs v5 f1 q3 hq3 _ ?_))
          show X (50, [some (.ref 7), some (.int f1), some (.int f2), some (.int f3), some (.int v4), some (.int v5), some (.ref b2)], [.int q3, .ref b2, .ref 7], st S hs, 0, 0)
          refine hX _ ?_
          clear hP hX hk P' X cal
          refine Wp.stepsG 9 (fun cal X P' hk hX hP => ?_)
          show vp_in ((v5 * 8) + f1) 48 ∧ X (65, [some (.ref 7), some (.int f1), some (.int f2), some (.int f3), some (.int v4), some (.int v5), some (.ref b2)], [.int ((S.1 13) ((v5 * 8) + f1).toNatClampNeg), .int q3, .ref b2, .ref 7], st S hs, 0, 0)
          obtain ⟨hg, hl⟩ := gd_some hl
          refine ⟨hg, hX _ ?_⟩
          clear hP hX hk P' X cal
          refine Wp.stepsG 2 (fun cal X P' hk hX hP => ?_)
          show kcall cal ix_X11_knowsThen [.ref 7, .ref b2, .int q3, .int ((S.1 13) ((v5 * 8) + f1).toNatClampNeg), .int f3] (st S hs) [] 0 0 (0, 0) (fun v σ' c' m' => X (69, [some (.ref 7), some (.int f1), some (.int f2), some (.int f3), some (.int v4), some (.int v5), some (.ref b2)], v.toList ++ [], σ', c', m'))
          obtain ⟨q4, hq4, hl⟩ := bd_some hl
          refine kcall0 rfl (hk _ _ _ _ _ _ (e_X11_knowsThen (d + 0) S hs b2 zb2 hb2 fb2 q3 ((S.1 13) ((v5 * 8) + f1).toNatClampNeg) f3 q4 hq4 _ ?_))
          show X (69, [some (.ref 7), some (.int f1), some (.int f2), some (.int f3), some (.int v4), some (.int v5), some (.ref b2)], [.int q4], st S hs, 0, 0)
          refine hX _ ?_
          clear hP hX hk P' X cal
          refine Wp.stepsG 1 (fun cal X P' hk hX hP => ?_)
          show (q4 = 0 → X (81, [some (.ref 7), some (.int f1), some (.int f2), some (.int f3), some (.int v4), some (.int v5), some (.ref b2)], [], st S hs, 0, 0)) ∧ (¬ q4 = 0 → X (72, [some (.ref 7), some (.int f1), some (.int f2), some (.int f3), some (.int v4), some (.int v5), some (.ref b2)], [], st S hs, 0, 0))
          refine ⟨fun hc => hX _ ?_, fun hc => hX _ ?_⟩
          · clear hP hX hk P' X cal
            rw [if_pos hc] at hl
            refine Wp.stepsG 2 (fun cal X P' hk hX hP => ?_)
            show X (6, [some (.ref 7), some (.int f1), some (.int f2), some (.int f3), some (.int v4), some (.int (v5 + 1)), some (.ref b2)], [], st S hs, 0, 0)
            refine hX _ ?_
            exact Wp.weak (leL.k (leL.k (leL.k (leL.k (leL.k (leL.k (leL.n leL.z))))))) (ih v4 (v5 + 1) q hl ct)
          · clear hP hX hk P' X cal
            rw [if_neg hc] at hl
            refine Wp.stepsG 8 (fun cal X P' hk hX hP => ?_)
            show X (6, [some (.ref 7), some (.int f1), some (.int f2), some (.int f3), some (.int (v4 ||| ((1 : Int32) <<< (v5 &&& 31)))), some (.int (v5 + 1)), some (.ref b2)], [], st S hs, 0, 0)
            refine hX _ ?_
            exact Wp.weak (leL.k (leL.k (leL.k (leL.k (leL.k (leL.k (leL.n leL.z))))))) (ih (v4 ||| ((1 : Int32) <<< (v5 &&& 31))) (v5 + 1) q hl ct)
def r_X11_knowersThen (S : St) (hs : List Hr) (a1 : Int32) (a2 : Int32) (a3 : Int32) : Option Int32 :=
  (lp_X11_knowersThen_6 S hs a1 a2 a3 4000 0 0).bind fun q5 =>
    some q5
set_option maxRecDepth 20000 in
set_option maxHeartbeats 4000000 in
theorem e_X11_knowersThen (d : Nat) (S : St) (hs : List Hr) (a1 : Int32) (a2 : Int32) (a3 : Int32) (v : Int32) (hr : r_X11_knowersThen S hs a1 a2 a3 = some v) (P : Option Value → Hp → Prop) (h : P (some (.int v)) (st S hs)) : Ev (d + 5) ix_X11_knowersThen 0 0 [.ref 7, .int a1, .int a2, .int a3] (st S hs) P := by
  refine Ev.intro (M := mi_X11_knowersThen) rfl (Nat.le_of_ble_eq_true rfl) ?_
  unfold r_X11_knowersThen at hr
  refine Wp.stepsG 4 (fun cal X P' hk hX hP => ?_)
  show X (6, [some (.ref 7), some (.int a1), some (.int a2), some (.int a3), some (.int 0), some (.int 0), none], [], st S hs, 0, 0)
  refine hX _ ?_
  clear hP hX hk P' X cal
  obtain ⟨q5, hq5, hr⟩ := bd_some hr
  refine (e_lp_X11_knowersThen_6 d hs P S a1 a2 a3 _ 0 0 q5 hq5 ?_)
  have hr := Option.some.inj hr
  subst hr
  refine Wp.stepsG 2 (fun cal X P' hk hX hP => ?_)
  exact hP _ _ h
set_option maxRecDepth 20000 in
set_option maxHeartbeats 4000000 in
theorem e_X5_holds_33_44 (d : Nat) (S : St) (hs : List Hr) (a1 : Int32) (v : Int32) (hr : r_X5_holds_33 S 44 a1 = some v) (P : Option Value → Hp → Prop) (h : P (some (.int v)) (st S hs)) : Ev (d + 1) ix_X5_holds 0 0 [.ref 44, .int a1, .ref 33] (st S hs) P := by
  refine Ev.intro (M := mi_X5_holds) rfl (Nat.le_of_ble_eq_true rfl) ?_
  unfold r_X5_holds_33 at hr
  refine Wp.stepsG 4 (fun cal X P' hk hX hP => ?_)
  show vp_in a1 100 ∧ X (6, [some (.ref 44), some (.int a1), some (.ref 33), none, none], [.int ((S.1 45) a1.toNatClampNeg)], st S hs, 0, 0)
  obtain ⟨hg, hr⟩ := gd_some hr
  refine ⟨hg, hX _ ?_⟩
  clear hP hX hk P' X cal
  refine Wp.stepsG 2 (fun cal X P' hk hX hP => ?_)
  show ¬ (3 : Int32) = 0 ∧ X (8, [some (.ref 44), some (.int a1), some (.ref 33), none, none], [.int (((S.1 45) a1.toNatClampNeg) / 3)], st S hs, 0, 0)
  refine ⟨(show ¬ (3 : Int32) = 0 from by decide), hX _ ?_⟩
  clear hP hX hk P' X cal
  refine Wp.stepsG 5 (fun cal X P' hk hX hP => ?_)
  show (6 ≤ (((S.1 45) a1.toNatClampNeg) / 3) → X (21, [some (.ref 44), some (.int a1), some (.ref 33), some (.int (((S.1 45) a1.toNatClampNeg) / 3)), none], [], st S hs, 0, 0)) ∧ (¬ 6 ≤ (((S.1 45) a1.toNatClampNeg) / 3) → X (15, [some (.ref 44), some (.int a1), some (.ref 33), some (.int (((S.1 45) a1.toNatClampNeg) / 3)), none], [], st S hs, 0, 0))
  refine ⟨fun hc => hX _ ?_, fun hc => hX _ ?_⟩
  · clear hP hX hk P' X cal
    rw [if_pos hc] at hr
    refine Wp.stepsG 6 (fun cal X P' hk hX hP => ?_)
    show vp_in a1 100 ∧ X (30, [some (.ref 44), some (.int a1), some (.ref 33), some (.int (((S.1 45) a1.toNatClampNeg) / 3)), some (.int 0)], [.int ((S.1 45) a1.toNatClampNeg)], st S hs, 0, 0)
    obtain ⟨hg, hr⟩ := gd_some hr
    refine ⟨hg, hX _ ?_⟩
    clear hP hX hk P' X cal
    refine Wp.stepsG 2 (fun cal X P' hk hX hP => ?_)
    show ¬ (3 : Int32) = 0 ∧ X (32, [some (.ref 44), some (.int a1), some (.ref 33), some (.int (((S.1 45) a1.toNatClampNeg) / 3)), some (.int 0)], [.int (((S.1 45) a1.toNatClampNeg) - ((S.1 45) a1.toNatClampNeg) / 3 * 3)], st S hs, 0, 0)
    refine ⟨(show ¬ (3 : Int32) = 0 from by decide), hX _ ?_⟩
    clear hP hX hk P' X cal
    refine Wp.stepsG 1 (fun cal X P' hk hX hP => ?_)
    show ((((S.1 45) a1.toNatClampNeg) - ((S.1 45) a1.toNatClampNeg) / 3 * 3) = 0 → X (60, [some (.ref 44), some (.int a1), some (.ref 33), some (.int (((S.1 45) a1.toNatClampNeg) / 3)), some (.int 0)], [], st S hs, 0, 0)) ∧ (¬ (((S.1 45) a1.toNatClampNeg) - ((S.1 45) a1.toNatClampNeg) / 3 * 3) = 0 → ((((S.1 45) a1.toNatClampNeg) - ((S.1 45) a1.toNatClampNeg) / 3 * 3) = 1 → X (77, [some (.ref 44), some (.int a1), some (.ref 33), some (.int (((S.1 45) a1.toNatClampNeg) / 3)), some (.int 0)], [], st S hs, 0, 0)) ∧ (¬ (((S.1 45) a1.toNatClampNeg) - ((S.1 45) a1.toNatClampNeg) / 3 * 3) = 1 → X (94, [some (.ref 44), some (.int a1), some (.ref 33), some (.int (((S.1 45) a1.toNatClampNeg) / 3)), some (.int 0)], [], st S hs, 0, 0)))
    refine ⟨fun hc => hX _ ?_, fun hc => ?_⟩
    · clear hP hX hk P' X cal
      rw [if_pos hc] at hr
      refine Wp.stepsG 5 (fun cal X P' hk hX hP => ?_)
      show vp_in a1 100 ∧ X (68, [some (.ref 44), some (.int a1), some (.ref 33), some (.int (((S.1 45) a1.toNatClampNeg) / 3)), some (.int 0)], [.int ((S.1 46) a1.toNatClampNeg), .int 0], st S hs, 0, 0)
      obtain ⟨hg, hr⟩ := gd_some hr
      refine ⟨hg, hX _ ?_⟩
      clear hP hX hk P' X cal
      refine Wp.stepsG 1 (fun cal X P' hk hX hP => ?_)
      show (((S.1 46) a1.toNatClampNeg) ≤ (0 : Int32) → X (75, [some (.ref 44), some (.int a1), some (.ref 33), some (.int (((S.1 45) a1.toNatClampNeg) / 3)), some (.int 0)], [], st S hs, 0, 0)) ∧ (¬ ((S.1 46) a1.toNatClampNeg) ≤ (0 : Int32) → X (71, [some (.ref 44), some (.int a1), some (.ref 33), some (.int (((S.1 45) a1.toNatClampNeg) / 3)), some (.int 0)], [], st S hs, 0, 0))
      refine ⟨fun hc => hX _ ?_, fun hc => hX _ ?_⟩
      · clear hP hX hk P' X cal
        rw [if_pos hc] at hr
        have hr := Option.some.inj hr
        subst hr
        refine Wp.stepsG 2 (fun cal X P' hk hX hP => ?_)
        exact ⟨Or.inl rfl, hP _ _ h⟩
      · clear hP hX hk P' X cal
        rw [if_neg hc] at hr
        have hr := Option.some.inj hr
        subst hr
        refine Wp.stepsG 3 (fun cal X P' hk hX hP => ?_)
        exact ⟨Or.inr rfl, hP _ _ h⟩
    · rw [if_neg hc] at hr
      refine ⟨fun hc => hX _ ?_, fun hc => hX _ ?_⟩
      · clear hP hX hk P' X cal
        rw [if_pos hc] at hr
        refine Wp.stepsG 5 (fun cal X P' hk hX hP => ?_)
        show vp_in a1 100 ∧ X (85, [some (.ref 44), some (.int a1), some (.ref 33), some (.int (((S.1 45) a1.toNatClampNeg) / 3)), some (.int 0)], [.int ((S.1 46) a1.toNatClampNeg), .int 0], st S hs, 0, 0)
        obtain ⟨hg, hr⟩ := gd_some hr
        refine ⟨hg, hX _ ?_⟩
        clear hP hX hk P' X cal
        refine Wp.stepsG 1 (fun cal X P' hk hX hP => ?_)
        show (¬ (0 : Int32) = ((S.1 46) a1.toNatClampNeg) → X (92, [some (.ref 44), some (.int a1), some (.ref 33), some (.int (((S.1 45) a1.toNatClampNeg) / 3)), some (.int 0)], [], st S hs, 0, 0)) ∧ ((0 : Int32) = ((S.1 46) a1.toNatClampNeg) → X (88, [some (.ref 44), some (.int a1), some (.ref 33), some (.int (((S.1 45) a1.toNatClampNeg) / 3)), some (.int 0)], [], st S hs, 0, 0))
        refine ⟨fun hc => hX _ ?_, fun hc => hX _ ?_⟩
        · clear hP hX hk P' X cal
          rw [if_neg hc] at hr
          have hr := Option.some.inj hr
          subst hr
          refine Wp.stepsG 2 (fun cal X P' hk hX hP => ?_)
          exact ⟨Or.inl rfl, hP _ _ h⟩
        · clear hP hX hk P' X cal
          rw [if_pos hc] at hr
          have hr := Option.some.inj hr
          subst hr
          refine Wp.stepsG 3 (fun cal X P' hk hX hP => ?_)
          exact ⟨Or.inr rfl, hP _ _ h⟩
      · rw [if_neg hc] at hr
        clear hP hX hk P' X cal
        refine Wp.stepsG 5 (fun cal X P' hk hX hP => ?_)
        show vp_in a1 100 ∧ X (102, [some (.ref 44), some (.int a1), some (.ref 33), some (.int (((S.1 45) a1.toNatClampNeg) / 3)), some (.int 0)], [.int ((S.1 46) a1.toNatClampNeg), .int 0], st S hs, 0, 0)
        obtain ⟨hg, hr⟩ := gd_some hr
        refine ⟨hg, hX _ ?_⟩
        clear hP hX hk P' X cal
        refine Wp.stepsG 1 (fun cal X P' hk hX hP => ?_)
        show ((0 : Int32) ≤ ((S.1 46) a1.toNatClampNeg) → X (109, [some (.ref 44), some (.int a1), some (.ref 33), some (.int (((S.1 45) a1.toNatClampNeg) / 3)), some (.int 0)], [], st S hs, 0, 0)) ∧ (¬ (0 : Int32) ≤ ((S.1 46) a1.toNatClampNeg) → X (105, [some (.ref 44), some (.int a1), some (.ref 33), some (.int (((S.1 45) a1.toNatClampNeg) / 3)), some (.int 0)], [], st S hs, 0, 0))
        refine ⟨fun hc => hX _ ?_, fun hc => hX _ ?_⟩
        · clear hP hX hk P' X cal
          rw [if_pos hc] at hr
          have hr := Option.some.inj hr
          subst hr
          refine Wp.stepsG 2 (fun cal X P' hk hX hP => ?_)
          exact ⟨Or.inl rfl, hP _ _ h⟩
        · clear hP hX hk P' X cal
          rw [if_neg hc] at hr
          have hr := Option.some.inj hr
          subst hr
          refine Wp.stepsG 3 (fun cal X P' hk hX hP => ?_)
          exact ⟨Or.inr rfl, hP _ _ h⟩
  · clear hP hX hk P' X cal
    rw [if_neg hc] at hr
    refine Wp.stepsG 3 (fun cal X P' hk hX hP => ?_)
    show vp_in (((S.1 45) a1.toNatClampNeg) / 3) 6 ∧ X (18, [some (.ref 44), some (.int a1), some (.ref 33), some (.int (((S.1 45) a1.toNatClampNeg) / 3)), none], [.int ((S.1 33) (((S.1 45) a1.toNatClampNeg) / 3).toNatClampNeg)], st S hs, 0, 0)
    obtain ⟨hg, hr⟩ := gd_some hr
    refine ⟨hg, hX _ ?_⟩
    clear hP hX hk P' X cal
    refine Wp.stepsG 6 (fun cal X P' hk hX hP => ?_)
    show vp_in a1 100 ∧ X (30, [some (.ref 44), some (.int a1), some (.ref 33), some (.int (((S.1 45) a1.toNatClampNeg) / 3)), some (.int ((S.1 33) (((S.1 45) a1.toNatClampNeg) / 3).toNatClampNeg))], [.int ((S.1 45) a1.toNatClampNeg)], st S hs, 0, 0)
    obtain ⟨hg, hr⟩ := gd_some hr
    refine ⟨hg, hX _ ?_⟩
    clear hP hX hk P' X cal
    refine Wp.stepsG 2 (fun cal X P' hk hX hP => ?_)
    show ¬ (3 : Int32) = 0 ∧ X (32, [some (.ref 44), some (.int a1), some (.ref 33), some (.int (((S.1 45) a1.toNatClampNeg) / 3)), some (.int ((S.1 33) (((S.1 45) a1.toNatClampNeg) / 3).toNatClampNeg))], [.int (((S.1 45) a1.toNatClampNeg) - ((S.1 45) a1.toNatClampNeg) / 3 * 3)], st S hs, 0, 0)
    refine ⟨(show ¬ (3 : Int32) = 0 from by decide), hX _ ?_⟩
    clear hP hX hk P' X cal
    refine Wp.stepsG 1 (fun cal X P' hk hX hP => ?_)
    show ((((S.1 45) a1.toNatClampNeg) - ((S.1 45) a1.toNatClampNeg) / 3 * 3) = 0 → X (60, [some (.ref 44), some (.int a1), some (.ref 33), some (.int (((S.1 45) a1.toNatClampNeg) / 3)), some (.int ((S.1 33) (((S.1 45) a1.toNatClampNeg) / 3).toNatClampNeg))], [], st S hs, 0, 0)) ∧ (¬ (((S.1 45) a1.toNatClampNeg) - ((S.1 45) a1.toNatClampNeg) / 3 * 3) = 0 → ((((S.1 45) a1.toNatClampNeg) - ((S.1 45) a1.toNatClampNeg) / 3 * 3) = 1 → X (77, [some (.ref 44), some (.int a1), some (.ref 33), some (.int (((S.1 45) a1.toNatClampNeg) / 3)), some (.int ((S.1 33) (((S.1 45) a1.toNatClampNeg) / 3).toNatClampNeg))], [], st S hs, 0, 0)) ∧ (¬ (((S.1 45) a1.toNatClampNeg) - ((S.1 45) a1.toNatClampNeg) / 3 * 3) = 1 → X (94, [some (.ref 44), some (.int a1), some (.ref 33), some (.int (((S.1 45) a1.toNatClampNeg) / 3)), some (.int ((S.1 33) (((S.1 45) a1.toNatClampNeg) / 3).toNatClampNeg))], [], st S hs, 0, 0)))
    refine ⟨fun hc => hX _ ?_, fun hc => ?_⟩
    · clear hP hX hk P' X cal
      rw [if_pos hc] at hr
      refine Wp.stepsG 5 (fun cal X P' hk hX hP => ?_)
      show vp_in a1 100 ∧ X (68, [some (.ref 44), some (.int a1), some (.ref 33), some (.int (((S.1 45) a1.toNatClampNeg) / 3)), some (.int ((S.1 33) (((S.1 45) a1.toNatClampNeg) / 3).toNatClampNeg))], [.int ((S.1 46) a1.toNatClampNeg), .int ((S.1 33) (((S.1 45) a1.toNatClampNeg) / 3).toNatClampNeg)], st S hs, 0, 0)
      obtain ⟨hg, hr⟩ := gd_some hr
      refine ⟨hg, hX _ ?_⟩
      clear hP hX hk P' X cal
      refine Wp.stepsG 1 (fun cal X P' hk hX hP => ?_)
      show (((S.1 46) a1.toNatClampNeg) ≤ ((S.1 33) (((S.1 45) a1.toNatClampNeg) / 3).toNatClampNeg) → X (75, [some (.ref 44), some (.int a1), some (.ref 33), some (.int (((S.1 45) a1.toNatClampNeg) / 3)), some (.int ((S.1 33) (((S.1 45) a1.toNatClampNeg) / 3).toNatClampNeg))], [], st S hs, 0, 0)) ∧ (¬ ((S.1 46) a1.toNatClampNeg) ≤ ((S.1 33) (((S.1 45) a1.toNatClampNeg) / 3).toNatClampNeg) → X (71, [some (.ref 44), some (.int a1), some (.ref 33), some (.int (((S.1 45) a1.toNatClampNeg) / 3)), some (.int ((S.1 33) (((S.1 45) a1.toNatClampNeg) / 3).toNatClampNeg))], [], st S hs, 0, 0))
      refine ⟨fun hc => hX _ ?_, fun hc => hX _ ?_⟩
      · clear hP hX hk P' X cal
        rw [if_pos hc] at hr
        have hr := Option.some.inj hr
        subst hr
        refine Wp.stepsG 2 (fun cal X P' hk hX hP => ?_)
        exact ⟨Or.inl rfl, hP _ _ h⟩
      · clear hP hX hk P' X cal
        rw [if_neg hc] at hr
        have hr := Option.some.inj hr
        subst hr
        refine Wp.stepsG 3 (fun cal X P' hk hX hP => ?_)
        exact ⟨Or.inr rfl, hP _ _ h⟩
    · rw [if_neg hc] at hr
      refine ⟨fun hc => hX _ ?_, fun hc => hX _ ?_⟩
      · clear hP hX hk P' X cal
        rw [if_pos hc] at hr
        refine Wp.stepsG 5 (fun cal X P' hk hX hP => ?_)
        show vp_in a1 100 ∧ X (85, [some (.ref 44), some (.int a1), some (.ref 33), some (.int (((S.1 45) a1.toNatClampNeg) / 3)), some (.int ((S.1 33) (((S.1 45) a1.toNatClampNeg) / 3).toNatClampNeg))], [.int ((S.1 46) a1.toNatClampNeg), .int ((S.1 33) (((S.1 45) a1.toNatClampNeg) / 3).toNatClampNeg)], st S hs, 0, 0)
        obtain ⟨hg, hr⟩ := gd_some hr
        refine ⟨hg, hX _ ?_⟩
        clear hP hX hk P' X cal
        refine Wp.stepsG 1 (fun cal X P' hk hX hP => ?_)
        show (¬ ((S.1 33) (((S.1 45) a1.toNatClampNeg) / 3).toNatClampNeg) = ((S.1 46) a1.toNatClampNeg) → X (92, [some (.ref 44), some (.int a1), some (.ref 33), some (.int (((S.1 45) a1.toNatClampNeg) / 3)), some (.int ((S.1 33) (((S.1 45) a1.toNatClampNeg) / 3).toNatClampNeg))], [], st S hs, 0, 0)) ∧ (((S.1 33) (((S.1 45) a1.toNatClampNeg) / 3).toNatClampNeg) = ((S.1 46) a1.toNatClampNeg) → X (88, [some (.ref 44), some (.int a1), some (.ref 33), some (.int (((S.1 45) a1.toNatClampNeg) / 3)), some (.int ((S.1 33) (((S.1 45) a1.toNatClampNeg) / 3).toNatClampNeg))], [], st S hs, 0, 0))
        refine ⟨fun hc => hX _ ?_, fun hc => hX _ ?_⟩
        · clear hP hX hk P' X cal
          rw [if_neg hc] at hr
          have hr := Option.some.inj hr
          subst hr
          refine Wp.stepsG 2 (fun cal X P' hk hX hP => ?_)
          exact ⟨Or.inl rfl, hP _ _ h⟩
        · clear hP hX hk P' X cal
          rw [if_pos hc] at hr
          have hr := Option.some.inj hr
          subst hr
          refine Wp.stepsG 3 (fun cal X P' hk hX hP => ?_)
          exact ⟨Or.inr rfl, hP _ _ h⟩
      · rw [if_neg hc] at hr
        clear hP hX hk P' X cal
        refine Wp.stepsG 5 (fun cal X P' hk hX hP => ?_)
        show vp_in a1 100 ∧ X (102, [some (.ref 44), some (.int a1), some (.ref 33), some (.int (((S.1 45) a1.toNatClampNeg) / 3)), some (.int ((S.1 33) (((S.1 45) a1.toNatClampNeg) / 3).toNatClampNeg))], [.int ((S.1 46) a1.toNatClampNeg), .int ((S.1 33) (((S.1 45) a1.toNatClampNeg) / 3).toNatClampNeg)], st S hs, 0, 0)
        obtain ⟨hg, hr⟩ := gd_some hr
        refine ⟨hg, hX _ ?_⟩
        clear hP hX hk P' X cal
        refine Wp.stepsG 1 (fun cal X P' hk hX hP => ?_)
        show (((S.1 33) (((S.1 45) a1.toNatClampNeg) / 3).toNatClampNeg) ≤ ((S.1 46) a1.toNatClampNeg) → X (109, [some (.ref 44), some (.int a1), some (.ref 33), some (.int (((S.1 45) a1.toNatClampNeg) / 3)), some (.int ((S.1 33) (((S.1 45) a1.toNatClampNeg) / 3).toNatClampNeg))], [], st S hs, 0, 0)) ∧ (¬ ((S.1 33) (((S.1 45) a1.toNatClampNeg) / 3).toNatClampNeg) ≤ ((S.1 46) a1.toNatClampNeg) → X (105, [some (.ref 44), some (.int a1), some (.ref 33), some (.int (((S.1 45) a1.toNatClampNeg) / 3)), some (.int ((S.1 33) (((S.1 45) a1.toNatClampNeg) / 3).toNatClampNeg))], [], st S hs, 0, 0))
        refine ⟨fun hc => hX _ ?_, fun hc => hX _ ?_⟩
        · clear hP hX hk P' X cal
          rw [if_pos hc] at hr
          have hr := Option.some.inj hr
          subst hr
          refine Wp.stepsG 2 (fun cal X P' hk hX hP => ?_)
          exact ⟨Or.inl rfl, hP _ _ h⟩
        · clear hP hX hk P' X cal
          rw [if_neg hc] at hr
          have hr := Option.some.inj hr
          subst hr
          refine Wp.stepsG 3 (fun cal X P' hk hX hP => ?_)
          exact ⟨Or.inr rfl, hP _ _ h⟩
set_option maxRecDepth 20000 in
set_option maxHeartbeats 4000000 in
theorem e_lp_X5_moodBy_33_7_44 (d : Nat) (hs : List Hr) (P : Option Value → Hp → Prop) (S : St) : ∀ (n : Nat) (v2 : Int32) (v3 : Int32) (v4 : Int32) (q : Int32), lp_X5_moodBy_33_7 S 44 n v2 v3 v4 = some q → (WM mi_X5_moodBy (d + 1) P 136 [some (.ref 44), some (.ref 33), some (.int q), none, none, none] [] (st S hs)) → WM mi_X5_moodBy (d + 1) P 7 [some (.ref 44), some (.ref 33), some (.int v2), some (.int v3), some (.int v4), none] [] (st S hs) := by
  intro n
  induction n with
  | zero =>
    intro v2 v3 v4 q hl
    cases hl
  | succ n ih =>
    intro v2 v3 v4 q hl ct
    rw [lp_X5_moodBy_33_7] at hl
    refine Wp.stepsG 4 (fun cal X P' hk hX hP => ?_)
    show ((S.1 44 2) ≤ v4 → X (136, [some (.ref 44), some (.ref 33), some (.int v2), some (.int v3), some (.int v4), none], [], st S hs, 0, 0)) ∧ (¬ (S.1 44 2) ≤ v4 → X (16, [some (.ref 44), some (.ref 33), some (.int v2), some (.int v3), some (.int v4), none], [], st S hs, 0, 0))
    refine ⟨fun hc => hX _ ?_, fun hc => hX _ ?_⟩
    · clear hP hX hk P' X cal
      rw [if_pos hc] at hl
      have hl := Option.some.inj hl
      subst hl
      exact Wp.weak (leL.k (leL.k (leL.k (leL.n (leL.n (leL.k leL.z)))))) (ct)
    · clear hP hX hk P' X cal
      rw [if_neg hc] at hl
      refine Wp.stepsG 8 (fun cal X P' hk hX hP => ?_)
      show vp_in v4 100 ∧ X (28, [some (.ref 44), some (.ref 33), some (.int v2), some (.int v3), some (.int v4), some (.int (v3 &&& 1))], [.int ((S.1 45) v4.toNatClampNeg)], st S hs, 0, 0)
      obtain ⟨hg, hl⟩ := gd_some hl
      refine ⟨hg, hX _ ?_⟩
      clear hP hX hk P' X cal
      refine Wp.stepsG 1 (fun cal X P' hk hX hP => ?_)
      show (((S.1 45) v4.toNatClampNeg) = 18 → X (60, [some (.ref 44), some (.ref 33), some (.int v2), some (.int v3), some (.int v4), some (.int (v3 &&& 1))], [], st S hs, 0, 0)) ∧ (¬ ((S.1 45) v4.toNatClampNeg) = 18 → (((S.1 45) v4.toNatClampNeg) = 19 → X (67, [some (.ref 44), some (.ref 33), some (.int v2), some (.int v3), some (.int v4), some (.int (v3 &&& 1))], [], st S hs, 0, 0)) ∧ (¬ ((S.1 45) v4.toNatClampNeg) = 19 → (((S.1 45) v4.toNatClampNeg) = 20 → X (80, [some (.ref 44), some (.ref 33), some (.int v2), some (.int v3), some (.int v4), some (.int (v3 &&& 1))], [], st S hs, 0, 0)) ∧ (¬ ((S.1 45) v4.toNatClampNeg) = 20 → (((S.1 45) v4.toNatClampNeg) = 21 → X (90, [some (.ref 44), some (.ref 33), some (.int v2), some (.int v3), some (.int v4), some (.int (v3 &&& 1))], [], st S hs, 0, 0)) ∧ (¬ ((S.1 45) v4.toNatClampNeg) = 21 → X (110, [some (.ref 44), some (.ref 33), some (.int v2), some (.int v3), some (.int v4), some (.int (v3 &&& 1))], [], st S hs, 0, 0)))))
      refine ⟨fun hc => hX _ ?_, fun hc => ?_⟩
      · clear hP hX hk P' X cal
        rw [if_pos hc] at hl
        refine Wp.stepsG 7 (fun cal X P' hk hX hP => ?_)
        show X (7, [some (.ref 44), some (.ref 33), some (.int v2), some (.int (v3 ^^^ 1)), some (.int (v4 + 1)), some (.int (v3 &&& 1))], [], st S hs, 0, 0)
        refine hX _ ?_
        exact Wp.weak (leL.k (leL.k (leL.k (leL.k (leL.k (leL.n leL.z)))))) (ih v2 (v3 ^^^ 1) (v4 + 1) q hl ct)
      · rw [if_neg hc] at hl
        refine ⟨fun hc => hX _ ?_, fun hc => ?_⟩
        · clear hP hX hk P' X cal
          rw [if_pos hc] at hl
          refine Wp.stepsG 11 (fun cal X P' hk hX hP => ?_)
          show X (7, [some (.ref 44), some (.ref 33), some (.int v2), some (.int ((v3 >>> (1 &&& 31)) &&& ((v3 &&& 1) ||| (-2)))), some (.int (v4 + 1)), some (.int (v3 &&& 1))], [], st S hs, 0, 0)
          refine hX _ ?_
          exact Wp.weak (leL.k (leL.k (leL.k (leL.k (leL.k (leL.n leL.z)))))) (ih v2 ((v3 >>> (1 &&& 31)) &&& ((v3 &&& 1) ||| (-2))) (v4 + 1) q hl ct)
        · rw [if_neg hc] at hl
          refine ⟨fun hc => hX _ ?_, fun hc => ?_⟩
          · clear hP hX hk P' X cal
            rw [if_pos hc] at hl
            refine Wp.stepsG 9 (fun cal X P' hk hX hP => ?_)
            show X (7, [some (.ref 44), some (.ref 33), some (.int v2), some (.int ((v3 >>> (1 &&& 31)) ||| (v3 &&& 1))), some (.int (v4 + 1)), some (.int (v3 &&& 1))], [], st S hs, 0, 0)
            refine hX _ ?_
            exact Wp.weak (leL.k (leL.k (leL.k (leL.k (leL.k (leL.n leL.z)))))) (ih v2 ((v3 >>> (1 &&& 31)) ||| (v3 &&& 1)) (v4 + 1) q hl ct)
          · rw [if_neg hc] at hl
            refine ⟨fun hc => hX _ ?_, fun hc => hX _ ?_⟩
            · clear hP hX hk P' X cal
              rw [if_pos hc] at hl
              refine Wp.stepsG 10 (fun cal X P' hk hX hP => ?_)
              show vp_in v4 100 ∧ X (104, [some (.ref 44), some (.ref 33), some (.int v2), some (.int (v3 >>> (1 &&& 31))), some (.int v4), some (.int (v3 &&& 1))], [.int ((S.1 46) v4.toNatClampNeg), .int (v3 &&& 1), .int v2], st S hs, 0, 0)
              obtain ⟨hg, hl⟩ := gd_some hl
              refine ⟨hg, hX _ ?_⟩
              clear hP hX hk P' X cal
              refine Wp.stepsG 6 (fun cal X P' hk hX hP => ?_)
              show X (7, [some (.ref 44), some (.ref 33), some (.int (v2 + ((v3 &&& 1) * ((S.1 46) v4.toNatClampNeg)))), some (.int (v3 >>> (1 &&& 31))), some (.int (v4 + 1)), some (.int (v3 &&& 1))], [], st S hs, 0, 0)
              refine hX _ ?_
              exact Wp.weak (leL.k (leL.k (leL.k (leL.k (leL.k (leL.n leL.z)))))) (ih (v2 + ((v3 &&& 1) * ((S.1 46) v4.toNatClampNeg))) (v3 >>> (1 &&& 31)) (v4 + 1) q hl ct)
            · rw [if_neg hc] at hl
              clear hP hX hk P' X cal
              refine Wp.stepsG 7 (fun cal X P' hk hX hP => ?_)
              show kcall cal ix_X5_holds [.ref 44, .int v4, .ref 33] (st S hs) [.int (v3 <<< (1 &&& 31))] 0 0 (0, 0) (fun v σ' c' m' => X (120, [some (.ref 44), some (.ref 33), some (.int v2), some (.int v3), some (.int v4), some (.int (v3 &&& 1))], v.toList ++ [.int (v3 <<< (1 &&& 31))], σ', c', m'))
              obtain ⟨q1, hq1, hl⟩ := bd_some hl
              refine kcall0 rfl (hk _ _ _ _ _ _ (e_X5_holds_33_44 (d + 0) S hs v4 q1 hq1 _ ?_))
              show X (120, [some (.ref 44), some (.ref 33), some (.int v2), some (.int v3), some (.int v4), some (.int (v3 &&& 1))], [.int q1, .int (v3 <<< (1 &&& 31))], st S hs, 0, 0)
              refine hX _ ?_
              clear hP hX hk P' X cal
              refine Wp.stepsG 1 (fun cal X P' hk hX hP => ?_)
              show (q1 = 0 → X (127, [some (.ref 44), some (.ref 33), some (.int v2), some (.int v3), some (.int v4), some (.int (v3 &&& 1))], [.int (v3 <<< (1 &&& 31))], st S hs, 0, 0)) ∧ (¬ q1 = 0 → X (123, [some (.ref 44), some (.ref 33), some (.int v2), some (.int v3), some (.int v4), some (.int (v3 &&& 1))], [.int (v3 <<< (1 &&& 31))], st S hs, 0, 0))
              refine ⟨fun hc => hX _ ?_, fun hc => hX _ ?_⟩
              · clear hP hX hk P' X cal
                rw [if_pos hc] at hl
                refine Wp.stepsG 5 (fun cal X P' hk hX hP => ?_)
                show X (7, [some (.ref 44), some (.ref 33), some (.int v2), some (.int ((v3 <<< (1 &&& 31)) ||| 0)), some (.int (v4 + 1)), some (.int (v3 &&& 1))], [], st S hs, 0, 0)
                refine hX _ ?_
                exact Wp.weak (leL.k (leL.k (leL.k (leL.k (leL.k (leL.n leL.z)))))) (ih v2 ((v3 <<< (1 &&& 31)) ||| 0) (v4 + 1) q hl ct)
              · clear hP hX hk P' X cal
                rw [if_neg hc] at hl
                refine Wp.stepsG 6 (fun cal X P' hk hX hP => ?_)
                show X (7, [some (.ref 44), some (.ref 33), some (.int v2), some (.int ((v3 <<< (1 &&& 31)) ||| 1)), some (.int (v4 + 1)), some (.int (v3 &&& 1))], [], st S hs, 0, 0)
                refine hX _ ?_
                exact Wp.weak (leL.k (leL.k (leL.k (leL.k (leL.k (leL.n leL.z)))))) (ih v2 ((v3 <<< (1 &&& 31)) ||| 1) (v4 + 1) q hl ct)
set_option maxRecDepth 20000 in
set_option maxHeartbeats 4000000 in
theorem e_X5_moodBy_33_44 (d : Nat) (S : St) (hs : List Hr) (v : Int32) (hr : r_X5_moodBy_33 S 44 = some v) (P : Option Value → Hp → Prop) (h : P (some (.int v)) (st S hs)) : Ev (d + 2) ix_X5_moodBy 0 0 [.ref 44, .ref 33] (st S hs) P := by
  refine Ev.intro (M := mi_X5_moodBy) rfl (Nat.le_of_ble_eq_true rfl) ?_
  unfold r_X5_moodBy_33 at hr
  refine Wp.stepsG 6 (fun cal X P' hk hX hP => ?_)
  show X (7, [some (.ref 44), some (.ref 33), some (.int 0), some (.int 0), some (.int 0), none], [], st S hs, 0, 0)
  refine hX _ ?_
  clear hP hX hk P' X cal
  obtain ⟨q2, hq2, hr⟩ := bd_some hr
  refine (e_lp_X5_moodBy_33_7_44 d hs P S _ 0 0 0 q2 hq2 ?_)
  have hr := Option.some.inj hr
  subst hr
  refine Wp.stepsG 2 (fun cal X P' hk hX hP => ?_)
  exact hP _ _ h
set_option maxRecDepth 20000 in
set_option maxHeartbeats 4000000 in
theorem e_X5_holds_33_48 (d : Nat) (S : St) (hs : List Hr) (a1 : Int32) (v : Int32) (hr : r_X5_holds_33 S 48 a1 = some v) (P : Option Value → Hp → Prop) (h : P (some (.int v)) (st S hs)) : Ev (d + 1) ix_X5_holds 0 0 [.ref 48, .int a1, .ref 33] (st S hs) P := by
  refine Ev.intro (M := mi_X5_holds) rfl (Nat.le_of_ble_eq_true rfl) ?_
  unfold r_X5_holds_33 at hr
  refine Wp.stepsG 4 (fun cal X P' hk hX hP => ?_)
  show vp_in a1 100 ∧ X (6, [some (.ref 48), some (.int a1), some (.ref 33), none, none], [.int ((S.1 49) a1.toNatClampNeg)], st S hs, 0, 0)
  obtain ⟨hg, hr⟩ := gd_some hr
  refine ⟨hg, hX _ ?_⟩
  clear hP hX hk P' X cal
  refine Wp.stepsG 2 (fun cal X P' hk hX hP => ?_)
  show ¬ (3 : Int32) = 0 ∧ X (8, [some (.ref 48), some (.int a1), some (.ref 33), none, none], [.int (((S.1 49) a1.toNatClampNeg) / 3)], st S hs, 0, 0)
  refine ⟨(show ¬ (3 : Int32) = 0 from by decide), hX _ ?_⟩
  clear hP hX hk P' X cal
  refine Wp.stepsG 5 (fun cal X P' hk hX hP => ?_)
  show (6 ≤ (((S.1 49) a1.toNatClampNeg) / 3) → X (21, [some (.ref 48), some (.int a1), some (.ref 33), some (.int (((S.1 49) a1.toNatClampNeg) / 3)), none], [], st S hs, 0, 0)) ∧ (¬ 6 ≤ (((S.1 49) a1.toNatClampNeg) / 3) → X (15, [some (.ref 48), some (.int a1), some (.ref 33), some (.int (((S.1 49) a1.toNatClampNeg) / 3)), none], [], st S hs, 0, 0))
  refine ⟨fun hc => hX _ ?_, fun hc => hX _ ?_⟩
  · clear hP hX hk P' X cal
    rw [if_pos hc] at hr
    refine Wp.stepsG 6 (fun cal X P' hk hX hP => ?_)
    show vp_in a1 100 ∧ X (30, [some (.ref 48), some (.int a1), some (.ref 33), some (.int (((S.1 49) a1.toNatClampNeg) / 3)), some (.int 0)], [.int ((S.1 49) a1.toNatClampNeg)], st S hs, 0, 0)
    obtain ⟨hg, hr⟩ := gd_some hr
    refine ⟨hg, hX _ ?_⟩
    clear hP hX hk P' X cal
    refine Wp.stepsG 2 (fun cal X P' hk hX hP => ?_)
    show ¬ (3 : Int32) = 0 ∧ X (32, [some (.ref 48), some (.int a1), some (.ref 33), some (.int (((S.1 49) a1.toNatClampNeg) / 3)), some (.int 0)], [.int (((S.1 49) a1.toNatClampNeg) - ((S.1 49) a1.toNatClampNeg) / 3 * 3)], st S hs, 0, 0)
    refine ⟨(show ¬ (3 : Int32) = 0 from by decide), hX _ ?_⟩
    clear hP hX hk P' X cal
    refine Wp.stepsG 1 (fun cal X P' hk hX hP => ?_)
    show ((((S.1 49) a1.toNatClampNeg) - ((S.1 49) a1.toNatClampNeg) / 3 * 3) = 0 → X (60, [some (.ref 48), some (.int a1), some (.ref 33), some (.int (((S.1 49) a1.toNatClampNeg) / 3)), some (.int 0)], [], st S hs, 0, 0)) ∧ (¬ (((S.1 49) a1.toNatClampNeg) - ((S.1 49) a1.toNatClampNeg) / 3 * 3) = 0 → ((((S.1 49) a1.toNatClampNeg) - ((S.1 49) a1.toNatClampNeg) / 3 * 3) = 1 → X (77, [some (.ref 48), some (.int a1), some (.ref 33), some (.int (((S.1 49) a1.toNatClampNeg) / 3)), some (.int 0)], [], st S hs, 0, 0)) ∧ (¬ (((S.1 49) a1.toNatClampNeg) - ((S.1 49) a1.toNatClampNeg) / 3 * 3) = 1 → X (94, [some (.ref 48), some (.int a1), some (.ref 33), some (.int (((S.1 49) a1.toNatClampNeg) / 3)), some (.int 0)], [], st S hs, 0, 0)))
    refine ⟨fun hc => hX _ ?_, fun hc => ?_⟩
    · clear hP hX hk P' X cal
      rw [if_pos hc] at hr
      refine Wp.stepsG 5 (fun cal X P' hk hX hP => ?_)
      show vp_in a1 100 ∧ X (68, [some (.ref 48), some (.int a1), some (.ref 33), some (.int (((S.1 49) a1.toNatClampNeg) / 3)), some (.int 0)], [.int ((S.1 50) a1.toNatClampNeg), .int 0], st S hs, 0, 0)
      obtain ⟨hg, hr⟩ := gd_some hr
      refine ⟨hg, hX _ ?_⟩
      clear hP hX hk P' X cal
      refine Wp.stepsG 1 (fun cal X P' hk hX hP => ?_)
      show (((S.1 50) a1.toNatClampNeg) ≤ (0 : Int32) → X (75, [some (.ref 48), some (.int a1), some (.ref 33), some (.int (((S.1 49) a1.toNatClampNeg) / 3)), some (.int 0)], [], st S hs, 0, 0)) ∧ (¬ ((S.1 50) a1.toNatClampNeg) ≤ (0 : Int32) → X (71, [some (.ref 48), some (.int a1), some (.ref 33), some (.int (((S.1 49) a1.toNatClampNeg) / 3)), some (.int 0)], [], st S hs, 0, 0))
      refine ⟨fun hc => hX _ ?_, fun hc => hX _ ?_⟩
      · clear hP hX hk P' X cal
        rw [if_pos hc] at hr
        have hr := Option.some.inj hr
        subst hr
        refine Wp.stepsG 2 (fun cal X P' hk hX hP => ?_)
        exact ⟨Or.inl rfl, hP _ _ h⟩
      · clear hP hX hk P' X cal
        rw [if_neg hc] at hr
        have hr := Option.some.inj hr
        subst hr
        refine Wp.stepsG 3 (fun cal X P' hk hX hP => ?_)
        exact ⟨Or.inr rfl, hP _ _ h⟩
    · rw [if_neg hc] at hr
      refine ⟨fun hc => hX _ ?_, fun hc => hX _ ?_⟩
      · clear hP hX hk P' X cal
        rw [if_pos hc] at hr
        refine Wp.stepsG 5 (fun cal X P' hk hX hP => ?_)
        show vp_in a1 100 ∧ X (85, [some (.ref 48), some (.int a1), some (.ref 33), some (.int (((S.1 49) a1.toNatClampNeg) / 3)), some (.int 0)], [.int ((S.1 50) a1.toNatClampNeg), .int 0], st S hs, 0, 0)
        obtain ⟨hg, hr⟩ := gd_some hr
        refine ⟨hg, hX _ ?_⟩
        clear hP hX hk P' X cal
        refine Wp.stepsG 1 (fun cal X P' hk hX hP => ?_)
        show (¬ (0 : Int32) = ((S.1 50) a1.toNatClampNeg) → X (92, [some (.ref 48), some (.int a1), some (.ref 33), some (.int (((S.1 49) a1.toNatClampNeg) / 3)), some (.int 0)], [], st S hs, 0, 0)) ∧ ((0 : Int32) = ((S.1 50) a1.toNatClampNeg) → X (88, [some (.ref 48), some (.int a1), some (.ref 33), some (.int (((S.1 49) a1.toNatClampNeg) / 3)), some (.int 0)], [], st S hs, 0, 0))
        refine ⟨fun hc => hX _ ?_, fun hc => hX _ ?_⟩
        · clear hP hX hk P' X cal
          rw [if_neg hc] at hr
          have hr := Option.some.inj hr
          subst hr
          refine Wp.stepsG 2 (fun cal X P' hk hX hP => ?_)
          exact ⟨Or.inl rfl, hP _ _ h⟩
        · clear hP hX hk P' X cal
          rw [if_pos hc] at hr
          have hr := Option.some.inj hr
          subst hr
          refine Wp.stepsG 3 (fun cal X P' hk hX hP => ?_)
          exact ⟨Or.inr rfl, hP _ _ h⟩
      · rw [if_neg hc] at hr
        clear hP hX hk P' X cal
        refine Wp.stepsG 5 (fun cal X P' hk hX hP => ?_)
        show vp_in a1 100 ∧ X (102, [some (.ref 48), some (.int a1), some (.ref 33), some (.int (((S.1 49) a1.toNatClampNeg) / 3)), some (.int 0)], [.int ((S.1 50) a1.toNatClampNeg), .int 0], st S hs, 0, 0)
        obtain ⟨hg, hr⟩ := gd_some hr
        refine ⟨hg, hX _ ?_⟩
        clear hP hX hk P' X cal
        refine Wp.stepsG 1 (fun cal X P' hk hX hP => ?_)
        show ((0 : Int32) ≤ ((S.1 50) a1.toNatClampNeg) → X (109, [some (.ref 48), some (.int a1), some (.ref 33), some (.int (((S.1 49) a1.toNatClampNeg) / 3)), some (.int 0)], [], st S hs, 0, 0)) ∧ (¬ (0 : Int32) ≤ ((S.1 50) a1.toNatClampNeg) → X (105, [some (.ref 48), some (.int a1), some (.ref 33), some (.int (((S.1 49) a1.toNatClampNeg) / 3)), some (.int 0)], [], st S hs, 0, 0))
        refine ⟨fun hc => hX _ ?_, fun hc => hX _ ?_⟩
        · clear hP hX hk P' X cal
          rw [if_pos hc] at hr
          have hr := Option.some.inj hr
          subst hr
          refine Wp.stepsG 2 (fun cal X P' hk hX hP => ?_)
          exact ⟨Or.inl rfl, hP _ _ h⟩
        · clear hP hX hk P' X cal
          rw [if_neg hc] at hr
          have hr := Option.some.inj hr
          subst hr
          refine Wp.stepsG 3 (fun cal X P' hk hX hP => ?_)
          exact ⟨Or.inr rfl, hP _ _ h⟩
  · clear hP hX hk P' X cal
    rw [if_neg hc] at hr
    refine Wp.stepsG 3 (fun cal X P' hk hX hP => ?_)
    show vp_in (((S.1 49) a1.toNatClampNeg) / 3) 6 ∧ X (18, [some (.ref 48), some (.int a1), some (.ref 33), some (.int (((S.1 49) a1.toNatClampNeg) / 3)), none], [.int ((S.1 33) (((S.1 49) a1.toNatClampNeg) / 3).toNatClampNeg)], st S hs, 0, 0)
    obtain ⟨hg, hr⟩ := gd_some hr
    refine ⟨hg, hX _ ?_⟩
    clear hP hX hk P' X cal
    refine Wp.stepsG 6 (fun cal X P' hk hX hP => ?_)
    show vp_in a1 100 ∧ X (30, [some (.ref 48), some (.int a1), some (.ref 33), some (.int (((S.1 49) a1.toNatClampNeg) / 3)), some (.int ((S.1 33) (((S.1 49) a1.toNatClampNeg) / 3).toNatClampNeg))], [.int ((S.1 49) a1.toNatClampNeg)], st S hs, 0, 0)
    obtain ⟨hg, hr⟩ := gd_some hr
    refine ⟨hg, hX _ ?_⟩
    clear hP hX hk P' X cal
    refine Wp.stepsG 2 (fun cal X P' hk hX hP => ?_)
    show ¬ (3 : Int32) = 0 ∧ X (32, [some (.ref 48), some (.int a1), some (.ref 33), some (.int (((S.1 49) a1.toNatClampNeg) / 3)), some (.int ((S.1 33) (((S.1 49) a1.toNatClampNeg) / 3).toNatClampNeg))], [.int (((S.1 49) a1.toNatClampNeg) - ((S.1 49) a1.toNatClampNeg) / 3 * 3)], st S hs, 0, 0)
    refine ⟨(show ¬ (3 : Int32) = 0 from by decide), hX _ ?_⟩
    clear hP hX hk P' X cal
    refine Wp.stepsG 1 (fun cal X P' hk hX hP => ?_)
    show ((((S.1 49) a1.toNatClampNeg) - ((S.1 49) a1.toNatClampNeg) / 3 * 3) = 0 → X (60, [some (.ref 48), some (.int a1), some (.ref 33), some (.int (((S.1 49) a1.toNatClampNeg) / 3)), some (.int ((S.1 33) (((S.1 49) a1.toNatClampNeg) / 3).toNatClampNeg))], [], st S hs, 0, 0)) ∧ (¬ (((S.1 49) a1.toNatClampNeg) - ((S.1 49) a1.toNatClampNeg) / 3 * 3) = 0 → ((((S.1 49) a1.toNatClampNeg) - ((S.1 49) a1.toNatClampNeg) / 3 * 3) = 1 → X (77, [some (.ref 48), some (.int a1), some (.ref 33), some (.int (((S.1 49) a1.toNatClampNeg) / 3)), some (.int ((S.1 33) (((S.1 49) a1.toNatClampNeg) / 3).toNatClampNeg))], [], st S hs, 0, 0)) ∧ (¬ (((S.1 49) a1.toNatClampNeg) - ((S.1 49) a1.toNatClampNeg) / 3 * 3) = 1 → X (94, [some (.ref 48), some (.int a1), some (.ref 33), some (.int (((S.1 49) a1.toNatClampNeg) / 3)), some (.int ((S.1 33) (((S.1 49) a1.toNatClampNeg) / 3).toNatClampNeg))], [], st S hs, 0, 0)))
    refine ⟨fun hc => hX _ ?_, fun hc => ?_⟩
    · clear hP hX hk P' X cal
      rw [if_pos hc] at hr
      refine Wp.stepsG 5 (fun cal X P' hk hX hP => ?_)
      show vp_in a1 100 ∧ X (68, [some (.ref 48), some (.int a1), some (.ref 33), some (.int (((S.1 49) a1.toNatClampNeg) / 3)), some (.int ((S.1 33) (((S.1 49) a1.toNatClampNeg) / 3).toNatClampNeg))], [.int ((S.1 50) a1.toNatClampNeg), .int ((S.1 33) (((S.1 49) a1.toNatClampNeg) / 3).toNatClampNeg)], st S hs, 0, 0)
      obtain ⟨hg, hr⟩ := gd_some hr
      refine ⟨hg, hX _ ?_⟩
      clear hP hX hk P' X cal
      refine Wp.stepsG 1 (fun cal X P' hk hX hP => ?_)
      show (((S.1 50) a1.toNatClampNeg) ≤ ((S.1 33) (((S.1 49) a1.toNatClampNeg) / 3).toNatClampNeg) → X (75, [some (.ref 48), some (.int a1), some (.ref 33), some (.int (((S.1 49) a1.toNatClampNeg) / 3)), some (.int ((S.1 33) (((S.1 49) a1.toNatClampNeg) / 3).toNatClampNeg))], [], st S hs, 0, 0)) ∧ (¬ ((S.1 50) a1.toNatClampNeg) ≤ ((S.1 33) (((S.1 49) a1.toNatClampNeg) / 3).toNatClampNeg) → X (71, [some (.ref 48), some (.int a1), some (.ref 33), some (.int (((S.1 49) a1.toNatClampNeg) / 3)), some (.int ((S.1 33) (((S.1 49) a1.toNatClampNeg) / 3).toNatClampNeg))], [], st S hs, 0, 0))
      refine ⟨fun hc => hX _ ?_, fun hc => hX _ ?_⟩
      · clear hP hX hk P' X cal
        rw [if_pos hc] at hr
        have hr := Option.some.inj hr
        subst hr
        refine Wp.stepsG 2 (fun cal X P' hk hX hP => ?_)
        exact ⟨Or.inl rfl, hP _ _ h⟩
      · clear hP hX hk P' X cal
        rw [if_neg hc] at hr
        have hr := Option.some.inj hr
        subst hr
        refine Wp.stepsG 3 (fun cal X P' hk hX hP => ?_)
        exact ⟨Or.inr rfl, hP _ _ h⟩
    · rw [if_neg hc] at hr
      refine ⟨fun hc => hX _ ?_, fun hc => hX _ ?_⟩
      · clear hP hX hk P' X cal
        rw [if_pos hc] at hr
        refine Wp.stepsG 5 (fun cal X P' hk hX hP => ?_)
        show vp_in a1 100 ∧ X (85, [some (.ref 48), some (.int a1), some (.ref 33), some (.int (((S.1 49) a1.toNatClampNeg) / 3)), some (.int ((S.1 33) (((S.1 49) a1.toNatClampNeg) / 3).toNatClampNeg))], [.int ((S.1 50) a1.toNatClampNeg), .int ((S.1 33) (((S.1 49) a1.toNatClampNeg) / 3).toNatClampNeg)], st S hs, 0, 0)
        obtain ⟨hg, hr⟩ := gd_some hr
        refine ⟨hg, hX _ ?_⟩
        clear hP hX hk P' X cal
        refine Wp.stepsG 1 (fun cal X P' hk hX hP => ?_)
        show (¬ ((S.1 33) (((S.1 49) a1.toNatClampNeg) / 3).toNatClampNeg) = ((S.1 50) a1.toNatClampNeg) → X (92, [some (.ref 48), some (.int a1), some (.ref 33), some (.int (((S.1 49) a1.toNatClampNeg) / 3)), some (.int ((S.1 33) (((S.1 49) a1.toNatClampNeg) / 3).toNatClampNeg))], [], st S hs, 0, 0)) ∧ (((S.1 33) (((S.1 49) a1.toNatClampNeg) / 3).toNatClampNeg) = ((S.1 50) a1.toNatClampNeg) → X (88, [some (.ref 48), some (.int a1), some (.ref 33), some (.int (((S.1 49) a1.toNatClampNeg) / 3)), some (.int ((S.1 33) (((S.1 49) a1.toNatClampNeg) / 3).toNatClampNeg))], [], st S hs, 0, 0))
        refine ⟨fun hc => hX _ ?_, fun hc => hX _ ?_⟩
        · clear hP hX hk P' X cal
          rw [if_neg hc] at hr
          have hr := Option.some.inj hr
          subst hr
          refine Wp.stepsG 2 (fun cal X P' hk hX hP => ?_)
          exact ⟨Or.inl rfl, hP _ _ h⟩
        · clear hP hX hk P' X cal
          rw [if_pos hc] at hr
          have hr := Option.some.inj hr
          subst hr
          refine Wp.stepsG 3 (fun cal X P' hk hX hP => ?_)
          exact ⟨Or.inr rfl, hP _ _ h⟩
      · rw [if_neg hc] at hr
        clear hP hX hk P' X cal
        refine Wp.stepsG 5 (fun cal X P' hk hX hP => ?_)
        show vp_in a1 100 ∧ X (102, [some (.ref 48), some (.int a1), some (.ref 33), some (.int (((S.1 49) a1.toNatClampNeg) / 3)), some (.int ((S.1 33) (((S.1 49) a1.toNatClampNeg) / 3).toNatClampNeg))], [.int ((S.1 50) a1.toNatClampNeg), .int ((S.1 33) (((S.1 49) a1.toNatClampNeg) / 3).toNatClampNeg)], st S hs, 0, 0)
        obtain ⟨hg, hr⟩ := gd_some hr
        refine ⟨hg, hX _ ?_⟩
        clear hP hX hk P' X cal
        refine Wp.stepsG 1 (fun cal X P' hk hX hP => ?_)
        show (((S.1 33) (((S.1 49) a1.toNatClampNeg) / 3).toNatClampNeg) ≤ ((S.1 50) a1.toNatClampNeg) → X (109, [some (.ref 48), some (.int a1), some (.ref 33), some (.int (((S.1 49) a1.toNatClampNeg) / 3)), some (.int ((S.1 33) (((S.1 49) a1.toNatClampNeg) / 3).toNatClampNeg))], [], st S hs, 0, 0)) ∧ (¬ ((S.1 33) (((S.1 49) a1.toNatClampNeg) / 3).toNatClampNeg) ≤ ((S.1 50) a1.toNatClampNeg) → X (105, [some (.ref 48), some (.int a1), some (.ref 33), some (.int (((S.1 49) a1.toNatClampNeg) / 3)), some (.int ((S.1 33) (((S.1 49) a1.toNatClampNeg) / 3).toNatClampNeg))], [], st S hs, 0, 0))
        refine ⟨fun hc => hX _ ?_, fun hc => hX _ ?_⟩
        · clear hP hX hk P' X cal
          rw [if_pos hc] at hr
          have hr := Option.some.inj hr
          subst hr
          refine Wp.stepsG 2 (fun cal X P' hk hX hP => ?_)
          exact ⟨Or.inl rfl, hP _ _ h⟩
        · clear hP hX hk P' X cal
          rw [if_neg hc] at hr
          have hr := Option.some.inj hr
          subst hr
          refine Wp.stepsG 3 (fun cal X P' hk hX hP => ?_)
          exact ⟨Or.inr rfl, hP _ _ h⟩
set_option maxRecDepth 20000 in
set_option maxHeartbeats 4000000 in
theorem e_lp_X5_moodBy_33_7_48 (d : Nat) (hs : List Hr) (P : Option Value → Hp → Prop) (S : St) : ∀ (n : Nat) (v2 : Int32) (v3 : Int32) (v4 : Int32) (q : Int32), lp_X5_moodBy_33_7 S 48 n v2 v3 v4 = some q → (WM mi_X5_moodBy (d + 1) P 136 [some (.ref 48), some (.ref 33), some (.int q), none, none, none] [] (st S hs)) → WM mi_X5_moodBy (d + 1) P 7 [some (.ref 48), some (.ref 33), some (.int v2), some (.int v3), some (.int v4), none] [] (st S hs) := by
  intro n
  induction n with
  | zero =>
    intro v2 v3 v4 q hl
    cases hl
  | succ n ih =>
    intro v2 v3 v4 q hl ct
    rw [lp_X5_moodBy_33_7] at hl
    refine Wp.stepsG 4 (fun cal X P' hk hX hP => ?_)
    show ((S.1 48 2) ≤ v4 → X (136, [some (.ref 48), some (.ref 33), some (.int v2), some (.int v3), some (.int v4), none], [], st S hs, 0, 0)) ∧ (¬ (S.1 48 2) ≤ v4 → X (16, [some (.ref 48), some (.ref 33), some (.int v2), some (.int v3), some (.int v4), none], [], st S hs, 0, 0))
    refine ⟨fun hc => hX _ ?_, fun hc => hX _ ?_⟩
    · clear hP hX hk P' X cal
      rw [if_pos hc] at hl
      have hl := Option.some.inj hl
      subst hl
      exact Wp.weak (leL.k (leL.k (leL.k (leL.n (leL.n (leL.k leL.z)))))) (ct)
    · clear hP hX hk P' X cal
      rw [if_neg hc] at hl
      refine Wp.stepsG 8 (fun cal X P' hk hX hP => ?_)
      show vp_in v4 100 ∧ X (28, [some (.ref 48), some (.ref 33), some (.int v2), some (.int v3), some (.int v4), some (.int (v3 &&& 1))], [.int ((S.1 49) v4.toNatClampNeg)], st S hs, 0, 0)
      obtain ⟨hg, hl⟩ := gd_some hl
      refine ⟨hg, hX _ ?_⟩
      clear hP hX hk P' X cal
      refine Wp.stepsG 1 (fun cal X P' hk hX hP => ?_)
      show (((S.1 49) v4.toNatClampNeg) = 18 → X (60, [some (.ref 48), some (.ref 33), some (.int v2), some (.int v3), some (.int v4), some (.int (v3 &&& 1))], [], st S hs, 0, 0)) ∧ (¬ ((S.1 49) v4.toNatClampNeg) = 18 → (((S.1 49) v4.toNatClampNeg) = 19 → X (67, [some (.ref 48), some (.ref 33), some (.int v2), some (.int v3), some (.int v4), some (.int (v3 &&& 1))], [], st S hs, 0, 0)) ∧ (¬ ((S.1 49) v4.toNatClampNeg) = 19 → (((S.1 49) v4.toNatClampNeg) = 20 → X (80, [some (.ref 48), some (.ref 33), some (.int v2), some (.int v3), some (.int v4), some (.int (v3 &&& 1))], [], st S hs, 0, 0)) ∧ (¬ ((S.1 49) v4.toNatClampNeg) = 20 → (((S.1 49) v4.toNatClampNeg) = 21 → X (90, [some (.ref 48), some (.ref 33), some (.int v2), some (.int v3), some (.int v4), some (.int (v3 &&& 1))], [], st S hs, 0, 0)) ∧ (¬ ((S.1 49) v4.toNatClampNeg) = 21 → X (110, [some (.ref 48), some (.ref 33), some (.int v2), some (.int v3), some (.int v4), some (.int (v3 &&& 1))], [], st S hs, 0, 0)))))
      refine ⟨fun hc => hX _ ?_, fun hc => ?_⟩
      · clear hP hX hk P' X cal
        rw [if_pos hc] at hl
        refine Wp.stepsG 7 (fun cal X P' hk hX hP => ?_)
        show X (7, [some (.ref 48), some (.ref 33), some (.int v2), some (.int (v3 ^^^ 1)), some (.int (v4 + 1)), some (.int (v3 &&& 1))], [], st S hs, 0, 0)
        refine hX _ ?_
        exact Wp.weak (leL.k (leL.k (leL.k (leL.k (leL.k (leL.n leL.z)))))) (ih v2 (v3 ^^^ 1) (v4 + 1) q hl ct)
      · rw [if_neg hc] at hl
        refine ⟨fun hc => hX _ ?_, fun hc => ?_⟩
        · clear hP hX hk P' X cal
          rw [if_pos hc] at hl
          refine Wp.stepsG 11 (fun cal X P' hk hX hP => ?_)
          show X (7, [some (.ref 48), some (.ref 33), some (.int v2), some (.int ((v3 >>> (1 &&& 31)) &&& ((v3 &&& 1) ||| (-2)))), some (.int (v4 + 1)), some (.int (v3 &&& 1))], [], st S hs, 0, 0)
          refine hX _ ?_
          exact Wp.weak (leL.k (leL.k (leL.k (leL.k (leL.k (leL.n leL.z)))))) (ih v2 ((v3 >>> (1 &&& 31)) &&& ((v3 &&& 1) ||| (-2))) (v4 + 1) q hl ct)
        · rw [if_neg hc] at hl
          refine ⟨fun hc => hX _ ?_, fun hc => ?_⟩
          · clear hP hX hk P' X cal
            rw [if_pos hc] at hl
            refine Wp.stepsG 9 (fun cal X P' hk hX hP => ?_)
            show X (7, [some (.ref 48), some (.ref 33), some (.int v2), some (.int ((v3 >>> (1 &&& 31)) ||| (v3 &&& 1))), some (.int (v4 + 1)), some (.int (v3 &&& 1))], [], st S hs, 0, 0)
            refine hX _ ?_
            exact Wp.weak (leL.k (leL.k (leL.k (leL.k (leL.k (leL.n leL.z)))))) (ih v2 ((v3 >>> (1 &&& 31)) ||| (v3 &&& 1)) (v4 + 1) q hl ct)
          · rw [if_neg hc] at hl
            refine ⟨fun hc => hX _ ?_, fun hc => hX _ ?_⟩
            · clear hP hX hk P' X cal
              rw [if_pos hc] at hl
              refine Wp.stepsG 10 (fun cal X P' hk hX hP => ?_)
              show vp_in v4 100 ∧ X (104, [some (.ref 48), some (.ref 33), some (.int v2), some (.int (v3 >>> (1 &&& 31))), some (.int v4), some (.int (v3 &&& 1))], [.int ((S.1 50) v4.toNatClampNeg), .int (v3 &&& 1), .int v2], st S hs, 0, 0)
              obtain ⟨hg, hl⟩ := gd_some hl
              refine ⟨hg, hX _ ?_⟩
              clear hP hX hk P' X cal
              refine Wp.stepsG 6 (fun cal X P' hk hX hP => ?_)
              show X (7, [some (.ref 48), some (.ref 33), some (.int (v2 + ((v3 &&& 1) * ((S.1 50) v4.toNatClampNeg)))), some (.int (v3 >>> (1 &&& 31))), some (.int (v4 + 1)), some (.int (v3 &&& 1))], [], st S hs, 0, 0)
              refine hX _ ?_
              exact Wp.weak (leL.k (leL.k (leL.k (leL.k (leL.k (leL.n leL.z)))))) (ih (v2 + ((v3 &&& 1) * ((S.1 50) v4.toNatClampNeg))) (v3 >>> (1 &&& 31)) (v4 + 1) q hl ct)
            · rw [if_neg hc] at hl
              clear hP hX hk P' X cal
              refine Wp.stepsG 7 (fun cal X P' hk hX hP => ?_)
              show kcall cal ix_X5_holds [.ref 48, .int v4, .ref 33] (st S hs) [.int (v3 <<< (1 &&& 31))] 0 0 (0, 0) (fun v σ' c' m' => X (120, [some (.ref 48), some (.ref 33), some (.int v2), some (.int v3), some (.int v4), some (.int (v3 &&& 1))], v.toList ++ [.int (v3 <<< (1 &&& 31))], σ', c', m'))
              obtain ⟨q1, hq1, hl⟩ := bd_some hl
              refine kcall0 rfl (hk _ _ _ _ _ _ (e_X5_holds_33_48 (d + 0) S hs v4 q1 hq1 _ ?_))
              show X (120, [some (.ref 48), some (.ref 33), some (.int v2), some (.int v3), some (.int v4), some (.int (v3 &&& 1))], [.int q1, .int (v3 <<< (1 &&& 31))], st S hs, 0, 0)
              refine hX _ ?_
              clear hP hX hk P' X cal
              refine Wp.stepsG 1 (fun cal X P' hk hX hP => ?_)
              show (q1 = 0 → X (127, [some (.ref 48), some (.ref 33), some (.int v2), some (.int v3), some (.int v4), some (.int (v3 &&& 1))], [.int (v3 <<< (1 &&& 31))], st S hs, 0, 0)) ∧ (¬ q1 = 0 → X (123, [some (.ref 48), some (.ref 33), some (.int v2), some (.int v3), some (.int v4), some (.int (v3 &&& 1))], [.int (v3 <<< (1 &&& 31))], st S hs, 0, 0))
              refine ⟨fun hc => hX _ ?_, fun hc => hX _ ?_⟩
              · clear hP hX hk P' X cal
                rw [if_pos hc] at hl
                refine Wp.stepsG 5 (fun cal X P' hk hX hP => ?_)
                show X (7, [some (.ref 48), some (.ref 33), some (.int v2), some (.int ((v3 <<< (1 &&& 31)) ||| 0)), some (.int (v4 + 1)), some (.int (v3 &&& 1))], [], st S hs, 0, 0)
                refine hX _ ?_
                exact Wp.weak (leL.k (leL.k (leL.k (leL.k (leL.k (leL.n leL.z)))))) (ih v2 ((v3 <<< (1 &&& 31)) ||| 0) (v4 + 1) q hl ct)
              · clear hP hX hk P' X cal
                rw [if_neg hc] at hl
                refine Wp.stepsG 6 (fun cal X P' hk hX hP => ?_)
                show X (7, [some (.ref 48), some (.ref 33), some (.int v2), some (.int ((v3 <<< (1 &&& 31)) ||| 1)), some (.int (v4 + 1)), some (.int (v3 &&& 1))], [], st S hs, 0, 0)
                refine hX _ ?_
                exact Wp.weak (leL.k (leL.k (leL.k (leL.k (leL.k (leL.n leL.z)))))) (ih v2 ((v3 <<< (1 &&& 31)) ||| 1) (v4 + 1) q hl ct)
set_option maxRecDepth 20000 in
set_option maxHeartbeats 4000000 in
theorem e_X5_moodBy_33_48 (d : Nat) (S : St) (hs : List Hr) (v : Int32) (hr : r_X5_moodBy_33 S 48 = some v) (P : Option Value → Hp → Prop) (h : P (some (.int v)) (st S hs)) : Ev (d + 2) ix_X5_moodBy 0 0 [.ref 48, .ref 33] (st S hs) P := by
  refine Ev.intro (M := mi_X5_moodBy) rfl (Nat.le_of_ble_eq_true rfl) ?_
  unfold r_X5_moodBy_33 at hr
  refine Wp.stepsG 6 (fun cal X P' hk hX hP => ?_)
  show X (7, [some (.ref 48), some (.ref 33), some (.int 0), some (.int 0), some (.int 0), none], [], st S hs, 0, 0)
  refine hX _ ?_
  clear hP hX hk P' X cal
  obtain ⟨q2, hq2, hr⟩ := bd_some hr
  refine (e_lp_X5_moodBy_33_7_48 d hs P S _ 0 0 0 q2 hq2 ?_)
  have hr := Option.some.inj hr
  subst hr
  refine Wp.stepsG 2 (fun cal X P' hk hX hP => ?_)
  exact hP _ _ h
set_option maxRecDepth 20000 in
set_option maxHeartbeats 4000000 in
theorem e_X5_holds_33_52 (d : Nat) (S : St) (hs : List Hr) (a1 : Int32) (v : Int32) (hr : r_X5_holds_33 S 52 a1 = some v) (P : Option Value → Hp → Prop) (h : P (some (.int v)) (st S hs)) : Ev (d + 1) ix_X5_holds 0 0 [.ref 52, .int a1, .ref 33] (st S hs) P := by
  refine Ev.intro (M := mi_X5_holds) rfl (Nat.le_of_ble_eq_true rfl) ?_
  unfold r_X5_holds_33 at hr
  refine Wp.stepsG 4 (fun cal X P' hk hX hP => ?_)
  show vp_in a1 100 ∧ X (6, [some (.ref 52), some (.int a1), some (.ref 33), none, none], [.int ((S.1 53) a1.toNatClampNeg)], st S hs, 0, 0)
  obtain ⟨hg, hr⟩ := gd_some hr
  refine ⟨hg, hX _ ?_⟩
  clear hP hX hk P' X cal
  refine Wp.stepsG 2 (fun cal X P' hk hX hP => ?_)
  show ¬ (3 : Int32) = 0 ∧ X (8, [some (.ref 52), some (.int a1), some (.ref 33), none, none], [.int (((S.1 53) a1.toNatClampNeg) / 3)], st S hs, 0, 0)
  refine ⟨(show ¬ (3 : Int32) = 0 from by decide), hX _ ?_⟩
  clear hP hX hk P' X cal
  refine Wp.stepsG 5 (fun cal X P' hk hX hP => ?_)
  show (6 ≤ (((S.1 53) a1.toNatClampNeg) / 3) → X (21, [some (.ref 52), some (.int a1), some (.ref 33), some (.int (((S.1 53) a1.toNatClampNeg) / 3)), none], [], st S hs, 0, 0)) ∧ (¬ 6 ≤ (((S.1 53) a1.toNatClampNeg) / 3) → X (15, [some (.ref 52), some (.int a1), some (.ref 33), some (.int (((S.1 53) a1.toNatClampNeg) / 3)), none], [], st S hs, 0, 0))
  refine ⟨fun hc => hX _ ?_, fun hc => hX _ ?_⟩
  · clear hP hX hk P' X cal
    rw [if_pos hc] at hr
    refine Wp.stepsG 6 (fun cal X P' hk hX hP => ?_)
    show vp_in a1 100 ∧ X (30, [some (.ref 52), some (.int a1), some (.ref 33), some (.int (((S.1 53) a1.toNatClampNeg) / 3)), some (.int 0)], [.int ((S.1 53) a1.toNatClampNeg)], st S hs, 0, 0)
    obtain ⟨hg, hr⟩ := gd_some hr
    refine ⟨hg, hX _ ?_⟩
    clear hP hX hk P' X cal
    refine Wp.stepsG 2 (fun cal X P' hk hX hP => ?_)
    show ¬ (3 : Int32) = 0 ∧ X (32, [some (.ref 52), some (.int a1), some (.ref 33), some (.int (((S.1 53) a1.toNatClampNeg) / 3)), some (.int 0)], [.int (((S.1 53) a1.toNatClampNeg) - ((S.1 53) a1.toNatClampNeg) / 3 * 3)], st S hs, 0, 0)
    refine ⟨(show ¬ (3 : Int32) = 0 from by decide), hX _ ?_⟩
    clear hP hX hk P' X cal
    refine Wp.stepsG 1 (fun cal X P' hk hX hP => ?_)
    show ((((S.1 53) a1.toNatClampNeg) - ((S.1 53) a1.toNatClampNeg) / 3 * 3) = 0 → X (60, [some (.ref 52), some (.int a1), some (.ref 33), some (.int (((S.1 53) a1.toNatClampNeg) / 3)), some (.int 0)], [], st S hs, 0, 0)) ∧ (¬ (((S.1 53) a1.toNatClampNeg) - ((S.1 53) a1.toNatClampNeg) / 3 * 3) = 0 → ((((S.1 53) a1.toNatClampNeg) - ((S.1 53) a1.toNatClampNeg) / 3 * 3) = 1 → X (77, [some (.ref 52), some (.int a1), some (.ref 33), some (.int (((S.1 53) a1.toNatClampNeg) / 3)), some (.int 0)], [], st S hs, 0, 0)) ∧ (¬ (((S.1 53) a1.toNatClampNeg) - ((S.1 53) a1.toNatClampNeg) / 3 * 3) = 1 → X (94, [some (.ref 52), some (.int a1), some (.ref 33), some (.int (((S.1 53) a1.toNatClampNeg) / 3)), some (.int 0)], [], st S hs, 0, 0)))
    refine ⟨fun hc => hX _ ?_, fun hc => ?_⟩
    · clear hP hX hk P' X cal
      rw [if_pos hc] at hr
      refine Wp.stepsG 5 (fun cal X P' hk hX hP => ?_)
      show vp_in a1 100 ∧ X (68, [some (.ref 52), some (.int a1), some (.ref 33), some (.int (((S.1 53) a1.toNatClampNeg) / 3)), some (.int 0)], [.int ((S.1 54) a1.toNatClampNeg), .int 0], st S hs, 0, 0)
      obtain ⟨hg, hr⟩ := gd_some hr
      refine ⟨hg, hX _ ?_⟩
      clear hP hX hk P' X cal
      refine Wp.stepsG 1 (fun cal X P' hk hX hP => ?_)
      show (((S.1 54) a1.toNatClampNeg) ≤ (0 : Int32) → X (75, [some (.ref 52), some (.int a1), some (.ref 33), some (.int (((S.1 53) a1.toNatClampNeg) / 3)), some (.int 0)], [], st S hs, 0, 0)) ∧ (¬ ((S.1 54) a1.toNatClampNeg) ≤ (0 : Int32) → X (71, [some (.ref 52), some (.int a1), some (.ref 33), some (.int (((S.1 53) a1.toNatClampNeg) / 3)), some (.int 0)], [], st S hs, 0, 0))
      refine ⟨fun hc => hX _ ?_, fun hc => hX _ ?_⟩
      · clear hP hX hk P' X cal
        rw [if_pos hc] at hr
        have hr := Option.some.inj hr
        subst hr
        refine Wp.stepsG 2 (fun cal X P' hk hX hP => ?_)
        exact ⟨Or.inl rfl, hP _ _ h⟩
      · clear hP hX hk P' X cal
        rw [if_neg hc] at hr
        have hr := Option.some.inj hr
        subst hr
        refine Wp.stepsG 3 (fun cal X P' hk hX hP => ?_)
        exact ⟨Or.inr rfl, hP _ _ h⟩
    · rw [if_neg hc] at hr
      refine ⟨fun hc => hX _ ?_, fun hc => hX _ ?_⟩
      · clear hP hX hk P' X cal
        rw [if_pos hc] at hr
        refine Wp.stepsG 5 (fun cal X P' hk hX hP => ?_)
        show vp_in a1 100 ∧ X (85, [some (.ref 52), some (.int a1), some (.ref 33), some (.int (((S.1 53) a1.toNatClampNeg) / 3)), some (.int 0)], [.int ((S.1 54) a1.toNatClampNeg), .int 0], st S hs, 0, 0)
        obtain ⟨hg, hr⟩ := gd_some hr
        refine ⟨hg, hX _ ?_⟩
        clear hP hX hk P' X cal
        refine Wp.stepsG 1 (fun cal X P' hk hX hP => ?_)
        show (¬ (0 : Int32) = ((S.1 54) a1.toNatClampNeg) → X (92, [some (.ref 52), some (.int a1), some (.ref 33), some (.int (((S.1 53) a1.toNatClampNeg) / 3)), some (.int 0)], [], st S hs, 0, 0)) ∧ ((0 : Int32) = ((S.1 54) a1.toNatClampNeg) → X (88, [some (.ref 52), some (.int a1), some (.ref 33), some (.int (((S.1 53) a1.toNatClampNeg) / 3)), some (.int 0)], [], st S hs, 0, 0))
        refine ⟨fun hc => hX _ ?_, fun hc => hX _ ?_⟩
        · clear hP hX hk P' X cal
          rw [if_neg hc] at hr
          have hr := Option.some.inj hr
          subst hr
          refine Wp.stepsG 2 (fun cal X P' hk hX hP => ?_)
          exact ⟨Or.inl rfl, hP _ _ h⟩
        · clear hP hX hk P' X cal
          rw [if_pos hc] at hr
          have hr := Option.some.inj hr
          subst hr
          refine Wp.stepsG 3 (fun cal X P' hk hX hP => ?_)
          exact ⟨Or.inr rfl, hP _ _ h⟩
      · rw [if_neg hc] at hr
        clear hP hX hk P' X cal
        refine Wp.stepsG 5 (fun cal X P' hk hX hP => ?_)
        show vp_in a1 100 ∧ X (102, [some (.ref 52), some (.int a1), some (.ref 33), some (.int (((S.1 53) a1.toNatClampNeg) / 3)), some (.int 0)], [.int ((S.1 54) a1.toNatClampNeg), .int 0], st S hs, 0, 0)
        obtain ⟨hg, hr⟩ := gd_some hr
        refine ⟨hg, hX _ ?_⟩
        clear hP hX hk P' X cal
        refine Wp.stepsG 1 (fun cal X P' hk hX hP => ?_)
        show ((0 : Int32) ≤ ((S.1 54) a1.toNatClampNeg) → X (109, [some (.ref 52), some (.int a1), some (.ref 33), some (.int (((S.1 53) a1.toNatClampNeg) / 3)), some (.int 0)], [], st S hs, 0, 0)) ∧ (¬ (0 : Int32) ≤ ((S.1 54) a1.toNatClampNeg) → X (105, [some (.ref 52), some (.int a1), some (.ref 33), some (.int (((S.1 53) a1.toNatClampNeg) / 3)), some (.int 0)], [], st S hs, 0, 0))
        refine ⟨fun hc => hX _ ?_, fun hc => hX _ ?_⟩
        · clear hP hX hk P' X cal
          rw [if_pos hc] at hr
          have hr := Option.some.inj hr
          subst hr
          refine Wp.stepsG 2 (fun cal X P' hk hX hP => ?_)
          exact ⟨Or.inl rfl, hP _ _ h⟩
        · clear hP hX hk P' X cal
          rw [if_neg hc] at hr
          have hr := Option.some.inj hr
          subst hr
          refine Wp.stepsG 3 (fun cal X P' hk hX hP => ?_)
          exact ⟨Or.inr rfl, hP _ _ h⟩
  · clear hP hX hk P' X cal
    rw [if_neg hc] at hr
    refine Wp.stepsG 3 (fun cal X P' hk hX hP => ?_)
    show vp_in (((S.1 53) a1.toNatClampNeg) / 3) 6 ∧ X (18, [some (.ref 52), some (.int a1), some (.ref 33), some (.int (((S.1 53) a1.toNatClampNeg) / 3)), none], [.int ((S.1 33) (((S.1 53) a1.toNatClampNeg) / 3).toNatClampNeg)], st S hs, 0, 0)
    obtain ⟨hg, hr⟩ := gd_some hr
    refine ⟨hg, hX _ ?_⟩
    clear hP hX hk P' X cal
    refine Wp.stepsG 6 (fun cal X P' hk hX hP => ?_)
    show vp_in a1 100 ∧ X (30, [some (.ref 52), some (.int a1), some (.ref 33), some (.int (((S.1 53) a1.toNatClampNeg) / 3)), some (.int ((S.1 33) (((S.1 53) a1.toNatClampNeg) / 3).toNatClampNeg))], [.int ((S.1 53) a1.toNatClampNeg)], st S hs, 0, 0)
    obtain ⟨hg, hr⟩ := gd_some hr
    refine ⟨hg, hX _ ?_⟩
    clear hP hX hk P' X cal
    refine Wp.stepsG 2 (fun cal X P' hk hX hP => ?_)
    show ¬ (3 : Int32) = 0 ∧ X (32, [some (.ref 52), some (.int a1), some (.ref 33), some (.int (((S.1 53) a1.toNatClampNeg) / 3)), some (.int ((S.1 33) (((S.1 53) a1.toNatClampNeg) / 3).toNatClampNeg))], [.int (((S.1 53) a1.toNatClampNeg) - ((S.1 53) a1.toNatClampNeg) / 3 * 3)], st S hs, 0, 0)
    refine ⟨(show ¬ (3 : Int32) = 0 from by decide), hX _ ?_⟩
    clear hP hX hk P' X cal
    refine Wp.stepsG 1 (fun cal X P' hk hX hP => ?_)
    show ((((S.1 53) a1.toNatClampNeg) - ((S.1 53) a1.toNatClampNeg) / 3 * 3) = 0 → X (60, [some (.ref 52), some (.int a1), some (.ref 33), some (.int (((S.1 53) a1.toNatClampNeg) / 3)), some (.int ((S.1 33) (((S.1 53) a1.toNatClampNeg) / 3).toNatClampNeg))], [], st S hs, 0, 0)) ∧ (¬ (((S.1 53) a1.toNatClampNeg) - ((S.1 53) a1.toNatClampNeg) / 3 * 3) = 0 → ((((S.1 53) a1.toNatClampNeg) - ((S.1 53) a1.toNatClampNeg) / 3 * 3) = 1 → X (77, [some (.ref 52), some (.int a1), some (.ref 33), some (.int (((S.1 53) a1.toNatClampNeg) / 3)), some (.int ((S.1 33) (((S.1 53) a1.toNatClampNeg) / 3).toNatClampNeg))], [], st S hs, 0, 0)) ∧ (¬ (((S.1 53) a1.toNatClampNeg) - ((S.1 53) a1.toNatClampNeg) / 3 * 3) = 1 → X (94, [some (.ref 52), some (.int a1), some (.ref 33), some (.int (((S.1 53) a1.toNatClampNeg) / 3)), some (.int ((S.1 33) (((S.1 53) a1.toNatClampNeg) / 3).toNatClampNeg))], [], st S hs, 0, 0)))
    refine ⟨fun hc => hX _ ?_, fun hc => ?_⟩
    · clear hP hX hk P' X cal
      rw [if_pos hc] at hr
      refine Wp.stepsG 5 (fun cal X P' hk hX hP => ?_)
      show vp_in a1 100 ∧ X (68, [some (.ref 52), some (.int a1), some (.ref 33), some (.int (((S.1 53) a1.toNatClampNeg) / 3)), some (.int ((S.1 33) (((S.1 53) a1.toNatClampNeg) / 3).toNatClampNeg))], [.int ((S.1 54) a1.toNatClampNeg), .int ((S.1 33) (((S.1 53) a1.toNatClampNeg) / 3).toNatClampNeg)], st S hs, 0, 0)
      obtain ⟨hg, hr⟩ := gd_some hr
      refine ⟨hg, hX _ ?_⟩
      clear hP hX hk P' X cal
      refine Wp.stepsG 1 (fun cal X P' hk hX hP => ?_)
      show (((S.1 54) a1.toNatClampNeg) ≤ ((S.1 33) (((S.1 53) a1.toNatClampNeg) / 3).toNatClampNeg) → X (75, [some (.ref 52), some (.int a1), some (.ref 33), some (.int (((S.1 53) a1.toNatClampNeg) / 3)), some (.int ((S.1 33) (((S.1 53) a1.toNatClampNeg) / 3).toNatClampNeg))], [], st S hs, 0, 0)) ∧ (¬ ((S.1 54) a1.toNatClampNeg) ≤ ((S.1 33) (((S.1 53) a1.toNatClampNeg) / 3).toNatClampNeg) → X (71, [some (.ref 52), some (.int a1), some (.ref 33), some (.int (((S.1 53) a1.toNatClampNeg) / 3)), some (.int ((S.1 33) (((S.1 53) a1.toNatClampNeg) / 3).toNatClampNeg))], [], st S hs, 0, 0))
      refine ⟨fun hc => hX _ ?_, fun hc => hX _ ?_⟩
      · clear hP hX hk P' X cal
        rw [if_pos hc] at hr
        have hr := Option.some.inj hr
        subst hr
        refine Wp.stepsG 2 (fun cal X P' hk hX hP => ?_)
        exact ⟨Or.inl rfl, hP _ _ h⟩
      · clear hP hX hk P' X cal
        rw [if_neg hc] at hr
        have hr := Option.some.inj hr
        subst hr
        refine Wp.stepsG 3 (fun cal X P' hk hX hP => ?_)
        exact ⟨Or.inr rfl, hP _ _ h⟩
    · rw [if_neg hc] at hr
      refine ⟨fun hc => hX _ ?_, fun hc => hX _ ?_⟩
      · clear hP hX hk P' X cal
        rw [if_pos hc] at hr
        refine Wp.stepsG 5 (fun cal X P' hk hX hP => ?_)
        show vp_in a1 100 ∧ X (85, [some (.ref 52), some (.int a1), some (.ref 33), some (.int (((S.1 53) a1.toNatClampNeg) / 3)), some (.int ((S.1 33) (((S.1 53) a1.toNatClampNeg) / 3).toNatClampNeg))], [.int ((S.1 54) a1.toNatClampNeg), .int ((S.1 33) (((S.1 53) a1.toNatClampNeg) / 3).toNatClampNeg)], st S hs, 0, 0)
        obtain ⟨hg, hr⟩ := gd_some hr
        refine ⟨hg, hX _ ?_⟩
        clear hP hX hk P' X cal
        refine Wp.stepsG 1 (fun cal X P' hk hX hP => ?_)
        show (¬ ((S.1 33) (((S.1 53) a1.toNatClampNeg) / 3).toNatClampNeg) = ((S.1 54) a1.toNatClampNeg) → X (92, [some (.ref 52), some (.int a1), some (.ref 33), some (.int (((S.1 53) a1.toNatClampNeg) / 3)), some (.int ((S.1 33) (((S.1 53) a1.toNatClampNeg) / 3).toNatClampNeg))], [], st S hs, 0, 0)) ∧ (((S.1 33) (((S.1 53) a1.toNatClampNeg) / 3).toNatClampNeg) = ((S.1 54) a1.toNatClampNeg) → X (88, [some (.ref 52), some (.int a1), some (.ref 33), some (.int (((S.1 53) a1.toNatClampNeg) / 3)), some (.int ((S.1 33) (((S.1 53) a1.toNatClampNeg) / 3).toNatClampNeg))], [], st S hs, 0, 0))
        refine ⟨fun hc => hX _ ?_, fun hc => hX _ ?_⟩
        · clear hP hX hk P' X cal
          rw [if_neg hc] at hr
          have hr := Option.some.inj hr
          subst hr
          refine Wp.stepsG 2 (fun cal X P' hk hX hP => ?_)
          exact ⟨Or.inl rfl, hP _ _ h⟩
        · clear hP hX hk P' X cal
          rw [if_pos hc] at hr
          have hr := Option.some.inj hr
          subst hr
          refine Wp.stepsG 3 (fun cal X P' hk hX hP => ?_)
          exact ⟨Or.inr rfl, hP _ _ h⟩
      · rw [if_neg hc] at hr
        clear hP hX hk P' X cal
        refine Wp.stepsG 5 (fun cal X P' hk hX hP => ?_)
        show vp_in a1 100 ∧ X (102, [some (.ref 52), some (.int a1), some (.ref 33), some (.int (((S.1 53) a1.toNatClampNeg) / 3)), some (.int ((S.1 33) (((S.1 53) a1.toNatClampNeg) / 3).toNatClampNeg))], [.int ((S.1 54) a1.toNatClampNeg), .int ((S.1 33) (((S.1 53) a1.toNatClampNeg) / 3).toNatClampNeg)], st S hs, 0, 0)
        obtain ⟨hg, hr⟩ := gd_some hr
        refine ⟨hg, hX _ ?_⟩
        clear hP hX hk P' X cal
        refine Wp.stepsG 1 (fun cal X P' hk hX hP => ?_)
        show (((S.1 33) (((S.1 53) a1.toNatClampNeg) / 3).toNatClampNeg) ≤ ((S.1 54) a1.toNatClampNeg) → X (109, [some (.ref 52), some (.int a1), some (.ref 33), some (.int (((S.1 53) a1.toNatClampNeg) / 3)), some (.int ((S.1 33) (((S.1 53) a1.toNatClampNeg) / 3).toNatClampNeg))], [], st S hs, 0, 0)) ∧ (¬ ((S.1 33) (((S.1 53) a1.toNatClampNeg) / 3).toNatClampNeg) ≤ ((S.1 54) a1.toNatClampNeg) → X (105, [some (.ref 52), some (.int a1), some (.ref 33), some (.int (((S.1 53) a1.toNatClampNeg) / 3)), some (.int ((S.1 33) (((S.1 53) a1.toNatClampNeg) / 3).toNatClampNeg))], [], st S hs, 0, 0))
        refine ⟨fun hc => hX _ ?_, fun hc => hX _ ?_⟩
        · clear hP hX hk P' X cal
          rw [if_pos hc] at hr
          have hr := Option.some.inj hr
          subst hr
          refine Wp.stepsG 2 (fun cal X P' hk hX hP => ?_)
          exact ⟨Or.inl rfl, hP _ _ h⟩
        · clear hP hX hk P' X cal
          rw [if_neg hc] at hr
          have hr := Option.some.inj hr
          subst hr
          refine Wp.stepsG 3 (fun cal X P' hk hX hP => ?_)
          exact ⟨Or.inr rfl, hP _ _ h⟩
set_option maxRecDepth 20000 in
set_option maxHeartbeats 4000000 in
theorem e_lp_X5_moodBy_33_7_52 (d : Nat) (hs : List Hr) (P : Option Value → Hp → Prop) (S : St) : ∀ (n : Nat) (v2 : Int32) (v3 : Int32) (v4 : Int32) (q : Int32), lp_X5_moodBy_33_7 S 52 n v2 v3 v4 = some q → (WM mi_X5_moodBy (d + 1) P 136 [some (.ref 52), some (.ref 33), some (.int q), none, none, none] [] (st S hs)) → WM mi_X5_moodBy (d + 1) P 7 [some (.ref 52), some (.ref 33), some (.int v2), some (.int v3), some (.int v4), none] [] (st S hs) := by
  intro n
  induction n with
  | zero =>
    intro v2 v3 v4 q hl
    cases hl
  | succ n ih =>
    intro v2 v3 v4 q hl ct
    rw [lp_X5_moodBy_33_7] at hl
    refine Wp.stepsG 4 (fun cal X P' hk hX hP => ?_)
    show ((S.1 52 2) ≤ v4 → X (136, [some (.ref 52), some (.ref 33), some (.int v2), some (.int v3), some (.int v4), none], [], st S hs, 0, 0)) ∧ (¬ (S.1 52 2) ≤ v4 → X (16, [some (.ref 52), some (.ref 33), some (.int v2), some (.int v3), some (.int v4), none], [], st S hs, 0, 0))
    refine ⟨fun hc => hX _ ?_, fun hc => hX _ ?_⟩
    · clear hP hX hk P' X cal
      rw [if_pos hc] at hl
      have hl := Option.some.inj hl
      subst hl
      exact Wp.weak (leL.k (leL.k (leL.k (leL.n (leL.n (leL.k leL.z)))))) (ct)
    · clear hP hX hk P' X cal
      rw [if_neg hc] at hl
      refine Wp.stepsG 8 (fun cal X P' hk hX hP => ?_)
      show vp_in v4 100 ∧ X (28, [some (.ref 52), some (.ref 33), some (.int v2), some (.int v3), some (.int v4), some (.int (v3 &&& 1))], [.int ((S.1 53) v4.toNatClampNeg)], st S hs, 0, 0)
      obtain ⟨hg, hl⟩ := gd_some hl
      refine ⟨hg, hX _ ?_⟩
      clear hP hX hk P' X cal
      refine Wp.stepsG 1 (fun cal X P' hk hX hP => ?_)
      show (((S.1 53) v4.toNatClampNeg) = 18 → X (60, [some (.ref 52), some (.ref 33), some (.int v2), some (.int v3), some (.int v4), some (.int (v3 &&& 1))], [], st S hs, 0, 0)) ∧ (¬ ((S.1 53) v4.toNatClampNeg) = 18 → (((S.1 53) v4.toNatClampNeg) = 19 → X (67, [some (.ref 52), some (.ref 33), some (.int v2), some (.int v3), some (.int v4), some (.int (v3 &&& 1))], [], st S hs, 0, 0)) ∧ (¬ ((S.1 53) v4.toNatClampNeg) = 19 → (((S.1 53) v4.toNatClampNeg) = 20 → X (80, [some (.ref 52), some (.ref 33), some (.int v2), some (.int v3), some (.int v4), some (.int (v3 &&& 1))], [], st S hs, 0, 0)) ∧ (¬ ((S.1 53) v4.toNatClampNeg) = 20 → (((S.1 53) v4.toNatClampNeg) = 21 → X (90, [some (.ref 52), some (.ref 33), some (.int v2), some (.int v3), some (.int v4), some (.int (v3 &&& 1))], [], st S hs, 0, 0)) ∧ (¬ ((S.1 53) v4.toNatClampNeg) = 21 → X (110, [some (.ref 52), some (.ref 33), some (.int v2), some (.int v3), some (.int v4), some (.int (v3 &&& 1))], [], st S hs, 0, 0)))))
      refine ⟨fun hc => hX _ ?_, fun hc => ?_⟩
      · clear hP hX hk P' X cal
        rw [if_pos hc] at hl
        refine Wp.stepsG 7 (fun cal X P' hk hX hP => ?_)
        show X (7, [some (.ref 52), some (.ref 33), some (.int v2), some (.int (v3 ^^^ 1)), some (.int (v4 + 1)), some (.int (v3 &&& 1))], [], st S hs, 0, 0)
        refine hX _ ?_
        exact Wp.weak (leL.k (leL.k (leL.k (leL.k (leL.k (leL.n leL.z)))))) (ih v2 (v3 ^^^ 1) (v4 + 1) q hl ct)
      · rw [if_neg hc] at hl
        refine ⟨fun hc => hX _ ?_, fun hc => ?_⟩
        · clear hP hX hk P' X cal
          rw [if_pos hc] at hl
          refine Wp.stepsG 11 (fun cal X P' hk hX hP => ?_)
          show X (7, [some (.ref 52), some (.ref 33), some (.int v2), some (.int ((v3 >>> (1 &&& 31)) &&& ((v3 &&& 1) ||| (-2)))), some (.int (v4 + 1)), some (.int (v3 &&& 1))], [], st S hs, 0, 0)
          refine hX _ ?_
          exact Wp.weak (leL.k (leL.k (leL.k (leL.k (leL.k (leL.n leL.z)))))) (ih v2 ((v3 >>> (1 &&& 31)) &&& ((v3 &&& 1) ||| (-2))) (v4 + 1) q hl ct)
        · rw [if_neg hc] at hl
          refine ⟨fun hc => hX _ ?_, fun hc => ?_⟩
          · clear hP hX hk P' X cal
            rw [if_pos hc] at hl
            refine Wp.stepsG 9 (fun cal X P' hk hX hP => ?_)
            show X (7, [some (.ref 52), some (.ref 33), some (.int v2), some (.int ((v3 >>> (1 &&& 31)) ||| (v3 &&& 1))), some (.int (v4 + 1)), some (.int (v3 &&& 1))], [], st S hs, 0, 0)
            refine hX _ ?_
            exact Wp.weak (leL.k (leL.k (leL.k (leL.k (leL.k (leL.n leL.z)))))) (ih v2 ((v3 >>> (1 &&& 31)) ||| (v3 &&& 1)) (v4 + 1) q hl ct)
          · rw [if_neg hc] at hl
            refine ⟨fun hc => hX _ ?_, fun hc => hX _ ?_⟩
            · clear hP hX hk P' X cal
              rw [if_pos hc] at hl
              refine Wp.stepsG 10 (fun cal X P' hk hX hP => ?_)
              show vp_in v4 100 ∧ X (104, [some (.ref 52), some (.ref 33), some (.int v2), some (.int (v3 >>> (1 &&& 31))), some (.int v4), some (.int (v3 &&& 1))], [.int ((S.1 54) v4.toNatClampNeg), .int (v3 &&& 1), .int v2], st S hs, 0, 0)
              obtain ⟨hg, hl⟩ := gd_some hl
              refine ⟨hg, hX _ ?_⟩
              clear hP hX hk P' X cal
              refine Wp.stepsG 6 (fun cal X P' hk hX hP => ?_)
              show X (7, [some (.ref 52), some (.ref 33), some (.int (v2 + ((v3 &&& 1) * ((S.1 54) v4.toNatClampNeg)))), some (.int (v3 >>> (1 &&& 31))), some (.int (v4 + 1)), some (.int (v3 &&& 1))], [], st S hs, 0, 0)
              refine hX _ ?_
              exact Wp.weak (leL.k (leL.k (leL.k (leL.k (leL.k (leL.n leL.z)))))) (ih (v2 + ((v3 &&& 1) * ((S.1 54) v4.toNatClampNeg))) (v3 >>> (1 &&& 31)) (v4 + 1) q hl ct)
            · rw [if_neg hc] at hl
              clear hP hX hk P' X cal
              refine Wp.stepsG 7 (fun cal X P' hk hX hP => ?_)
              show kcall cal ix_X5_holds [.ref 52, .int v4, .ref 33] (st S hs) [.int (v3 <<< (1 &&& 31))] 0 0 (0, 0) (fun v σ' c' m' => X (120, [some (.ref 52), some (.ref 33), some (.int v2), some (.int v3), some (.int v4), some (.int (v3 &&& 1))], v.toList ++ [.int (v3 <<< (1 &&& 31))], σ', c', m'))
              obtain ⟨q1, hq1, hl⟩ := bd_some hl
              refine kcall0 rfl (hk _ _ _ _ _ _ (e_X5_holds_33_52 (d + 0) S hs v4 q1 hq1 _ ?_))
              show X (120, [some (.ref 52), some (.ref 33), some (.int v2), some (.int v3), some (.int v4), some (.int (v3 &&& 1))], [.int q1, .int (v3 <<< (1 &&& 31))], st S hs, 0, 0)
              refine hX _ ?_
              clear hP hX hk P' X cal
              refine Wp.stepsG 1 (fun cal X P' hk hX hP => ?_)
              show (q1 = 0 → X (127, [some (.ref 52), some (.ref 33), some (.int v2), some (.int v3), some (.int v4), some (.int (v3 &&& 1))], [.int (v3 <<< (1 &&& 31))], st S hs, 0, 0)) ∧ (¬ q1 = 0 → X (123, [some (.ref 52), some (.ref 33), some (.int v2), some (.int v3), some (.int v4), some (.int (v3 &&& 1))], [.int (v3 <<< (1 &&& 31))], st S hs, 0, 0))
              refine ⟨fun hc => hX _ ?_, fun hc => hX _ ?_⟩
              · clear hP hX hk P' X cal
                rw [if_pos hc] at hl
                refine Wp.stepsG 5 (fun cal X P' hk hX hP => ?_)
                show X (7, [some (.ref 52), some (.ref 33), some (.int v2), some (.int ((v3 <<< (1 &&& 31)) ||| 0)), some (.int (v4 + 1)), some (.int (v3 &&& 1))], [], st S hs, 0, 0)
                refine hX _ ?_
                exact Wp.weak (leL.k (leL.k (leL.k (leL.k (leL.k (leL.n leL.z)))))) (ih v2 ((v3 <<< (1 &&& 31)) ||| 0) (v4 + 1) q hl ct)
              · clear hP hX hk P' X cal
                rw [if_neg hc] at hl
                refine Wp.stepsG 6 (fun cal X P' hk hX hP => ?_)
                show X (7, [some (.ref 52), some (.ref 33), some (.int v2), some (.int ((v3 <<< (1 &&& 31)) ||| 1)), some (.int (v4 + 1)), some (.int (v3 &&& 1))], [], st S hs, 0, 0)
                refine hX _ ?_
                exact Wp.weak (leL.k (leL.k (leL.k (leL.k (leL.k (leL.n leL.z)))))) (ih v2 ((v3 <<< (1 &&& 31)) ||| 1) (v4 + 1) q hl ct)
set_option maxRecDepth 20000 in
set_option maxHeartbeats 4000000 in
theorem e_X5_moodBy_33_52 (d : Nat) (S : St) (hs : List Hr) (v : Int32) (hr : r_X5_moodBy_33 S 52 = some v) (P : Option Value → Hp → Prop) (h : P (some (.int v)) (st S hs)) : Ev (d + 2) ix_X5_moodBy 0 0 [.ref 52, .ref 33] (st S hs) P := by
  refine Ev.intro (M := mi_X5_moodBy) rfl (Nat.le_of_ble_eq_true rfl) ?_
  unfold r_X5_moodBy_33 at hr
  refine Wp.stepsG 6 (fun cal X P' hk hX hP => ?_)
  show X (7, [some (.ref 52), some (.ref 33), some (.int 0), some (.int 0), some (.int 0), none], [], st S hs, 0, 0)
  refine hX _ ?_
  clear hP hX hk P' X cal
  obtain ⟨q2, hq2, hr⟩ := bd_some hr
  refine (e_lp_X5_moodBy_33_7_52 d hs P S _ 0 0 0 q2 hq2 ?_)
  have hr := Option.some.inj hr
  subst hr
  refine Wp.stepsG 2 (fun cal X P' hk hX hP => ?_)
  exact hP _ _ h
set_option maxRecDepth 20000 in
set_option maxHeartbeats 4000000 in
theorem e_X5_holds_33_56 (d : Nat) (S : St) (hs : List Hr) (a1 : Int32) (v : Int32) (hr : r_X5_holds_33 S 56 a1 = some v) (P : Option Value → Hp → Prop) (h : P (some (.int v)) (st S hs)) : Ev (d + 1) ix_X5_holds 0 0 [.ref 56, .int a1, .ref 33] (st S hs) P := by
  refine Ev.intro (M := mi_X5_holds) rfl (Nat.le_of_ble_eq_true rfl) ?_
  unfold r_X5_holds_33 at hr
  refine Wp.stepsG 4 (fun cal X P' hk hX hP => ?_)
  show vp_in a1 100 ∧ X (6, [some (.ref 56), some (.int a1), some (.ref 33), none, none], [.int ((S.1 57) a1.toNatClampNeg)], st S hs, 0, 0)
  obtain ⟨hg, hr⟩ := gd_some hr
  refine ⟨hg, hX _ ?_⟩
  clear hP hX hk P' X cal
  refine Wp.stepsG 2 (fun cal X P' hk hX hP => ?_)
  show ¬ (3 : Int32) = 0 ∧ X (8, [some (.ref 56), some (.int a1), some (.ref 33), none, none], [.int (((S.1 57) a1.toNatClampNeg) / 3)], st S hs, 0, 0)
  refine ⟨(show ¬ (3 : Int32) = 0 from by decide), hX _ ?_⟩
  clear hP hX hk P' X cal
  refine Wp.stepsG 5 (fun cal X P' hk hX hP => ?_)
  show (6 ≤ (((S.1 57) a1.toNatClampNeg) / 3) → X (21, [some (.ref 56), some (.int a1), some (.ref 33), some (.int (((S.1 57) a1.toNatClampNeg) / 3)), none], [], st S hs, 0, 0)) ∧ (¬ 6 ≤ (((S.1 57) a1.toNatClampNeg) / 3) → X (15, [some (.ref 56), some (.int a1), some (.ref 33), some (.int (((S.1 57) a1.toNatClampNeg) / 3)), none], [], st S hs, 0, 0))
  refine ⟨fun hc => hX _ ?_, fun hc => hX _ ?_⟩
  · clear hP hX hk P' X cal
    rw [if_pos hc] at hr
    refine Wp.stepsG 6 (fun cal X P' hk hX hP => ?_)
    show vp_in a1 100 ∧ X (30, [some (.ref 56), some (.int a1), some (.ref 33), some (.int (((S.1 57) a1.toNatClampNeg) / 3)), some (.int 0)], [.int ((S.1 57) a1.toNatClampNeg)], st S hs, 0, 0)
    obtain ⟨hg, hr⟩ := gd_some hr
    refine ⟨hg, hX _ ?_⟩
    clear hP hX hk P' X cal
    refine Wp.stepsG 2 (fun cal X P' hk hX hP => ?_)
    show ¬ (3 : Int32) = 0 ∧ X (32, [some (.ref 56), some (.int a1), some (.ref 33), some (.int (((S.1 57) a1.toNatClampNeg) / 3)), some (.int 0)], [.int (((S.1 57) a1.toNatClampNeg) - ((S.1 57) a1.toNatClampNeg) / 3 * 3)], st S hs, 0, 0)
    refine ⟨(show ¬ (3 : Int32) = 0 from by decide), hX _ ?_⟩
    clear hP hX hk P' X cal
    refine Wp.stepsG 1 (fun cal X P' hk hX hP => ?_)
    show ((((S.1 57) a1.toNatClampNeg) - ((S.1 57) a1.toNatClampNeg) / 3 * 3) = 0 → X (60, [some (.ref 56), some (.int a1), some (.ref 33), some (.int (((S.1 57) a1.toNatClampNeg) / 3)), some (.int 0)], [], st S hs, 0, 0)) ∧ (¬ (((S.1 57) a1.toNatClampNeg) - ((S.1 57) a1.toNatClampNeg) / 3 * 3) = 0 → ((((S.1 57) a1.toNatClampNeg) - ((S.1 57) a1.toNatClampNeg) / 3 * 3) = 1 → X (77, [some (.ref 56), some (.int a1), some (.ref 33), some (.int (((S.1 57) a1.toNatClampNeg) / 3)), some (.int 0)], [], st S hs, 0, 0)) ∧ (¬ (((S.1 57) a1.toNatClampNeg) - ((S.1 57) a1.toNatClampNeg) / 3 * 3) = 1 → X (94, [some (.ref 56), some (.int a1), some (.ref 33), some (.int (((S.1 57) a1.toNatClampNeg) / 3)), some (.int 0)], [], st S hs, 0, 0)))
    refine ⟨fun hc => hX _ ?_, fun hc => ?_⟩
    · clear hP hX hk P' X cal
      rw [if_pos hc] at hr
      refine Wp.stepsG 5 (fun cal X P' hk hX hP => ?_)
      show vp_in a1 100 ∧ X (68, [some (.ref 56), some (.int a1), some (.ref 33), some (.int (((S.1 57) a1.toNatClampNeg) / 3)), some (.int 0)], [.int ((S.1 58) a1.toNatClampNeg), .int 0], st S hs, 0, 0)
      obtain ⟨hg, hr⟩ := gd_some hr
      refine ⟨hg, hX _ ?_⟩
      clear hP hX hk P' X cal
      refine Wp.stepsG 1 (fun cal X P' hk hX hP => ?_)
      show (((S.1 58) a1.toNatClampNeg) ≤ (0 : Int32) → X (75, [some (.ref 56), some (.int a1), some (.ref 33), some (.int (((S.1 57) a1.toNatClampNeg) / 3)), some (.int 0)], [], st S hs, 0, 0)) ∧ (¬ ((S.1 58) a1.toNatClampNeg) ≤ (0 : Int32) → X (71, [some (.ref 56), some (.int a1), some (.ref 33), some (.int (((S.1 57) a1.toNatClampNeg) / 3)), some (.int 0)], [], st S hs, 0, 0))
      refine ⟨fun hc => hX _ ?_, fun hc => hX _ ?_⟩
      · clear hP hX hk P' X cal
        rw [if_pos hc] at hr
        have hr := Option.some.inj hr
        subst hr
        refine Wp.stepsG 2 (fun cal X P' hk hX hP => ?_)
        exact ⟨Or.inl rfl, hP _ _ h⟩
      · clear hP hX hk P' X cal
        rw [if_neg hc] at hr
        have hr := Option.some.inj hr
        subst hr
        refine Wp.stepsG 3 (fun cal X P' hk hX hP => ?_)
        exact ⟨Or.inr rfl, hP _ _ h⟩
    · rw [if_neg hc] at hr
      refine ⟨fun hc => hX _ ?_, fun hc => hX _ ?_⟩
      · clear hP hX hk P' X cal
        rw [if_pos hc] at hr
        refine Wp.stepsG 5 (fun cal X P' hk hX hP => ?_)
        show vp_in a1 100 ∧ X (85, [some (.ref 56), some (.int a1), some (.ref 33), some (.int (((S.1 57) a1.toNatClampNeg) / 3)), some (.int 0)], [.int ((S.1 58) a1.toNatClampNeg), .int 0], st S hs, 0, 0)
        obtain ⟨hg, hr⟩ := gd_some hr
        refine ⟨hg, hX _ ?_⟩
        clear hP hX hk P' X cal
        refine Wp.stepsG 1 (fun cal X P' hk hX hP => ?_)
        show (¬ (0 : Int32) = ((S.1 58) a1.toNatClampNeg) → X (92, [some (.ref 56), some (.int a1), some (.ref 33), some (.int (((S.1 57) a1.toNatClampNeg) / 3)), some (.int 0)], [], st S hs, 0, 0)) ∧ ((0 : Int32) = ((S.1 58) a1.toNatClampNeg) → X (88, [some (.ref 56), some (.int a1), some (.ref 33), some (.int (((S.1 57) a1.toNatClampNeg) / 3)), some (.int 0)], [], st S hs, 0, 0))
        refine ⟨fun hc => hX _ ?_, fun hc => hX _ ?_⟩
        · clear hP hX hk P' X cal
          rw [if_neg hc] at hr
          have hr := Option.some.inj hr
          subst hr
          refine Wp.stepsG 2 (fun cal X P' hk hX hP => ?_)
          exact ⟨Or.inl rfl, hP _ _ h⟩
        · clear hP hX hk P' X cal
          rw [if_pos hc] at hr
          have hr := Option.some.inj hr
          subst hr
          refine Wp.stepsG 3 (fun cal X P' hk hX hP => ?_)
          exact ⟨Or.inr rfl, hP _ _ h⟩
      · rw [if_neg hc] at hr
        clear hP hX hk P' X cal
        refine Wp.stepsG 5 (fun cal X P' hk hX hP => ?_)
        show vp_in a1 100 ∧ X (102, [some (.ref 56), some (.int a1), some (.ref 33), some (.int (((S.1 57) a1.toNatClampNeg) / 3)), some (.int 0)], [.int ((S.1 58) a1.toNatClampNeg), .int 0], st S hs, 0, 0)
        obtain ⟨hg, hr⟩ := gd_some hr
        refine ⟨hg, hX _ ?_⟩
        clear hP hX hk P' X cal
        refine Wp.stepsG 1 (fun cal X P' hk hX hP => ?_)
        show ((0 : Int32) ≤ ((S.1 58) a1.toNatClampNeg) → X (109, [some (.ref 56), some (.int a1), some (.ref 33), some (.int (((S.1 57) a1.toNatClampNeg) / 3)), some (.int 0)], [], st S hs, 0, 0)) ∧ (¬ (0 : Int32) ≤ ((S.1 58) a1.toNatClampNeg) → X (105, [some (.ref 56), some (.int a1), some (.ref 33), some (.int (((S.1 57) a1.toNatClampNeg) / 3)), some (.int 0)], [], st S hs, 0, 0))
        refine ⟨fun hc => hX _ ?_, fun hc => hX _ ?_⟩
        · clear hP hX hk P' X cal
          rw [if_pos hc] at hr
          have hr := Option.some.inj hr
          subst hr
          refine Wp.stepsG 2 (fun cal X P' hk hX hP => ?_)
          exact ⟨Or.inl rfl, hP _ _ h⟩
        · clear hP hX hk P' X cal
          rw [if_neg hc] at hr
          have hr := Option.some.inj hr
          subst hr
          refine Wp.stepsG 3 (fun cal X P' hk hX hP => ?_)
          exact ⟨Or.inr rfl, hP _ _ h⟩
  · clear hP hX hk P' X cal
    rw [if_neg hc] at hr
    refine Wp.stepsG 3 (fun cal X P' hk hX hP => ?_)
    show vp_in (((S.1 57) a1.toNatClampNeg) / 3) 6 ∧ X (18, [some (.ref 56), some (.int a1), some (.ref 33), some (.int (((S.1 57) a1.toNatClampNeg) / 3)), none], [.int ((S.1 33) (((S.1 57) a1.toNatClampNeg) / 3).toNatClampNeg)], st S hs, 0, 0)
    obtain ⟨hg, hr⟩ := gd_some hr
    refine ⟨hg, hX _ ?_⟩
    clear hP hX hk P' X cal
    refine Wp.stepsG 6 (fun cal X P' hk hX hP => ?_)
    show vp_in a1 100 ∧ X (30, [some (.ref 56), some (.int a1), some (.ref 33), some (.int (((S.1 57) a1.toNatClampNeg) / 3)), some (.int ((S.1 33) (((S.1 57) a1.toNatClampNeg) / 3).toNatClampNeg))], [.int ((S.1 57) a1.toNatClampNeg)], st S hs, 0, 0)
    obtain ⟨hg, hr⟩ := gd_some hr
    refine ⟨hg, hX _ ?_⟩
    clear hP hX hk P' X cal
    refine Wp.stepsG 2 (fun cal X P' hk hX hP => ?_)
    show ¬ (3 : Int32) = 0 ∧ X (32, [some (.ref 56), some (.int a1), some (.ref 33), some (.int (((S.1 57) a1.toNatClampNeg) / 3)), some (.int ((S.1 33) (((S.1 57) a1.toNatClampNeg) / 3).toNatClampNeg))], [.int (((S.1 57) a1.toNatClampNeg) - ((S.1 57) a1.toNatClampNeg) / 3 * 3)], st S hs, 0, 0)
    refine ⟨(show ¬ (3 : Int32) = 0 from by decide), hX _ ?_⟩
    clear hP hX hk P' X cal
    refine Wp.stepsG 1 (fun cal X P' hk hX hP => ?_)
    show ((((S.1 57) a1.toNatClampNeg) - ((S.1 57) a1.toNatClampNeg) / 3 * 3) = 0 → X (60, [some (.ref 56), some (.int a1), some (.ref 33), some (.int (((S.1 57) a1.toNatClampNeg) / 3)), some (.int ((S.1 33) (((S.1 57) a1.toNatClampNeg) / 3).toNatClampNeg))], [], st S hs, 0, 0)) ∧ (¬ (((S.1 57) a1.toNatClampNeg) - ((S.1 57) a1.toNatClampNeg) / 3 * 3) = 0 → ((((S.1 57) a1.toNatClampNeg) - ((S.1 57) a1.toNatClampNeg) / 3 * 3) = 1 → X (77, [some (.ref 56), some (.int a1), some (.ref 33), some (.int (((S.1 57) a1.toNatClampNeg) / 3)), some (.int ((S.1 33) (((S.1 57) a1.toNatClampNeg) / 3).toNatClampNeg))], [], st S hs, 0, 0)) ∧ (¬ (((S.1 57) a1.toNatClampNeg) - ((S.1 57) a1.toNatClampNeg) / 3 * 3) = 1 → X (94, [some (.ref 56), some (.int a1), some (.ref 33), some (.int (((S.1 57) a1.toNatClampNeg) / 3)), some (.int ((S.1 33) (((S.1 57) a1.toNatClampNeg) / 3).toNatClampNeg))], [], st S hs, 0, 0)))
    refine ⟨fun hc => hX _ ?_, fun hc => ?_⟩
    · clear hP hX hk P' X cal
      rw [if_pos hc] at hr
      refine Wp.stepsG 5 (fun cal X P' hk hX hP => ?_)
      show vp_in a1 100 ∧ X (68, [some (.ref 56), some (.int a1), some (.ref 33), some (.int (((S.1 57) a1.toNatClampNeg) / 3)), some (.int ((S.1 33) (((S.1 57) a1.toNatClampNeg) / 3).toNatClampNeg))], [.int ((S.1 58) a1.toNatClampNeg), .int ((S.1 33) (((S.1 57) a1.toNatClampNeg) / 3).toNatClampNeg)], st S hs, 0, 0)
      obtain ⟨hg, hr⟩ := gd_some hr
      refine ⟨hg, hX _ ?_⟩
      clear hP hX hk P' X cal
      refine Wp.stepsG 1 (fun cal X P' hk hX hP => ?_)
      show (((S.1 58) a1.toNatClampNeg) ≤ ((S.1 33) (((S.1 57) a1.toNatClampNeg) / 3).toNatClampNeg) → X (75, [some (.ref 56), some (.int a1), some (.ref 33), some (.int (((S.1 57) a1.toNatClampNeg) / 3)), some (.int ((S.1 33) (((S.1 57) a1.toNatClampNeg) / 3).toNatClampNeg))], [], st S hs, 0, 0)) ∧ (¬ ((S.1 58) a1.toNatClampNeg) ≤ ((S.1 33) (((S.1 57) a1.toNatClampNeg) / 3).toNatClampNeg) → X (71, [some (.ref 56), some (.int a1), some (.ref 33), some (.int (((S.1 57) a1.toNatClampNeg) / 3)), some (.int ((S.1 33) (((S.1 57) a1.toNatClampNeg) / 3).toNatClampNeg))], [], st S hs, 0, 0))
      refine ⟨fun hc => hX _ ?_, fun hc => hX _ ?_⟩
      · clear hP hX hk P' X cal
        rw [if_pos hc] at hr
        have hr := Option.some.inj hr
        subst hr
        refine Wp.stepsG 2 (fun cal X P' hk hX hP => ?_)
        exact ⟨Or.inl rfl, hP _ _ h⟩
      · clear hP hX hk P' X cal
        rw [if_neg hc] at hr
        have hr := Option.some.inj hr
        subst hr
        refine Wp.stepsG 3 (fun cal X P' hk hX hP => ?_)
        exact ⟨Or.inr rfl, hP _ _ h⟩
    · rw [if_neg hc] at hr
      refine ⟨fun hc => hX _ ?_, fun hc => hX _ ?_⟩
      · clear hP hX hk P' X cal
        rw [if_pos hc] at hr
        refine Wp.stepsG 5 (fun cal X P' hk hX hP => ?_)
        show vp_in a1 100 ∧ X (85, [some (.ref 56), some (.int a1), some (.ref 33), some (.int (((S.1 57) a1.toNatClampNeg) / 3)), some (.int ((S.1 33) (((S.1 57) a1.toNatClampNeg) / 3).toNatClampNeg))], [.int ((S.1 58) a1.toNatClampNeg), .int ((S.1 33) (((S.1 57) a1.toNatClampNeg) / 3).toNatClampNeg)], st S hs, 0, 0)
        obtain ⟨hg, hr⟩ := gd_some hr
        refine ⟨hg, hX _ ?_⟩
        clear hP hX hk P' X cal
        refine Wp.stepsG 1 (fun cal X P' hk hX hP => ?_)
        show (¬ ((S.1 33) (((S.1 57) a1.toNatClampNeg) / 3).toNatClampNeg) = ((S.1 58) a1.toNatClampNeg) → X (92, [some (.ref 56), some (.int a1), some (.ref 33), some (.int (((S.1 57) a1.toNatClampNeg) / 3)), some (.int ((S.1 33) (((S.1 57) a1.toNatClampNeg) / 3).toNatClampNeg))], [], st S hs, 0, 0)) ∧ (((S.1 33) (((S.1 57) a1.toNatClampNeg) / 3).toNatClampNeg) = ((S.1 58) a1.toNatClampNeg) → X (88, [some (.ref 56), some (.int a1), some (.ref 33), some (.int (((S.1 57) a1.toNatClampNeg) / 3)), some (.int ((S.1 33) (((S.1 57) a1.toNatClampNeg) / 3).toNatClampNeg))], [], st S hs, 0, 0))
        refine ⟨fun hc => hX _ ?_, fun hc => hX _ ?_⟩
        · clear hP hX hk P' X cal
          rw [if_neg hc] at hr
          have hr := Option.some.inj hr
          subst hr
          refine Wp.stepsG 2 (fun cal X P' hk hX hP => ?_)
          exact ⟨Or.inl rfl, hP _ _ h⟩
        · clear hP hX hk P' X cal
          rw [if_pos hc] at hr
          have hr := Option.some.inj hr
          subst hr
          refine Wp.stepsG 3 (fun cal X P' hk hX hP => ?_)
          exact ⟨Or.inr rfl, hP _ _ h⟩
      · rw [if_neg hc] at hr
        clear hP hX hk P' X cal
        refine Wp.stepsG 5 (fun cal X P' hk hX hP => ?_)
        show vp_in a1 100 ∧ X (102, [some (.ref 56), some (.int a1), some (.ref 33), some (.int (((S.1 57) a1.toNatClampNeg) / 3)), some (.int ((S.1 33) (((S.1 57) a1.toNatClampNeg) / 3).toNatClampNeg))], [.int ((S.1 58) a1.toNatClampNeg), .int ((S.1 33) (((S.1 57) a1.toNatClampNeg) / 3).toNatClampNeg)], st S hs, 0, 0)
        obtain ⟨hg, hr⟩ := gd_some hr
        refine ⟨hg, hX _ ?_⟩
        clear hP hX hk P' X cal
        refine Wp.stepsG 1 (fun cal X P' hk hX hP => ?_)
        show (((S.1 33) (((S.1 57) a1.toNatClampNeg) / 3).toNatClampNeg) ≤ ((S.1 58) a1.toNatClampNeg) → X (109, [some (.ref 56), some (.int a1), some (.ref 33), some (.int (((S.1 57) a1.toNatClampNeg) / 3)), some (.int ((S.1 33) (((S.1 57) a1.toNatClampNeg) / 3).toNatClampNeg))], [], st S hs, 0, 0)) ∧ (¬ ((S.1 33) (((S.1 57) a1.toNatClampNeg) / 3).toNatClampNeg) ≤ ((S.1 58) a1.toNatClampNeg) → X (105, [some (.ref 56), some (.int a1), some (.ref 33), some (.int (((S.1 57) a1.toNatClampNeg) / 3)), some (.int ((S.1 33) (((S.1 57) a1.toNatClampNeg) / 3).toNatClampNeg))], [], st S hs, 0, 0))
        refine ⟨fun hc => hX _ ?_, fun hc => hX _ ?_⟩
        · clear hP hX hk P' X cal
          rw [if_pos hc] at hr
          have hr := Option.some.inj hr
          subst hr
          refine Wp.stepsG 2 (fun cal X P' hk hX hP => ?_)
          exact ⟨Or.inl rfl, hP _ _ h⟩
        · clear hP hX hk P' X cal
          rw [if_neg hc] at hr
          have hr := Option.some.inj hr
          subst hr
          refine Wp.stepsG 3 (fun cal X P' hk hX hP => ?_)
          exact ⟨Or.inr rfl, hP _ _ h⟩
