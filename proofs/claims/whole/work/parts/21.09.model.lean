def r_X12_isTape (a1 : Int32) : Int32 :=
  r_X12_in a1 0 5
theorem b_X12_isTape (a1 : Int32) : r_X12_isTape a1 = 0 ∨ r_X12_isTape a1 = 1 := by
  unfold r_X12_isTape
  (repeat' split) <;> first | exact Or.inl rfl | exact Or.inr rfl | exact b_X12_in a1 0 5
set_option maxRecDepth 20000 in
set_option maxHeartbeats 4000000 in
theorem e_X12_isTape (d : Nat) (S : St) (hs : List Hr) (a1 : Int32) (P : Option Value → Hp → Prop) (h : P (some (.int (r_X12_isTape a1))) (st S hs)) : Ev (d + 2) ix_X12_isTape 0 0 [.ref 76, .int a1] (st S hs) P := by
  refine Ev.intro (M := mi_X12_isTape) rfl (Nat.le_of_ble_eq_true rfl) ?_
  unfold r_X12_isTape at h
  refine Wp.stepsG 5 (fun cal X P' hk hX hP => ?_)
  show kcall cal ix_X12_in [.ref 76, .int a1, .int 0, .int 5] (st S hs) [] 0 0 (0, 0) (fun v σ' c' m' => X (7, [some (.ref 76), some (.int a1)], v.toList ++ [], σ', c', m'))
  refine kcall0 rfl (hk _ _ _ _ _ _ (e_X12_in (d + 0) S hs a1 0 5 _ ?_))
  show X (7, [some (.ref 76), some (.int a1)], [.int (r_X12_in a1 0 5)], st S hs, 0, 0)
  refine hX _ ?_
  clear hP hX hk P' X cal
  refine Wp.stepsG 1 (fun cal X P' hk hX hP => ?_)
  exact ⟨b_X12_in a1 0 5, hP _ _ h⟩
def lp_X12_judge_34 (S : St) (f1 : Int32) (f2 : Int32) : Nat → Int32 → Option (Nat × Int32)
  | 0, _ => none
  | n + 1, v3 =>
    if (S.1 76 0) ≤ v3 then
      some (2, v3)
    else
      gd (¬ (f1 < 0 ∨ 6 ≤ f1.toNatClampNeg)) (
        if ((S.1 115) f1.toNatClampNeg) < 0 then
          some (0, v3)
        else
          if f2 < 0 then
            some (0, v3)
          else
            gd (¬ (f1 < 0 ∨ 6 ≤ f1.toNatClampNeg)) (
              if f2 ≤ ((((S.1 116) f1.toNatClampNeg) - v3) - 1) then
                gd (¬ (((((60 : Int32) * f1) + f2) + v3) < 0 ∨ 360 ≤ ((((60 : Int32) * f1) + f2) + v3).toNatClampNeg)) (
                  if (S.1 76 1) = 0 then
                    if (lg_cmp ((S.2.1 117) ((((60 : Int32) * f1) + f2) + v3).toNatClampNeg) 0) = 0 then
                      lp_X12_judge_34 S f1 f2 n (v3 + 1)
                    else
                      some (1, v3)
                  else
                    gd (¬ (v3 < 0 ∨ 48 ≤ v3.toNatClampNeg)) (
                      if (lg_cmp ((S.2.1 117) ((((60 : Int32) * f1) + f2) + v3).toNatClampNeg) (((S.1 82) v3.toNatClampNeg).toInt64)) = 0 then
                        lp_X12_judge_34 S f1 f2 n (v3 + 1)
                      else
                        some (1, v3)))
              else
                some (0, v3)))
set_option maxRecDepth 20000 in
set_option maxHeartbeats 4000000 in
theorem e_lp_X12_judge_34 (d : Nat) (hs : List Hr) (P : Option Value → Hp → Prop) (S : St) (f1 : Int32) (f2 : Int32) : ∀ (n : Nat) (v3 : Int32) (q : Nat × Int32), lp_X12_judge_34 S f1 f2 n v3 = some q → (q.1 = 0 → WM mi_X12_judge (d + 2) P 69 [some (.ref 76), some (.int f1), some (.int f2), some (.int q.2)] [] (st S hs)) ∧ (q.1 = 1 → WM mi_X12_judge (d + 2) P 109 [some (.ref 76), some (.int f1), some (.int f2), some (.int q.2)] [] (st S hs)) ∧ (q.1 = 2 → WM mi_X12_judge (d + 2) P 117 [some (.ref 76), some (.int f1), some (.int f2), none] [] (st S hs)) → WM mi_X12_judge (d + 2) P 34 [some (.ref 76), some (.int f1), some (.int f2), some (.int v3)] [] (st S hs) := by
  intro n
  induction n with
  | zero =>
    intro v3 q hl
    cases hl
  | succ n ih =>
    intro v3 q hl ct
    rw [lp_X12_judge_34] at hl
    refine Wp.stepsG 4 (fun cal X P' hk hX hP => ?_)
    show ((S.1 76 0) ≤ v3 → X (117, [some (.ref 76), some (.int f1), some (.int f2), some (.int v3)], [], st S hs, 0, 0)) ∧ (¬ (S.1 76 0) ≤ v3 → X (42, [some (.ref 76), some (.int f1), some (.int f2), some (.int v3)], [], st S hs, 0, 0))
    refine ⟨fun hc => hX _ ?_, fun hc => hX _ ?_⟩
    · clear hP hX hk P' X cal
      rw [if_pos hc] at hl
      have hl := Option.some.inj hl
      subst hl
      exact Wp.weak (leL.k (leL.k (leL.k (leL.n leL.z)))) (ct.2.2 rfl)
    · clear hP hX hk P' X cal
      rw [if_neg hc] at hl
      refine Wp.stepsG 4 (fun cal X P' hk hX hP => ?_)
      show vp_in f1 6 ∧ X (48, [some (.ref 76), some (.int f1), some (.int f2), some (.int v3)], [.int ((S.1 115) f1.toNatClampNeg)], st S hs, 0, 0)
      obtain ⟨hg, hl⟩ := gd_some hl
      refine ⟨hg, hX _ ?_⟩
      clear hP hX hk P' X cal
      refine Wp.stepsG 1 (fun cal X P' hk hX hP => ?_)
      show (((S.1 115) f1.toNatClampNeg) < 0 → X (69, [some (.ref 76), some (.int f1), some (.int f2), some (.int v3)], [], st S hs, 0, 0)) ∧ (¬ ((S.1 115) f1.toNatClampNeg) < 0 → X (51, [some (.ref 76), some (.int f1), some (.int f2), some (.int v3)], [], st S hs, 0, 0))
      refine ⟨fun hc => hX _ ?_, fun hc => hX _ ?_⟩
      · clear hP hX hk P' X cal
        rw [if_pos hc] at hl
        have hl := Option.some.inj hl
        subst hl
        exact (ct.1 rfl)
      · clear hP hX hk P' X cal
        rw [if_neg hc] at hl
        refine Wp.stepsG 2 (fun cal X P' hk hX hP => ?_)
        show (f2 < 0 → X (69, [some (.ref 76), some (.int f1), some (.int f2), some (.int v3)], [], st S hs, 0, 0)) ∧ (¬ f2 < 0 → X (55, [some (.ref 76), some (.int f1), some (.int f2), some (.int v3)], [], st S hs, 0, 0))
        refine ⟨fun hc => hX _ ?_, fun hc => hX _ ?_⟩
        · clear hP hX hk P' X cal
          rw [if_pos hc] at hl
          have hl := Option.some.inj hl
          subst hl
          exact (ct.1 rfl)
        · clear hP hX hk P' X cal
          rw [if_neg hc] at hl
          refine Wp.stepsG 5 (fun cal X P' hk hX hP => ?_)
          show vp_in f1 6 ∧ X (62, [some (.ref 76), some (.int f1), some (.int f2), some (.int v3)], [.int ((S.1 116) f1.toNatClampNeg), .int f2], st S hs, 0, 0)
          obtain ⟨hg, hl⟩ := gd_some hl
          refine ⟨hg, hX _ ?_⟩
          clear hP hX hk P' X cal
          refine Wp.stepsG 5 (fun cal X P' hk hX hP => ?_)
          show (f2 ≤ ((((S.1 116) f1.toNatClampNeg) - v3) - 1) → X (74, [some (.ref 76), some (.int f1), some (.int f2), some (.int v3)], [], st S hs, 0, 0)) ∧ (¬ f2 ≤ ((((S.1 116) f1.toNatClampNeg) - v3) - 1) → X (69, [some (.ref 76), some (.int f1), some (.int f2), some (.int v3)], [], st S hs, 0, 0))
          refine ⟨fun hc => hX _ ?_, fun hc => hX _ ?_⟩
          · clear hP hX hk P' X cal
            rw [if_pos hc] at hl
            refine Wp.stepsG 10 (fun cal X P' hk hX hP => ?_)
            show vp_in ((((60 : Int32) * f1) + f2) + v3) 360 ∧ X (87, [some (.ref 76), some (.int f1), some (.int f2), some (.int v3)], [.long ((S.2.1 117) ((((60 : Int32) * f1) + f2) + v3).toNatClampNeg)], st S hs, 0, 0)
            obtain ⟨hg, hl⟩ := gd_some hl
            refine ⟨hg, hX _ ?_⟩
            clear hP hX hk P' X cal
            refine Wp.stepsG 3 (fun cal X P' hk hX hP => ?_)
            show (¬ (S.1 76 1) = 0 → X (98, [some (.ref 76), some (.int f1), some (.int f2), some (.int v3)], [.long ((S.2.1 117) ((((60 : Int32) * f1) + f2) + v3).toNatClampNeg)], st S hs, 0, 0)) ∧ ((S.1 76 1) = 0 → X (94, [some (.ref 76), some (.int f1), some (.int f2), some (.int v3)], [.long ((S.2.1 117) ((((60 : Int32) * f1) + f2) + v3).toNatClampNeg)], st S hs, 0, 0))
            refine ⟨fun hc => hX _ ?_, fun hc => hX _ ?_⟩
            · clear hP hX hk P' X cal
              rw [if_neg hc] at hl
              refine Wp.stepsG 4 (fun cal X P' hk hX hP => ?_)
              show vp_in v3 48 ∧ X (104, [some (.ref 76), some (.int f1), some (.int f2), some (.int v3)], [.int ((S.1 82) v3.toNatClampNeg), .long ((S.2.1 117) ((((60 : Int32) * f1) + f2) + v3).toNatClampNeg)], st S hs, 0, 0)
              obtain ⟨hg, hl⟩ := gd_some hl
              refine ⟨hg, hX _ ?_⟩
              clear hP hX hk P' X cal
              refine Wp.stepsG 3 (fun cal X P' hk hX hP => ?_)
              show ((lg_cmp ((S.2.1 117) ((((60 : Int32) * f1) + f2) + v3).toNatClampNeg) (((S.1 82) v3.toNatClampNeg).toInt64)) = 0 → X (111, [some (.ref 76), some (.int f1), some (.int f2), some (.int v3)], [], st S hs, 0, 0)) ∧ (¬ (lg_cmp ((S.2.1 117) ((((60 : Int32) * f1) + f2) + v3).toNatClampNeg) (((S.1 82) v3.toNatClampNeg).toInt64)) = 0 → X (109, [some (.ref 76), some (.int f1), some (.int f2), some (.int v3)], [], st S hs, 0, 0))
              refine ⟨fun hc => hX _ ?_, fun hc => hX _ ?_⟩
              · clear hP hX hk P' X cal
                rw [if_pos hc] at hl
                refine Wp.stepsG 2 (fun cal X P' hk hX hP => ?_)
                show X (34, [some (.ref 76), some (.int f1), some (.int f2), some (.int (v3 + 1))], [], st S hs, 0, 0)
                refine hX _ ?_
                exact (ih (v3 + 1) q hl ct)
              · clear hP hX hk P' X cal
                rw [if_neg hc] at hl
                have hl := Option.some.inj hl
                subst hl
                exact (ct.2.1 rfl)
            · clear hP hX hk P' X cal
              rw [if_pos hc] at hl
              refine Wp.stepsG 4 (fun cal X P' hk hX hP => ?_)
              show ((lg_cmp ((S.2.1 117) ((((60 : Int32) * f1) + f2) + v3).toNatClampNeg) 0) = 0 → X (111, [some (.ref 76), some (.int f1), some (.int f2), some (.int v3)], [], st S hs, 0, 0)) ∧ (¬ (lg_cmp ((S.2.1 117) ((((60 : Int32) * f1) + f2) + v3).toNatClampNeg) 0) = 0 → X (109, [some (.ref 76), some (.int f1), some (.int f2), some (.int v3)], [], st S hs, 0, 0))
              refine ⟨fun hc => hX _ ?_, fun hc => hX _ ?_⟩
              · clear hP hX hk P' X cal
                rw [if_pos hc] at hl
                refine Wp.stepsG 2 (fun cal X P' hk hX hP => ?_)
                show X (34, [some (.ref 76), some (.int f1), some (.int f2), some (.int (v3 + 1))], [], st S hs, 0, 0)
                refine hX _ ?_
                exact (ih (v3 + 1) q hl ct)
              · clear hP hX hk P' X cal
                rw [if_neg hc] at hl
                have hl := Option.some.inj hl
                subst hl
                exact (ct.2.1 rfl)
          · clear hP hX hk P' X cal
            rw [if_neg hc] at hl
            have hl := Option.some.inj hl
            subst hl
            exact (ct.1 rfl)
def r_X12_judge (S : St) (a1 : Int32) (a2 : Int32) : Option Int32 :=
  if (r_X12_isTape a1) = 0 then
    some (-1)
  else
    gd (¬ (a1 < 0 ∨ 6 ≤ a1.toNatClampNeg)) (
      if ((S.1 115) a1.toNatClampNeg) < 0 then
        (lp_X12_judge_34 S a1 a2 4000 0).bind fun q1 =>
        if q1.1 = 0 then
          some ((100 : Int32) + q1.2)
        else
        if q1.1 = 1 then
          some q1.2
        else
          some (-5)
      else
        gd (¬ (a1 < 0 ∨ 6 ≤ a1.toNatClampNeg)) (
          if ((S.1 115) a1.toNatClampNeg) = 2 then
            (lp_X12_judge_34 S a1 a2 4000 0).bind fun q2 =>
            if q2.1 = 0 then
              some ((100 : Int32) + q2.2)
            else
            if q2.1 = 1 then
              some q2.2
            else
              some (-5)
          else
            some (-12)))
set_option maxRecDepth 20000 in
set_option maxHeartbeats 4000000 in
theorem e_X12_judge (d : Nat) (S : St) (hs : List Hr) (a1 : Int32) (a2 : Int32) (v : Int32) (hr : r_X12_judge S a1 a2 = some v) (P : Option Value → Hp → Prop) (h : P (some (.int v)) (st S hs)) : Ev (d + 3) ix_X12_judge 0 0 [.ref 76, .int a1, .int a2] (st S hs) P := by
  refine Ev.intro (M := mi_X12_judge) rfl (Nat.le_of_ble_eq_true rfl) ?_
  unfold r_X12_judge at hr
  refine Wp.stepsG 3 (fun cal X P' hk hX hP => ?_)
  show kcall cal ix_X12_isTape [.ref 76, .int a1] (st S hs) [] 0 0 (0, 0) (fun v σ' c' m' => X (5, [some (.ref 76), some (.int a1), some (.int a2), none], v.toList ++ [], σ', c', m'))
  refine kcall0 rfl (hk _ _ _ _ _ _ (e_X12_isTape (d + 0) S hs a1 _ ?_))
  show X (5, [some (.ref 76), some (.int a1), some (.int a2), none], [.int (r_X12_isTape a1)], st S hs, 0, 0)
  refine hX _ ?_
  clear hP hX hk P' X cal
  refine Wp.stepsG 1 (fun cal X P' hk hX hP => ?_)
  show (¬ (r_X12_isTape a1) = 0 → X (10, [some (.ref 76), some (.int a1), some (.int a2), none], [], st S hs, 0, 0)) ∧ ((r_X12_isTape a1) = 0 → X (8, [some (.ref 76), some (.int a1), some (.int a2), none], [], st S hs, 0, 0))
  refine ⟨fun hc => hX _ ?_, fun hc => hX _ ?_⟩
  · clear hP hX hk P' X cal
    rw [if_neg hc] at hr
    refine Wp.stepsG 4 (fun cal X P' hk hX hP => ?_)
    show vp_in a1 6 ∧ X (16, [some (.ref 76), some (.int a1), some (.int a2), none], [.int ((S.1 115) a1.toNatClampNeg)], st S hs, 0, 0)
    obtain ⟨hg, hr⟩ := gd_some hr
    refine ⟨hg, hX _ ?_⟩
    clear hP hX hk P' X cal
    refine Wp.stepsG 1 (fun cal X P' hk hX hP => ?_)
    show (((S.1 115) a1.toNatClampNeg) < 0 → X (32, [some (.ref 76), some (.int a1), some (.int a2), none], [], st S hs, 0, 0)) ∧ (¬ ((S.1 115) a1.toNatClampNeg) < 0 → X (19, [some (.ref 76), some (.int a1), some (.int a2), none], [], st S hs, 0, 0))
    refine ⟨fun hc => hX _ ?_, fun hc => hX _ ?_⟩
    · clear hP hX hk P' X cal
      rw [if_pos hc] at hr
      refine Wp.stepsG 2 (fun cal X P' hk hX hP => ?_)
      show X (34, [some (.ref 76), some (.int a1), some (.int a2), some (.int 0)], [], st S hs, 0, 0)
      refine hX _ ?_
      clear hP hX hk P' X cal
      obtain ⟨q1, hq1, hr⟩ := bd_some hr
      refine (e_lp_X12_judge_34 d hs P S a1 a2 _ 0 q1 hq1 ?_)
      refine ⟨fun hc => ?_, fun hc => ?_, fun hc => ?_⟩
      · have hcc := hc
        rw [if_pos hcc] at hr
        have hr := Option.some.inj hr
        subst hr
        refine Wp.stepsG 4 (fun cal X P' hk hX hP => ?_)
        exact hP _ _ h
      · have hcc := hc
        rw [if_neg (fun z => by rw [z] at hcc; exact absurd hcc (by decide))] at hr
        rw [if_pos hcc] at hr
        have hr := Option.some.inj hr
        subst hr
        refine Wp.stepsG 2 (fun cal X P' hk hX hP => ?_)
        exact hP _ _ h
      · have hcc := hc
        rw [if_neg (fun z => by rw [z] at hcc; exact absurd hcc (by decide))] at hr
        rw [if_neg (fun z => by rw [z] at hcc; exact absurd hcc (by decide))] at hr
        have hr := Option.some.inj hr
        subst hr
        refine Wp.stepsG 2 (fun cal X P' hk hX hP => ?_)
        exact hP _ _ h
    · clear hP hX hk P' X cal
      rw [if_neg hc] at hr
      refine Wp.stepsG 4 (fun cal X P' hk hX hP => ?_)
      show vp_in a1 6 ∧ X (25, [some (.ref 76), some (.int a1), some (.int a2), none], [.int ((S.1 115) a1.toNatClampNeg)], st S hs, 0, 0)
      obtain ⟨hg, hr⟩ := gd_some hr
      refine ⟨hg, hX _ ?_⟩
      clear hP hX hk P' X cal
      refine Wp.stepsG 2 (fun cal X P' hk hX hP => ?_)
      show (((S.1 115) a1.toNatClampNeg) = 2 → X (32, [some (.ref 76), some (.int a1), some (.int a2), none], [], st S hs, 0, 0)) ∧ (¬ ((S.1 115) a1.toNatClampNeg) = 2 → X (29, [some (.ref 76), some (.int a1), some (.int a2), none], [], st S hs, 0, 0))
      refine ⟨fun hc => hX _ ?_, fun hc => hX _ ?_⟩
      · clear hP hX hk P' X cal
        rw [if_pos hc] at hr
        refine Wp.stepsG 2 (fun cal X P' hk hX hP => ?_)
        show X (34, [some (.ref 76), some (.int a1), some (.int a2), some (.int 0)], [], st S hs, 0, 0)
        refine hX _ ?_
        clear hP hX hk P' X cal
        obtain ⟨q2, hq2, hr⟩ := bd_some hr
        refine (e_lp_X12_judge_34 d hs P S a1 a2 _ 0 q2 hq2 ?_)
        refine ⟨fun hc => ?_, fun hc => ?_, fun hc => ?_⟩
        · have hcc := hc
          rw [if_pos hcc] at hr
          have hr := Option.some.inj hr
          subst hr
          refine Wp.stepsG 4 (fun cal X P' hk hX hP => ?_)
          exact hP _ _ h
        · have hcc := hc
          rw [if_neg (fun z => by rw [z] at hcc; exact absurd hcc (by decide))] at hr
          rw [if_pos hcc] at hr
          have hr := Option.some.inj hr
          subst hr
          refine Wp.stepsG 2 (fun cal X P' hk hX hP => ?_)
          exact hP _ _ h
        · have hcc := hc
          rw [if_neg (fun z => by rw [z] at hcc; exact absurd hcc (by decide))] at hr
          rw [if_neg (fun z => by rw [z] at hcc; exact absurd hcc (by decide))] at hr
          have hr := Option.some.inj hr
          subst hr
          refine Wp.stepsG 2 (fun cal X P' hk hX hP => ?_)
          exact hP _ _ h
      · clear hP hX hk P' X cal
        rw [if_neg hc] at hr
        have hr := Option.some.inj hr
        subst hr
        refine Wp.stepsG 2 (fun cal X P' hk hX hP => ?_)
        exact hP _ _ h
  · clear hP hX hk P' X cal
    rw [if_pos hc] at hr
    have hr := Option.some.inj hr
    subst hr
    refine Wp.stepsG 2 (fun cal X P' hk hX hP => ?_)
    exact hP _ _ h
def lp_X12_image_55 : Nat → Int32 → St → Option (St)
  | 0, _, _ => none
  | n + 1, v1, S =>
    if 8 ≤ v1 then
      some S
    else
      gd (¬ (v1 < 0 ∨ 8 ≤ v1.toNatClampNeg)) (
        gd (¬ (v1 < 0 ∨ 8 ≤ v1.toNatClampNeg)) (
          gd (¬ (v1 < 0 ∨ 8 ≤ v1.toNatClampNeg)) (
            gd (¬ (v1 < 0 ∨ 8 ≤ v1.toNatClampNeg)) (
              lp_X12_image_55 n (v1 + 1) (sA (sA S 104 (upd (S.1 104) v1.toNatClampNeg ((S.1 77) v1.toNatClampNeg))) 105 (upd (S.1 105) v1.toNatClampNeg ((S.1 78) v1.toNatClampNeg)))))))
set_option maxRecDepth 20000 in
set_option maxHeartbeats 4000000 in
theorem e_lp_X12_image_55 (d : Nat) (hs : List Hr) (P : Option Value → Hp → Prop) : ∀ (n : Nat) (v1 : Int32) (S : St) (q : St), lp_X12_image_55 n v1 S = some q → (WM mi_X12_image (d + 0) P 91 [some (.ref 76), none] [] (st q hs)) → WM mi_X12_image (d + 0) P 55 [some (.ref 76), some (.int v1)] [] (st S hs) := by
  intro n
  induction n with
  | zero =>
    intro v1 S q hl
    cases hl
  | succ n ih =>
    intro v1 S q hl ct
    rw [lp_X12_image_55] at hl
    refine Wp.stepsG 3 (fun cal X P' hk hX hP => ?_)
    show (8 ≤ v1 → X (91, [some (.ref 76), some (.int v1)], [], st S hs, 0, 0)) ∧ (¬ 8 ≤ v1 → X (61, [some (.ref 76), some (.int v1)], [], st S hs, 0, 0))
    refine ⟨fun hc => hX _ ?_, fun hc => hX _ ?_⟩
    · clear hP hX hk P' X cal
      rw [if_pos hc] at hl
      have hl := Option.some.inj hl
      subst hl
      exact Wp.weak (leL.k (leL.n leL.z)) (ct)
    · clear hP hX hk P' X cal
      rw [if_neg hc] at hl
      refine Wp.stepsG 7 (fun cal X P' hk hX hP => ?_)
      show vp_in v1 8 ∧ X (72, [some (.ref 76), some (.int v1)], [.int ((S.1 77) v1.toNatClampNeg), .int v1, .ref 104], st S hs, 0, 0)
      obtain ⟨hg, hl⟩ := gd_some hl
      refine ⟨hg, hX _ ?_⟩
      clear hP hX hk P' X cal
      refine Wp.stepsG 1 (fun cal X P' hk hX hP => ?_)
      show vp_in v1 8 ∧ X (73, [some (.ref 76), some (.int v1)], [], st (sA S 104 (upd (S.1 104) v1.toNatClampNeg ((S.1 77) v1.toNatClampNeg))) hs, 0, 0)
      obtain ⟨hg, hl⟩ := gd_some hl
      refine ⟨hg, hX _ ?_⟩
      clear hP hX hk P' X cal
      refine Wp.stepsG 7 (fun cal X P' hk hX hP => ?_)
      show vp_in v1 8 ∧ X (84, [some (.ref 76), some (.int v1)], [.int ((S.1 78) v1.toNatClampNeg), .int v1, .ref 105], st (sA S 104 (upd (S.1 104) v1.toNatClampNeg ((S.1 77) v1.toNatClampNeg))) hs, 0, 0)
      obtain ⟨hg, hl⟩ := gd_some hl
      refine ⟨hg, hX _ ?_⟩
      clear hP hX hk P' X cal
      refine Wp.stepsG 1 (fun cal X P' hk hX hP => ?_)
      show vp_in v1 8 ∧ X (85, [some (.ref 76), some (.int v1)], [], st (sA (sA S 104 (upd (S.1 104) v1.toNatClampNeg ((S.1 77) v1.toNatClampNeg))) 105 (upd (S.1 105) v1.toNatClampNeg ((S.1 78) v1.toNatClampNeg))) hs, 0, 0)
      obtain ⟨hg, hl⟩ := gd_some hl
      refine ⟨hg, hX _ ?_⟩
      clear hP hX hk P' X cal
      refine Wp.stepsG 2 (fun cal X P' hk hX hP => ?_)
      show X (55, [some (.ref 76), some (.int (v1 + 1))], [], st (sA (sA S 104 (upd (S.1 104) v1.toNatClampNeg ((S.1 77) v1.toNatClampNeg))) 105 (upd (S.1 105) v1.toNatClampNeg ((S.1 78) v1.toNatClampNeg))) hs, 0, 0)
      refine hX _ ?_
      exact (ih (v1 + 1) (sA (sA S 104 (upd (S.1 104) v1.toNatClampNeg ((S.1 77) v1.toNatClampNeg))) 105 (upd (S.1 105) v1.toNatClampNeg ((S.1 78) v1.toNatClampNeg))) q hl ct)
def lp_X12_image_93 : Nat → Int32 → St → Option (St)
  | 0, _, _ => none
  | n + 1, v1, S =>
    if 6 ≤ v1 then
      some S
    else
      gd (¬ (v1 < 0 ∨ 6 ≤ v1.toNatClampNeg)) (
        gd (¬ (v1 < 0 ∨ 6 ≤ v1.toNatClampNeg)) (
          gd (¬ (v1 < 0 ∨ 6 ≤ v1.toNatClampNeg)) (
            gd (¬ (v1 < 0 ∨ 6 ≤ v1.toNatClampNeg)) (
              gd (¬ (v1 < 0 ∨ 6 ≤ v1.toNatClampNeg)) (
                gd (¬ (v1 < 0 ∨ 6 ≤ v1.toNatClampNeg)) (
                  gd (¬ (v1 < 0 ∨ 6 ≤ v1.toNatClampNeg)) (
                    gd (¬ (v1 < 0 ∨ 6 ≤ v1.toNatClampNeg)) (
                      lp_X12_image_93 n (v1 + 1) (sA (sA (sA (sA S 106 (upd (S.1 106) v1.toNatClampNeg ((S.1 79) v1.toNatClampNeg))) 107 (upd (S.1 107) v1.toNatClampNeg ((S.1 80) v1.toNatClampNeg))) 111 (upd (S.1 111) v1.toNatClampNeg ((S.1 101) v1.toNatClampNeg))) 112 (upd (S.1 112) v1.toNatClampNeg ((S.1 102) v1.toNatClampNeg)))))))))))
set_option maxRecDepth 20000 in
set_option maxHeartbeats 4000000 in
theorem e_lp_X12_image_93 (d : Nat) (hs : List Hr) (P : Option Value → Hp → Prop) : ∀ (n : Nat) (v1 : Int32) (S : St) (q : St), lp_X12_image_93 n v1 S = some q → (WM mi_X12_image (d + 0) P 153 [some (.ref 76), none] [] (st q hs)) → WM mi_X12_image (d + 0) P 93 [some (.ref 76), some (.int v1)] [] (st S hs) := by
  intro n
  induction n with
  | zero =>
    intro v1 S q hl
    cases hl
  | succ n ih =>
    intro v1 S q hl ct
    rw [lp_X12_image_93] at hl
    refine Wp.stepsG 3 (fun cal X P' hk hX hP => ?_)
    show (6 ≤ v1 → X (153, [some (.ref 76), some (.int v1)], [], st S hs, 0, 0)) ∧ (¬ 6 ≤ v1 → X (99, [some (.ref 76), some (.int v1)], [], st S hs, 0, 0))
    refine ⟨fun hc => hX _ ?_, fun hc => hX _ ?_⟩
    · clear hP hX hk P' X cal
      rw [if_pos hc] at hl
      have hl := Option.some.inj hl
      subst hl
      exact Wp.weak (leL.k (leL.n leL.z)) (ct)
    · clear hP hX hk P' X cal
      rw [if_neg hc] at hl
      refine Wp.stepsG 7 (fun cal X P' hk hX hP => ?_)
      show vp_in v1 6 ∧ X (110, [some (.ref 76), some (.int v1)], [.int ((S.1 79) v1.toNatClampNeg), .int v1, .ref 106], st S hs, 0, 0)
      obtain ⟨hg, hl⟩ := gd_some hl
      refine ⟨hg, hX _ ?_⟩
      clear hP hX hk P' X cal
      refine Wp.stepsG 1 (fun cal X P' hk hX hP => ?_)
      show vp_in v1 6 ∧ X (111, [some (.ref 76), some (.int v1)], [], st (sA S 106 (upd (S.1 106) v1.toNatClampNeg ((S.1 79) v1.toNatClampNeg))) hs, 0, 0)
      obtain ⟨hg, hl⟩ := gd_some hl
      refine ⟨hg, hX _ ?_⟩
      clear hP hX hk P' X cal
      refine Wp.stepsG 7 (fun cal X P' hk hX hP => ?_)
      show vp_in v1 6 ∧ X (122, [some (.ref 76), some (.int v1)], [.int ((S.1 80) v1.toNatClampNeg), .int v1, .ref 107], st (sA S 106 (upd (S.1 106) v1.toNatClampNeg ((S.1 79) v1.toNatClampNeg))) hs, 0, 0)
      obtain ⟨hg, hl⟩ := gd_some hl
      refine ⟨hg, hX _ ?_⟩
      clear hP hX hk P' X cal
      refine Wp.stepsG 1 (fun cal X P' hk hX hP => ?_)
      show vp_in v1 6 ∧ X (123, [some (.ref 76), some (.int v1)], [], st (sA (sA S 106 (upd (S.1 106) v1.toNatClampNeg ((S.1 79) v1.toNatClampNeg))) 107 (upd (S.1 107) v1.toNatClampNeg ((S.1 80) v1.toNatClampNeg))) hs, 0, 0)
      obtain ⟨hg, hl⟩ := gd_some hl
      refine ⟨hg, hX _ ?_⟩
      clear hP hX hk P' X cal
      refine Wp.stepsG 7 (fun cal X P' hk hX hP => ?_)
      show vp_in v1 6 ∧ X (134, [some (.ref 76), some (.int v1)], [.int ((S.1 101) v1.toNatClampNeg), .int v1, .ref 111], st (sA (sA S 106 (upd (S.1 106) v1.toNatClampNeg ((S.1 79) v1.toNatClampNeg))) 107 (upd (S.1 107) v1.toNatClampNeg ((S.1 80) v1.toNatClampNeg))) hs, 0, 0)
      obtain ⟨hg, hl⟩ := gd_some hl
      refine ⟨hg, hX _ ?_⟩
      clear hP hX hk P' X cal
      refine Wp.stepsG 1 (fun cal X P' hk hX hP => ?_)
      show vp_in v1 6 ∧ X (135, [some (.ref 76), some (.int v1)], [], st (sA (sA (sA S 106 (upd (S.1 106) v1.toNatClampNeg ((S.1 79) v1.toNatClampNeg))) 107 (upd (S.1 107) v1.toNatClampNeg ((S.1 80) v1.toNatClampNeg))) 111 (upd (S.1 111) v1.toNatClampNeg ((S.1 101) v1.toNatClampNeg))) hs, 0, 0)
      obtain ⟨hg, hl⟩ := gd_some hl
      refine ⟨hg, hX _ ?_⟩
      clear hP hX hk P' X cal
      refine Wp.stepsG 7 (fun cal X P' hk hX hP => ?_)
      show vp_in v1 6 ∧ X (146, [some (.ref 76), some (.int v1)], [.int ((S.1 102) v1.toNatClampNeg), .int v1, .ref 112], st (sA (sA (sA S 106 (upd (S.1 106) v1.toNatClampNeg ((S.1 79) v1.toNatClampNeg))) 107 (upd (S.1 107) v1.toNatClampNeg ((S.1 80) v1.toNatClampNeg))) 111 (upd (S.1 111) v1.toNatClampNeg ((S.1 101) v1.toNatClampNeg))) hs, 0, 0)
      obtain ⟨hg, hl⟩ := gd_some hl
      refine ⟨hg, hX _ ?_⟩
      clear hP hX hk P' X cal
      refine Wp.stepsG 1 (fun cal X P' hk hX hP => ?_)
      show vp_in v1 6 ∧ X (147, [some (.ref 76), some (.int v1)], [], st (sA (sA (sA (sA S 106 (upd (S.1 106) v1.toNatClampNeg ((S.1 79) v1.toNatClampNeg))) 107 (upd (S.1 107) v1.toNatClampNeg ((S.1 80) v1.toNatClampNeg))) 111 (upd (S.1 111) v1.toNatClampNeg ((S.1 101) v1.toNatClampNeg))) 112 (upd (S.1 112) v1.toNatClampNeg ((S.1 102) v1.toNatClampNeg))) hs, 0, 0)
      obtain ⟨hg, hl⟩ := gd_some hl
      refine ⟨hg, hX _ ?_⟩
      clear hP hX hk P' X cal
      refine Wp.stepsG 2 (fun cal X P' hk hX hP => ?_)
      show X (93, [some (.ref 76), some (.int (v1 + 1))], [], st (sA (sA (sA (sA S 106 (upd (S.1 106) v1.toNatClampNeg ((S.1 79) v1.toNatClampNeg))) 107 (upd (S.1 107) v1.toNatClampNeg ((S.1 80) v1.toNatClampNeg))) 111 (upd (S.1 111) v1.toNatClampNeg ((S.1 101) v1.toNatClampNeg))) 112 (upd (S.1 112) v1.toNatClampNeg ((S.1 102) v1.toNatClampNeg))) hs, 0, 0)
      refine hX _ ?_
      exact (ih (v1 + 1) (sA (sA (sA (sA S 106 (upd (S.1 106) v1.toNatClampNeg ((S.1 79) v1.toNatClampNeg))) 107 (upd (S.1 107) v1.toNatClampNeg ((S.1 80) v1.toNatClampNeg))) 111 (upd (S.1 111) v1.toNatClampNeg ((S.1 101) v1.toNatClampNeg))) 112 (upd (S.1 112) v1.toNatClampNeg ((S.1 102) v1.toNatClampNeg))) q hl ct)
def lp_X12_image_155 : Nat → Int32 → St → Option (St)
  | 0, _, _ => none
  | n + 1, v1, S =>
    if 24 ≤ v1 then
      some S
    else
      gd (¬ (v1 < 0 ∨ 24 ≤ v1.toNatClampNeg)) (
        gd (¬ (v1 < 0 ∨ 24 ≤ v1.toNatClampNeg)) (
          lp_X12_image_155 n (v1 + 1) (sA S 108 (upd (S.1 108) v1.toNatClampNeg ((S.1 81) v1.toNatClampNeg)))))
set_option maxRecDepth 20000 in
set_option maxHeartbeats 4000000 in
theorem e_lp_X12_image_155 (d : Nat) (hs : List Hr) (P : Option Value → Hp → Prop) : ∀ (n : Nat) (v1 : Int32) (S : St) (q : St), lp_X12_image_155 n v1 S = some q → (WM mi_X12_image (d + 0) P 179 [some (.ref 76), none] [] (st q hs)) → WM mi_X12_image (d + 0) P 155 [some (.ref 76), some (.int v1)] [] (st S hs) := by
  intro n
  induction n with
  | zero =>
    intro v1 S q hl
    cases hl
  | succ n ih =>
    intro v1 S q hl ct
    rw [lp_X12_image_155] at hl
    refine Wp.stepsG 3 (fun cal X P' hk hX hP => ?_)
    show (24 ≤ v1 → X (179, [some (.ref 76), some (.int v1)], [], st S hs, 0, 0)) ∧ (¬ 24 ≤ v1 → X (161, [some (.ref 76), some (.int v1)], [], st S hs, 0, 0))
    refine ⟨fun hc => hX _ ?_, fun hc => hX _ ?_⟩
    · clear hP hX hk P' X cal
      rw [if_pos hc] at hl
      have hl := Option.some.inj hl
      subst hl
      exact Wp.weak (leL.k (leL.n leL.z)) (ct)
    · clear hP hX hk P' X cal
      rw [if_neg hc] at hl
      refine Wp.stepsG 7 (fun cal X P' hk hX hP => ?_)
      show vp_in v1 24 ∧ X (172, [some (.ref 76), some (.int v1)], [.int ((S.1 81) v1.toNatClampNeg), .int v1, .ref 108], st S hs, 0, 0)
      obtain ⟨hg, hl⟩ := gd_some hl
      refine ⟨hg, hX _ ?_⟩
      clear hP hX hk P' X cal
      refine Wp.stepsG 1 (fun cal X P' hk hX hP => ?_)
      show vp_in v1 24 ∧ X (173, [some (.ref 76), some (.int v1)], [], st (sA S 108 (upd (S.1 108) v1.toNatClampNeg ((S.1 81) v1.toNatClampNeg))) hs, 0, 0)
      obtain ⟨hg, hl⟩ := gd_some hl
      refine ⟨hg, hX _ ?_⟩
      clear hP hX hk P' X cal
      refine Wp.stepsG 2 (fun cal X P' hk hX hP => ?_)
      show X (155, [some (.ref 76), some (.int (v1 + 1))], [], st (sA S 108 (upd (S.1 108) v1.toNatClampNeg ((S.1 81) v1.toNatClampNeg))) hs, 0, 0)
      refine hX _ ?_
      exact (ih (v1 + 1) (sA S 108 (upd (S.1 108) v1.toNatClampNeg ((S.1 81) v1.toNatClampNeg))) q hl ct)
def lp_X12_image_181 : Nat → Int32 → St → Option (St)
  | 0, _, _ => none
  | n + 1, v1, S =>
    if 48 ≤ v1 then
      some S
    else
      gd (¬ (v1 < 0 ∨ 48 ≤ v1.toNatClampNeg)) (
        gd (¬ (v1 < 0 ∨ 48 ≤ v1.toNatClampNeg)) (
          gd (¬ (v1 < 0 ∨ 48 ≤ v1.toNatClampNeg)) (
            gd (¬ (v1 < 0 ∨ 48 ≤ v1.toNatClampNeg)) (
              lp_X12_image_181 n (v1 + 1) (sA (sA S 109 (upd (S.1 109) v1.toNatClampNeg ((S.1 82) v1.toNatClampNeg))) 110 (upd (S.1 110) v1.toNatClampNeg ((S.1 83) v1.toNatClampNeg)))))))
set_option maxRecDepth 20000 in
set_option maxHeartbeats 4000000 in
theorem e_lp_X12_image_181 (d : Nat) (hs : List Hr) (P : Option Value → Hp → Prop) : ∀ (n : Nat) (v1 : Int32) (S : St) (q : St), lp_X12_image_181 n v1 S = some q → (WM mi_X12_image (d + 0) P 217 [some (.ref 76), none] [] (st q hs)) → WM mi_X12_image (d + 0) P 181 [some (.ref 76), some (.int v1)] [] (st S hs) := by
  intro n
  induction n with
  | zero =>
    intro v1 S q hl
    cases hl
  | succ n ih =>
    intro v1 S q hl ct
    rw [lp_X12_image_181] at hl
    refine Wp.stepsG 3 (fun cal X P' hk hX hP => ?_)
    show (48 ≤ v1 → X (217, [some (.ref 76), some (.int v1)], [], st S hs, 0, 0)) ∧ (¬ 48 ≤ v1 → X (187, [some (.ref 76), some (.int v1)], [], st S hs, 0, 0))
    refine ⟨fun hc => hX _ ?_, fun hc => hX _ ?_⟩
    · clear hP hX hk P' X cal
      rw [if_pos hc] at hl
      have hl := Option.some.inj hl
      subst hl
      exact Wp.weak (leL.k (leL.n leL.z)) (ct)
    · clear hP hX hk P' X cal
      rw [if_neg hc] at hl
      refine Wp.stepsG 7 (fun cal X P' hk hX hP => ?_)
      show vp_in v1 48 ∧ X (198, [some (.ref 76), some (.int v1)], [.int ((S.1 82) v1.toNatClampNeg), .int v1, .ref 109], st S hs, 0, 0)
      obtain ⟨hg, hl⟩ := gd_some hl
      refine ⟨hg, hX _ ?_⟩
      clear hP hX hk P' X cal
      refine Wp.stepsG 1 (fun cal X P' hk hX hP => ?_)
      show vp_in v1 48 ∧ X (199, [some (.ref 76), some (.int v1)], [], st (sA S 109 (upd (S.1 109) v1.toNatClampNeg ((S.1 82) v1.toNatClampNeg))) hs, 0, 0)
      obtain ⟨hg, hl⟩ := gd_some hl
      refine ⟨hg, hX _ ?_⟩
      clear hP hX hk P' X cal
      refine Wp.stepsG 7 (fun cal X P' hk hX hP => ?_)
      show vp_in v1 48 ∧ X (210, [some (.ref 76), some (.int v1)], [.int ((S.1 83) v1.toNatClampNeg), .int v1, .ref 110], st (sA S 109 (upd (S.1 109) v1.toNatClampNeg ((S.1 82) v1.toNatClampNeg))) hs, 0, 0)
      obtain ⟨hg, hl⟩ := gd_some hl
      refine ⟨hg, hX _ ?_⟩
      clear hP hX hk P' X cal
      refine Wp.stepsG 1 (fun cal X P' hk hX hP => ?_)
      show vp_in v1 48 ∧ X (211, [some (.ref 76), some (.int v1)], [], st (sA (sA S 109 (upd (S.1 109) v1.toNatClampNeg ((S.1 82) v1.toNatClampNeg))) 110 (upd (S.1 110) v1.toNatClampNeg ((S.1 83) v1.toNatClampNeg))) hs, 0, 0)
      obtain ⟨hg, hl⟩ := gd_some hl
      refine ⟨hg, hX _ ?_⟩
      clear hP hX hk P' X cal
      refine Wp.stepsG 2 (fun cal X P' hk hX hP => ?_)
      show X (181, [some (.ref 76), some (.int (v1 + 1))], [], st (sA (sA S 109 (upd (S.1 109) v1.toNatClampNeg ((S.1 82) v1.toNatClampNeg))) 110 (upd (S.1 110) v1.toNatClampNeg ((S.1 83) v1.toNatClampNeg))) hs, 0, 0)
      refine hX _ ?_
      exact (ih (v1 + 1) (sA (sA S 109 (upd (S.1 109) v1.toNatClampNeg ((S.1 82) v1.toNatClampNeg))) 110 (upd (S.1 110) v1.toNatClampNeg ((S.1 83) v1.toNatClampNeg))) q hl ct)
def lp_X12_image_219 : Nat → Int32 → St → Option (St)
  | 0, _, _ => none
  | n + 1, v1, S =>
    if 10 ≤ v1 then
      some S
    else
      gd (¬ (v1 < 0 ∨ 10 ≤ v1.toNatClampNeg)) (
        gd (¬ (v1 < 0 ∨ 10 ≤ v1.toNatClampNeg)) (
          lp_X12_image_219 n (v1 + 1) (sA S 113 (upd (S.1 113) v1.toNatClampNeg ((S.1 103) v1.toNatClampNeg)))))
set_option maxRecDepth 20000 in
set_option maxHeartbeats 4000000 in
theorem e_lp_X12_image_219 (d : Nat) (hs : List Hr) (P : Option Value → Hp → Prop) : ∀ (n : Nat) (v1 : Int32) (S : St) (q : St), lp_X12_image_219 n v1 S = some q → (WM mi_X12_image (d + 0) P 243 [some (.ref 76), none] [] (st q hs)) → WM mi_X12_image (d + 0) P 219 [some (.ref 76), some (.int v1)] [] (st S hs) := by
  intro n
  induction n with
  | zero =>
    intro v1 S q hl
    cases hl
  | succ n ih =>
    intro v1 S q hl ct
    rw [lp_X12_image_219] at hl
    refine Wp.stepsG 3 (fun cal X P' hk hX hP => ?_)
    show (10 ≤ v1 → X (243, [some (.ref 76), some (.int v1)], [], st S hs, 0, 0)) ∧ (¬ 10 ≤ v1 → X (225, [some (.ref 76), some (.int v1)], [], st S hs, 0, 0))
    refine ⟨fun hc => hX _ ?_, fun hc => hX _ ?_⟩
    · clear hP hX hk P' X cal
      rw [if_pos hc] at hl
      have hl := Option.some.inj hl
      subst hl
      exact Wp.weak (leL.k (leL.n leL.z)) (ct)
    · clear hP hX hk P' X cal
      rw [if_neg hc] at hl
      refine Wp.stepsG 7 (fun cal X P' hk hX hP => ?_)
      show vp_in v1 10 ∧ X (236, [some (.ref 76), some (.int v1)], [.int ((S.1 103) v1.toNatClampNeg), .int v1, .ref 113], st S hs, 0, 0)
      obtain ⟨hg, hl⟩ := gd_some hl
      refine ⟨hg, hX _ ?_⟩
      clear hP hX hk P' X cal
      refine Wp.stepsG 1 (fun cal X P' hk hX hP => ?_)
      show vp_in v1 10 ∧ X (237, [some (.ref 76), some (.int v1)], [], st (sA S 113 (upd (S.1 113) v1.toNatClampNeg ((S.1 103) v1.toNatClampNeg))) hs, 0, 0)
      obtain ⟨hg, hl⟩ := gd_some hl
      refine ⟨hg, hX _ ?_⟩
      clear hP hX hk P' X cal
      refine Wp.stepsG 2 (fun cal X P' hk hX hP => ?_)
      show X (219, [some (.ref 76), some (.int (v1 + 1))], [], st (sA S 113 (upd (S.1 113) v1.toNatClampNeg ((S.1 103) v1.toNatClampNeg))) hs, 0, 0)
      refine hX _ ?_
      exact (ih (v1 + 1) (sA S 113 (upd (S.1 113) v1.toNatClampNeg ((S.1 103) v1.toNatClampNeg))) q hl ct)
def r_X12_image (S : St) : Option (Int32 × St) :=
  (lp_X12_image_55 4000 0 (sI (sI (sI (sI (sI (sI (sI S 76 42 1) 76 43 (S.1 76 11)) 76 44 (S.1 76 0)) 76 45 (S.1 76 1)) 76 46 (S.1 76 2)) 76 47 (S.1 76 37)) 76 48 (S.1 76 40))).bind fun q1 =>
    (lp_X12_image_93 4000 0 q1).bind fun q2 =>
      (lp_X12_image_155 4000 0 q2).bind fun q3 =>
        (lp_X12_image_181 4000 0 q3).bind fun q4 =>
          (lp_X12_image_219 4000 0 q4).bind fun q5 =>
            some (q5.1 76 1, q5)
set_option maxRecDepth 20000 in
set_option maxHeartbeats 4000000 in
theorem e_X12_image (d : Nat) (S : St) (hs : List Hr) (v : Int32 × St) (hr : r_X12_image S = some v) (P : Option Value → Hp → Prop) (h : P (some (.int v.1)) (st v.2 hs)) : Ev (d + 1) ix_X12_image 0 0 [.ref 76] (st S hs) P := by
  refine Ev.intro (M := mi_X12_image) rfl (Nat.le_of_ble_eq_true rfl) ?_
  unfold r_X12_image at hr
  refine Wp.stepsG 29 (fun cal X P' hk hX hP => ?_)
  show X (55, [some (.ref 76), some (.int 0)], [], st (sI (sI (sI (sI (sI (sI (sI S 76 42 1) 76 43 (S.1 76 11)) 76 44 (S.1 76 0)) 76 45 (S.1 76 1)) 76 46 (S.1 76 2)) 76 47 (S.1 76 37)) 76 48 (S.1 76 40)) hs, 0, 0)
  refine hX _ ?_
  clear hP hX hk P' X cal
  obtain ⟨q1, hq1, hr⟩ := bd_some hr
  refine (e_lp_X12_image_55 d hs P _ 0 (sI (sI (sI (sI (sI (sI (sI S 76 42 1) 76 43 (S.1 76 11)) 76 44 (S.1 76 0)) 76 45 (S.1 76 1)) 76 46 (S.1 76 2)) 76 47 (S.1 76 37)) 76 48 (S.1 76 40)) q1 hq1 ?_)
  refine Wp.stepsG 2 (fun cal X P' hk hX hP => ?_)
  show X (93, [some (.ref 76), some (.int 0)], [], st q1 hs, 0, 0)
  refine hX _ ?_
  clear hP hX hk P' X cal
  obtain ⟨q2, hq2, hr⟩ := bd_some hr
  refine (e_lp_X12_image_93 d hs P _ 0 q1 q2 hq2 ?_)
  refine Wp.stepsG 2 (fun cal X P' hk hX hP => ?_)
  show X (155, [some (.ref 76), some (.int 0)], [], st q2 hs, 0, 0)
  refine hX _ ?_
  clear hP hX hk P' X cal
  obtain ⟨q3, hq3, hr⟩ := bd_some hr
  refine (e_lp_X12_image_155 d hs P _ 0 q2 q3 hq3 ?_)
  refine Wp.stepsG 2 (fun cal X P' hk hX hP => ?_)
  show X (181, [some (.ref 76), some (.int 0)], [], st q3 hs, 0, 0)
  refine hX _ ?_
  clear hP hX hk P' X cal
  obtain ⟨q4, hq4, hr⟩ := bd_some hr
  refine (e_lp_X12_image_181 d hs P _ 0 q3 q4 hq4 ?_)
  refine Wp.stepsG 2 (fun cal X P' hk hX hP => ?_)
  show X (219, [some (.ref 76), some (.int 0)], [], st q4 hs, 0, 0)
  refine hX _ ?_
  clear hP hX hk P' X cal
  obtain ⟨q5, hq5, hr⟩ := bd_some hr
  refine (e_lp_X12_image_219 d hs P _ 0 q4 q5 hq5 ?_)
  have hr := Option.some.inj hr
  subst hr
  refine Wp.stepsG 3 (fun cal X P' hk hX hP => ?_)
  exact hP _ _ h
def lp_X12_undo_60 : Nat → Int32 → St → Option (St)
  | 0, _, _ => none
  | n + 1, v1, S =>
    if 8 ≤ v1 then
      some S
    else
      gd (¬ (v1 < 0 ∨ 8 ≤ v1.toNatClampNeg)) (
        gd (¬ (v1 < 0 ∨ 8 ≤ v1.toNatClampNeg)) (
          gd (¬ (v1 < 0 ∨ 8 ≤ v1.toNatClampNeg)) (
            gd (¬ (v1 < 0 ∨ 8 ≤ v1.toNatClampNeg)) (
              lp_X12_undo_60 n (v1 + 1) (sA (sA S 77 (upd (S.1 77) v1.toNatClampNeg ((S.1 104) v1.toNatClampNeg))) 78 (upd (S.1 78) v1.toNatClampNeg ((S.1 105) v1.toNatClampNeg)))))))
set_option maxRecDepth 20000 in
set_option maxHeartbeats 4000000 in
theorem e_lp_X12_undo_60 (d : Nat) (hs : List Hr) (P : Option Value → Hp → Prop) : ∀ (n : Nat) (v1 : Int32) (S : St) (q : St), lp_X12_undo_60 n v1 S = some q → (WM mi_X12_undo (d + 0) P 96 [some (.ref 76), none] [] (st q hs)) → WM mi_X12_undo (d + 0) P 60 [some (.ref 76), some (.int v1)] [] (st S hs) := by
  intro n
  induction n with
  | zero =>
    intro v1 S q hl
    cases hl
  | succ n ih =>
    intro v1 S q hl ct
    rw [lp_X12_undo_60] at hl
    refine Wp.stepsG 3 (fun cal X P' hk hX hP => ?_)
    show (8 ≤ v1 → X (96, [some (.ref 76), some (.int v1)], [], st S hs, 0, 0)) ∧ (¬ 8 ≤ v1 → X (66, [some (.ref 76), some (.int v1)], [], st S hs, 0, 0))
    refine ⟨fun hc => hX _ ?_, fun hc => hX _ ?_⟩
    · clear hP hX hk P' X cal
      rw [if_pos hc] at hl
      have hl := Option.some.inj hl
      subst hl
      exact Wp.weak (leL.k (leL.n leL.z)) (ct)
    · clear hP hX hk P' X cal
      rw [if_neg hc] at hl
      refine Wp.stepsG 7 (fun cal X P' hk hX hP => ?_)
      show vp_in v1 8 ∧ X (77, [some (.ref 76), some (.int v1)], [.int ((S.1 104) v1.toNatClampNeg), .int v1, .ref 77], st S hs, 0, 0)
      obtain ⟨hg, hl⟩ := gd_some hl
      refine ⟨hg, hX _ ?_⟩
      clear hP hX hk P' X cal
      refine Wp.stepsG 1 (fun cal X P' hk hX hP => ?_)
      show vp_in v1 8 ∧ X (78, [some (.ref 76), some (.int v1)], [], st (sA S 77 (upd (S.1 77) v1.toNatClampNeg ((S.1 104) v1.toNatClampNeg))) hs, 0, 0)
      obtain ⟨hg, hl⟩ := gd_some hl
      refine ⟨hg, hX _ ?_⟩
      clear hP hX hk P' X cal
      refine Wp.stepsG 7 (fun cal X P' hk hX hP => ?_)
      show vp_in v1 8 ∧ X (89, [some (.ref 76), some (.int v1)], [.int ((S.1 105) v1.toNatClampNeg), .int v1, .ref 78], st (sA S 77 (upd (S.1 77) v1.toNatClampNeg ((S.1 104) v1.toNatClampNeg))) hs, 0, 0)
      obtain ⟨hg, hl⟩ := gd_some hl
      refine ⟨hg, hX _ ?_⟩
      clear hP hX hk P' X cal
      refine Wp.stepsG 1 (fun cal X P' hk hX hP => ?_)
      show vp_in v1 8 ∧ X (90, [some (.ref 76), some (.int v1)], [], st (sA (sA S 77 (upd (S.1 77) v1.toNatClampNeg ((S.1 104) v1.toNatClampNeg))) 78 (upd (S.1 78) v1.toNatClampNeg ((S.1 105) v1.toNatClampNeg))) hs, 0, 0)
      obtain ⟨hg, hl⟩ := gd_some hl
      refine ⟨hg, hX _ ?_⟩
      clear hP hX hk P' X cal
      refine Wp.stepsG 2 (fun cal X P' hk hX hP => ?_)
      show X (60, [some (.ref 76), some (.int (v1 + 1))], [], st (sA (sA S 77 (upd (S.1 77) v1.toNatClampNeg ((S.1 104) v1.toNatClampNeg))) 78 (upd (S.1 78) v1.toNatClampNeg ((S.1 105) v1.toNatClampNeg))) hs, 0, 0)
      refine hX _ ?_
      exact (ih (v1 + 1) (sA (sA S 77 (upd (S.1 77) v1.toNatClampNeg ((S.1 104) v1.toNatClampNeg))) 78 (upd (S.1 78) v1.toNatClampNeg ((S.1 105) v1.toNatClampNeg))) q hl ct)
def lp_X12_undo_98 : Nat → Int32 → St → Option (St)
  | 0, _, _ => none
  | n + 1, v1, S =>
    if 6 ≤ v1 then
      some S
    else
      gd (¬ (v1 < 0 ∨ 6 ≤ v1.toNatClampNeg)) (
        gd (¬ (v1 < 0 ∨ 6 ≤ v1.toNatClampNeg)) (
          gd (¬ (v1 < 0 ∨ 6 ≤ v1.toNatClampNeg)) (
            gd (¬ (v1 < 0 ∨ 6 ≤ v1.toNatClampNeg)) (
              gd (¬ (v1 < 0 ∨ 6 ≤ v1.toNatClampNeg)) (
                gd (¬ (v1 < 0 ∨ 6 ≤ v1.toNatClampNeg)) (
                  gd (¬ (v1 < 0 ∨ 6 ≤ v1.toNatClampNeg)) (
                    gd (¬ (v1 < 0 ∨ 6 ≤ v1.toNatClampNeg)) (
                      lp_X12_undo_98 n (v1 + 1) (sA (sA (sA (sA S 79 (upd (S.1 79) v1.toNatClampNeg ((S.1 106) v1.toNatClampNeg))) 80 (upd (S.1 80) v1.toNatClampNeg ((S.1 107) v1.toNatClampNeg))) 101 (upd (S.1 101) v1.toNatClampNeg ((S.1 111) v1.toNatClampNeg))) 102 (upd (S.1 102) v1.toNatClampNeg ((S.1 112) v1.toNatClampNeg)))))))))))
set_option maxRecDepth 20000 in
set_option maxHeartbeats 4000000 in
theorem e_lp_X12_undo_98 (d : Nat) (hs : List Hr) (P : Option Value → Hp → Prop) : ∀ (n : Nat) (v1 : Int32) (S : St) (q : St), lp_X12_undo_98 n v1 S = some q → (WM mi_X12_undo (d + 0) P 158 [some (.ref 76), none] [] (st q hs)) → WM mi_X12_undo (d + 0) P 98 [some (.ref 76), some (.int v1)] [] (st S hs) := by
  intro n
  induction n with
  | zero =>
    intro v1 S q hl
    cases hl
  | succ n ih =>
    intro v1 S q hl ct
    rw [lp_X12_undo_98] at hl
    refine Wp.stepsG 3 (fun cal X P' hk hX hP => ?_)
    show (6 ≤ v1 → X (158, [some (.ref 76), some (.int v1)], [], st S hs, 0, 0)) ∧ (¬ 6 ≤ v1 → X (104, [some (.ref 76), some (.int v1)], [], st S hs, 0, 0))
    refine ⟨fun hc => hX _ ?_, fun hc => hX _ ?_⟩
    · clear hP hX hk P' X cal
      rw [if_pos hc] at hl
      have hl := Option.some.inj hl
      subst hl
      exact Wp.weak (leL.k (leL.n leL.z)) (ct)
    · clear hP hX hk P' X cal
      rw [if_neg hc] at hl
      refine Wp.stepsG 7 (fun cal X P' hk hX hP => ?_)
      show vp_in v1 6 ∧ X (115, [some (.ref 76), some (.int v1)], [.int ((S.1 106) v1.toNatClampNeg), .int v1, .ref 79], st S hs, 0, 0)
      obtain ⟨hg, hl⟩ := gd_some hl
      refine ⟨hg, hX _ ?_⟩
      clear hP hX hk P' X cal
      refine Wp.stepsG 1 (fun cal X P' hk hX hP => ?_)
      show vp_in v1 6 ∧ X (116, [some (.ref 76), some (.int v1)], [], st (sA S 79 (upd (S.1 79) v1.toNatClampNeg ((S.1 106) v1.toNatClampNeg))) hs, 0, 0)
      obtain ⟨hg, hl⟩ := gd_some hl
      refine ⟨hg, hX _ ?_⟩
      clear hP hX hk P' X cal
      refine Wp.stepsG 7 (fun cal X P' hk hX hP => ?_)
      show vp_in v1 6 ∧ X (127, [some (.ref 76), some (.int v1)], [.int ((S.1 107) v1.toNatClampNeg), .int v1, .ref 80], st (sA S 79 (upd (S.1 79) v1.toNatClampNeg ((S.1 106) v1.toNatClampNeg))) hs, 0, 0)
      obtain ⟨hg, hl⟩ := gd_some hl
      refine ⟨hg, hX _ ?_⟩
      clear hP hX hk P' X cal
      refine Wp.stepsG 1 (fun cal X P' hk hX hP => ?_)
      show vp_in v1 6 ∧ X (128, [some (.ref 76), some (.int v1)], [], st (sA (sA S 79 (upd (S.1 79) v1.toNatClampNeg ((S.1 106) v1.toNatClampNeg))) 80 (upd (S.1 80) v1.toNatClampNeg ((S.1 107) v1.toNatClampNeg))) hs, 0, 0)
      obtain ⟨hg, hl⟩ := gd_some hl
      refine ⟨hg, hX _ ?_⟩
      clear hP hX hk P' X cal
      refine Wp.stepsG 7 (fun cal X P' hk hX hP => ?_)
      show vp_in v1 6 ∧ X (139, [some (.ref 76), some (.int v1)], [.int ((S.1 111) v1.toNatClampNeg), .int v1, .ref 101], st (sA (sA S 79 (upd (S.1 79) v1.toNatClampNeg ((S.1 106) v1.toNatClampNeg))) 80 (upd (S.1 80) v1.toNatClampNeg ((S.1 107) v1.toNatClampNeg))) hs, 0, 0)
      obtain ⟨hg, hl⟩ := gd_some hl
      refine ⟨hg, hX _ ?_⟩
      clear hP hX hk P' X cal
      refine Wp.stepsG 1 (fun cal X P' hk hX hP => ?_)
      show vp_in v1 6 ∧ X (140, [some (.ref 76), some (.int v1)], [], st (sA (sA (sA S 79 (upd (S.1 79) v1.toNatClampNeg ((S.1 106) v1.toNatClampNeg))) 80 (upd (S.1 80) v1.toNatClampNeg ((S.1 107) v1.toNatClampNeg))) 101 (upd (S.1 101) v1.toNatClampNeg ((S.1 111) v1.toNatClampNeg))) hs, 0, 0)
      obtain ⟨hg, hl⟩ := gd_some hl
      refine ⟨hg, hX _ ?_⟩
      clear hP hX hk P' X cal
      refine Wp.stepsG 7 (fun cal X P' hk hX hP => ?_)
      show vp_in v1 6 ∧ X (151, [some (.ref 76), some (.int v1)], [.int ((S.1 112) v1.toNatClampNeg), .int v1, .ref 102], st (sA (sA (sA S 79 (upd (S.1 79) v1.toNatClampNeg ((S.1 106) v1.toNatClampNeg))) 80 (upd (S.1 80) v1.toNatClampNeg ((S.1 107) v1.toNatClampNeg))) 101 (upd (S.1 101) v1.toNatClampNeg ((S.1 111) v1.toNatClampNeg))) hs, 0, 0)
      obtain ⟨hg, hl⟩ := gd_some hl
      refine ⟨hg, hX _ ?_⟩
      clear hP hX hk P' X cal
      refine Wp.stepsG 1 (fun cal X P' hk hX hP => ?_)
      show vp_in v1 6 ∧ X (152, [some (.ref 76), some (.int v1)], [], st (sA (sA (sA (sA S 79 (upd (S.1 79) v1.toNatClampNeg ((S.1 106) v1.toNatClampNeg))) 80 (upd (S.1 80) v1.toNatClampNeg ((S.1 107) v1.toNatClampNeg))) 101 (upd (S.1 101) v1.toNatClampNeg ((S.1 111) v1.toNatClampNeg))) 102 (upd (S.1 102) v1.toNatClampNeg ((S.1 112) v1.toNatClampNeg))) hs, 0, 0)
      obtain ⟨hg, hl⟩ := gd_some hl
      refine ⟨hg, hX _ ?_⟩
      clear hP hX hk P' X cal
      refine Wp.stepsG 2 (fun cal X P' hk hX hP => ?_)
      show X (98, [some (.ref 76), some (.int (v1 + 1))], [], st (sA (sA (sA (sA S 79 (upd (S.1 79) v1.toNatClampNeg ((S.1 106) v1.toNatClampNeg))) 80 (upd (S.1 80) v1.toNatClampNeg ((S.1 107) v1.toNatClampNeg))) 101 (upd (S.1 101) v1.toNatClampNeg ((S.1 111) v1.toNatClampNeg))) 102 (upd (S.1 102) v1.toNatClampNeg ((S.1 112) v1.toNatClampNeg))) hs, 0, 0)
      refine hX _ ?_
      exact (ih (v1 + 1) (sA (sA (sA (sA S 79 (upd (S.1 79) v1.toNatClampNeg ((S.1 106) v1.toNatClampNeg))) 80 (upd (S.1 80) v1.toNatClampNeg ((S.1 107) v1.toNatClampNeg))) 101 (upd (S.1 101) v1.toNatClampNeg ((S.1 111) v1.toNatClampNeg))) 102 (upd (S.1 102) v1.toNatClampNeg ((S.1 112) v1.toNatClampNeg))) q hl ct)
def lp_X12_undo_160 : Nat → Int32 → St → Option (St)
  | 0, _, _ => none
  | n + 1, v1, S =>
    if 24 ≤ v1 then
      some S
    else
      gd (¬ (v1 < 0 ∨ 24 ≤ v1.toNatClampNeg)) (
        gd (¬ (v1 < 0 ∨ 24 ≤ v1.toNatClampNeg)) (
          lp_X12_undo_160 n (v1 + 1) (sA S 81 (upd (S.1 81) v1.toNatClampNeg ((S.1 108) v1.toNatClampNeg)))))
set_option maxRecDepth 20000 in
set_option maxHeartbeats 4000000 in
theorem e_lp_X12_undo_160 (d : Nat) (hs : List Hr) (P : Option Value → Hp → Prop) : ∀ (n : Nat) (v1 : Int32) (S : St) (q : St), lp_X12_undo_160 n v1 S = some q → (WM mi_X12_undo (d + 0) P 184 [some (.ref 76), none] [] (st q hs)) → WM mi_X12_undo (d + 0) P 160 [some (.ref 76), some (.int v1)] [] (st S hs) := by
  intro n
  induction n with
  | zero =>
    intro v1 S q hl
    cases hl
  | succ n ih =>
    intro v1 S q hl ct
    rw [lp_X12_undo_160] at hl
    refine Wp.stepsG 3 (fun cal X P' hk hX hP => ?_)
    show (24 ≤ v1 → X (184, [some (.ref 76), some (.int v1)], [], st S hs, 0, 0)) ∧ (¬ 24 ≤ v1 → X (166, [some (.ref 76), some (.int v1)], [], st S hs, 0, 0))
    refine ⟨fun hc => hX _ ?_, fun hc => hX _ ?_⟩
    · clear hP hX hk P' X cal
      rw [if_pos hc] at hl
      have hl := Option.some.inj hl
      subst hl
      exact Wp.weak (leL.k (leL.n leL.z)) (ct)
    · clear hP hX hk P' X cal
      rw [if_neg hc] at hl
      refine Wp.stepsG 7 (fun cal X P' hk hX hP => ?_)
      show vp_in v1 24 ∧ X (177, [some (.ref 76), some (.int v1)], [.int ((S.1 108) v1.toNatClampNeg), .int v1, .ref 81], st S hs, 0, 0)
      obtain ⟨hg, hl⟩ := gd_some hl
      refine ⟨hg, hX _ ?_⟩
      clear hP hX hk P' X cal
      refine Wp.stepsG 1 (fun cal X P' hk hX hP => ?_)
      show vp_in v1 24 ∧ X (178, [some (.ref 76), some (.int v1)], [], st (sA S 81 (upd (S.1 81) v1.toNatClampNeg ((S.1 108) v1.toNatClampNeg))) hs, 0, 0)
      obtain ⟨hg, hl⟩ := gd_some hl
      refine ⟨hg, hX _ ?_⟩
      clear hP hX hk P' X cal
      refine Wp.stepsG 2 (fun cal X P' hk hX hP => ?_)
      show X (160, [some (.ref 76), some (.int (v1 + 1))], [], st (sA S 81 (upd (S.1 81) v1.toNatClampNeg ((S.1 108) v1.toNatClampNeg))) hs, 0, 0)
      refine hX _ ?_
      exact (ih (v1 + 1) (sA S 81 (upd (S.1 81) v1.toNatClampNeg ((S.1 108) v1.toNatClampNeg))) q hl ct)
def lp_X12_undo_186 : Nat → Int32 → St → Option (St)
  | 0, _, _ => none
  | n + 1, v1, S =>
    if 48 ≤ v1 then
      some S
    else
      gd (¬ (v1 < 0 ∨ 48 ≤ v1.toNatClampNeg)) (
        gd (¬ (v1 < 0 ∨ 48 ≤ v1.toNatClampNeg)) (
          gd (¬ (v1 < 0 ∨ 48 ≤ v1.toNatClampNeg)) (
            gd (¬ (v1 < 0 ∨ 48 ≤ v1.toNatClampNeg)) (
              lp_X12_undo_186 n (v1 + 1) (sA (sA S 82 (upd (S.1 82) v1.toNatClampNeg ((S.1 109) v1.toNatClampNeg))) 83 (upd (S.1 83) v1.toNatClampNeg ((S.1 110) v1.toNatClampNeg)))))))
set_option maxRecDepth 20000 in
set_option maxHeartbeats 4000000 in
theorem e_lp_X12_undo_186 (d : Nat) (hs : List Hr) (P : Option Value → Hp → Prop) : ∀ (n : Nat) (v1 : Int32) (S : St) (q : St), lp_X12_undo_186 n v1 S = some q → (WM mi_X12_undo (d + 0) P 222 [some (.ref 76), none] [] (st q hs)) → WM mi_X12_undo (d + 0) P 186 [some (.ref 76), some (.int v1)] [] (st S hs) := by
  intro n
  induction n with
  | zero =>
    intro v1 S q hl
    cases hl
  | succ n ih =>
    intro v1 S q hl ct
    rw [lp_X12_undo_186] at hl
    refine Wp.stepsG 3 (fun cal X P' hk hX hP => ?_)
    show (48 ≤ v1 → X (222, [some (.ref 76), some (.int v1)], [], st S hs, 0, 0)) ∧ (¬ 48 ≤ v1 → X (192, [some (.ref 76), some (.int v1)], [], st S hs, 0, 0))
    refine ⟨fun hc => hX _ ?_, fun hc => hX _ ?_⟩
    · clear hP hX hk P' X cal
      rw [if_pos hc] at hl
      have hl := Option.some.inj hl
      subst hl
      exact Wp.weak (leL.k (leL.n leL.z)) (ct)
    · clear hP hX hk P' X cal
      rw [if_neg hc] at hl
      refine Wp.stepsG 7 (fun cal X P' hk hX hP => ?_)
      show vp_in v1 48 ∧ X (203, [some (.ref 76), some (.int v1)], [.int ((S.1 109) v1.toNatClampNeg), .int v1, .ref 82], st S hs, 0, 0)
      obtain ⟨hg, hl⟩ := gd_some hl
      refine ⟨hg, hX _ ?_⟩
      clear hP hX hk P' X cal
      refine Wp.stepsG 1 (fun cal X P' hk hX hP => ?_)
      show vp_in v1 48 ∧ X (204, [some (.ref 76), some (.int v1)], [], st (sA S 82 (upd (S.1 82) v1.toNatClampNeg ((S.1 109) v1.toNatClampNeg))) hs, 0, 0)
      obtain ⟨hg, hl⟩ := gd_some hl
      refine ⟨hg, hX _ ?_⟩
      clear hP hX hk P' X cal
      refine Wp.stepsG 7 (fun cal X P' hk hX hP => ?_)
      show vp_in v1 48 ∧ X (215, [some (.ref 76), some (.int v1)], [.int ((S.1 110) v1.toNatClampNeg), .int v1, .ref 83], st (sA S 82 (upd (S.1 82) v1.toNatClampNeg ((S.1 109) v1.toNatClampNeg))) hs, 0, 0)
      obtain ⟨hg, hl⟩ := gd_some hl
      refine ⟨hg, hX _ ?_⟩
      clear hP hX hk P' X cal
      refine Wp.stepsG 1 (fun cal X P' hk hX hP => ?_)
      show vp_in v1 48 ∧ X (216, [some (.ref 76), some (.int v1)], [], st (sA (sA S 82 (upd (S.1 82) v1.toNatClampNeg ((S.1 109) v1.toNatClampNeg))) 83 (upd (S.1 83) v1.toNatClampNeg ((S.1 110) v1.toNatClampNeg))) hs, 0, 0)
      obtain ⟨hg, hl⟩ := gd_some hl
      refine ⟨hg, hX _ ?_⟩
      clear hP hX hk P' X cal
      refine Wp.stepsG 2 (fun cal X P' hk hX hP => ?_)
      show X (186, [some (.ref 76), some (.int (v1 + 1))], [], st (sA (sA S 82 (upd (S.1 82) v1.toNatClampNeg ((S.1 109) v1.toNatClampNeg))) 83 (upd (S.1 83) v1.toNatClampNeg ((S.1 110) v1.toNatClampNeg))) hs, 0, 0)
      refine hX _ ?_
      exact (ih (v1 + 1) (sA (sA S 82 (upd (S.1 82) v1.toNatClampNeg ((S.1 109) v1.toNatClampNeg))) 83 (upd (S.1 83) v1.toNatClampNeg ((S.1 110) v1.toNatClampNeg))) q hl ct)
def lp_X12_undo_224 : Nat → Int32 → St → Option (St)
  | 0, _, _ => none
  | n + 1, v1, S =>
    if 10 ≤ v1 then
      some S
    else
      gd (¬ (v1 < 0 ∨ 10 ≤ v1.toNatClampNeg)) (
        gd (¬ (v1 < 0 ∨ 10 ≤ v1.toNatClampNeg)) (
          lp_X12_undo_224 n (v1 + 1) (sA S 103 (upd (S.1 103) v1.toNatClampNeg ((S.1 113) v1.toNatClampNeg)))))
set_option maxRecDepth 20000 in
set_option maxHeartbeats 4000000 in
theorem e_lp_X12_undo_224 (d : Nat) (hs : List Hr) (P : Option Value → Hp → Prop) : ∀ (n : Nat) (v1 : Int32) (S : St) (q : St), lp_X12_undo_224 n v1 S = some q → (WM mi_X12_undo (d + 0) P 248 [some (.ref 76), none] [] (st q hs)) → WM mi_X12_undo (d + 0) P 224 [some (.ref 76), some (.int v1)] [] (st S hs) := by
  intro n
  induction n with
  | zero =>
    intro v1 S q hl
    cases hl
  | succ n ih =>
    intro v1 S q hl ct
    rw [lp_X12_undo_224] at hl
    refine Wp.stepsG 3 (fun cal X P' hk hX hP => ?_)
    show (10 ≤ v1 → X (248, [some (.ref 76), some (.int v1)], [], st S hs, 0, 0)) ∧ (¬ 10 ≤ v1 → X (230, [some (.ref 76), some (.int v1)], [], st S hs, 0, 0))
    refine ⟨fun hc => hX _ ?_, fun hc => hX _ ?_⟩
    · clear hP hX hk P' X cal
      rw [if_pos hc] at hl
      have hl := Option.some.inj hl
      subst hl
      exact Wp.weak (leL.k (leL.n leL.z)) (ct)
    · clear hP hX hk P' X cal
      rw [if_neg hc] at hl
      refine Wp.stepsG 7 (fun cal X P' hk hX hP => ?_)
      show vp_in v1 10 ∧ X (241, [some (.ref 76), some (.int v1)], [.int ((S.1 113) v1.toNatClampNeg), .int v1, .ref 103], st S hs, 0, 0)
      obtain ⟨hg, hl⟩ := gd_some hl
      refine ⟨hg, hX _ ?_⟩
      clear hP hX hk P' X cal
      refine Wp.stepsG 1 (fun cal X P' hk hX hP => ?_)
      show vp_in v1 10 ∧ X (242, [some (.ref 76), some (.int v1)], [], st (sA S 103 (upd (S.1 103) v1.toNatClampNeg ((S.1 113) v1.toNatClampNeg))) hs, 0, 0)
      obtain ⟨hg, hl⟩ := gd_some hl
      refine ⟨hg, hX _ ?_⟩
      clear hP hX hk P' X cal
      refine Wp.stepsG 2 (fun cal X P' hk hX hP => ?_)
      show X (224, [some (.ref 76), some (.int (v1 + 1))], [], st (sA S 103 (upd (S.1 103) v1.toNatClampNeg ((S.1 113) v1.toNatClampNeg))) hs, 0, 0)
      refine hX _ ?_
      exact (ih (v1 + 1) (sA S 103 (upd (S.1 103) v1.toNatClampNeg ((S.1 113) v1.toNatClampNeg))) q hl ct)
def r_X12_undo (S : St) : Option (Int32 × St) :=
  if (S.1 76 42) = 0 then
    some ((-3), S)
  else
    (lp_X12_undo_60 4000 0 (sI (sI (sI (sI (sI (sI S 76 11 (S.1 76 43)) 76 0 (S.1 76 44)) 76 1 (S.1 76 45)) 76 2 (S.1 76 46)) 76 37 (S.1 76 47)) 76 40 (S.1 76 48))).bind fun q1 =>
      (lp_X12_undo_98 4000 0 q1).bind fun q2 =>
        (lp_X12_undo_160 4000 0 q2).bind fun q3 =>
          (lp_X12_undo_186 4000 0 q3).bind fun q4 =>
            (lp_X12_undo_224 4000 0 q4).bind fun q5 =>
              some (q5.1 76 1, q5)
set_option maxRecDepth 20000 in
set_option maxHeartbeats 4000000 in
theorem e_X12_undo (d : Nat) (S : St) (hs : List Hr) (v : Int32 × St) (hr : r_X12_undo S = some v) (P : Option Value → Hp → Prop) (h : P (some (.int v.1)) (st v.2 hs)) : Ev (d + 1) ix_X12_undo 0 0 [.ref 76] (st S hs) P := by
  refine Ev.intro (M := mi_X12_undo) rfl (Nat.le_of_ble_eq_true rfl) ?_
  unfold r_X12_undo at hr
  refine Wp.stepsG 3 (fun cal X P' hk hX hP => ?_)
  show (¬ (S.1 76 42) = 0 → X (10, [some (.ref 76), none], [], st S hs, 0, 0)) ∧ ((S.1 76 42) = 0 → X (7, [some (.ref 76), none], [], st S hs, 0, 0))
  refine ⟨fun hc => hX _ ?_, fun hc => hX _ ?_⟩
  · clear hP hX hk P' X cal
    rw [if_neg hc] at hr
    refine Wp.stepsG 26 (fun cal X P' hk hX hP => ?_)
    show X (60, [some (.ref 76), some (.int 0)], [], st (sI (sI (sI (sI (sI (sI S 76 11 (S.1 76 43)) 76 0 (S.1 76 44)) 76 1 (S.1 76 45)) 76 2 (S.1 76 46)) 76 37 (S.1 76 47)) 76 40 (S.1 76 48)) hs, 0, 0)
    refine hX _ ?_
    clear hP hX hk P' X cal
    obtain ⟨q1, hq1, hr⟩ := bd_some hr
    refine (e_lp_X12_undo_60 d hs P _ 0 (sI (sI (sI (sI (sI (sI S 76 11 (S.1 76 43)) 76 0 (S.1 76 44)) 76 1 (S.1 76 45)) 76 2 (S.1 76 46)) 76 37 (S.1 76 47)) 76 40 (S.1 76 48)) q1 hq1 ?_)
    refine Wp.stepsG 2 (fun cal X P' hk hX hP => ?_)
    show X (98, [some (.ref 76), some (.int 0)], [], st q1 hs, 0, 0)
    refine hX _ ?_
    clear hP hX hk P' X cal
    obtain ⟨q2, hq2, hr⟩ := bd_some hr
    refine (e_lp_X12_undo_98 d hs P _ 0 q1 q2 hq2 ?_)
    refine Wp.stepsG 2 (fun cal X P' hk hX hP => ?_)
    show X (160, [some (.ref 76), some (.int 0)], [], st q2 hs, 0, 0)
    refine hX _ ?_
    clear hP hX hk P' X cal
    obtain ⟨q3, hq3, hr⟩ := bd_some hr
    refine (e_lp_X12_undo_160 d hs P _ 0 q2 q3 hq3 ?_)
    refine Wp.stepsG 2 (fun cal X P' hk hX hP => ?_)
    show X (186, [some (.ref 76), some (.int 0)], [], st q3 hs, 0, 0)
    refine hX _ ?_
    clear hP hX hk P' X cal
    obtain ⟨q4, hq4, hr⟩ := bd_some hr
    refine (e_lp_X12_undo_186 d hs P _ 0 q3 q4 hq4 ?_)
    refine Wp.stepsG 2 (fun cal X P' hk hX hP => ?_)
    show X (224, [some (.ref 76), some (.int 0)], [], st q4 hs, 0, 0)
    refine hX _ ?_
    clear hP hX hk P' X cal
    obtain ⟨q5, hq5, hr⟩ := bd_some hr
    refine (e_lp_X12_undo_224 d hs P _ 0 q4 q5 hq5 ?_)
    have hr := Option.some.inj hr
    subst hr
    refine Wp.stepsG 3 (fun cal X P' hk hX hP => ?_)
    exact hP _ _ h
  · clear hP hX hk P' X cal
    rw [if_pos hc] at hr
    have hr := Option.some.inj hr
    subst hr
    refine Wp.stepsG 2 (fun cal X P' hk hX hP => ?_)
    exact hP _ _ h
def r_X12_body (S : St) (a1 : Int32) : Option (Int32 × St) :=
  if 20 ≤ (S.1 76 59) then
    some (0, sI S 76 59 ((S.1 76 59) + 1))
  else
    gd (¬ ((S.1 76 59) < 0 ∨ 20 ≤ (S.1 76 59).toNatClampNeg)) (
      some (0, sI (sA S 114 (upd (S.1 114) (S.1 76 59).toNatClampNeg a1)) 76 59 ((S.1 76 59) + 1)))
set_option maxRecDepth 20000 in
set_option maxHeartbeats 4000000 in
theorem e_X12_body (d : Nat) (S : St) (hs : List Hr) (a1 : Int32) (v : Int32 × St) (hr : r_X12_body S a1 = some v) (P : Option Value → Hp → Prop) (h : P none (st v.2 hs)) : Ev (d + 1) ix_X12_body 0 0 [.ref 76, .int a1] (st S hs) P := by
  refine Ev.intro (M := mi_X12_body) rfl (Nat.le_of_ble_eq_true rfl) ?_
  unfold r_X12_body at hr
  refine Wp.stepsG 4 (fun cal X P' hk hX hP => ?_)
  show (20 ≤ (S.1 76 59) → X (19, [some (.ref 76), some (.int a1)], [], st S hs, 0, 0)) ∧ (¬ 20 ≤ (S.1 76 59) → X (9, [some (.ref 76), some (.int a1)], [], st S hs, 0, 0))
  refine ⟨fun hc => hX _ ?_, fun hc => hX _ ?_⟩
  · clear hP hX hk P' X cal
    rw [if_pos hc] at hr
    have hr := Option.some.inj hr
    subst hr
    refine Wp.stepsG 7 (fun cal X P' hk hX hP => ?_)
    exact hP _ _ h
  · clear hP hX hk P' X cal
    rw [if_neg hc] at hr
    refine Wp.stepsG 6 (fun cal X P' hk hX hP => ?_)
    show vp_in (S.1 76 59) 20 ∧ X (19, [some (.ref 76), some (.int a1)], [], st (sA S 114 (upd (S.1 114) (S.1 76 59).toNatClampNeg a1)) hs, 0, 0)
    obtain ⟨hg, hr⟩ := gd_some hr
    refine ⟨hg, hX _ ?_⟩
    clear hP hX hk P' X cal
    have hr := Option.some.inj hr
    subst hr
    refine Wp.stepsG 7 (fun cal X P' hk hX hP => ?_)
    exact hP _ _ h
def r_X12_hearerHears (S : St) (a1 : Int32) (a2 : Int32) : Option (Int32 × St) :=
  (r_X12_body S 10).bind fun q1 =>
  some (a2 + a1, q1.2)
set_option maxRecDepth 20000 in
set_option maxHeartbeats 4000000 in
theorem e_X12_hearerHears (d : Nat) (S : St) (hs : List Hr) (a1 : Int32) (a2 : Int32) (v : Int32 × St) (hr : r_X12_hearerHears S a1 a2 = some v) (P : Option Value → Hp → Prop) (h : P (some (.int v.1)) (st v.2 hs)) : Ev (d + 2) ix_X12_hearerHears 0 0 [.ref 76, .int a1, .int a2] (st S hs) P := by
  refine Ev.intro (M := mi_X12_hearerHears) rfl (Nat.le_of_ble_eq_true rfl) ?_
  unfold r_X12_hearerHears at hr
  refine Wp.stepsG 3 (fun cal X P' hk hX hP => ?_)
  show kcall cal ix_X12_body [.ref 76, .int 10] (st S hs) [] 0 0 (0, 0) (fun v σ' c' m' => X (6, [some (.ref 76), some (.int a1), some (.int a2)], v.toList ++ [], σ', c', m'))
  obtain ⟨q1, hq1, hr⟩ := bd_some hr
  refine kcall0 rfl (hk _ _ _ _ _ _ (e_X12_body (d + 0) S hs 10 q1 hq1 _ ?_))
  show X (6, [some (.ref 76), some (.int a1), some (.int a2)], [], st q1.2 hs, 0, 0)
  refine hX _ ?_
  clear hP hX hk P' X cal
  have hr := Option.some.inj hr
  subst hr
  refine Wp.stepsG 4 (fun cal X P' hk hX hP => ?_)
  exact hP _ _ h
def r_X12_hearsAct (S : St) (a1 : Int32) (a2 : Int32) : Option (Int32 × St) :=
  gd (¬ (a1 < 0 ∨ 6 ≤ a1.toNatClampNeg)) (
    if ((S.1 79) a1.toNatClampNeg) = 2 then
      (r_X12_body S 30).bind fun q1 =>
      (r_X12_hearerHears q1.2 a1 (a2 * 3)).bind fun q2 =>
      some (q2.1, q2.2)
    else
    if ((S.1 79) a1.toNatClampNeg) = 3 then
      (r_X12_hearerHears S a1 a2).bind fun q3 =>
      some (q3.1, q3.2)
    else
    if ((S.1 79) a1.toNatClampNeg) = 4 then
      (r_X12_body S 50).bind fun q4 =>
      (r_X12_hearerHears q4.2 a1 a2).bind fun q5 =>
      some (-q5.1, q5.2)
    else
    if ((S.1 79) a1.toNatClampNeg) = 5 then
      (r_X12_body S 30).bind fun q6 =>
      (r_X12_hearerHears q6.2 a1 (a2 * 3)).bind fun q7 =>
      some (q7.1, q7.2)
    else
    if ((S.1 79) a1.toNatClampNeg) = 6 then
      (r_X12_body S 71).bind fun q8 =>
      (r_X12_hearerHears q8.2 a1 a2).bind fun q9 =>
      gd (¬ (a1 < 0 ∨ 6 ≤ a1.toNatClampNeg)) (
        some (q9.1 ^^^ ((q9.2.1 80) a1.toNatClampNeg), q9.2))
    else
      (r_X12_hearerHears S a1 a2).bind fun q10 =>
      some (q10.1, q10.2))
set_option maxRecDepth 20000 in
set_option maxHeartbeats 4000000 in
theorem e_X12_hearsAct (d : Nat) (S : St) (hs : List Hr) (a1 : Int32) (a2 : Int32) (v : Int32 × St) (hr : r_X12_hearsAct S a1 a2 = some v) (P : Option Value → Hp → Prop) (h : P (some (.int v.1)) (st v.2 hs)) : Ev (d + 3) ix_X12_hearsAct 0 0 [.ref 76, .int a1, .int a2] (st S hs) P := by
  refine Ev.intro (M := mi_X12_hearsAct) rfl (Nat.le_of_ble_eq_true rfl) ?_
  unfold r_X12_hearsAct at hr
  refine Wp.stepsG 4 (fun cal X P' hk hX hP => ?_)
  show vp_in a1 6 ∧ X (6, [some (.ref 76), some (.int a1), some (.int a2)], [.int ((S.1 79) a1.toNatClampNeg)], st S hs, 0, 0)
  obtain ⟨hg, hr⟩ := gd_some hr
  refine ⟨hg, hX _ ?_⟩
  clear hP hX hk P' X cal
  refine Wp.stepsG 1 (fun cal X P' hk hX hP => ?_)
  show (((S.1 79) a1.toNatClampNeg) = 2 → X (40, [some (.ref 76), some (.int a1), some (.int a2)], [], st S hs, 0, 0)) ∧ (¬ ((S.1 79) a1.toNatClampNeg) = 2 → (((S.1 79) a1.toNatClampNeg) = 3 → X (89, [some (.ref 76), some (.int a1), some (.int a2)], [], st S hs, 0, 0)) ∧ (¬ ((S.1 79) a1.toNatClampNeg) = 3 → (((S.1 79) a1.toNatClampNeg) = 4 → X (55, [some (.ref 76), some (.int a1), some (.int a2)], [], st S hs, 0, 0)) ∧ (¬ ((S.1 79) a1.toNatClampNeg) = 4 → (((S.1 79) a1.toNatClampNeg) = 5 → X (40, [some (.ref 76), some (.int a1), some (.int a2)], [], st S hs, 0, 0)) ∧ (¬ ((S.1 79) a1.toNatClampNeg) = 5 → (((S.1 79) a1.toNatClampNeg) = 6 → X (69, [some (.ref 76), some (.int a1), some (.int a2)], [], st S hs, 0, 0)) ∧ (¬ ((S.1 79) a1.toNatClampNeg) = 6 → X (89, [some (.ref 76), some (.int a1), some (.int a2)], [], st S hs, 0, 0))))))
  refine ⟨fun hc => hX _ ?_, fun hc => ?_⟩
  · clear hP hX hk P' X cal
    rw [if_pos hc] at hr
    refine Wp.stepsG 3 (fun cal X P' hk hX hP => ?_)
    show kcall cal ix_X12_body [.ref 76, .int 30] (st S hs) [] 0 0 (0, 0) (fun v σ' c' m' => X (46, [some (.ref 76), some (.int a1), some (.int a2)], v.toList ++ [], σ', c', m'))
    obtain ⟨q1, hq1, hr⟩ := bd_some hr
    refine kcall0 rfl (hk _ _ _ _ _ _ (e_X12_body (d + 1) S hs 30 q1 hq1 _ ?_))
    show X (46, [some (.ref 76), some (.int a1), some (.int a2)], [], st q1.2 hs, 0, 0)
    refine hX _ ?_
    clear hP hX hk P' X cal
    refine Wp.stepsG 6 (fun cal X P' hk hX hP => ?_)
    show kcall cal ix_X12_hearerHears [.ref 76, .int a1, .int (a2 * 3)] (st q1.2 hs) [] 0 0 (0, 0) (fun v σ' c' m' => X (54, [some (.ref 76), some (.int a1), some (.int a2)], v.toList ++ [], σ', c', m'))
    obtain ⟨q2, hq2, hr⟩ := bd_some hr
    refine kcall0 rfl (hk _ _ _ _ _ _ (e_X12_hearerHears (d + 0) q1.2 hs a1 (a2 * 3) q2 hq2 _ ?_))
    show X (54, [some (.ref 76), some (.int a1), some (.int a2)], [.int q2.1], st q2.2 hs, 0, 0)
    refine hX _ ?_
    clear hP hX hk P' X cal
    have hr := Option.some.inj hr
    subst hr
    refine Wp.stepsG 1 (fun cal X P' hk hX hP => ?_)
    exact hP _ _ h
  · rw [if_neg hc] at hr
    refine ⟨fun hc => hX _ ?_, fun hc => ?_⟩
    · clear hP hX hk P' X cal
      rw [if_pos hc] at hr
      refine Wp.stepsG 4 (fun cal X P' hk hX hP => ?_)
      show kcall cal ix_X12_hearerHears [.ref 76, .int a1, .int a2] (st S hs) [] 0 0 (0, 0) (fun v σ' c' m' => X (95, [some (.ref 76), some (.int a1), some (.int a2)], v.toList ++ [], σ', c', m'))
      obtain ⟨q3, hq3, hr⟩ := bd_some hr
      refine kcall0 rfl (hk _ _ _ _ _ _ (e_X12_hearerHears (d + 0) S hs a1 a2 q3 hq3 _ ?_))
      show X (95, [some (.ref 76), some (.int a1), some (.int a2)], [.int q3.1], st q3.2 hs, 0, 0)
      refine hX _ ?_
      clear hP hX hk P' X cal
      have hr := Option.some.inj hr
      subst hr
      refine Wp.stepsG 1 (fun cal X P' hk hX hP => ?_)
      exact hP _ _ h
    · rw [if_neg hc] at hr
      refine ⟨fun hc => hX _ ?_, fun hc => ?_⟩
      · clear hP hX hk P' X cal
        rw [if_pos hc] at hr
        refine Wp.stepsG 3 (fun cal X P' hk hX hP => ?_)
        show kcall cal ix_X12_body [.ref 76, .int 50] (st S hs) [] 0 0 (0, 0) (fun v σ' c' m' => X (61, [some (.ref 76), some (.int a1), some (.int a2)], v.toList ++ [], σ', c', m'))
        obtain ⟨q4, hq4, hr⟩ := bd_some hr
        refine kcall0 rfl (hk _ _ _ _ _ _ (e_X12_body (d + 1) S hs 50 q4 hq4 _ ?_))
        show X (61, [some (.ref 76), some (.int a1), some (.int a2)], [], st q4.2 hs, 0, 0)
        refine hX _ ?_
        clear hP hX hk P' X cal
        refine Wp.stepsG 4 (fun cal X P' hk hX hP => ?_)
        show kcall cal ix_X12_hearerHears [.ref 76, .int a1, .int a2] (st q4.2 hs) [] 0 0 (0, 0) (fun v σ' c' m' => X (67, [some (.ref 76), some (.int a1), some (.int a2)], v.toList ++ [], σ', c', m'))
        obtain ⟨q5, hq5, hr⟩ := bd_some hr
        refine kcall0 rfl (hk _ _ _ _ _ _ (e_X12_hearerHears (d + 0) q4.2 hs a1 a2 q5 hq5 _ ?_))
        show X (67, [some (.ref 76), some (.int a1), some (.int a2)], [.int q5.1], st q5.2 hs, 0, 0)
        refine hX _ ?_
        clear hP hX hk P' X cal
        have hr := Option.some.inj hr
        subst hr
        refine Wp.stepsG 2 (fun cal X P' hk hX hP => ?_)
        exact hP _ _ h
      · rw [if_neg hc] at hr
        refine ⟨fun hc => hX _ ?_, fun hc => ?_⟩
        · clear hP hX hk P' X cal
          rw [if_pos hc] at hr
          refine Wp.stepsG 3 (fun cal X P' hk hX hP => ?_)
          show kcall cal ix_X12_body [.ref 76, .int 30] (st S hs) [] 0 0 (0, 0) (fun v σ' c' m' => X (46, [some (.ref 76), some (.int a1), some (.int a2)], v.toList ++ [], σ', c', m'))
          obtain ⟨q6, hq6, hr⟩ := bd_some hr
          refine kcall0 rfl (hk _ _ _ _ _ _ (e_X12_body (d + 1) S hs 30 q6 hq6 _ ?_))
          show X (46, [some (.ref 76), some (.int a1), some (.int a2)], [], st q6.2 hs, 0, 0)
          refine hX _ ?_
          clear hP hX hk P' X cal
          refine Wp.stepsG 6 (fun cal X P' hk hX hP => ?_)
          show kcall cal ix_X12_hearerHears [.ref 76, .int a1, .int (a2 * 3)] (st q6.2 hs) [] 0 0 (0, 0) (fun v σ' c' m' => X (54, [some (.ref 76), some (.int a1), some (.int a2)], v.toList ++ [], σ', c', m'))
          obtain ⟨q7, hq7, hr⟩ := bd_some hr
          refine kcall0 rfl (hk _ _ _ _ _ _ (e_X12_hearerHears (d + 0) q6.2 hs a1 (a2 * 3) q7 hq7 _ ?_))
          show X (54, [some (.ref 76), some (.int a1), some (.int a2)], [.int q7.1], st q7.2 hs, 0, 0)
          refine hX _ ?_
          clear hP hX hk P' X cal
          have hr := Option.some.inj hr
          subst hr
          refine Wp.stepsG 1 (fun cal X P' hk hX hP => ?_)
          exact hP _ _ h
        · rw [if_neg hc] at hr
          refine ⟨fun hc => hX _ ?_, fun hc => hX _ ?_⟩
          · clear hP hX hk P' X cal
            rw [if_pos hc] at hr
            refine Wp.stepsG 3 (fun cal X P' hk hX hP => ?_)
            show kcall cal ix_X12_body [.ref 76, .int 71] (st S hs) [] 0 0 (0, 0) (fun v σ' c' m' => X (75, [some (.ref 76), some (.int a1), some (.int a2)], v.toList ++ [], σ', c', m'))
            obtain ⟨q8, hq8, hr⟩ := bd_some hr
            refine kcall0 rfl (hk _ _ _ _ _ _ (e_X12_body (d + 1) S hs 71 q8 hq8 _ ?_))
            show X (75, [some (.ref 76), some (.int a1), some (.int a2)], [], st q8.2 hs, 0, 0)
            refine hX _ ?_
            clear hP hX hk P' X cal
            refine Wp.stepsG 4 (fun cal X P' hk hX hP => ?_)
            show kcall cal ix_X12_hearerHears [.ref 76, .int a1, .int a2] (st q8.2 hs) [] 0 0 (0, 0) (fun v σ' c' m' => X (81, [some (.ref 76), some (.int a1), some (.int a2)], v.toList ++ [], σ', c', m'))
            obtain ⟨q9, hq9, hr⟩ := bd_some hr
            refine kcall0 rfl (hk _ _ _ _ _ _ (e_X12_hearerHears (d + 0) q8.2 hs a1 a2 q9 hq9 _ ?_))
            show X (81, [some (.ref 76), some (.int a1), some (.int a2)], [.int q9.1], st q9.2 hs, 0, 0)
            refine hX _ ?_
            clear hP hX hk P' X cal
            refine Wp.stepsG 4 (fun cal X P' hk hX hP => ?_)
            show vp_in a1 6 ∧ X (87, [some (.ref 76), some (.int a1), some (.int a2)], [.int ((q9.2.1 80) a1.toNatClampNeg), .int q9.1], st q9.2 hs, 0, 0)
            obtain ⟨hg, hr⟩ := gd_some hr
            refine ⟨hg, hX _ ?_⟩
            clear hP hX hk P' X cal
            have hr := Option.some.inj hr
            subst hr
            refine Wp.stepsG 2 (fun cal X P' hk hX hP => ?_)
            exact hP _ _ h
          · rw [if_neg hc] at hr
            clear hP hX hk P' X cal
            refine Wp.stepsG 4 (fun cal X P' hk hX hP => ?_)
            show kcall cal ix_X12_hearerHears [.ref 76, .int a1, .int a2] (st S hs) [] 0 0 (0, 0) (fun v σ' c' m' => X (95, [some (.ref 76), some (.int a1), some (.int a2)], v.toList ++ [], σ', c', m'))
            obtain ⟨q10, hq10, hr⟩ := bd_some hr
            refine kcall0 rfl (hk _ _ _ _ _ _ (e_X12_hearerHears (d + 0) S hs a1 a2 q10 hq10 _ ?_))
            show X (95, [some (.ref 76), some (.int a1), some (.int a2)], [.int q10.1], st q10.2 hs, 0, 0)
            refine hX _ ?_
            clear hP hX hk P' X cal
            have hr := Option.some.inj hr
            subst hr
            refine Wp.stepsG 1 (fun cal X P' hk hX hP => ?_)
            exact hP _ _ h
def r_X12_hearerLaughs (S : St) (a1 : Int32) (a2 : Int32) : Option (Int32 × St) :=
  (r_X12_body S 11).bind fun q1 =>
  (r_X12_hearsAct q1.2 a1 a2).bind fun q2 =>
  gd (¬ (a1 < 0 ∨ 6 ≤ a1.toNatClampNeg)) (
    some (q2.1 - ((q2.2.1 80) a1.toNatClampNeg), q2.2))
set_option maxRecDepth 20000 in
set_option maxHeartbeats 4000000 in
theorem e_X12_hearerLaughs (d : Nat) (S : St) (hs : List Hr) (a1 : Int32) (a2 : Int32) (v : Int32 × St) (hr : r_X12_hearerLaughs S a1 a2 = some v) (P : Option Value → Hp → Prop) (h : P (some (.int v.1)) (st v.2 hs)) : Ev (d + 4) ix_X12_hearerLaughs 0 0 [.ref 76, .int a1, .int a2] (st S hs) P := by
  refine Ev.intro (M := mi_X12_hearerLaughs) rfl (Nat.le_of_ble_eq_true rfl) ?_
  unfold r_X12_hearerLaughs at hr
  refine Wp.stepsG 3 (fun cal X P' hk hX hP => ?_)
  show kcall cal ix_X12_body [.ref 76, .int 11] (st S hs) [] 0 0 (0, 0) (fun v σ' c' m' => X (6, [some (.ref 76), some (.int a1), some (.int a2)], v.toList ++ [], σ', c', m'))
  obtain ⟨q1, hq1, hr⟩ := bd_some hr
  refine kcall0 rfl (hk _ _ _ _ _ _ (e_X12_body (d + 2) S hs 11 q1 hq1 _ ?_))
  show X (6, [some (.ref 76), some (.int a1), some (.int a2)], [], st q1.2 hs, 0, 0)
  refine hX _ ?_
  clear hP hX hk P' X cal
  refine Wp.stepsG 4 (fun cal X P' hk hX hP => ?_)
  show kcall cal ix_X12_hearsAct [.ref 76, .int a1, .int a2] (st q1.2 hs) [] 0 0 (0, 0) (fun v σ' c' m' => X (12, [some (.ref 76), some (.int a1), some (.int a2)], v.toList ++ [], σ', c', m'))
  obtain ⟨q2, hq2, hr⟩ := bd_some hr
  refine kcall0 rfl (hk _ _ _ _ _ _ (e_X12_hearsAct (d + 0) q1.2 hs a1 a2 q2 hq2 _ ?_))
  show X (12, [some (.ref 76), some (.int a1), some (.int a2)], [.int q2.1], st q2.2 hs, 0, 0)
  refine hX _ ?_
  clear hP hX hk P' X cal
  refine Wp.stepsG 4 (fun cal X P' hk hX hP => ?_)
  show vp_in a1 6 ∧ X (18, [some (.ref 76), some (.int a1), some (.int a2)], [.int ((q2.2.1 80) a1.toNatClampNeg), .int q2.1], st q2.2 hs, 0, 0)
  obtain ⟨hg, hr⟩ := gd_some hr
  refine ⟨hg, hX _ ?_⟩
  clear hP hX hk P' X cal
  have hr := Option.some.inj hr
  subst hr
  refine Wp.stepsG 2 (fun cal X P' hk hX hP => ?_)
  exact hP _ _ h
