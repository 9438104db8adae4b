def r_X12_factOf (S : St) (a1 : Int32) (a2 : Int32) (a3 : Int32) : Option Int32 :=
  if a1 = 0 then
    some a2
  else
  if a1 = 1 then
    gd (¬ (a2 < 0 ∨ 6 ≤ a2.toNatClampNeg)) (
      some ((S.1 79) a2.toNatClampNeg))
  else
  if a1 = 2 then
    some a3
  else
  if a1 = 3 then
    gd (¬ (a3 < 0 ∨ 8 ≤ a3.toNatClampNeg)) (
      some ((S.1 77) a3.toNatClampNeg))
  else
  if a1 = 4 then
    gd (¬ ((((8 : Int32) * a2) + a3) < 0 ∨ 48 ≤ (((8 : Int32) * a2) + a3).toNatClampNeg)) (
      if ((S.1 82) (((8 : Int32) * a2) + a3).toNatClampNeg) ≤ 99 then
        gd (¬ ((((8 : Int32) * a2) + a3) < 0 ∨ 48 ≤ (((8 : Int32) * a2) + a3).toNatClampNeg)) (
          some ((S.1 82) (((8 : Int32) * a2) + a3).toNatClampNeg))
      else
        some 99)
  else
    some ((S.1 76 2) - (S.1 76 2) / 7 * 7)
set_option maxRecDepth 20000 in
set_option maxHeartbeats 4000000 in
theorem e_X12_factOf (d : Nat) (S : St) (hs : List Hr) (a1 : Int32) (a2 : Int32) (a3 : Int32) (v : Int32) (hr : r_X12_factOf S a1 a2 a3 = some v) (P : Option Value → Hp → Prop) (h : P (some (.int v)) (st S hs)) : Ev (d + 1) ix_X12_factOf 0 0 [.ref 76, .int a1, .int a2, .int a3] (st S hs) P := by
  refine Ev.intro (M := mi_X12_factOf) rfl (Nat.le_of_ble_eq_true rfl) ?_
  unfold r_X12_factOf at hr
  refine Wp.stepsG 2 (fun cal X P' hk hX hP => ?_)
  show (a1 = 0 → X (36, [some (.ref 76), some (.int a1), some (.int a2), some (.int a3)], [], st S hs, 0, 0)) ∧ (¬ a1 = 0 → (a1 = 1 → X (38, [some (.ref 76), some (.int a1), some (.int a2), some (.int a3)], [], st S hs, 0, 0)) ∧ (¬ a1 = 1 → (a1 = 2 → X (45, [some (.ref 76), some (.int a1), some (.int a2), some (.int a3)], [], st S hs, 0, 0)) ∧ (¬ a1 = 2 → (a1 = 3 → X (47, [some (.ref 76), some (.int a1), some (.int a2), some (.int a3)], [], st S hs, 0, 0)) ∧ (¬ a1 = 3 → (a1 = 4 → X (54, [some (.ref 76), some (.int a1), some (.int a2), some (.int a3)], [], st S hs, 0, 0)) ∧ (¬ a1 = 4 → X (87, [some (.ref 76), some (.int a1), some (.int a2), some (.int a3)], [], st S hs, 0, 0))))))
  refine ⟨fun hc => hX _ ?_, fun hc => ?_⟩
  · clear hP hX hk P' X cal
    rw [if_pos hc] at hr
    have hr := Option.some.inj hr
    subst hr
    refine Wp.stepsG 2 (fun cal X P' hk hX hP => ?_)
    exact hP _ _ h
  · rw [if_neg hc] at hr
    refine ⟨fun hc => hX _ ?_, fun hc => ?_⟩
    · clear hP hX hk P' X cal
      rw [if_pos hc] at hr
      refine Wp.stepsG 4 (fun cal X P' hk hX hP => ?_)
      show vp_in a2 6 ∧ X (44, [some (.ref 76), some (.int a1), some (.int a2), some (.int a3)], [.int ((S.1 79) a2.toNatClampNeg)], st S hs, 0, 0)
      obtain ⟨hg, hr⟩ := gd_some hr
      refine ⟨hg, hX _ ?_⟩
      clear hP hX hk P' X cal
      have hr := Option.some.inj hr
      subst hr
      refine Wp.stepsG 1 (fun cal X P' hk hX hP => ?_)
      exact hP _ _ h
    · rw [if_neg hc] at hr
      refine ⟨fun hc => hX _ ?_, fun hc => ?_⟩
      · clear hP hX hk P' X cal
        rw [if_pos hc] at hr
        have hr := Option.some.inj hr
        subst hr
        refine Wp.stepsG 2 (fun cal X P' hk hX hP => ?_)
        exact hP _ _ h
      · rw [if_neg hc] at hr
        refine ⟨fun hc => hX _ ?_, fun hc => ?_⟩
        · clear hP hX hk P' X cal
          rw [if_pos hc] at hr
          refine Wp.stepsG 4 (fun cal X P' hk hX hP => ?_)
          show vp_in a3 8 ∧ X (53, [some (.ref 76), some (.int a1), some (.int a2), some (.int a3)], [.int ((S.1 77) a3.toNatClampNeg)], st S hs, 0, 0)
          obtain ⟨hg, hr⟩ := gd_some hr
          refine ⟨hg, hX _ ?_⟩
          clear hP hX hk P' X cal
          have hr := Option.some.inj hr
          subst hr
          refine Wp.stepsG 1 (fun cal X P' hk hX hP => ?_)
          exact hP _ _ h
        · rw [if_neg hc] at hr
          refine ⟨fun hc => hX _ ?_, fun hc => hX _ ?_⟩
          · clear hP hX hk P' X cal
            rw [if_pos hc] at hr
            refine Wp.stepsG 8 (fun cal X P' hk hX hP => ?_)
            show vp_in (((8 : Int32) * a2) + a3) 48 ∧ X (65, [some (.ref 76), some (.int a1), some (.int a2), some (.int a3)], [.int ((S.1 82) (((8 : Int32) * a2) + a3).toNatClampNeg)], st S hs, 0, 0)
            obtain ⟨hg, hr⟩ := gd_some hr
            refine ⟨hg, hX _ ?_⟩
            clear hP hX hk P' X cal
            refine Wp.stepsG 2 (fun cal X P' hk hX hP => ?_)
            show (((S.1 82) (((8 : Int32) * a2) + a3).toNatClampNeg) ≤ 99 → X (75, [some (.ref 76), some (.int a1), some (.int a2), some (.int a3)], [], st S hs, 0, 0)) ∧ (¬ ((S.1 82) (((8 : Int32) * a2) + a3).toNatClampNeg) ≤ 99 → X (70, [some (.ref 76), some (.int a1), some (.int a2), some (.int a3)], [], st S hs, 0, 0))
            refine ⟨fun hc => hX _ ?_, fun hc => hX _ ?_⟩
            · clear hP hX hk P' X cal
              rw [if_pos hc] at hr
              refine Wp.stepsG 8 (fun cal X P' hk hX hP => ?_)
              show vp_in (((8 : Int32) * a2) + a3) 48 ∧ X (86, [some (.ref 76), some (.int a1), some (.int a2), some (.int a3)], [.int ((S.1 82) (((8 : Int32) * a2) + a3).toNatClampNeg)], st S hs, 0, 0)
              obtain ⟨hg, hr⟩ := gd_some hr
              refine ⟨hg, hX _ ?_⟩
              clear hP hX hk P' X cal
              have hr := Option.some.inj hr
              subst hr
              refine Wp.stepsG 1 (fun cal X P' hk hX hP => ?_)
              exact hP _ _ h
            · clear hP hX hk P' X cal
              rw [if_neg hc] at hr
              have hr := Option.some.inj hr
              subst hr
              refine Wp.stepsG 3 (fun cal X P' hk hX hP => ?_)
              exact hP _ _ h
          · rw [if_neg hc] at hr
            clear hP hX hk P' X cal
            refine Wp.stepsG 4 (fun cal X P' hk hX hP => ?_)
            show ¬ (7 : Int32) = 0 ∧ X (94, [some (.ref 76), some (.int a1), some (.int a2), some (.int a3)], [.int ((S.1 76 2) - (S.1 76 2) / 7 * 7)], st S hs, 0, 0)
            refine ⟨(show ¬ (7 : Int32) = 0 from by decide), hX _ ?_⟩
            clear hP hX hk P' X cal
            have hr := Option.some.inj hr
            subst hr
            refine Wp.stepsG 1 (fun cal X P' hk hX hP => ?_)
            exact hP _ _ h
def lp_X12_holds_11 (f1 : Int32) (f2 : Int32) (f3 : Int32) : Nat → Int32 → Int32 → St → Option (St)
  | 0, _, _, _ => none
  | n + 1, v4, v5, S =>
    gd (¬ (f1 < 0 ∨ 60 ≤ f1.toNatClampNeg)) (
      if ((S.1 89) f1.toNatClampNeg) ≤ v5 then
        some S
      else
        gd (¬ (v5 < 0 ∨ 600 ≤ v5.toNatClampNeg)) (
          if ((S.1 90) v5.toNatClampNeg) = (-33) then
            gd (¬ ((v4 - 1) < 0 ∨ 100 ≤ (v4 - 1).toNatClampNeg)) (
              if ((S.1 93) (v4 - 1).toNatClampNeg) = 0 then
                gd (¬ ((v4 - 1) < 0 ∨ 100 ≤ (v4 - 1).toNatClampNeg)) (
                  lp_X12_holds_11 f1 f2 f3 n v4 (v5 + 1) (sA S 93 (upd (S.1 93) (v4 - 1).toNatClampNeg (vp_nar .boolean 1))))
              else
                gd (¬ ((v4 - 1) < 0 ∨ 100 ≤ (v4 - 1).toNatClampNeg)) (
                  lp_X12_holds_11 f1 f2 f3 n v4 (v5 + 1) (sA S 93 (upd (S.1 93) (v4 - 1).toNatClampNeg (vp_nar .boolean 0)))))
          else
            if 0 ≤ ((S.1 90) v5.toNatClampNeg) then
              (r_X12_factOf S (((S.1 90) v5.toNatClampNeg) / 1000) f2 f3).bind fun q1 =>
              if ((((S.1 90) v5.toNatClampNeg) / 100) - (((S.1 90) v5.toNatClampNeg) / 100) / 10 * 10) = 0 then
                if (((S.1 90) v5.toNatClampNeg) - ((S.1 90) v5.toNatClampNeg) / 100 * 100) ≤ q1 then
                  gd (¬ (v4 < 0 ∨ 100 ≤ v4.toNatClampNeg)) (
                    lp_X12_holds_11 f1 f2 f3 n (v4 + 1) (v5 + 1) (sA S 93 (upd (S.1 93) v4.toNatClampNeg (vp_nar .boolean 0))))
                else
                  gd (¬ (v4 < 0 ∨ 100 ≤ v4.toNatClampNeg)) (
                    lp_X12_holds_11 f1 f2 f3 n (v4 + 1) (v5 + 1) (sA S 93 (upd (S.1 93) v4.toNatClampNeg (vp_nar .boolean 1))))
              else
                if ((((S.1 90) v5.toNatClampNeg) / 100) - (((S.1 90) v5.toNatClampNeg) / 100) / 10 * 10) = 1 then
                  if q1 = (((S.1 90) v5.toNatClampNeg) - ((S.1 90) v5.toNatClampNeg) / 100 * 100) then
                    gd (¬ (v4 < 0 ∨ 100 ≤ v4.toNatClampNeg)) (
                      lp_X12_holds_11 f1 f2 f3 n (v4 + 1) (v5 + 1) (sA S 93 (upd (S.1 93) v4.toNatClampNeg (vp_nar .boolean 1))))
                  else
                    gd (¬ (v4 < 0 ∨ 100 ≤ v4.toNatClampNeg)) (
                      lp_X12_holds_11 f1 f2 f3 n (v4 + 1) (v5 + 1) (sA S 93 (upd (S.1 93) v4.toNatClampNeg (vp_nar .boolean 0))))
                else
                  if q1 ≤ (((S.1 90) v5.toNatClampNeg) - ((S.1 90) v5.toNatClampNeg) / 100 * 100) then
                    gd (¬ (v4 < 0 ∨ 100 ≤ v4.toNatClampNeg)) (
                      lp_X12_holds_11 f1 f2 f3 n (v4 + 1) (v5 + 1) (sA S 93 (upd (S.1 93) v4.toNatClampNeg (vp_nar .boolean 0))))
                  else
                    gd (¬ (v4 < 0 ∨ 100 ≤ v4.toNatClampNeg)) (
                      lp_X12_holds_11 f1 f2 f3 n (v4 + 1) (v5 + 1) (sA S 93 (upd (S.1 93) v4.toNatClampNeg (vp_nar .boolean 1))))
            else
              if ((S.1 90) v5.toNatClampNeg) = (-38) then
                gd (¬ (((v4 + (-1)) - 1) < 0 ∨ 100 ≤ ((v4 + (-1)) - 1).toNatClampNeg)) (
                  if ((S.1 93) ((v4 + (-1)) - 1).toNatClampNeg) = 0 then
                    gd (¬ (((v4 + (-1)) - 1) < 0 ∨ 100 ≤ ((v4 + (-1)) - 1).toNatClampNeg)) (
                      lp_X12_holds_11 f1 f2 f3 n (v4 + (-1)) (v5 + 1) (sA S 93 (upd (S.1 93) ((v4 + (-1)) - 1).toNatClampNeg (vp_nar .boolean 0))))
                  else
                    gd (¬ ((v4 + (-1)) < 0 ∨ 100 ≤ (v4 + (-1)).toNatClampNeg)) (
                      if ((S.1 93) (v4 + (-1)).toNatClampNeg) = 0 then
                        gd (¬ (((v4 + (-1)) - 1) < 0 ∨ 100 ≤ ((v4 + (-1)) - 1).toNatClampNeg)) (
                          lp_X12_holds_11 f1 f2 f3 n (v4 + (-1)) (v5 + 1) (sA S 93 (upd (S.1 93) ((v4 + (-1)) - 1).toNatClampNeg (vp_nar .boolean 0))))
                      else
                        gd (¬ (((v4 + (-1)) - 1) < 0 ∨ 100 ≤ ((v4 + (-1)) - 1).toNatClampNeg)) (
                          lp_X12_holds_11 f1 f2 f3 n (v4 + (-1)) (v5 + 1) (sA S 93 (upd (S.1 93) ((v4 + (-1)) - 1).toNatClampNeg (vp_nar .boolean 1))))))
              else
                gd (¬ (((v4 + (-1)) - 1) < 0 ∨ 100 ≤ ((v4 + (-1)) - 1).toNatClampNeg)) (
                  if ((S.1 93) ((v4 + (-1)) - 1).toNatClampNeg) = 0 then
                    gd (¬ ((v4 + (-1)) < 0 ∨ 100 ≤ (v4 + (-1)).toNatClampNeg)) (
                      if ((S.1 93) (v4 + (-1)).toNatClampNeg) = 0 then
                        gd (¬ (((v4 + (-1)) - 1) < 0 ∨ 100 ≤ ((v4 + (-1)) - 1).toNatClampNeg)) (
                          lp_X12_holds_11 f1 f2 f3 n (v4 + (-1)) (v5 + 1) (sA S 93 (upd (S.1 93) ((v4 + (-1)) - 1).toNatClampNeg (vp_nar .boolean 0))))
                      else
                        gd (¬ (((v4 + (-1)) - 1) < 0 ∨ 100 ≤ ((v4 + (-1)) - 1).toNatClampNeg)) (
                          lp_X12_holds_11 f1 f2 f3 n (v4 + (-1)) (v5 + 1) (sA S 93 (upd (S.1 93) ((v4 + (-1)) - 1).toNatClampNeg (vp_nar .boolean 1)))))
                  else
                    gd (¬ (((v4 + (-1)) - 1) < 0 ∨ 100 ≤ ((v4 + (-1)) - 1).toNatClampNeg)) (
                      lp_X12_holds_11 f1 f2 f3 n (v4 + (-1)) (v5 + 1) (sA S 93 (upd (S.1 93) ((v4 + (-1)) - 1).toNatClampNeg (vp_nar .boolean 1)))))))
set_option maxRecDepth 20000 in
set_option maxHeartbeats 4000000 in
theorem e_lp_X12_holds_11 (d : Nat) (hs : List Hr) (P : Option Value → Hp → Prop) (f1 : Int32) (f2 : Int32) (f3 : Int32) : ∀ (n : Nat) (v4 : Int32) (v5 : Int32) (S : St) (q : St), lp_X12_holds_11 f1 f2 f3 n v4 v5 S = some q → (WM mi_X12_holds (d + 1) P 253 [some (.ref 76), some (.int f1), some (.int f2), some (.int f3), none, none, none, none, none] [] (st q hs)) → WM mi_X12_holds (d + 1) P 11 [some (.ref 76), some (.int f1), some (.int f2), some (.int f3), some (.int v4), some (.int v5), none, none, none] [] (st S hs) := by
  intro n
  induction n with
  | zero =>
    intro v4 v5 S q hl
    cases hl
  | succ n ih =>
    intro v4 v5 S q hl ct
    rw [lp_X12_holds_11] at hl
    refine Wp.stepsG 5 (fun cal X P' hk hX hP => ?_)
    show vp_in f1 60 ∧ X (19, [some (.ref 76), some (.int f1), some (.int f2), some (.int f3), some (.int v4), some (.int v5), none, none, none], [.int ((S.1 89) f1.toNatClampNeg), .int v5], st S hs, 0, 0)
    obtain ⟨hg, hl⟩ := gd_some hl
    refine ⟨hg, hX _ ?_⟩
    clear hP hX hk P' X cal
    refine Wp.stepsG 1 (fun cal X P' hk hX hP => ?_)
    show (((S.1 89) f1.toNatClampNeg) ≤ v5 → X (253, [some (.ref 76), some (.int f1), some (.int f2), some (.int f3), some (.int v4), some (.int v5), none, none, none], [], st S hs, 0, 0)) ∧ (¬ ((S.1 89) f1.toNatClampNeg) ≤ v5 → X (22, [some (.ref 76), some (.int f1), some (.int f2), some (.int f3), some (.int v4), some (.int v5), none, none, none], [], st S hs, 0, 0))
    refine ⟨fun hc => hX _ ?_, fun hc => hX _ ?_⟩
    · clear hP hX hk P' X cal
      rw [if_pos hc] at hl
      have hl := Option.some.inj hl
      subst hl
      exact Wp.weak (leL.k (leL.k (leL.k (leL.k (leL.n (leL.n (leL.k (leL.k (leL.k leL.z))))))))) (ct)
    · clear hP hX hk P' X cal
      rw [if_neg hc] at hl
      refine Wp.stepsG 4 (fun cal X P' hk hX hP => ?_)
      show vp_in v5 600 ∧ X (29, [some (.ref 76), some (.int f1), some (.int f2), some (.int f3), some (.int v4), some (.int v5), none, none, none], [.int ((S.1 90) v5.toNatClampNeg)], st S hs, 0, 0)
      obtain ⟨hg, hl⟩ := gd_some hl
      refine ⟨hg, hX _ ?_⟩
      clear hP hX hk P' X cal
      refine Wp.stepsG 4 (fun cal X P' hk hX hP => ?_)
      show (¬ ((S.1 90) v5.toNatClampNeg) = (-33) → X (67, [some (.ref 76), some (.int f1), some (.int f2), some (.int f3), some (.int v4), some (.int v5), some (.int ((S.1 90) v5.toNatClampNeg)), none, none], [], st S hs, 0, 0)) ∧ (((S.1 90) v5.toNatClampNeg) = (-33) → X (38, [some (.ref 76), some (.int f1), some (.int f2), some (.int f3), some (.int v4), some (.int v5), some (.int ((S.1 90) v5.toNatClampNeg)), none, none], [], st S hs, 0, 0))
      refine ⟨fun hc => hX _ ?_, fun hc => hX _ ?_⟩
      · clear hP hX hk P' X cal
        rw [if_neg hc] at hl
        refine Wp.stepsG 2 (fun cal X P' hk hX hP => ?_)
        show (0 ≤ ((S.1 90) v5.toNatClampNeg) → X (151, [some (.ref 76), some (.int f1), some (.int f2), some (.int f3), some (.int v4), some (.int v5), some (.int ((S.1 90) v5.toNatClampNeg)), none, none], [], st S hs, 0, 0)) ∧ (¬ 0 ≤ ((S.1 90) v5.toNatClampNeg) → X (72, [some (.ref 76), some (.int f1), some (.int f2), some (.int f3), some (.int v4), some (.int v5), some (.int ((S.1 90) v5.toNatClampNeg)), none, none], [], st S hs, 0, 0))
        refine ⟨fun hc => hX _ ?_, fun hc => hX _ ?_⟩
        · clear hP hX hk P' X cal
          rw [if_pos hc] at hl
          refine Wp.stepsG 4 (fun cal X P' hk hX hP => ?_)
          show ¬ (1000 : Int32) = 0 ∧ X (158, [some (.ref 76), some (.int f1), some (.int f2), some (.int f3), some (.int v4), some (.int v5), some (.int ((S.1 90) v5.toNatClampNeg)), none, none], [.int (((S.1 90) v5.toNatClampNeg) / 1000), .ref 76], st S hs, 0, 0)
          refine ⟨(show ¬ (1000 : Int32) = 0 from by decide), hX _ ?_⟩
          clear hP hX hk P' X cal
          refine Wp.stepsG 3 (fun cal X P' hk hX hP => ?_)
          show kcall cal ix_X12_factOf [.ref 76, .int (((S.1 90) v5.toNatClampNeg) / 1000), .int f2, .int f3] (st S hs) [] 0 0 (0, 0) (fun v σ' c' m' => X (163, [some (.ref 76), some (.int f1), some (.int f2), some (.int f3), some (.int v4), some (.int v5), some (.int ((S.1 90) v5.toNatClampNeg)), none, none], v.toList ++ [], σ', c', m'))
          obtain ⟨q1, hq1, hl⟩ := bd_some hl
          refine kcall0 rfl (hk _ _ _ _ _ _ (e_X12_factOf (d + 0) S hs (((S.1 90) v5.toNatClampNeg) / 1000) f2 f3 q1 hq1 _ ?_))
          show X (163, [some (.ref 76), some (.int f1), some (.int f2), some (.int f3), some (.int v4), some (.int v5), some (.int ((S.1 90) v5.toNatClampNeg)), none, none], [.int q1], st S hs, 0, 0)
          refine hX _ ?_
          clear hP hX hk P' X cal
          refine Wp.stepsG 4 (fun cal X P' hk hX hP => ?_)
          show ¬ (100 : Int32) = 0 ∧ X (170, [some (.ref 76), some (.int f1), some (.int f2), some (.int f3), some (.int v4), some (.int v5), some (.int ((S.1 90) v5.toNatClampNeg)), some (.int q1), none], [.int (((S.1 90) v5.toNatClampNeg) / 100)], st S hs, 0, 0)
          refine ⟨(show ¬ (100 : Int32) = 0 from by decide), hX _ ?_⟩
          clear hP hX hk P' X cal
          refine Wp.stepsG 2 (fun cal X P' hk hX hP => ?_)
          show ¬ (10 : Int32) = 0 ∧ X (173, [some (.ref 76), some (.int f1), some (.int f2), some (.int f3), some (.int v4), some (.int v5), some (.int ((S.1 90) v5.toNatClampNeg)), some (.int q1), none], [.int ((((S.1 90) v5.toNatClampNeg) / 100) - (((S.1 90) v5.toNatClampNeg) / 100) / 10 * 10)], st S hs, 0, 0)
          refine ⟨(show ¬ (10 : Int32) = 0 from by decide), hX _ ?_⟩
          clear hP hX hk P' X cal
          refine Wp.stepsG 6 (fun cal X P' hk hX hP => ?_)
          show (¬ ((((S.1 90) v5.toNatClampNeg) / 100) - (((S.1 90) v5.toNatClampNeg) / 100) / 10 * 10) = 0 → X (204, [some (.ref 76), some (.int f1), some (.int f2), some (.int f3), some (.int v4), some (.int v5), some (.int ((S.1 90) v5.toNatClampNeg)), some (.int q1), some (.int ((((S.1 90) v5.toNatClampNeg) / 100) - (((S.1 90) v5.toNatClampNeg) / 100) / 10 * 10))], [.int v4, .ref 93], st S hs, 0, 0)) ∧ (((((S.1 90) v5.toNatClampNeg) / 100) - (((S.1 90) v5.toNatClampNeg) / 100) / 10 * 10) = 0 → X (186, [some (.ref 76), some (.int f1), some (.int f2), some (.int f3), some (.int v4), some (.int v5), some (.int ((S.1 90) v5.toNatClampNeg)), some (.int q1), some (.int ((((S.1 90) v5.toNatClampNeg) / 100) - (((S.1 90) v5.toNatClampNeg) / 100) / 10 * 10))], [.int v4, .ref 93], st S hs, 0, 0))
          refine ⟨fun hc => hX _ ?_, fun hc => hX _ ?_⟩
          · clear hP hX hk P' X cal
            rw [if_neg hc] at hl
            refine Wp.stepsG 3 (fun cal X P' hk hX hP => ?_)
            show (¬ ((((S.1 90) v5.toNatClampNeg) / 100) - (((S.1 90) v5.toNatClampNeg) / 100) / 10 * 10) = 1 → X (228, [some (.ref 76), some (.int f1), some (.int f2), some (.int f3), some (.int v4), some (.int v5), some (.int ((S.1 90) v5.toNatClampNeg)), some (.int q1), some (.int ((((S.1 90) v5.toNatClampNeg) / 100) - (((S.1 90) v5.toNatClampNeg) / 100) / 10 * 10))], [.int v4, .ref 93], st S hs, 0, 0)) ∧ (((((S.1 90) v5.toNatClampNeg) / 100) - (((S.1 90) v5.toNatClampNeg) / 100) / 10 * 10) = 1 → X (210, [some (.ref 76), some (.int f1), some (.int f2), some (.int f3), some (.int v4), some (.int v5), some (.int ((S.1 90) v5.toNatClampNeg)), some (.int q1), some (.int ((((S.1 90) v5.toNatClampNeg) / 100) - (((S.1 90) v5.toNatClampNeg) / 100) / 10 * 10))], [.int v4, .ref 93], st S hs, 0, 0))
            refine ⟨fun hc => hX _ ?_, fun hc => hX _ ?_⟩
            · clear hP hX hk P' X cal
              rw [if_neg hc] at hl
              refine Wp.stepsG 4 (fun cal X P' hk hX hP => ?_)
              show ¬ (100 : Int32) = 0 ∧ X (235, [some (.ref 76), some (.int f1), some (.int f2), some (.int f3), some (.int v4), some (.int v5), some (.int ((S.1 90) v5.toNatClampNeg)), some (.int q1), some (.int ((((S.1 90) v5.toNatClampNeg) / 100) - (((S.1 90) v5.toNatClampNeg) / 100) / 10 * 10))], [.int (((S.1 90) v5.toNatClampNeg) - ((S.1 90) v5.toNatClampNeg) / 100 * 100), .int q1, .int v4, .ref 93], st S hs, 0, 0)
              refine ⟨(show ¬ (100 : Int32) = 0 from by decide), hX _ ?_⟩
              clear hP hX hk P' X cal
              refine Wp.stepsG 1 (fun cal X P' hk hX hP => ?_)
              show (q1 ≤ (((S.1 90) v5.toNatClampNeg) - ((S.1 90) v5.toNatClampNeg) / 100 * 100) → X (242, [some (.ref 76), some (.int f1), some (.int f2), some (.int f3), some (.int v4), some (.int v5), some (.int ((S.1 90) v5.toNatClampNeg)), some (.int q1), some (.int ((((S.1 90) v5.toNatClampNeg) / 100) - (((S.1 90) v5.toNatClampNeg) / 100) / 10 * 10))], [.int v4, .ref 93], st S hs, 0, 0)) ∧ (¬ q1 ≤ (((S.1 90) v5.toNatClampNeg) - ((S.1 90) v5.toNatClampNeg) / 100 * 100) → X (238, [some (.ref 76), some (.int f1), some (.int f2), some (.int f3), some (.int v4), some (.int v5), some (.int ((S.1 90) v5.toNatClampNeg)), some (.int q1), some (.int ((((S.1 90) v5.toNatClampNeg) / 100) - (((S.1 90) v5.toNatClampNeg) / 100) / 10 * 10))], [.int v4, .ref 93], st S hs, 0, 0))
              refine ⟨fun hc => hX _ ?_, fun hc => hX _ ?_⟩
              · clear hP hX hk P' X cal
                rw [if_pos hc] at hl
                refine Wp.stepsG 2 (fun cal X P' hk hX hP => ?_)
                show vp_in v4 100 ∧ X (244, [some (.ref 76), some (.int f1), some (.int f2), some (.int f3), some (.int v4), some (.int v5), some (.int ((S.1 90) v5.toNatClampNeg)), some (.int q1), some (.int ((((S.1 90) v5.toNatClampNeg) / 100) - (((S.1 90) v5.toNatClampNeg) / 100) / 10 * 10))], [], st (sA S 93 (upd (S.1 93) v4.toNatClampNeg (vp_nar .boolean 0))) hs, 0, 0)
                obtain ⟨hg, hl⟩ := gd_some hl
                refine ⟨hg, hX _ ?_⟩
                clear hP hX hk P' X cal
                refine Wp.stepsG 3 (fun cal X P' hk hX hP => ?_)
                show X (11, [some (.ref 76), some (.int f1), some (.int f2), some (.int f3), some (.int (v4 + 1)), some (.int (v5 + 1)), some (.int ((S.1 90) v5.toNatClampNeg)), some (.int q1), some (.int ((((S.1 90) v5.toNatClampNeg) / 100) - (((S.1 90) v5.toNatClampNeg) / 100) / 10 * 10))], [], st (sA S 93 (upd (S.1 93) v4.toNatClampNeg (vp_nar .boolean 0))) hs, 0, 0)
                refine hX _ ?_
                exact Wp.weak (leL.k (leL.k (leL.k (leL.k (leL.k (leL.k (leL.n (leL.n (leL.n leL.z))))))))) (ih (v4 + 1) (v5 + 1) (sA S 93 (upd (S.1 93) v4.toNatClampNeg (vp_nar .boolean 0))) q hl ct)
              · clear hP hX hk P' X cal
                rw [if_neg hc] at hl
                refine Wp.stepsG 3 (fun cal X P' hk hX hP => ?_)
                show vp_in v4 100 ∧ X (244, [some (.ref 76), some (.int f1), some (.int f2), some (.int f3), some (.int v4), some (.int v5), some (.int ((S.1 90) v5.toNatClampNeg)), some (.int q1), some (.int ((((S.1 90) v5.toNatClampNeg) / 100) - (((S.1 90) v5.toNatClampNeg) / 100) / 10 * 10))], [], st (sA S 93 (upd (S.1 93) v4.toNatClampNeg (vp_nar .boolean 1))) hs, 0, 0)
                obtain ⟨hg, hl⟩ := gd_some hl
                refine ⟨hg, hX _ ?_⟩
                clear hP hX hk P' X cal
                refine Wp.stepsG 3 (fun cal X P' hk hX hP => ?_)
                show X (11, [some (.ref 76), some (.int f1), some (.int f2), some (.int f3), some (.int (v4 + 1)), some (.int (v5 + 1)), some (.int ((S.1 90) v5.toNatClampNeg)), some (.int q1), some (.int ((((S.1 90) v5.toNatClampNeg) / 100) - (((S.1 90) v5.toNatClampNeg) / 100) / 10 * 10))], [], st (sA S 93 (upd (S.1 93) v4.toNatClampNeg (vp_nar .boolean 1))) hs, 0, 0)
                refine hX _ ?_
                exact Wp.weak (leL.k (leL.k (leL.k (leL.k (leL.k (leL.k (leL.n (leL.n (leL.n leL.z))))))))) (ih (v4 + 1) (v5 + 1) (sA S 93 (upd (S.1 93) v4.toNatClampNeg (vp_nar .boolean 1))) q hl ct)
            · clear hP hX hk P' X cal
              rw [if_pos hc] at hl
              refine Wp.stepsG 4 (fun cal X P' hk hX hP => ?_)
              show ¬ (100 : Int32) = 0 ∧ X (217, [some (.ref 76), some (.int f1), some (.int f2), some (.int f3), some (.int v4), some (.int v5), some (.int ((S.1 90) v5.toNatClampNeg)), some (.int q1), some (.int ((((S.1 90) v5.toNatClampNeg) / 100) - (((S.1 90) v5.toNatClampNeg) / 100) / 10 * 10))], [.int (((S.1 90) v5.toNatClampNeg) - ((S.1 90) v5.toNatClampNeg) / 100 * 100), .int q1, .int v4, .ref 93], st S hs, 0, 0)
              refine ⟨(show ¬ (100 : Int32) = 0 from by decide), hX _ ?_⟩
              clear hP hX hk P' X cal
              refine Wp.stepsG 1 (fun cal X P' hk hX hP => ?_)
              show (¬ q1 = (((S.1 90) v5.toNatClampNeg) - ((S.1 90) v5.toNatClampNeg) / 100 * 100) → X (224, [some (.ref 76), some (.int f1), some (.int f2), some (.int f3), some (.int v4), some (.int v5), some (.int ((S.1 90) v5.toNatClampNeg)), some (.int q1), some (.int ((((S.1 90) v5.toNatClampNeg) / 100) - (((S.1 90) v5.toNatClampNeg) / 100) / 10 * 10))], [.int v4, .ref 93], st S hs, 0, 0)) ∧ (q1 = (((S.1 90) v5.toNatClampNeg) - ((S.1 90) v5.toNatClampNeg) / 100 * 100) → X (220, [some (.ref 76), some (.int f1), some (.int f2), some (.int f3), some (.int v4), some (.int v5), some (.int ((S.1 90) v5.toNatClampNeg)), some (.int q1), some (.int ((((S.1 90) v5.toNatClampNeg) / 100) - (((S.1 90) v5.toNatClampNeg) / 100) / 10 * 10))], [.int v4, .ref 93], st S hs, 0, 0))
              refine ⟨fun hc => hX _ ?_, fun hc => hX _ ?_⟩
              · clear hP hX hk P' X cal
                rw [if_neg hc] at hl
                refine Wp.stepsG 3 (fun cal X P' hk hX hP => ?_)
                show vp_in v4 100 ∧ X (244, [some (.ref 76), some (.int f1), some (.int f2), some (.int f3), some (.int v4), some (.int v5), some (.int ((S.1 90) v5.toNatClampNeg)), some (.int q1), some (.int ((((S.1 90) v5.toNatClampNeg) / 100) - (((S.1 90) v5.toNatClampNeg) / 100) / 10 * 10))], [], st (sA S 93 (upd (S.1 93) v4.toNatClampNeg (vp_nar .boolean 0))) hs, 0, 0)
                obtain ⟨hg, hl⟩ := gd_some hl
                refine ⟨hg, hX _ ?_⟩
                clear hP hX hk P' X cal
                refine Wp.stepsG 3 (fun cal X P' hk hX hP => ?_)
                show X (11, [some (.ref 76), some (.int f1), some (.int f2), some (.int f3), some (.int (v4 + 1)), some (.int (v5 + 1)), some (.int ((S.1 90) v5.toNatClampNeg)), some (.int q1), some (.int ((((S.1 90) v5.toNatClampNeg) / 100) - (((S.1 90) v5.toNatClampNeg) / 100) / 10 * 10))], [], st (sA S 93 (upd (S.1 93) v4.toNatClampNeg (vp_nar .boolean 0))) hs, 0, 0)
                refine hX _ ?_
                exact Wp.weak (leL.k (leL.k (leL.k (leL.k (leL.k (leL.k (leL.n (leL.n (leL.n leL.z))))))))) (ih (v4 + 1) (v5 + 1) (sA S 93 (upd (S.1 93) v4.toNatClampNeg (vp_nar .boolean 0))) q hl ct)
              · clear hP hX hk P' X cal
                rw [if_pos hc] at hl
                refine Wp.stepsG 3 (fun cal X P' hk hX hP => ?_)
                show vp_in v4 100 ∧ X (244, [some (.ref 76), some (.int f1), some (.int f2), some (.int f3), some (.int v4), some (.int v5), some (.int ((S.1 90) v5.toNatClampNeg)), some (.int q1), some (.int ((((S.1 90) v5.toNatClampNeg) / 100) - (((S.1 90) v5.toNatClampNeg) / 100) / 10 * 10))], [], st (sA S 93 (upd (S.1 93) v4.toNatClampNeg (vp_nar .boolean 1))) hs, 0, 0)
                obtain ⟨hg, hl⟩ := gd_some hl
                refine ⟨hg, hX _ ?_⟩
                clear hP hX hk P' X cal
                refine Wp.stepsG 3 (fun cal X P' hk hX hP => ?_)
                show X (11, [some (.ref 76), some (.int f1), some (.int f2), some (.int f3), some (.int (v4 + 1)), some (.int (v5 + 1)), some (.int ((S.1 90) v5.toNatClampNeg)), some (.int q1), some (.int ((((S.1 90) v5.toNatClampNeg) / 100) - (((S.1 90) v5.toNatClampNeg) / 100) / 10 * 10))], [], st (sA S 93 (upd (S.1 93) v4.toNatClampNeg (vp_nar .boolean 1))) hs, 0, 0)
                refine hX _ ?_
                exact Wp.weak (leL.k (leL.k (leL.k (leL.k (leL.k (leL.k (leL.n (leL.n (leL.n leL.z))))))))) (ih (v4 + 1) (v5 + 1) (sA S 93 (upd (S.1 93) v4.toNatClampNeg (vp_nar .boolean 1))) q hl ct)
          · clear hP hX hk P' X cal
            rw [if_pos hc] at hl
            refine Wp.stepsG 4 (fun cal X P' hk hX hP => ?_)
            show ¬ (100 : Int32) = 0 ∧ X (193, [some (.ref 76), some (.int f1), some (.int f2), some (.int f3), some (.int v4), some (.int v5), some (.int ((S.1 90) v5.toNatClampNeg)), some (.int q1), some (.int ((((S.1 90) v5.toNatClampNeg) / 100) - (((S.1 90) v5.toNatClampNeg) / 100) / 10 * 10))], [.int (((S.1 90) v5.toNatClampNeg) - ((S.1 90) v5.toNatClampNeg) / 100 * 100), .int q1, .int v4, .ref 93], st S hs, 0, 0)
            refine ⟨(show ¬ (100 : Int32) = 0 from by decide), hX _ ?_⟩
            clear hP hX hk P' X cal
            refine Wp.stepsG 1 (fun cal X P' hk hX hP => ?_)
            show ((((S.1 90) v5.toNatClampNeg) - ((S.1 90) v5.toNatClampNeg) / 100 * 100) ≤ q1 → X (200, [some (.ref 76), some (.int f1), some (.int f2), some (.int f3), some (.int v4), some (.int v5), some (.int ((S.1 90) v5.toNatClampNeg)), some (.int q1), some (.int ((((S.1 90) v5.toNatClampNeg) / 100) - (((S.1 90) v5.toNatClampNeg) / 100) / 10 * 10))], [.int v4, .ref 93], st S hs, 0, 0)) ∧ (¬ (((S.1 90) v5.toNatClampNeg) - ((S.1 90) v5.toNatClampNeg) / 100 * 100) ≤ q1 → X (196, [some (.ref 76), some (.int f1), some (.int f2), some (.int f3), some (.int v4), some (.int v5), some (.int ((S.1 90) v5.toNatClampNeg)), some (.int q1), some (.int ((((S.1 90) v5.toNatClampNeg) / 100) - (((S.1 90) v5.toNatClampNeg) / 100) / 10 * 10))], [.int v4, .ref 93], st S hs, 0, 0))
            refine ⟨fun hc => hX _ ?_, fun hc => hX _ ?_⟩
            · clear hP hX hk P' X cal
              rw [if_pos hc] at hl
              refine Wp.stepsG 3 (fun cal X P' hk hX hP => ?_)
              show vp_in v4 100 ∧ X (244, [some (.ref 76), some (.int f1), some (.int f2), some (.int f3), some (.int v4), some (.int v5), some (.int ((S.1 90) v5.toNatClampNeg)), some (.int q1), some (.int ((((S.1 90) v5.toNatClampNeg) / 100) - (((S.1 90) v5.toNatClampNeg) / 100) / 10 * 10))], [], st (sA S 93 (upd (S.1 93) v4.toNatClampNeg (vp_nar .boolean 0))) hs, 0, 0)
              obtain ⟨hg, hl⟩ := gd_some hl
              refine ⟨hg, hX _ ?_⟩
              clear hP hX hk P' X cal
              refine Wp.stepsG 3 (fun cal X P' hk hX hP => ?_)
              show X (11, [some (.ref 76), some (.int f1), some (.int f2), some (.int f3), some (.int (v4 + 1)), some (.int (v5 + 1)), some (.int ((S.1 90) v5.toNatClampNeg)), some (.int q1), some (.int ((((S.1 90) v5.toNatClampNeg) / 100) - (((S.1 90) v5.toNatClampNeg) / 100) / 10 * 10))], [], st (sA S 93 (upd (S.1 93) v4.toNatClampNeg (vp_nar .boolean 0))) hs, 0, 0)
              refine hX _ ?_
              exact Wp.weak (leL.k (leL.k (leL.k (leL.k (leL.k (leL.k (leL.n (leL.n (leL.n leL.z))))))))) (ih (v4 + 1) (v5 + 1) (sA S 93 (upd (S.1 93) v4.toNatClampNeg (vp_nar .boolean 0))) q hl ct)
            · clear hP hX hk P' X cal
              rw [if_neg hc] at hl
              refine Wp.stepsG 3 (fun cal X P' hk hX hP => ?_)
              show vp_in v4 100 ∧ X (244, [some (.ref 76), some (.int f1), some (.int f2), some (.int f3), some (.int v4), some (.int v5), some (.int ((S.1 90) v5.toNatClampNeg)), some (.int q1), some (.int ((((S.1 90) v5.toNatClampNeg) / 100) - (((S.1 90) v5.toNatClampNeg) / 100) / 10 * 10))], [], st (sA S 93 (upd (S.1 93) v4.toNatClampNeg (vp_nar .boolean 1))) hs, 0, 0)
              obtain ⟨hg, hl⟩ := gd_some hl
              refine ⟨hg, hX _ ?_⟩
              clear hP hX hk P' X cal
              refine Wp.stepsG 3 (fun cal X P' hk hX hP => ?_)
              show X (11, [some (.ref 76), some (.int f1), some (.int f2), some (.int f3), some (.int (v4 + 1)), some (.int (v5 + 1)), some (.int ((S.1 90) v5.toNatClampNeg)), some (.int q1), some (.int ((((S.1 90) v5.toNatClampNeg) / 100) - (((S.1 90) v5.toNatClampNeg) / 100) / 10 * 10))], [], st (sA S 93 (upd (S.1 93) v4.toNatClampNeg (vp_nar .boolean 1))) hs, 0, 0)
              refine hX _ ?_
              exact Wp.weak (leL.k (leL.k (leL.k (leL.k (leL.k (leL.k (leL.n (leL.n (leL.n leL.z))))))))) (ih (v4 + 1) (v5 + 1) (sA S 93 (upd (S.1 93) v4.toNatClampNeg (vp_nar .boolean 1))) q hl ct)
        · clear hP hX hk P' X cal
          rw [if_neg hc] at hl
          refine Wp.stepsG 9 (fun cal X P' hk hX hP => ?_)
          show (¬ ((S.1 90) v5.toNatClampNeg) = (-38) → X (120, [some (.ref 76), some (.int f1), some (.int f2), some (.int f3), some (.int (v4 + (-1))), some (.int v5), some (.int ((S.1 90) v5.toNatClampNeg)), none, none], [.int ((v4 + (-1)) - 1), .ref 93], st S hs, 0, 0)) ∧ (((S.1 90) v5.toNatClampNeg) = (-38) → X (90, [some (.ref 76), some (.int f1), some (.int f2), some (.int f3), some (.int (v4 + (-1))), some (.int v5), some (.int ((S.1 90) v5.toNatClampNeg)), none, none], [.int ((v4 + (-1)) - 1), .ref 93], st S hs, 0, 0))
          refine ⟨fun hc => hX _ ?_, fun hc => hX _ ?_⟩
          · clear hP hX hk P' X cal
            rw [if_neg hc] at hl
            refine Wp.stepsG 6 (fun cal X P' hk hX hP => ?_)
            show vp_in ((v4 + (-1)) - 1) 100 ∧ X (129, [some (.ref 76), some (.int f1), some (.int f2), some (.int f3), some (.int (v4 + (-1))), some (.int v5), some (.int ((S.1 90) v5.toNatClampNeg)), none, none], [.int ((S.1 93) ((v4 + (-1)) - 1).toNatClampNeg), .int ((v4 + (-1)) - 1), .ref 93], st S hs, 0, 0)
            obtain ⟨hg, hl⟩ := gd_some hl
            refine ⟨hg, hX _ ?_⟩
            clear hP hX hk P' X cal
            refine Wp.stepsG 1 (fun cal X P' hk hX hP => ?_)
            show (¬ ((S.1 93) ((v4 + (-1)) - 1).toNatClampNeg) = 0 → X (142, [some (.ref 76), some (.int f1), some (.int f2), some (.int f3), some (.int (v4 + (-1))), some (.int v5), some (.int ((S.1 90) v5.toNatClampNeg)), none, none], [.int ((v4 + (-1)) - 1), .ref 93], st S hs, 0, 0)) ∧ (((S.1 93) ((v4 + (-1)) - 1).toNatClampNeg) = 0 → X (132, [some (.ref 76), some (.int f1), some (.int f2), some (.int f3), some (.int (v4 + (-1))), some (.int v5), some (.int ((S.1 90) v5.toNatClampNeg)), none, none], [.int ((v4 + (-1)) - 1), .ref 93], st S hs, 0, 0))
            refine ⟨fun hc => hX _ ?_, fun hc => hX _ ?_⟩
            · clear hP hX hk P' X cal
              rw [if_neg hc] at hl
              refine Wp.stepsG 3 (fun cal X P' hk hX hP => ?_)
              show vp_in ((v4 + (-1)) - 1) 100 ∧ X (148, [some (.ref 76), some (.int f1), some (.int f2), some (.int f3), some (.int (v4 + (-1))), some (.int v5), some (.int ((S.1 90) v5.toNatClampNeg)), none, none], [], st (sA S 93 (upd (S.1 93) ((v4 + (-1)) - 1).toNatClampNeg (vp_nar .boolean 1))) hs, 0, 0)
              obtain ⟨hg, hl⟩ := gd_some hl
              refine ⟨hg, hX _ ?_⟩
              clear hP hX hk P' X cal
              refine Wp.stepsG 3 (fun cal X P' hk hX hP => ?_)
              show X (11, [some (.ref 76), some (.int f1), some (.int f2), some (.int f3), some (.int (v4 + (-1))), some (.int (v5 + 1)), some (.int ((S.1 90) v5.toNatClampNeg)), none, none], [], st (sA S 93 (upd (S.1 93) ((v4 + (-1)) - 1).toNatClampNeg (vp_nar .boolean 1))) hs, 0, 0)
              refine hX _ ?_
              exact Wp.weak (leL.k (leL.k (leL.k (leL.k (leL.k (leL.k (leL.n (leL.k (leL.k leL.z))))))))) (ih (v4 + (-1)) (v5 + 1) (sA S 93 (upd (S.1 93) ((v4 + (-1)) - 1).toNatClampNeg (vp_nar .boolean 1))) q hl ct)
            · clear hP hX hk P' X cal
              rw [if_pos hc] at hl
              refine Wp.stepsG 4 (fun cal X P' hk hX hP => ?_)
              show vp_in (v4 + (-1)) 100 ∧ X (139, [some (.ref 76), some (.int f1), some (.int f2), some (.int f3), some (.int (v4 + (-1))), some (.int v5), some (.int ((S.1 90) v5.toNatClampNeg)), none, none], [.int ((S.1 93) (v4 + (-1)).toNatClampNeg), .int ((v4 + (-1)) - 1), .ref 93], st S hs, 0, 0)
              obtain ⟨hg, hl⟩ := gd_some hl
              refine ⟨hg, hX _ ?_⟩
              clear hP hX hk P' X cal
              refine Wp.stepsG 1 (fun cal X P' hk hX hP => ?_)
              show (((S.1 93) (v4 + (-1)).toNatClampNeg) = 0 → X (146, [some (.ref 76), some (.int f1), some (.int f2), some (.int f3), some (.int (v4 + (-1))), some (.int v5), some (.int ((S.1 90) v5.toNatClampNeg)), none, none], [.int ((v4 + (-1)) - 1), .ref 93], st S hs, 0, 0)) ∧ (¬ ((S.1 93) (v4 + (-1)).toNatClampNeg) = 0 → X (142, [some (.ref 76), some (.int f1), some (.int f2), some (.int f3), some (.int (v4 + (-1))), some (.int v5), some (.int ((S.1 90) v5.toNatClampNeg)), none, none], [.int ((v4 + (-1)) - 1), .ref 93], st S hs, 0, 0))
              refine ⟨fun hc => hX _ ?_, fun hc => hX _ ?_⟩
              · clear hP hX hk P' X cal
                rw [if_pos hc] at hl
                refine Wp.stepsG 2 (fun cal X P' hk hX hP => ?_)
                show vp_in ((v4 + (-1)) - 1) 100 ∧ X (148, [some (.ref 76), some (.int f1), some (.int f2), some (.int f3), some (.int (v4 + (-1))), some (.int v5), some (.int ((S.1 90) v5.toNatClampNeg)), none, none], [], st (sA S 93 (upd (S.1 93) ((v4 + (-1)) - 1).toNatClampNeg (vp_nar .boolean 0))) hs, 0, 0)
                obtain ⟨hg, hl⟩ := gd_some hl
                refine ⟨hg, hX _ ?_⟩
                clear hP hX hk P' X cal
                refine Wp.stepsG 3 (fun cal X P' hk hX hP => ?_)
                show X (11, [some (.ref 76), some (.int f1), some (.int f2), some (.int f3), some (.int (v4 + (-1))), some (.int (v5 + 1)), some (.int ((S.1 90) v5.toNatClampNeg)), none, none], [], st (sA S 93 (upd (S.1 93) ((v4 + (-1)) - 1).toNatClampNeg (vp_nar .boolean 0))) hs, 0, 0)
                refine hX _ ?_
                exact Wp.weak (leL.k (leL.k (leL.k (leL.k (leL.k (leL.k (leL.n (leL.k (leL.k leL.z))))))))) (ih (v4 + (-1)) (v5 + 1) (sA S 93 (upd (S.1 93) ((v4 + (-1)) - 1).toNatClampNeg (vp_nar .boolean 0))) q hl ct)
              · clear hP hX hk P' X cal
                rw [if_neg hc] at hl
                refine Wp.stepsG 3 (fun cal X P' hk hX hP => ?_)
                show vp_in ((v4 + (-1)) - 1) 100 ∧ X (148, [some (.ref 76), some (.int f1), some (.int f2), some (.int f3), some (.int (v4 + (-1))), some (.int v5), some (.int ((S.1 90) v5.toNatClampNeg)), none, none], [], st (sA S 93 (upd (S.1 93) ((v4 + (-1)) - 1).toNatClampNeg (vp_nar .boolean 1))) hs, 0, 0)
                obtain ⟨hg, hl⟩ := gd_some hl
                refine ⟨hg, hX _ ?_⟩
                clear hP hX hk P' X cal
                refine Wp.stepsG 3 (fun cal X P' hk hX hP => ?_)
                show X (11, [some (.ref 76), some (.int f1), some (.int f2), some (.int f3), some (.int (v4 + (-1))), some (.int (v5 + 1)), some (.int ((S.1 90) v5.toNatClampNeg)), none, none], [], st (sA S 93 (upd (S.1 93) ((v4 + (-1)) - 1).toNatClampNeg (vp_nar .boolean 1))) hs, 0, 0)
                refine hX _ ?_
                exact Wp.weak (leL.k (leL.k (leL.k (leL.k (leL.k (leL.k (leL.n (leL.k (leL.k leL.z))))))))) (ih (v4 + (-1)) (v5 + 1) (sA S 93 (upd (S.1 93) ((v4 + (-1)) - 1).toNatClampNeg (vp_nar .boolean 1))) q hl ct)
          · clear hP hX hk P' X cal
            rw [if_pos hc] at hl
            refine Wp.stepsG 6 (fun cal X P' hk hX hP => ?_)
            show vp_in ((v4 + (-1)) - 1) 100 ∧ X (99, [some (.ref 76), some (.int f1), some (.int f2), some (.int f3), some (.int (v4 + (-1))), some (.int v5), some (.int ((S.1 90) v5.toNatClampNeg)), none, none], [.int ((S.1 93) ((v4 + (-1)) - 1).toNatClampNeg), .int ((v4 + (-1)) - 1), .ref 93], st S hs, 0, 0)
            obtain ⟨hg, hl⟩ := gd_some hl
            refine ⟨hg, hX _ ?_⟩
            clear hP hX hk P' X cal
            refine Wp.stepsG 1 (fun cal X P' hk hX hP => ?_)
            show (((S.1 93) ((v4 + (-1)) - 1).toNatClampNeg) = 0 → X (116, [some (.ref 76), some (.int f1), some (.int f2), some (.int f3), some (.int (v4 + (-1))), some (.int v5), some (.int ((S.1 90) v5.toNatClampNeg)), none, none], [.int ((v4 + (-1)) - 1), .ref 93], st S hs, 0, 0)) ∧ (¬ ((S.1 93) ((v4 + (-1)) - 1).toNatClampNeg) = 0 → X (102, [some (.ref 76), some (.int f1), some (.int f2), some (.int f3), some (.int (v4 + (-1))), some (.int v5), some (.int ((S.1 90) v5.toNatClampNeg)), none, none], [.int ((v4 + (-1)) - 1), .ref 93], st S hs, 0, 0))
            refine ⟨fun hc => hX _ ?_, fun hc => hX _ ?_⟩
            · clear hP hX hk P' X cal
              rw [if_pos hc] at hl
              refine Wp.stepsG 3 (fun cal X P' hk hX hP => ?_)
              show vp_in ((v4 + (-1)) - 1) 100 ∧ X (148, [some (.ref 76), some (.int f1), some (.int f2), some (.int f3), some (.int (v4 + (-1))), some (.int v5), some (.int ((S.1 90) v5.toNatClampNeg)), none, none], [], st (sA S 93 (upd (S.1 93) ((v4 + (-1)) - 1).toNatClampNeg (vp_nar .boolean 0))) hs, 0, 0)
              obtain ⟨hg, hl⟩ := gd_some hl
              refine ⟨hg, hX _ ?_⟩
              clear hP hX hk P' X cal
              refine Wp.stepsG 3 (fun cal X P' hk hX hP => ?_)
              show X (11, [some (.ref 76), some (.int f1), some (.int f2), some (.int f3), some (.int (v4 + (-1))), some (.int (v5 + 1)), some (.int ((S.1 90) v5.toNatClampNeg)), none, none], [], st (sA S 93 (upd (S.1 93) ((v4 + (-1)) - 1).toNatClampNeg (vp_nar .boolean 0))) hs, 0, 0)
              refine hX _ ?_
              exact Wp.weak (leL.k (leL.k (leL.k (leL.k (leL.k (leL.k (leL.n (leL.k (leL.k leL.z))))))))) (ih (v4 + (-1)) (v5 + 1) (sA S 93 (upd (S.1 93) ((v4 + (-1)) - 1).toNatClampNeg (vp_nar .boolean 0))) q hl ct)
            · clear hP hX hk P' X cal
              rw [if_neg hc] at hl
              refine Wp.stepsG 4 (fun cal X P' hk hX hP => ?_)
              show vp_in (v4 + (-1)) 100 ∧ X (109, [some (.ref 76), some (.int f1), some (.int f2), some (.int f3), some (.int (v4 + (-1))), some (.int v5), some (.int ((S.1 90) v5.toNatClampNeg)), none, none], [.int ((S.1 93) (v4 + (-1)).toNatClampNeg), .int ((v4 + (-1)) - 1), .ref 93], st S hs, 0, 0)
              obtain ⟨hg, hl⟩ := gd_some hl
              refine ⟨hg, hX _ ?_⟩
              clear hP hX hk P' X cal
              refine Wp.stepsG 1 (fun cal X P' hk hX hP => ?_)
              show (((S.1 93) (v4 + (-1)).toNatClampNeg) = 0 → X (116, [some (.ref 76), some (.int f1), some (.int f2), some (.int f3), some (.int (v4 + (-1))), some (.int v5), some (.int ((S.1 90) v5.toNatClampNeg)), none, none], [.int ((v4 + (-1)) - 1), .ref 93], st S hs, 0, 0)) ∧ (¬ ((S.1 93) (v4 + (-1)).toNatClampNeg) = 0 → X (112, [some (.ref 76), some (.int f1), some (.int f2), some (.int f3), some (.int (v4 + (-1))), some (.int v5), some (.int ((S.1 90) v5.toNatClampNeg)), none, none], [.int ((v4 + (-1)) - 1), .ref 93], st S hs, 0, 0))
              refine ⟨fun hc => hX _ ?_, fun hc => hX _ ?_⟩
              · clear hP hX hk P' X cal
                rw [if_pos hc] at hl
                refine Wp.stepsG 3 (fun cal X P' hk hX hP => ?_)
                show vp_in ((v4 + (-1)) - 1) 100 ∧ X (148, [some (.ref 76), some (.int f1), some (.int f2), some (.int f3), some (.int (v4 + (-1))), some (.int v5), some (.int ((S.1 90) v5.toNatClampNeg)), none, none], [], st (sA S 93 (upd (S.1 93) ((v4 + (-1)) - 1).toNatClampNeg (vp_nar .boolean 0))) hs, 0, 0)
                obtain ⟨hg, hl⟩ := gd_some hl
                refine ⟨hg, hX _ ?_⟩
                clear hP hX hk P' X cal
                refine Wp.stepsG 3 (fun cal X P' hk hX hP => ?_)
                show X (11, [some (.ref 76), some (.int f1), some (.int f2), some (.int f3), some (.int (v4 + (-1))), some (.int (v5 + 1)), some (.int ((S.1 90) v5.toNatClampNeg)), none, none], [], st (sA S 93 (upd (S.1 93) ((v4 + (-1)) - 1).toNatClampNeg (vp_nar .boolean 0))) hs, 0, 0)
                refine hX _ ?_
                exact Wp.weak (leL.k (leL.k (leL.k (leL.k (leL.k (leL.k (leL.n (leL.k (leL.k leL.z))))))))) (ih (v4 + (-1)) (v5 + 1) (sA S 93 (upd (S.1 93) ((v4 + (-1)) - 1).toNatClampNeg (vp_nar .boolean 0))) q hl ct)
              · clear hP hX hk P' X cal
                rw [if_neg hc] at hl
                refine Wp.stepsG 3 (fun cal X P' hk hX hP => ?_)
                show vp_in ((v4 + (-1)) - 1) 100 ∧ X (148, [some (.ref 76), some (.int f1), some (.int f2), some (.int f3), some (.int (v4 + (-1))), some (.int v5), some (.int ((S.1 90) v5.toNatClampNeg)), none, none], [], st (sA S 93 (upd (S.1 93) ((v4 + (-1)) - 1).toNatClampNeg (vp_nar .boolean 1))) hs, 0, 0)
                obtain ⟨hg, hl⟩ := gd_some hl
                refine ⟨hg, hX _ ?_⟩
                clear hP hX hk P' X cal
                refine Wp.stepsG 3 (fun cal X P' hk hX hP => ?_)
                show X (11, [some (.ref 76), some (.int f1), some (.int f2), some (.int f3), some (.int (v4 + (-1))), some (.int (v5 + 1)), some (.int ((S.1 90) v5.toNatClampNeg)), none, none], [], st (sA S 93 (upd (S.1 93) ((v4 + (-1)) - 1).toNatClampNeg (vp_nar .boolean 1))) hs, 0, 0)
                refine hX _ ?_
                exact Wp.weak (leL.k (leL.k (leL.k (leL.k (leL.k (leL.k (leL.n (leL.k (leL.k leL.z))))))))) (ih (v4 + (-1)) (v5 + 1) (sA S 93 (upd (S.1 93) ((v4 + (-1)) - 1).toNatClampNeg (vp_nar .boolean 1))) q hl ct)
      · clear hP hX hk P' X cal
        rw [if_pos hc] at hl
        refine Wp.stepsG 11 (fun cal X P' hk hX hP => ?_)
        show vp_in (v4 - 1) 100 ∧ X (55, [some (.ref 76), some (.int f1), some (.int f2), some (.int f3), some (.int v4), some (.int v5), some (.int ((S.1 90) v5.toNatClampNeg)), none, none], [.int ((S.1 93) (v4 - 1).toNatClampNeg), .int (v4 - 1), .ref 93], st S hs, 0, 0)
        obtain ⟨hg, hl⟩ := gd_some hl
        refine ⟨hg, hX _ ?_⟩
        clear hP hX hk P' X cal
        refine Wp.stepsG 1 (fun cal X P' hk hX hP => ?_)
        show (¬ ((S.1 93) (v4 - 1).toNatClampNeg) = 0 → X (62, [some (.ref 76), some (.int f1), some (.int f2), some (.int f3), some (.int v4), some (.int v5), some (.int ((S.1 90) v5.toNatClampNeg)), none, none], [.int (v4 - 1), .ref 93], st S hs, 0, 0)) ∧ (((S.1 93) (v4 - 1).toNatClampNeg) = 0 → X (58, [some (.ref 76), some (.int f1), some (.int f2), some (.int f3), some (.int v4), some (.int v5), some (.int ((S.1 90) v5.toNatClampNeg)), none, none], [.int (v4 - 1), .ref 93], st S hs, 0, 0))
        refine ⟨fun hc => hX _ ?_, fun hc => hX _ ?_⟩
        · clear hP hX hk P' X cal
          rw [if_neg hc] at hl
          refine Wp.stepsG 2 (fun cal X P' hk hX hP => ?_)
          show vp_in (v4 - 1) 100 ∧ X (64, [some (.ref 76), some (.int f1), some (.int f2), some (.int f3), some (.int v4), some (.int v5), some (.int ((S.1 90) v5.toNatClampNeg)), none, none], [], st (sA S 93 (upd (S.1 93) (v4 - 1).toNatClampNeg (vp_nar .boolean 0))) hs, 0, 0)
          obtain ⟨hg, hl⟩ := gd_some hl
          refine ⟨hg, hX _ ?_⟩
          clear hP hX hk P' X cal
          refine Wp.stepsG 3 (fun cal X P' hk hX hP => ?_)
          show X (11, [some (.ref 76), some (.int f1), some (.int f2), some (.int f3), some (.int v4), some (.int (v5 + 1)), some (.int ((S.1 90) v5.toNatClampNeg)), none, none], [], st (sA S 93 (upd (S.1 93) (v4 - 1).toNatClampNeg (vp_nar .boolean 0))) hs, 0, 0)
          refine hX _ ?_
          exact Wp.weak (leL.k (leL.k (leL.k (leL.k (leL.k (leL.k (leL.n (leL.k (leL.k leL.z))))))))) (ih v4 (v5 + 1) (sA S 93 (upd (S.1 93) (v4 - 1).toNatClampNeg (vp_nar .boolean 0))) q hl ct)
        · clear hP hX hk P' X cal
          rw [if_pos hc] at hl
          refine Wp.stepsG 3 (fun cal X P' hk hX hP => ?_)
          show vp_in (v4 - 1) 100 ∧ X (64, [some (.ref 76), some (.int f1), some (.int f2), some (.int f3), some (.int v4), some (.int v5), some (.int ((S.1 90) v5.toNatClampNeg)), none, none], [], st (sA S 93 (upd (S.1 93) (v4 - 1).toNatClampNeg (vp_nar .boolean 1))) hs, 0, 0)
          obtain ⟨hg, hl⟩ := gd_some hl
          refine ⟨hg, hX _ ?_⟩
          clear hP hX hk P' X cal
          refine Wp.stepsG 3 (fun cal X P' hk hX hP => ?_)
          show X (11, [some (.ref 76), some (.int f1), some (.int f2), some (.int f3), some (.int v4), some (.int (v5 + 1)), some (.int ((S.1 90) v5.toNatClampNeg)), none, none], [], st (sA S 93 (upd (S.1 93) (v4 - 1).toNatClampNeg (vp_nar .boolean 1))) hs, 0, 0)
          refine hX _ ?_
          exact Wp.weak (leL.k (leL.k (leL.k (leL.k (leL.k (leL.k (leL.n (leL.k (leL.k leL.z))))))))) (ih v4 (v5 + 1) (sA S 93 (upd (S.1 93) (v4 - 1).toNatClampNeg (vp_nar .boolean 1))) q hl ct)
def r_X12_holds (S : St) (a1 : Int32) (a2 : Int32) (a3 : Int32) : Option (Int32 × St) :=
  gd (¬ (a1 < 0 ∨ 60 ≤ a1.toNatClampNeg)) (
    (lp_X12_holds_11 a1 a2 a3 4000 0 ((S.1 88) a1.toNatClampNeg) S).bind fun q2 =>
      gd (((q2.1 93) (0 : Int32).toNatClampNeg) = 0 ∨ ((q2.1 93) (0 : Int32).toNatClampNeg) = 1) (some ((q2.1 93) (0 : Int32).toNatClampNeg, q2)))
set_option maxRecDepth 20000 in
set_option maxHeartbeats 4000000 in
theorem e_X12_holds (d : Nat) (S : St) (hs : List Hr) (a1 : Int32) (a2 : Int32) (a3 : Int32) (v : Int32 × St) (hr : r_X12_holds S a1 a2 a3 = some v) (P : Option Value → Hp → Prop) (h : P (some (.int v.1)) (st v.2 hs)) : Ev (d + 2) ix_X12_holds 0 0 [.ref 76, .int a1, .int a2, .int a3] (st S hs) P := by
  refine Ev.intro (M := mi_X12_holds) rfl (Nat.le_of_ble_eq_true rfl) ?_
  unfold r_X12_holds at hr
  refine Wp.stepsG 6 (fun cal X P' hk hX hP => ?_)
  show vp_in a1 60 ∧ X (9, [some (.ref 76), some (.int a1), some (.int a2), some (.int a3), some (.int 0), none, none, none, none], [.int ((S.1 88) a1.toNatClampNeg)], st S hs, 0, 0)
  obtain ⟨hg, hr⟩ := gd_some hr
  refine ⟨hg, hX _ ?_⟩
  clear hP hX hk P' X cal
  refine Wp.stepsG 1 (fun cal X P' hk hX hP => ?_)
  show X (11, [some (.ref 76), some (.int a1), some (.int a2), some (.int a3), some (.int 0), some (.int ((S.1 88) a1.toNatClampNeg)), none, none, none], [], st S hs, 0, 0)
  refine hX _ ?_
  clear hP hX hk P' X cal
  obtain ⟨q2, hq2, hr⟩ := bd_some hr
  refine (e_lp_X12_holds_11 d hs P a1 a2 a3 _ 0 ((S.1 88) a1.toNatClampNeg) S q2 hq2 ?_)
  refine Wp.stepsG 4 (fun cal X P' hk hX hP => ?_)
  show vp_in (0 : Int32) 100 ∧ X (259, [some (.ref 76), some (.int a1), some (.int a2), some (.int a3), none, none, none, none, none], [.int ((q2.1 93) (0 : Int32).toNatClampNeg)], st q2 hs, 0, 0)
  refine ⟨(show ¬ ((0 : Int32) < 0 ∨ 100 ≤ (0 : Int32).toNatClampNeg) from by decide), hX _ ?_⟩
  clear hP hX hk P' X cal
  obtain ⟨hb, hr⟩ := gd_some hr
  have hr := Option.some.inj hr
  subst hr
  refine Wp.stepsG 1 (fun cal X P' hk hX hP => ?_)
  exact ⟨hb, hP _ _ h⟩
def lp_X12_mood_8 (f1 : Int32) (f2 : Int32) : Nat → Int32 → Int32 → St → Option (Int32 × St)
  | 0, _, _, _ => none
  | n + 1, v3, v4, S =>
    (r_X12_behind S).bind fun q1 =>
    if q1 ≤ v4 then
      some (v3, S)
    else
      gd (¬ (v4 < 0 ∨ 60 ≤ v4.toNatClampNeg)) (
        if 2 ≤ ((S.1 86) v4.toNatClampNeg) then
          lp_X12_mood_8 f1 f2 n v3 (v4 + 1) S
        else
          (r_X12_holds S v4 f1 f2).bind fun q2 =>
          if q2.1 = 0 then
            lp_X12_mood_8 f1 f2 n v3 (v4 + 1) q2.2
          else
            gd (¬ (v4 < 0 ∨ 60 ≤ v4.toNatClampNeg)) (
              if ((q2.2.1 86) v4.toNatClampNeg) = 0 then
                gd (¬ (v4 < 0 ∨ 60 ≤ v4.toNatClampNeg)) (
                  lp_X12_mood_8 f1 f2 n (v3 + ((q2.2.1 87) v4.toNatClampNeg)) (v4 + 1) q2.2)
              else
                gd (¬ (v4 < 0 ∨ 60 ≤ v4.toNatClampNeg)) (
                  lp_X12_mood_8 f1 f2 n (v3 + (-((q2.2.1 87) v4.toNatClampNeg))) (v4 + 1) q2.2)))
set_option maxRecDepth 20000 in
set_option maxHeartbeats 4000000 in
theorem e_lp_X12_mood_8 (d : Nat) (hs : List Hr) (P : Option Value → Hp → Prop) (f1 : Int32) (f2 : Int32) : ∀ (n : Nat) (v3 : Int32) (v4 : Int32) (S : St) (q : Int32 × St), lp_X12_mood_8 f1 f2 n v3 v4 S = some q → (WM mi_X12_mood (d + 2) P 79 [some (.ref 76), some (.int f1), some (.int f2), some (.int q.1), none] [] (st q.2 hs)) → WM mi_X12_mood (d + 2) P 8 [some (.ref 76), some (.int f1), some (.int f2), some (.int v3), some (.int v4)] [] (st S hs) := by
  intro n
  induction n with
  | zero =>
    intro v3 v4 S q hl
    cases hl
  | succ n ih =>
    intro v3 v4 S q hl ct
    rw [lp_X12_mood_8] at hl
    refine Wp.stepsG 3 (fun cal X P' hk hX hP => ?_)
    show kcall cal ix_X12_behind [.ref 76] (st S hs) [.int v4] 0 0 (0, 0) (fun v σ' c' m' => X (14, [some (.ref 76), some (.int f1), some (.int f2), some (.int v3), some (.int v4)], v.toList ++ [.int v4], σ', c', m'))
    obtain ⟨q1, hq1, hl⟩ := bd_some hl
    refine kcall0 rfl (hk _ _ _ _ _ _ (e_X12_behind (d + 1) S hs q1 hq1 _ ?_))
    show X (14, [some (.ref 76), some (.int f1), some (.int f2), some (.int v3), some (.int v4)], [.int q1, .int v4], st S hs, 0, 0)
    refine hX _ ?_
    clear hP hX hk P' X cal
    refine Wp.stepsG 1 (fun cal X P' hk hX hP => ?_)
    show (q1 ≤ v4 → X (79, [some (.ref 76), some (.int f1), some (.int f2), some (.int v3), some (.int v4)], [], st S hs, 0, 0)) ∧ (¬ q1 ≤ v4 → X (17, [some (.ref 76), some (.int f1), some (.int f2), some (.int v3), some (.int v4)], [], st S hs, 0, 0))
    refine ⟨fun hc => hX _ ?_, fun hc => hX _ ?_⟩
    · clear hP hX hk P' X cal
      rw [if_pos hc] at hl
      have hl := Option.some.inj hl
      subst hl
      exact Wp.weak (leL.k (leL.k (leL.k (leL.k (leL.n leL.z))))) (ct)
    · clear hP hX hk P' X cal
      rw [if_neg hc] at hl
      refine Wp.stepsG 4 (fun cal X P' hk hX hP => ?_)
      show vp_in v4 60 ∧ X (24, [some (.ref 76), some (.int f1), some (.int f2), some (.int v3), some (.int v4)], [.int ((S.1 86) v4.toNatClampNeg)], st S hs, 0, 0)
      obtain ⟨hg, hl⟩ := gd_some hl
      refine ⟨hg, hX _ ?_⟩
      clear hP hX hk P' X cal
      refine Wp.stepsG 2 (fun cal X P' hk hX hP => ?_)
      show (2 ≤ ((S.1 86) v4.toNatClampNeg) → X (73, [some (.ref 76), some (.int f1), some (.int f2), some (.int v3), some (.int v4)], [], st S hs, 0, 0)) ∧ (¬ 2 ≤ ((S.1 86) v4.toNatClampNeg) → X (28, [some (.ref 76), some (.int f1), some (.int f2), some (.int v3), some (.int v4)], [], st S hs, 0, 0))
      refine ⟨fun hc => hX _ ?_, fun hc => hX _ ?_⟩
      · clear hP hX hk P' X cal
        rw [if_pos hc] at hl
        refine Wp.stepsG 2 (fun cal X P' hk hX hP => ?_)
        show X (8, [some (.ref 76), some (.int f1), some (.int f2), some (.int v3), some (.int (v4 + 1))], [], st S hs, 0, 0)
        refine hX _ ?_
        exact (ih v3 (v4 + 1) S q hl ct)
      · clear hP hX hk P' X cal
        rw [if_neg hc] at hl
        refine Wp.stepsG 5 (fun cal X P' hk hX hP => ?_)
        show kcall cal ix_X12_holds [.ref 76, .int v4, .int f1, .int f2] (st S hs) [] 0 0 (0, 0) (fun v σ' c' m' => X (36, [some (.ref 76), some (.int f1), some (.int f2), some (.int v3), some (.int v4)], v.toList ++ [], σ', c', m'))
        obtain ⟨q2, hq2, hl⟩ := bd_some hl
        refine kcall0 rfl (hk _ _ _ _ _ _ (e_X12_holds (d + 0) S hs v4 f1 f2 q2 hq2 _ ?_))
        show X (36, [some (.ref 76), some (.int f1), some (.int f2), some (.int v3), some (.int v4)], [.int q2.1], st q2.2 hs, 0, 0)
        refine hX _ ?_
        clear hP hX hk P' X cal
        refine Wp.stepsG 1 (fun cal X P' hk hX hP => ?_)
        show (¬ q2.1 = 0 → X (42, [some (.ref 76), some (.int f1), some (.int f2), some (.int v3), some (.int v4)], [], st q2.2 hs, 0, 0)) ∧ (q2.1 = 0 → X (39, [some (.ref 76), some (.int f1), some (.int f2), some (.int v3), some (.int v4)], [], st q2.2 hs, 0, 0))
        refine ⟨fun hc => hX _ ?_, fun hc => hX _ ?_⟩
        · clear hP hX hk P' X cal
          rw [if_neg hc] at hl
          refine Wp.stepsG 5 (fun cal X P' hk hX hP => ?_)
          show vp_in v4 60 ∧ X (50, [some (.ref 76), some (.int f1), some (.int f2), some (.int v3), some (.int v4)], [.int ((q2.2.1 86) v4.toNatClampNeg), .int v3], st q2.2 hs, 0, 0)
          obtain ⟨hg, hl⟩ := gd_some hl
          refine ⟨hg, hX _ ?_⟩
          clear hP hX hk P' X cal
          refine Wp.stepsG 1 (fun cal X P' hk hX hP => ?_)
          show (¬ ((q2.2.1 86) v4.toNatClampNeg) = 0 → X (63, [some (.ref 76), some (.int f1), some (.int f2), some (.int v3), some (.int v4)], [.int v3], st q2.2 hs, 0, 0)) ∧ (((q2.2.1 86) v4.toNatClampNeg) = 0 → X (53, [some (.ref 76), some (.int f1), some (.int f2), some (.int v3), some (.int v4)], [.int v3], st q2.2 hs, 0, 0))
          refine ⟨fun hc => hX _ ?_, fun hc => hX _ ?_⟩
          · clear hP hX hk P' X cal
            rw [if_neg hc] at hl
            refine Wp.stepsG 4 (fun cal X P' hk hX hP => ?_)
            show vp_in v4 60 ∧ X (70, [some (.ref 76), some (.int f1), some (.int f2), some (.int v3), some (.int v4)], [.int ((q2.2.1 87) v4.toNatClampNeg), .int v3], st q2.2 hs, 0, 0)
            obtain ⟨hg, hl⟩ := gd_some hl
            refine ⟨hg, hX _ ?_⟩
            clear hP hX hk P' X cal
            refine Wp.stepsG 5 (fun cal X P' hk hX hP => ?_)
            show X (8, [some (.ref 76), some (.int f1), some (.int f2), some (.int (v3 + (-((q2.2.1 87) v4.toNatClampNeg)))), some (.int (v4 + 1))], [], st q2.2 hs, 0, 0)
            refine hX _ ?_
            exact (ih (v3 + (-((q2.2.1 87) v4.toNatClampNeg))) (v4 + 1) q2.2 q hl ct)
          · clear hP hX hk P' X cal
            rw [if_pos hc] at hl
            refine Wp.stepsG 4 (fun cal X P' hk hX hP => ?_)
            show vp_in v4 60 ∧ X (60, [some (.ref 76), some (.int f1), some (.int f2), some (.int v3), some (.int v4)], [.int ((q2.2.1 87) v4.toNatClampNeg), .int v3], st q2.2 hs, 0, 0)
            obtain ⟨hg, hl⟩ := gd_some hl
            refine ⟨hg, hX _ ?_⟩
            clear hP hX hk P' X cal
            refine Wp.stepsG 5 (fun cal X P' hk hX hP => ?_)
            show X (8, [some (.ref 76), some (.int f1), some (.int f2), some (.int (v3 + ((q2.2.1 87) v4.toNatClampNeg))), some (.int (v4 + 1))], [], st q2.2 hs, 0, 0)
            refine hX _ ?_
            exact (ih (v3 + ((q2.2.1 87) v4.toNatClampNeg)) (v4 + 1) q2.2 q hl ct)
        · clear hP hX hk P' X cal
          rw [if_pos hc] at hl
          refine Wp.stepsG 3 (fun cal X P' hk hX hP => ?_)
          show X (8, [some (.ref 76), some (.int f1), some (.int f2), some (.int v3), some (.int (v4 + 1))], [], st q2.2 hs, 0, 0)
          refine hX _ ?_
          exact (ih v3 (v4 + 1) q2.2 q hl ct)
def r_X12_mood (S : St) (a1 : Int32) (a2 : Int32) : Option (Int32 × St) :=
  (lp_X12_mood_8 a1 a2 4000 0 (r_X12_begin S) S).bind fun q3 =>
    some (q3.1, q3.2)
set_option maxRecDepth 20000 in
set_option maxHeartbeats 4000000 in
theorem e_X12_mood (d : Nat) (S : St) (hs : List Hr) (a1 : Int32) (a2 : Int32) (v : Int32 × St) (hr : r_X12_mood S a1 a2 = some v) (P : Option Value → Hp → Prop) (h : P (some (.int v.1)) (st v.2 hs)) : Ev (d + 3) ix_X12_mood 0 0 [.ref 76, .int a1, .int a2] (st S hs) P := by
  refine Ev.intro (M := mi_X12_mood) rfl (Nat.le_of_ble_eq_true rfl) ?_
  unfold r_X12_mood at hr
  refine Wp.stepsG 4 (fun cal X P' hk hX hP => ?_)
  show kcall cal ix_X12_begin [.ref 76] (st S hs) [] 0 0 (0, 0) (fun v σ' c' m' => X (6, [some (.ref 76), some (.int a1), some (.int a2), some (.int 0), none], v.toList ++ [], σ', c', m'))
  refine kcall0 rfl (hk _ _ _ _ _ _ (e_X12_begin (d + 1) S hs _ ?_))
  show X (6, [some (.ref 76), some (.int a1), some (.int a2), some (.int 0), none], [.int (r_X12_begin S)], st S hs, 0, 0)
  refine hX _ ?_
  clear hP hX hk P' X cal
  refine Wp.stepsG 1 (fun cal X P' hk hX hP => ?_)
  show X (8, [some (.ref 76), some (.int a1), some (.int a2), some (.int 0), some (.int (r_X12_begin S))], [], st S hs, 0, 0)
  refine hX _ ?_
  clear hP hX hk P' X cal
  obtain ⟨q3, hq3, hr⟩ := bd_some hr
  refine (e_lp_X12_mood_8 d hs P a1 a2 _ 0 (r_X12_begin S) S q3 hq3 ?_)
  have hr := Option.some.inj hr
  subst hr
  refine Wp.stepsG 2 (fun cal X P' hk hX hP => ?_)
  exact hP _ _ h
def r_X12_limit (S : St) (a1 : Int32) : Option Int32 :=
  (r_X12_lastOf S 2 20).bind fun q1 =>
  gd (¬ (a1 < 0 ∨ 6 ≤ a1.toNatClampNeg)) (
    if ((S.1 79) a1.toNatClampNeg) = 3 then
      some (q1 / 2)
    else
    if ((S.1 79) a1.toNatClampNeg) = 4 then
      some q1
    else
    if ((S.1 79) a1.toNatClampNeg) = 5 then
      some ((2 : Int32) * q1)
    else
    if ((S.1 79) a1.toNatClampNeg) = 6 then
      gd (¬ ((((4 : Int32) * a1) + ((S.1 76 2) - (S.1 76 2) / 4 * 4)) < 0 ∨ 24 ≤ (((4 : Int32) * a1) + ((S.1 76 2) - (S.1 76 2) / 4 * 4)).toNatClampNeg)) (
        gd (¬ ((S.1 81) (((4 : Int32) * a1) + ((S.1 76 2) - (S.1 76 2) / 4 * 4)).toNatClampNeg) = 0) (
          some (q1 / ((S.1 81) (((4 : Int32) * a1) + ((S.1 76 2) - (S.1 76 2) / 4 * 4)).toNatClampNeg))))
    else
      some q1)
set_option maxRecDepth 20000 in
set_option maxHeartbeats 4000000 in
theorem e_X12_limit (d : Nat) (S : St) (hs : List Hr) (a1 : Int32) (v : Int32) (hr : r_X12_limit S a1 = some v) (P : Option Value → Hp → Prop) (h : P (some (.int v)) (st S hs)) : Ev (d + 3) ix_X12_limit 0 0 [.ref 76, .int a1] (st S hs) P := by
  refine Ev.intro (M := mi_X12_limit) rfl (Nat.le_of_ble_eq_true rfl) ?_
  unfold r_X12_limit at hr
  refine Wp.stepsG 4 (fun cal X P' hk hX hP => ?_)
  show kcall cal ix_X12_lastOf [.ref 76, .int 2, .int 20] (st S hs) [] 0 0 (0, 0) (fun v σ' c' m' => X (7, [some (.ref 76), some (.int a1), none], v.toList ++ [], σ', c', m'))
  obtain ⟨q1, hq1, hr⟩ := bd_some hr
  refine kcall0 rfl (hk _ _ _ _ _ _ (e_X12_lastOf (d + 0) S hs 2 20 q1 hq1 _ ?_))
  show X (7, [some (.ref 76), some (.int a1), none], [.int q1], st S hs, 0, 0)
  refine hX _ ?_
  clear hP hX hk P' X cal
  refine Wp.stepsG 5 (fun cal X P' hk hX hP => ?_)
  show vp_in a1 6 ∧ X (14, [some (.ref 76), some (.int a1), some (.int q1)], [.int ((S.1 79) a1.toNatClampNeg)], st S hs, 0, 0)
  obtain ⟨hg, hr⟩ := gd_some hr
  refine ⟨hg, hX _ ?_⟩
  clear hP hX hk P' X cal
  refine Wp.stepsG 1 (fun cal X P' hk hX hP => ?_)
  show (((S.1 79) a1.toNatClampNeg) = 3 → X (44, [some (.ref 76), some (.int a1), some (.int q1)], [], st S hs, 0, 0)) ∧ (¬ ((S.1 79) a1.toNatClampNeg) = 3 → (((S.1 79) a1.toNatClampNeg) = 4 → X (70, [some (.ref 76), some (.int a1), some (.int q1)], [], st S hs, 0, 0)) ∧ (¬ ((S.1 79) a1.toNatClampNeg) = 4 → (((S.1 79) a1.toNatClampNeg) = 5 → X (48, [some (.ref 76), some (.int a1), some (.int q1)], [], st S hs, 0, 0)) ∧ (¬ ((S.1 79) a1.toNatClampNeg) = 5 → (((S.1 79) a1.toNatClampNeg) = 6 → X (52, [some (.ref 76), some (.int a1), some (.int q1)], [], st S hs, 0, 0)) ∧ (¬ ((S.1 79) a1.toNatClampNeg) = 6 → X (70, [some (.ref 76), some (.int a1), some (.int q1)], [], st S hs, 0, 0)))))
  refine ⟨fun hc => hX _ ?_, fun hc => ?_⟩
  · clear hP hX hk P' X cal
    rw [if_pos hc] at hr
    refine Wp.stepsG 3 (fun cal X P' hk hX hP => ?_)
    show ¬ (2 : Int32) = 0 ∧ X (47, [some (.ref 76), some (.int a1), some (.int q1)], [.int (q1 / 2)], st S hs, 0, 0)
    refine ⟨(show ¬ (2 : Int32) = 0 from by decide), hX _ ?_⟩
    clear hP hX hk P' X cal
    have hr := Option.some.inj hr
    subst hr
    refine Wp.stepsG 1 (fun cal X P' hk hX hP => ?_)
    exact hP _ _ h
  · rw [if_neg hc] at hr
    refine ⟨fun hc => hX _ ?_, fun hc => ?_⟩
    · clear hP hX hk P' X cal
      rw [if_pos hc] at hr
      have hr := Option.some.inj hr
      subst hr
      refine Wp.stepsG 2 (fun cal X P' hk hX hP => ?_)
      exact hP _ _ h
    · rw [if_neg hc] at hr
      refine ⟨fun hc => hX _ ?_, fun hc => ?_⟩
      · clear hP hX hk P' X cal
        rw [if_pos hc] at hr
        have hr := Option.some.inj hr
        subst hr
        refine Wp.stepsG 4 (fun cal X P' hk hX hP => ?_)
        exact hP _ _ h
      · rw [if_neg hc] at hr
        refine ⟨fun hc => hX _ ?_, fun hc => hX _ ?_⟩
        · clear hP hX hk P' X cal
          rw [if_pos hc] at hr
          refine Wp.stepsG 10 (fun cal X P' hk hX hP => ?_)
          show ¬ (4 : Int32) = 0 ∧ X (66, [some (.ref 76), some (.int a1), some (.int q1)], [.int ((S.1 76 2) - (S.1 76 2) / 4 * 4), .int ((4 : Int32) * a1), .ref 81, .int q1], st S hs, 0, 0)
          refine ⟨(show ¬ (4 : Int32) = 0 from by decide), hX _ ?_⟩
          clear hP hX hk P' X cal
          refine Wp.stepsG 2 (fun cal X P' hk hX hP => ?_)
          show vp_in (((4 : Int32) * a1) + ((S.1 76 2) - (S.1 76 2) / 4 * 4)) 24 ∧ X (68, [some (.ref 76), some (.int a1), some (.int q1)], [.int ((S.1 81) (((4 : Int32) * a1) + ((S.1 76 2) - (S.1 76 2) / 4 * 4)).toNatClampNeg), .int q1], st S hs, 0, 0)
          obtain ⟨hg, hr⟩ := gd_some hr
          refine ⟨hg, hX _ ?_⟩
          clear hP hX hk P' X cal
          refine Wp.stepsG 1 (fun cal X P' hk hX hP => ?_)
          show ¬ ((S.1 81) (((4 : Int32) * a1) + ((S.1 76 2) - (S.1 76 2) / 4 * 4)).toNatClampNeg) = 0 ∧ X (69, [some (.ref 76), some (.int a1), some (.int q1)], [.int (q1 / ((S.1 81) (((4 : Int32) * a1) + ((S.1 76 2) - (S.1 76 2) / 4 * 4)).toNatClampNeg))], st S hs, 0, 0)
          obtain ⟨hg, hr⟩ := gd_some hr
          refine ⟨hg, hX _ ?_⟩
          clear hP hX hk P' X cal
          have hr := Option.some.inj hr
          subst hr
          refine Wp.stepsG 1 (fun cal X P' hk hX hP => ?_)
          exact hP _ _ h
        · rw [if_neg hc] at hr
          clear hP hX hk P' X cal
          have hr := Option.some.inj hr
          subst hr
          refine Wp.stepsG 2 (fun cal X P' hk hX hP => ?_)
          exact hP _ _ h
def r_X12_knows (S : St) (a1 : Int32) (a2 : Int32) : Option Int32 :=
  gd (¬ ((((8 : Int32) * a1) + a2) < 0 ∨ 48 ≤ (((8 : Int32) * a1) + a2).toNatClampNeg)) (
    if ((S.1 82) (((8 : Int32) * a1) + a2).toNatClampNeg) ≤ 0 then
      some 0
    else
      gd (¬ ((((8 : Int32) * a1) + a2) < 0 ∨ 48 ≤ (((8 : Int32) * a1) + a2).toNatClampNeg)) (
        (r_X12_limit S a1).bind fun q1 =>
        if q1 ≤ ((S.1 76 2) - ((S.1 83) (((8 : Int32) * a1) + a2).toNatClampNeg)) then
          some 0
        else
          some 1))
set_option maxRecDepth 20000 in
set_option maxHeartbeats 4000000 in
theorem e_X12_knows (d : Nat) (S : St) (hs : List Hr) (a1 : Int32) (a2 : Int32) (v : Int32) (hr : r_X12_knows S a1 a2 = some v) (P : Option Value → Hp → Prop) (h : P (some (.int v)) (st S hs)) : Ev (d + 4) ix_X12_knows 0 0 [.ref 76, .int a1, .int a2] (st S hs) P := by
  refine Ev.intro (M := mi_X12_knows) rfl (Nat.le_of_ble_eq_true rfl) ?_
  unfold r_X12_knows at hr
  refine Wp.stepsG 8 (fun cal X P' hk hX hP => ?_)
  show vp_in (((8 : Int32) * a1) + a2) 48 ∧ X (11, [some (.ref 76), some (.int a1), some (.int a2)], [.int ((S.1 82) (((8 : Int32) * a1) + a2).toNatClampNeg)], st S hs, 0, 0)
  obtain ⟨hg, hr⟩ := gd_some hr
  refine ⟨hg, hX _ ?_⟩
  clear hP hX hk P' X cal
  refine Wp.stepsG 1 (fun cal X P' hk hX hP => ?_)
  show (((S.1 82) (((8 : Int32) * a1) + a2).toNatClampNeg) ≤ 0 → X (42, [some (.ref 76), some (.int a1), some (.int a2)], [], st S hs, 0, 0)) ∧ (¬ ((S.1 82) (((8 : Int32) * a1) + a2).toNatClampNeg) ≤ 0 → X (14, [some (.ref 76), some (.int a1), some (.int a2)], [], st S hs, 0, 0))
  refine ⟨fun hc => hX _ ?_, fun hc => hX _ ?_⟩
  · clear hP hX hk P' X cal
    rw [if_pos hc] at hr
    have hr := Option.some.inj hr
    subst hr
    refine Wp.stepsG 2 (fun cal X P' hk hX hP => ?_)
    exact ⟨Or.inl rfl, hP _ _ h⟩
  · clear hP hX hk P' X cal
    rw [if_neg hc] at hr
    refine Wp.stepsG 10 (fun cal X P' hk hX hP => ?_)
    show vp_in (((8 : Int32) * a1) + a2) 48 ∧ X (29, [some (.ref 76), some (.int a1), some (.int a2)], [.int ((S.1 83) (((8 : Int32) * a1) + a2).toNatClampNeg), .int (S.1 76 2)], st S hs, 0, 0)
    obtain ⟨hg, hr⟩ := gd_some hr
    refine ⟨hg, hX _ ?_⟩
    clear hP hX hk P' X cal
    refine Wp.stepsG 4 (fun cal X P' hk hX hP => ?_)
    show kcall cal ix_X12_limit [.ref 76, .int a1] (st S hs) [.int ((S.1 76 2) - ((S.1 83) (((8 : Int32) * a1) + a2).toNatClampNeg))] 0 0 (0, 0) (fun v σ' c' m' => X (35, [some (.ref 76), some (.int a1), some (.int a2)], v.toList ++ [.int ((S.1 76 2) - ((S.1 83) (((8 : Int32) * a1) + a2).toNatClampNeg))], σ', c', m'))
    obtain ⟨q1, hq1, hr⟩ := bd_some hr
    refine kcall0 rfl (hk _ _ _ _ _ _ (e_X12_limit (d + 0) S hs a1 q1 hq1 _ ?_))
    show X (35, [some (.ref 76), some (.int a1), some (.int a2)], [.int q1, .int ((S.1 76 2) - ((S.1 83) (((8 : Int32) * a1) + a2).toNatClampNeg))], st S hs, 0, 0)
    refine hX _ ?_
    clear hP hX hk P' X cal
    refine Wp.stepsG 1 (fun cal X P' hk hX hP => ?_)
    show (q1 ≤ ((S.1 76 2) - ((S.1 83) (((8 : Int32) * a1) + a2).toNatClampNeg)) → X (42, [some (.ref 76), some (.int a1), some (.int a2)], [], st S hs, 0, 0)) ∧ (¬ q1 ≤ ((S.1 76 2) - ((S.1 83) (((8 : Int32) * a1) + a2).toNatClampNeg)) → X (38, [some (.ref 76), some (.int a1), some (.int a2)], [], st S hs, 0, 0))
    refine ⟨fun hc => hX _ ?_, fun hc => hX _ ?_⟩
    · clear hP hX hk P' X cal
      rw [if_pos hc] at hr
      have hr := Option.some.inj hr
      subst hr
      refine Wp.stepsG 2 (fun cal X P' hk hX hP => ?_)
      exact ⟨Or.inl rfl, hP _ _ h⟩
    · clear hP hX hk P' X cal
      rw [if_neg hc] at hr
      have hr := Option.some.inj hr
      subst hr
      refine Wp.stepsG 3 (fun cal X P' hk hX hP => ?_)
      exact ⟨Or.inr rfl, hP _ _ h⟩
def r_X12_laughOf (S : St) (a1 : Int32) (a2 : Int32) : Option (Int32 × St) :=
  gd (¬ (a2 < 0 ∨ 8 ≤ a2.toNatClampNeg)) (
    (r_X12_mood S a1 a2).bind fun q1 =>
    (r_X12_lastOf q1.2 3 5).bind fun q2 =>
    (r_X12_knows q1.2 a1 a2).bind fun q3 =>
    gd (¬ (a1 < 0 ∨ 6 ≤ a1.toNatClampNeg)) (
      if ((q1.2.1 79) a1.toNatClampNeg) = 1 then
        if q3 = 0 then
          some (((S.1 77) a2.toNatClampNeg) + q1.1, q1.2)
        else
          some (0, q1.2)
      else
      if ((q1.2.1 79) a1.toNatClampNeg) = 2 then
        if q3 = 0 then
          gd (¬ ((((8 : Int32) * a1) + a2) < 0 ∨ 48 ≤ (((8 : Int32) * a1) + a2).toNatClampNeg)) (
            some ((((S.1 77) a2.toNatClampNeg) + q1.1) - ((q1.2.1 82) (((8 : Int32) * a1) + a2).toNatClampNeg), q1.2))
        else
          some (((-2) : Int32) * q2, q1.2)
      else
      if ((q1.2.1 79) a1.toNatClampNeg) = 3 then
        if q3 = 0 then
          some (((S.1 77) a2.toNatClampNeg) + q1.1, q1.2)
        else
          some (-q2, q1.2)
      else
      if ((q1.2.1 79) a1.toNatClampNeg) = 4 then
        if q3 = 0 then
          some (((S.1 77) a2.toNatClampNeg) + q1.1, q1.2)
        else
          gd (¬ (a1 < 0 ∨ 6 ≤ a1.toNatClampNeg)) (
            some ((q1.2.1 80) a1.toNatClampNeg, q1.2))
      else
      if ((q1.2.1 79) a1.toNatClampNeg) = 5 then
        if q3 = 0 then
          gd (¬ ((((8 : Int32) * a1) + a2) < 0 ∨ 48 ≤ (((8 : Int32) * a1) + a2).toNatClampNeg)) (
            some ((((S.1 77) a2.toNatClampNeg) + q1.1) - ((q1.2.1 82) (((8 : Int32) * a1) + a2).toNatClampNeg), q1.2))
        else
          gd (¬ (a1 < 0 ∨ 6 ≤ a1.toNatClampNeg)) (
            some ((((S.1 77) a2.toNatClampNeg) + q1.1) + ((q1.2.1 80) a1.toNatClampNeg), q1.2))
      else
        if q3 = 0 then
          some (((S.1 77) a2.toNatClampNeg) + q1.1, q1.2)
        else
          some (-q2, q1.2)))
set_option maxRecDepth 20000 in
set_option maxHeartbeats 4000000 in
theorem e_X12_laughOf (d : Nat) (S : St) (hs : List Hr) (a1 : Int32) (a2 : Int32) (v : Int32 × St) (hr : r_X12_laughOf S a1 a2 = some v) (P : Option Value → Hp → Prop) (h : P (some (.int v.1)) (st v.2 hs)) : Ev (d + 5) ix_X12_laughOf 0 0 [.ref 76, .int a1, .int a2] (st S hs) P := by
  refine Ev.intro (M := mi_X12_laughOf) rfl (Nat.le_of_ble_eq_true rfl) ?_
  unfold r_X12_laughOf at hr
  refine Wp.stepsG 4 (fun cal X P' hk hX hP => ?_)
  show vp_in a2 8 ∧ X (6, [some (.ref 76), some (.int a1), some (.int a2), none, none, none], [.int ((S.1 77) a2.toNatClampNeg)], st S hs, 0, 0)
  obtain ⟨hg, hr⟩ := gd_some hr
  refine ⟨hg, hX _ ?_⟩
  clear hP hX hk P' X cal
  refine Wp.stepsG 4 (fun cal X P' hk hX hP => ?_)
  show kcall cal ix_X12_mood [.ref 76, .int a1, .int a2] (st S hs) [.int ((S.1 77) a2.toNatClampNeg)] 0 0 (0, 0) (fun v σ' c' m' => X (12, [some (.ref 76), some (.int a1), some (.int a2), none, none, none], v.toList ++ [.int ((S.1 77) a2.toNatClampNeg)], σ', c', m'))
  obtain ⟨q1, hq1, hr⟩ := bd_some hr
  refine kcall0 rfl (hk _ _ _ _ _ _ (e_X12_mood (d + 1) S hs a1 a2 q1 hq1 _ ?_))
  show X (12, [some (.ref 76), some (.int a1), some (.int a2), none, none, none], [.int q1.1, .int ((S.1 77) a2.toNatClampNeg)], st q1.2 hs, 0, 0)
  refine hX _ ?_
  clear hP hX hk P' X cal
  refine Wp.stepsG 6 (fun cal X P' hk hX hP => ?_)
  show kcall cal ix_X12_lastOf [.ref 76, .int 3, .int 5] (st q1.2 hs) [] 0 0 (0, 0) (fun v σ' c' m' => X (20, [some (.ref 76), some (.int a1), some (.int a2), some (.int (((S.1 77) a2.toNatClampNeg) + q1.1)), none, none], v.toList ++ [], σ', c', m'))
  obtain ⟨q2, hq2, hr⟩ := bd_some hr
  refine kcall0 rfl (hk _ _ _ _ _ _ (e_X12_lastOf (d + 2) q1.2 hs 3 5 q2 hq2 _ ?_))
  show X (20, [some (.ref 76), some (.int a1), some (.int a2), some (.int (((S.1 77) a2.toNatClampNeg) + q1.1)), none, none], [.int q2], st q1.2 hs, 0, 0)
  refine hX _ ?_
  clear hP hX hk P' X cal
  refine Wp.stepsG 5 (fun cal X P' hk hX hP => ?_)
  show kcall cal ix_X12_knows [.ref 76, .int a1, .int a2] (st q1.2 hs) [] 0 0 (0, 0) (fun v σ' c' m' => X (28, [some (.ref 76), some (.int a1), some (.int a2), some (.int (((S.1 77) a2.toNatClampNeg) + q1.1)), some (.int q2), none], v.toList ++ [], σ', c', m'))
  obtain ⟨q3, hq3, hr⟩ := bd_some hr
  refine kcall0 rfl (hk _ _ _ _ _ _ (e_X12_knows (d + 0) q1.2 hs a1 a2 q3 hq3 _ ?_))
  show X (28, [some (.ref 76), some (.int a1), some (.int a2), some (.int (((S.1 77) a2.toNatClampNeg) + q1.1)), some (.int q2), none], [.int q3], st q1.2 hs, 0, 0)
  refine hX _ ?_
  clear hP hX hk P' X cal
  refine Wp.stepsG 5 (fun cal X P' hk hX hP => ?_)
  show vp_in a1 6 ∧ X (36, [some (.ref 76), some (.int a1), some (.int a2), some (.int (((S.1 77) a2.toNatClampNeg) + q1.1)), some (.int q2), some (.int q3)], [.int ((q1.2.1 79) a1.toNatClampNeg)], st q1.2 hs, 0, 0)
  obtain ⟨hg, hr⟩ := gd_some hr
  refine ⟨hg, hX _ ?_⟩
  clear hP hX hk P' X cal
  refine Wp.stepsG 1 (fun cal X P' hk hX hP => ?_)
  show (((q1.2.1 79) a1.toNatClampNeg) = 1 → X (72, [some (.ref 76), some (.int a1), some (.int a2), some (.int (((S.1 77) a2.toNatClampNeg) + q1.1)), some (.int q2), some (.int q3)], [], st q1.2 hs, 0, 0)) ∧ (¬ ((q1.2.1 79) a1.toNatClampNeg) = 1 → (((q1.2.1 79) a1.toNatClampNeg) = 2 → X (99, [some (.ref 76), some (.int a1), some (.int a2), some (.int (((S.1 77) a2.toNatClampNeg) + q1.1)), some (.int q2), some (.int q3)], [], st q1.2 hs, 0, 0)) ∧ (¬ ((q1.2.1 79) a1.toNatClampNeg) = 2 → (((q1.2.1 79) a1.toNatClampNeg) = 3 → X (156, [some (.ref 76), some (.int a1), some (.int a2), some (.int (((S.1 77) a2.toNatClampNeg) + q1.1)), some (.int q2), some (.int q3)], [], st q1.2 hs, 0, 0)) ∧ (¬ ((q1.2.1 79) a1.toNatClampNeg) = 3 → (((q1.2.1 79) a1.toNatClampNeg) = 4 → X (83, [some (.ref 76), some (.int a1), some (.int a2), some (.int (((S.1 77) a2.toNatClampNeg) + q1.1)), some (.int q2), some (.int q3)], [], st q1.2 hs, 0, 0)) ∧ (¬ ((q1.2.1 79) a1.toNatClampNeg) = 4 → (((q1.2.1 79) a1.toNatClampNeg) = 5 → X (126, [some (.ref 76), some (.int a1), some (.int a2), some (.int (((S.1 77) a2.toNatClampNeg) + q1.1)), some (.int q2), some (.int q3)], [], st q1.2 hs, 0, 0)) ∧ (¬ ((q1.2.1 79) a1.toNatClampNeg) = 5 → X (156, [some (.ref 76), some (.int a1), some (.int a2), some (.int (((S.1 77) a2.toNatClampNeg) + q1.1)), some (.int q2), some (.int q3)], [], st q1.2 hs, 0, 0))))))
  refine ⟨fun hc => hX _ ?_, fun hc => ?_⟩
  · clear hP hX hk P' X cal
    rw [if_pos hc] at hr
    refine Wp.stepsG 2 (fun cal X P' hk hX hP => ?_)
    show (q3 = 0 → X (81, [some (.ref 76), some (.int a1), some (.int a2), some (.int (((S.1 77) a2.toNatClampNeg) + q1.1)), some (.int q2), some (.int q3)], [], st q1.2 hs, 0, 0)) ∧ (¬ q3 = 0 → X (77, [some (.ref 76), some (.int a1), some (.int a2), some (.int (((S.1 77) a2.toNatClampNeg) + q1.1)), some (.int q2), some (.int q3)], [], st q1.2 hs, 0, 0))
    refine ⟨fun hc => hX _ ?_, fun hc => hX _ ?_⟩
    · clear hP hX hk P' X cal
      rw [if_pos hc] at hr
      have hr := Option.some.inj hr
      subst hr
      refine Wp.stepsG 2 (fun cal X P' hk hX hP => ?_)
      exact hP _ _ h
    · clear hP hX hk P' X cal
      rw [if_neg hc] at hr
      have hr := Option.some.inj hr
      subst hr
      refine Wp.stepsG 3 (fun cal X P' hk hX hP => ?_)
      exact hP _ _ h
  · rw [if_neg hc] at hr
    refine ⟨fun hc => hX _ ?_, fun hc => ?_⟩
    · clear hP hX hk P' X cal
      rw [if_pos hc] at hr
      refine Wp.stepsG 2 (fun cal X P' hk hX hP => ?_)
      show (q3 = 0 → X (112, [some (.ref 76), some (.int a1), some (.int a2), some (.int (((S.1 77) a2.toNatClampNeg) + q1.1)), some (.int q2), some (.int q3)], [], st q1.2 hs, 0, 0)) ∧ (¬ q3 = 0 → X (104, [some (.ref 76), some (.int a1), some (.int a2), some (.int (((S.1 77) a2.toNatClampNeg) + q1.1)), some (.int q2), some (.int q3)], [], st q1.2 hs, 0, 0))
      refine ⟨fun hc => hX _ ?_, fun hc => hX _ ?_⟩
      · clear hP hX hk P' X cal
        rw [if_pos hc] at hr
        refine Wp.stepsG 9 (fun cal X P' hk hX hP => ?_)
        show vp_in (((8 : Int32) * a1) + a2) 48 ∧ X (124, [some (.ref 76), some (.int a1), some (.int a2), some (.int (((S.1 77) a2.toNatClampNeg) + q1.1)), some (.int q2), some (.int q3)], [.int ((q1.2.1 82) (((8 : Int32) * a1) + a2).toNatClampNeg), .int (((S.1 77) a2.toNatClampNeg) + q1.1)], st q1.2 hs, 0, 0)
        obtain ⟨hg, hr⟩ := gd_some hr
        refine ⟨hg, hX _ ?_⟩
        clear hP hX hk P' X cal
        have hr := Option.some.inj hr
        subst hr
        refine Wp.stepsG 2 (fun cal X P' hk hX hP => ?_)
        exact hP _ _ h
      · clear hP hX hk P' X cal
        rw [if_neg hc] at hr
        have hr := Option.some.inj hr
        subst hr
        refine Wp.stepsG 5 (fun cal X P' hk hX hP => ?_)
        exact hP _ _ h
    · rw [if_neg hc] at hr
      refine ⟨fun hc => hX _ ?_, fun hc => ?_⟩
      · clear hP hX hk P' X cal
        rw [if_pos hc] at hr
        refine Wp.stepsG 2 (fun cal X P' hk hX hP => ?_)
        show (q3 = 0 → X (167, [some (.ref 76), some (.int a1), some (.int a2), some (.int (((S.1 77) a2.toNatClampNeg) + q1.1)), some (.int q2), some (.int q3)], [], st q1.2 hs, 0, 0)) ∧ (¬ q3 = 0 → X (161, [some (.ref 76), some (.int a1), some (.int a2), some (.int (((S.1 77) a2.toNatClampNeg) + q1.1)), some (.int q2), some (.int q3)], [], st q1.2 hs, 0, 0))
        refine ⟨fun hc => hX _ ?_, fun hc => hX _ ?_⟩
        · clear hP hX hk P' X cal
          rw [if_pos hc] at hr
          have hr := Option.some.inj hr
          subst hr
          refine Wp.stepsG 2 (fun cal X P' hk hX hP => ?_)
          exact hP _ _ h
        · clear hP hX hk P' X cal
          rw [if_neg hc] at hr
          have hr := Option.some.inj hr
          subst hr
          refine Wp.stepsG 4 (fun cal X P' hk hX hP => ?_)
          exact hP _ _ h
      · rw [if_neg hc] at hr
        refine ⟨fun hc => hX _ ?_, fun hc => ?_⟩
        · clear hP hX hk P' X cal
          rw [if_pos hc] at hr
          refine Wp.stepsG 2 (fun cal X P' hk hX hP => ?_)
          show (q3 = 0 → X (97, [some (.ref 76), some (.int a1), some (.int a2), some (.int (((S.1 77) a2.toNatClampNeg) + q1.1)), some (.int q2), some (.int q3)], [], st q1.2 hs, 0, 0)) ∧ (¬ q3 = 0 → X (88, [some (.ref 76), some (.int a1), some (.int a2), some (.int (((S.1 77) a2.toNatClampNeg) + q1.1)), some (.int q2), some (.int q3)], [], st q1.2 hs, 0, 0))
          refine ⟨fun hc => hX _ ?_, fun hc => hX _ ?_⟩
          · clear hP hX hk P' X cal
            rw [if_pos hc] at hr
            have hr := Option.some.inj hr
            subst hr
            refine Wp.stepsG 2 (fun cal X P' hk hX hP => ?_)
            exact hP _ _ h
          · clear hP hX hk P' X cal
            rw [if_neg hc] at hr
            refine Wp.stepsG 4 (fun cal X P' hk hX hP => ?_)
            show vp_in a1 6 ∧ X (94, [some (.ref 76), some (.int a1), some (.int a2), some (.int (((S.1 77) a2.toNatClampNeg) + q1.1)), some (.int q2), some (.int q3)], [.int ((q1.2.1 80) a1.toNatClampNeg)], st q1.2 hs, 0, 0)
            obtain ⟨hg, hr⟩ := gd_some hr
            refine ⟨hg, hX _ ?_⟩
            clear hP hX hk P' X cal
            have hr := Option.some.inj hr
            subst hr
            refine Wp.stepsG 2 (fun cal X P' hk hX hP => ?_)
            exact hP _ _ h
        · rw [if_neg hc] at hr
          refine ⟨fun hc => hX _ ?_, fun hc => hX _ ?_⟩
          · clear hP hX hk P' X cal
            rw [if_pos hc] at hr
            refine Wp.stepsG 2 (fun cal X P' hk hX hP => ?_)
            show (q3 = 0 → X (142, [some (.ref 76), some (.int a1), some (.int a2), some (.int (((S.1 77) a2.toNatClampNeg) + q1.1)), some (.int q2), some (.int q3)], [], st q1.2 hs, 0, 0)) ∧ (¬ q3 = 0 → X (131, [some (.ref 76), some (.int a1), some (.int a2), some (.int (((S.1 77) a2.toNatClampNeg) + q1.1)), some (.int q2), some (.int q3)], [], st q1.2 hs, 0, 0))
            refine ⟨fun hc => hX _ ?_, fun hc => hX _ ?_⟩
            · clear hP hX hk P' X cal
              rw [if_pos hc] at hr
              refine Wp.stepsG 9 (fun cal X P' hk hX hP => ?_)
              show vp_in (((8 : Int32) * a1) + a2) 48 ∧ X (154, [some (.ref 76), some (.int a1), some (.int a2), some (.int (((S.1 77) a2.toNatClampNeg) + q1.1)), some (.int q2), some (.int q3)], [.int ((q1.2.1 82) (((8 : Int32) * a1) + a2).toNatClampNeg), .int (((S.1 77) a2.toNatClampNeg) + q1.1)], st q1.2 hs, 0, 0)
              obtain ⟨hg, hr⟩ := gd_some hr
              refine ⟨hg, hX _ ?_⟩
              clear hP hX hk P' X cal
              have hr := Option.some.inj hr
              subst hr
              refine Wp.stepsG 2 (fun cal X P' hk hX hP => ?_)
              exact hP _ _ h
            · clear hP hX hk P' X cal
              rw [if_neg hc] at hr
              refine Wp.stepsG 5 (fun cal X P' hk hX hP => ?_)
              show vp_in a1 6 ∧ X (138, [some (.ref 76), some (.int a1), some (.int a2), some (.int (((S.1 77) a2.toNatClampNeg) + q1.1)), some (.int q2), some (.int q3)], [.int ((q1.2.1 80) a1.toNatClampNeg), .int (((S.1 77) a2.toNatClampNeg) + q1.1)], st q1.2 hs, 0, 0)
              obtain ⟨hg, hr⟩ := gd_some hr
              refine ⟨hg, hX _ ?_⟩
              clear hP hX hk P' X cal
              have hr := Option.some.inj hr
              subst hr
              refine Wp.stepsG 3 (fun cal X P' hk hX hP => ?_)
              exact hP _ _ h
          · rw [if_neg hc] at hr
            clear hP hX hk P' X cal
            refine Wp.stepsG 2 (fun cal X P' hk hX hP => ?_)
            show (q3 = 0 → X (167, [some (.ref 76), some (.int a1), some (.int a2), some (.int (((S.1 77) a2.toNatClampNeg) + q1.1)), some (.int q2), some (.int q3)], [], st q1.2 hs, 0, 0)) ∧ (¬ q3 = 0 → X (161, [some (.ref 76), some (.int a1), some (.int a2), some (.int (((S.1 77) a2.toNatClampNeg) + q1.1)), some (.int q2), some (.int q3)], [], st q1.2 hs, 0, 0))
            refine ⟨fun hc => hX _ ?_, fun hc => hX _ ?_⟩
            · clear hP hX hk P' X cal
              rw [if_pos hc] at hr
              have hr := Option.some.inj hr
              subst hr
              refine Wp.stepsG 2 (fun cal X P' hk hX hP => ?_)
              exact hP _ _ h
            · clear hP hX hk P' X cal
              rw [if_neg hc] at hr
              have hr := Option.some.inj hr
              subst hr
              refine Wp.stepsG 4 (fun cal X P' hk hX hP => ?_)
              exact hP _ _ h
def lp_X12_laughter_5 (f1 : Int32) (f2 : Int32) : Nat → Int32 → Int32 → St → Option (Int32 × St)
  | 0, _, _, _ => none
  | n + 1, v3, v4, S =>
    if (S.1 76 1) ≤ v4 then
      some (v3, S)
    else
      if (r_X12_has f2 v4) = 0 then
        lp_X12_laughter_5 f1 f2 n (v3 + 0) (v4 + 1) S
      else
        (r_X12_laughOf S v4 f1).bind fun q1 =>
        lp_X12_laughter_5 f1 f2 n (v3 + q1.1) (v4 + 1) q1.2
set_option maxRecDepth 20000 in
set_option maxHeartbeats 4000000 in
theorem e_lp_X12_laughter_5 (d : Nat) (hs : List Hr) (P : Option Value → Hp → Prop) (f1 : Int32) (f2 : Int32) : ∀ (n : Nat) (v3 : Int32) (v4 : Int32) (S : St) (q : Int32 × St), lp_X12_laughter_5 f1 f2 n v3 v4 S = some q → (WM mi_X12_laughter (d + 5) P 44 [some (.ref 76), some (.int f1), some (.int f2), some (.int q.1), none] [] (st q.2 hs)) → WM mi_X12_laughter (d + 5) P 5 [some (.ref 76), some (.int f1), some (.int f2), some (.int v3), some (.int v4)] [] (st S hs) := by
  intro n
  induction n with
  | zero =>
    intro v3 v4 S q hl
    cases hl
  | succ n ih =>
    intro v3 v4 S q hl ct
    rw [lp_X12_laughter_5] at hl
    refine Wp.stepsG 4 (fun cal X P' hk hX hP => ?_)
    show ((S.1 76 1) ≤ v4 → X (44, [some (.ref 76), some (.int f1), some (.int f2), some (.int v3), some (.int v4)], [], st S hs, 0, 0)) ∧ (¬ (S.1 76 1) ≤ v4 → X (14, [some (.ref 76), some (.int f1), some (.int f2), some (.int v3), some (.int v4)], [], st S hs, 0, 0))
    refine ⟨fun hc => hX _ ?_, fun hc => hX _ ?_⟩
    · clear hP hX hk P' X cal
      rw [if_pos hc] at hl
      have hl := Option.some.inj hl
      subst hl
      exact Wp.weak (leL.k (leL.k (leL.k (leL.k (leL.n leL.z))))) (ct)
    · clear hP hX hk P' X cal
      rw [if_neg hc] at hl
      refine Wp.stepsG 5 (fun cal X P' hk hX hP => ?_)
      show kcall cal ix_X12_has [.ref 76, .int f2, .int v4] (st S hs) [.int v3] 0 0 (0, 0) (fun v σ' c' m' => X (22, [some (.ref 76), some (.int f1), some (.int f2), some (.int v3), some (.int v4)], v.toList ++ [.int v3], σ', c', m'))
      refine kcall0 rfl (hk _ _ _ _ _ _ (e_X12_has (d + 4) S hs f2 v4 _ ?_))
      show X (22, [some (.ref 76), some (.int f1), some (.int f2), some (.int v3), some (.int v4)], [.int (r_X12_has f2 v4), .int v3], st S hs, 0, 0)
      refine hX _ ?_
      clear hP hX hk P' X cal
      refine Wp.stepsG 1 (fun cal X P' hk hX hP => ?_)
      show ((r_X12_has f2 v4) = 0 → X (35, [some (.ref 76), some (.int f1), some (.int f2), some (.int v3), some (.int v4)], [.int v3], st S hs, 0, 0)) ∧ (¬ (r_X12_has f2 v4) = 0 → X (25, [some (.ref 76), some (.int f1), some (.int f2), some (.int v3), some (.int v4)], [.int v3], st S hs, 0, 0))
      refine ⟨fun hc => hX _ ?_, fun hc => hX _ ?_⟩
      · clear hP hX hk P' X cal
        rw [if_pos hc] at hl
        refine Wp.stepsG 5 (fun cal X P' hk hX hP => ?_)
        show X (5, [some (.ref 76), some (.int f1), some (.int f2), some (.int (v3 + 0)), some (.int (v4 + 1))], [], st S hs, 0, 0)
        refine hX _ ?_
        exact (ih (v3 + 0) (v4 + 1) S q hl ct)
      · clear hP hX hk P' X cal
        rw [if_neg hc] at hl
        refine Wp.stepsG 4 (fun cal X P' hk hX hP => ?_)
        show kcall cal ix_X12_laughOf [.ref 76, .int v4, .int f1] (st S hs) [.int v3] 0 0 (0, 0) (fun v σ' c' m' => X (32, [some (.ref 76), some (.int f1), some (.int f2), some (.int v3), some (.int v4)], v.toList ++ [.int v3], σ', c', m'))
        obtain ⟨q1, hq1, hl⟩ := bd_some hl
        refine kcall0 rfl (hk _ _ _ _ _ _ (e_X12_laughOf (d + 0) S hs v4 f1 q1 hq1 _ ?_))
        show X (32, [some (.ref 76), some (.int f1), some (.int f2), some (.int v3), some (.int v4)], [.int q1.1, .int v3], st q1.2 hs, 0, 0)
        refine hX _ ?_
        clear hP hX hk P' X cal
        refine Wp.stepsG 5 (fun cal X P' hk hX hP => ?_)
        show X (5, [some (.ref 76), some (.int f1), some (.int f2), some (.int (v3 + q1.1)), some (.int (v4 + 1))], [], st q1.2 hs, 0, 0)
        refine hX _ ?_
        exact (ih (v3 + q1.1) (v4 + 1) q1.2 q hl ct)
def r_X12_laughter (S : St) (a1 : Int32) (a2 : Int32) : Option (Int32 × St) :=
  (lp_X12_laughter_5 a1 a2 4000 0 0 S).bind fun q2 =>
    some (q2.1, q2.2)
set_option maxRecDepth 20000 in
set_option maxHeartbeats 4000000 in
theorem e_X12_laughter (d : Nat) (S : St) (hs : List Hr) (a1 : Int32) (a2 : Int32) (v : Int32 × St) (hr : r_X12_laughter S a1 a2 = some v) (P : Option Value → Hp → Prop) (h : P (some (.int v.1)) (st v.2 hs)) : Ev (d + 6) ix_X12_laughter 0 0 [.ref 76, .int a1, .int a2] (st S hs) P := by
  refine Ev.intro (M := mi_X12_laughter) rfl (Nat.le_of_ble_eq_true rfl) ?_
  unfold r_X12_laughter at hr
  refine Wp.stepsG 4 (fun cal X P' hk hX hP => ?_)
  show X (5, [some (.ref 76), some (.int a1), some (.int a2), some (.int 0), some (.int 0)], [], st S hs, 0, 0)
  refine hX _ ?_
  clear hP hX hk P' X cal
  obtain ⟨q2, hq2, hr⟩ := bd_some hr
  refine (e_lp_X12_laughter_5 d hs P a1 a2 _ 0 0 S q2 hq2 ?_)
  have hr := Option.some.inj hr
  subst hr
  refine Wp.stepsG 2 (fun cal X P' hk hX hP => ?_)
  exact hP _ _ h
def lp_X12_knowing_5 (S : St) (f1 : Int32) (f2 : Int32) : Nat → Int32 → Int32 → Option (Int32)
  | 0, _, _ => none
  | n + 1, v3, v4 =>
    if (S.1 76 1) ≤ v4 then
      some v3
    else
      if (r_X12_has f2 v4) = 0 then
        lp_X12_knowing_5 S f1 f2 n (v3 ||| 0) (v4 + 1)
      else
        (r_X12_knows S v4 f1).bind fun q1 =>
        if q1 = 0 then
          lp_X12_knowing_5 S f1 f2 n (v3 ||| 0) (v4 + 1)
        else
          lp_X12_knowing_5 S f1 f2 n (v3 ||| ((1 : Int32) <<< (v4 &&& 31))) (v4 + 1)
set_option maxRecDepth 20000 in
set_option maxHeartbeats 4000000 in
theorem e_lp_X12_knowing_5 (d : Nat) (hs : List Hr) (P : Option Value → Hp → Prop) (S : St) (f1 : Int32) (f2 : Int32) : ∀ (n : Nat) (v3 : Int32) (v4 : Int32) (q : Int32), lp_X12_knowing_5 S f1 f2 n v3 v4 = some q → (WM mi_X12_knowing (d + 4) P 51 [some (.ref 76), some (.int f1), some (.int f2), some (.int q), none] [] (st S hs)) → WM mi_X12_knowing (d + 4) P 5 [some (.ref 76), some (.int f1), some (.int f2), some (.int v3), some (.int v4)] [] (st S hs) := by
  intro n
  induction n with
  | zero =>
    intro v3 v4 q hl
    cases hl
  | succ n ih =>
    intro v3 v4 q hl ct
    rw [lp_X12_knowing_5] at hl
    refine Wp.stepsG 4 (fun cal X P' hk hX hP => ?_)
    show ((S.1 76 1) ≤ v4 → X (51, [some (.ref 76), some (.int f1), some (.int f2), some (.int v3), some (.int v4)], [], st S hs, 0, 0)) ∧ (¬ (S.1 76 1) ≤ v4 → X (14, [some (.ref 76), some (.int f1), some (.int f2), some (.int v3), some (.int v4)], [], st S hs, 0, 0))
    refine ⟨fun hc => hX _ ?_, fun hc => hX _ ?_⟩
    · clear hP hX hk P' X cal
      rw [if_pos hc] at hl
      have hl := Option.some.inj hl
      subst hl
      exact Wp.weak (leL.k (leL.k (leL.k (leL.k (leL.n leL.z))))) (ct)
    · clear hP hX hk P' X cal
      rw [if_neg hc] at hl
      refine Wp.stepsG 5 (fun cal X P' hk hX hP => ?_)
      show kcall cal ix_X12_has [.ref 76, .int f2, .int v4] (st S hs) [.int v3] 0 0 (0, 0) (fun v σ' c' m' => X (22, [some (.ref 76), some (.int f1), some (.int f2), some (.int v3), some (.int v4)], v.toList ++ [.int v3], σ', c', m'))
      refine kcall0 rfl (hk _ _ _ _ _ _ (e_X12_has (d + 3) S hs f2 v4 _ ?_))
      show X (22, [some (.ref 76), some (.int f1), some (.int f2), some (.int v3), some (.int v4)], [.int (r_X12_has f2 v4), .int v3], st S hs, 0, 0)
      refine hX _ ?_
      clear hP hX hk P' X cal
      refine Wp.stepsG 1 (fun cal X P' hk hX hP => ?_)
      show ((r_X12_has f2 v4) = 0 → X (42, [some (.ref 76), some (.int f1), some (.int f2), some (.int v3), some (.int v4)], [.int v3], st S hs, 0, 0)) ∧ (¬ (r_X12_has f2 v4) = 0 → X (25, [some (.ref 76), some (.int f1), some (.int f2), some (.int v3), some (.int v4)], [.int v3], st S hs, 0, 0))
      refine ⟨fun hc => hX _ ?_, fun hc => hX _ ?_⟩
      · clear hP hX hk P' X cal
        rw [if_pos hc] at hl
        refine Wp.stepsG 5 (fun cal X P' hk hX hP => ?_)
        show X (5, [some (.ref 76), some (.int f1), some (.int f2), some (.int (v3 ||| 0)), some (.int (v4 + 1))], [], st S hs, 0, 0)
        refine hX _ ?_
        exact (ih (v3 ||| 0) (v4 + 1) q hl ct)
      · clear hP hX hk P' X cal
        rw [if_neg hc] at hl
        refine Wp.stepsG 4 (fun cal X P' hk hX hP => ?_)
        show kcall cal ix_X12_knows [.ref 76, .int v4, .int f1] (st S hs) [.int v3] 0 0 (0, 0) (fun v σ' c' m' => X (32, [some (.ref 76), some (.int f1), some (.int f2), some (.int v3), some (.int v4)], v.toList ++ [.int v3], σ', c', m'))
        obtain ⟨q1, hq1, hl⟩ := bd_some hl
        refine kcall0 rfl (hk _ _ _ _ _ _ (e_X12_knows (d + 0) S hs v4 f1 q1 hq1 _ ?_))
        show X (32, [some (.ref 76), some (.int f1), some (.int f2), some (.int v3), some (.int v4)], [.int q1, .int v3], st S hs, 0, 0)
        refine hX _ ?_
        clear hP hX hk P' X cal
        refine Wp.stepsG 1 (fun cal X P' hk hX hP => ?_)
        show (q1 = 0 → X (42, [some (.ref 76), some (.int f1), some (.int f2), some (.int v3), some (.int v4)], [.int v3], st S hs, 0, 0)) ∧ (¬ q1 = 0 → X (35, [some (.ref 76), some (.int f1), some (.int f2), some (.int v3), some (.int v4)], [.int v3], st S hs, 0, 0))
        refine ⟨fun hc => hX _ ?_, fun hc => hX _ ?_⟩
        · clear hP hX hk P' X cal
          rw [if_pos hc] at hl
          refine Wp.stepsG 5 (fun cal X P' hk hX hP => ?_)
          show X (5, [some (.ref 76), some (.int f1), some (.int f2), some (.int (v3 ||| 0)), some (.int (v4 + 1))], [], st S hs, 0, 0)
          refine hX _ ?_
          exact (ih (v3 ||| 0) (v4 + 1) q hl ct)
        · clear hP hX hk P' X cal
          rw [if_neg hc] at hl
          refine Wp.stepsG 8 (fun cal X P' hk hX hP => ?_)
          show X (5, [some (.ref 76), some (.int f1), some (.int f2), some (.int (v3 ||| ((1 : Int32) <<< (v4 &&& 31)))), some (.int (v4 + 1))], [], st S hs, 0, 0)
          refine hX _ ?_
          exact (ih (v3 ||| ((1 : Int32) <<< (v4 &&& 31))) (v4 + 1) q hl ct)
def r_X12_knowing (S : St) (a1 : Int32) (a2 : Int32) : Option Int32 :=
  (lp_X12_knowing_5 S a1 a2 4000 0 0).bind fun q2 =>
    some q2
set_option maxRecDepth 20000 in
set_option maxHeartbeats 4000000 in
theorem e_X12_knowing (d : Nat) (S : St) (hs : List Hr) (a1 : Int32) (a2 : Int32) (v : Int32) (hr : r_X12_knowing S a1 a2 = some v) (P : Option Value → Hp → Prop) (h : P (some (.int v)) (st S hs)) : Ev (d + 5) ix_X12_knowing 0 0 [.ref 76, .int a1, .int a2] (st S hs) P := by
  refine Ev.intro (M := mi_X12_knowing) rfl (Nat.le_of_ble_eq_true rfl) ?_
  unfold r_X12_knowing at hr
  refine Wp.stepsG 4 (fun cal X P' hk hX hP => ?_)
  show X (5, [some (.ref 76), some (.int a1), some (.int a2), some (.int 0), some (.int 0)], [], st S hs, 0, 0)
  refine hX _ ?_
  clear hP hX hk P' X cal
  obtain ⟨q2, hq2, hr⟩ := bd_some hr
  refine (e_lp_X12_knowing_5 d hs P S a1 a2 _ 0 0 q2 hq2 ?_)
  have hr := Option.some.inj hr
  subst hr
  refine Wp.stepsG 2 (fun cal X P' hk hX hP => ?_)
  exact hP _ _ h
