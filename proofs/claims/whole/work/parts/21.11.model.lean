def lp_X12_tape_69 (f1 : Int32) : Nat → Int32 → St → Option (St)
  | 0, _, _ => none
  | n + 1, v4, S =>
    if 60 ≤ v4 then
      some S
    else
      gd (¬ ((((60 : Int32) * f1) + v4) < 0 ∨ 360 ≤ (((60 : Int32) * f1) + v4).toNatClampNeg)) (
        lp_X12_tape_69 f1 n (v4 + 1) (sG S 117 (vp_updL (S.2.1 117) (((60 : Int32) * f1) + v4).toNatClampNeg 0)))
set_option maxRecDepth 20000 in
set_option maxHeartbeats 4000000 in
theorem e_lp_X12_tape_69 (d : Nat) (hs : List Hr) (P : Option Value → Hp → Prop) (f1 : Int32) : ∀ (n : Nat) (v4 : Int32) (S : St) (q : St), lp_X12_tape_69 f1 n v4 S = some q → (WM mi_X12_tape (d + 2) P 95 [some (.ref 76), some (.int f1), none, none, none] [] (st q hs)) → WM mi_X12_tape (d + 2) P 69 [some (.ref 76), some (.int f1), none, none, some (.int v4)] [] (st S hs) := by
  intro n
  induction n with
  | zero =>
    intro v4 S q hl
    cases hl
  | succ n ih =>
    intro v4 S q hl ct
    rw [lp_X12_tape_69] at hl
    refine Wp.stepsG 3 (fun cal X P' hk hX hP => ?_)
    show (60 ≤ v4 → X (95, [some (.ref 76), some (.int f1), none, none, some (.int v4)], [], st S hs, 0, 0)) ∧ (¬ 60 ≤ v4 → X (76, [some (.ref 76), some (.int f1), none, none, some (.int v4)], [], st S hs, 0, 0))
    refine ⟨fun hc => hX _ ?_, fun hc => hX _ ?_⟩
    · clear hP hX hk P' X cal
      rw [if_pos hc] at hl
      have hl := Option.some.inj hl
      subst hl
      exact Wp.weak (leL.k (leL.k (leL.k (leL.k (leL.n leL.z))))) (ct)
    · clear hP hX hk P' X cal
      rw [if_neg hc] at hl
      refine Wp.stepsG 9 (fun cal X P' hk hX hP => ?_)
      show vp_in (((60 : Int32) * f1) + v4) 360 ∧ X (89, [some (.ref 76), some (.int f1), none, none, some (.int v4)], [], st (sG S 117 (vp_updL (S.2.1 117) (((60 : Int32) * f1) + v4).toNatClampNeg 0)) hs, 0, 0)
      obtain ⟨hg, hl⟩ := gd_some hl
      refine ⟨hg, hX _ ?_⟩
      clear hP hX hk P' X cal
      refine Wp.stepsG 2 (fun cal X P' hk hX hP => ?_)
      show X (69, [some (.ref 76), some (.int f1), none, none, some (.int (v4 + 1))], [], st (sG S 117 (vp_updL (S.2.1 117) (((60 : Int32) * f1) + v4).toNatClampNeg 0)) hs, 0, 0)
      refine hX _ ?_
      exact (ih (v4 + 1) (sG S 117 (vp_updL (S.2.1 117) (((60 : Int32) * f1) + v4).toNatClampNeg 0)) q hl ct)
def r_X12_tape (S : St) (a1 : Int32) (a2 : Int32) (a3 : Int32) : Option (Int32 × St) :=
  if (r_X12_isTape a1) = 0 then
    some ((-1), S)
  else
    if (r_X12_in a2 (-1) 4) = 0 then
      some ((-2), S)
    else
      if a2 < 0 then
        if a2 < 0 then
          gd (¬ (a1 < 0 ∨ 6 ≤ a1.toNatClampNeg)) (
            if 0 ≤ a2 then
              gd (¬ (a1 < 0 ∨ 6 ≤ a1.toNatClampNeg)) (
                (lp_X12_tape_69 a1 4000 0 (sA (sA S 115 (upd (S.1 115) a1.toNatClampNeg a2)) 116 (upd (S.1 116) a1.toNatClampNeg a3))).bind fun q1 =>
                  some (1, q1))
            else
              gd (¬ (a1 < 0 ∨ 6 ≤ a1.toNatClampNeg)) (
                (lp_X12_tape_69 a1 4000 0 (sA (sA S 115 (upd (S.1 115) a1.toNatClampNeg a2)) 116 (upd (S.1 116) a1.toNatClampNeg 0))).bind fun q2 =>
                  some (1, q2)))
        else
          if 0 ≤ a3 then
            gd (¬ (a1 < 0 ∨ 6 ≤ a1.toNatClampNeg)) (
              if 0 ≤ a2 then
                gd (¬ (a1 < 0 ∨ 6 ≤ a1.toNatClampNeg)) (
                  (lp_X12_tape_69 a1 4000 0 (sA (sA S 115 (upd (S.1 115) a1.toNatClampNeg a2)) 116 (upd (S.1 116) a1.toNatClampNeg a3))).bind fun q3 =>
                    some (1, q3))
              else
                gd (¬ (a1 < 0 ∨ 6 ≤ a1.toNatClampNeg)) (
                  (lp_X12_tape_69 a1 4000 0 (sA (sA S 115 (upd (S.1 115) a1.toNatClampNeg a2)) 116 (upd (S.1 116) a1.toNatClampNeg 0))).bind fun q4 =>
                    some (1, q4)))
          else
            some ((-14), S)
      else
        if a3 ≤ 60 then
          if a2 < 0 then
            gd (¬ (a1 < 0 ∨ 6 ≤ a1.toNatClampNeg)) (
              if 0 ≤ a2 then
                gd (¬ (a1 < 0 ∨ 6 ≤ a1.toNatClampNeg)) (
                  (lp_X12_tape_69 a1 4000 0 (sA (sA S 115 (upd (S.1 115) a1.toNatClampNeg a2)) 116 (upd (S.1 116) a1.toNatClampNeg a3))).bind fun q5 =>
                    some (1, q5))
              else
                gd (¬ (a1 < 0 ∨ 6 ≤ a1.toNatClampNeg)) (
                  (lp_X12_tape_69 a1 4000 0 (sA (sA S 115 (upd (S.1 115) a1.toNatClampNeg a2)) 116 (upd (S.1 116) a1.toNatClampNeg 0))).bind fun q6 =>
                    some (1, q6)))
          else
            if 0 ≤ a3 then
              gd (¬ (a1 < 0 ∨ 6 ≤ a1.toNatClampNeg)) (
                if 0 ≤ a2 then
                  gd (¬ (a1 < 0 ∨ 6 ≤ a1.toNatClampNeg)) (
                    (lp_X12_tape_69 a1 4000 0 (sA (sA S 115 (upd (S.1 115) a1.toNatClampNeg a2)) 116 (upd (S.1 116) a1.toNatClampNeg a3))).bind fun q7 =>
                      some (1, q7))
                else
                  gd (¬ (a1 < 0 ∨ 6 ≤ a1.toNatClampNeg)) (
                    (lp_X12_tape_69 a1 4000 0 (sA (sA S 115 (upd (S.1 115) a1.toNatClampNeg a2)) 116 (upd (S.1 116) a1.toNatClampNeg 0))).bind fun q8 =>
                      some (1, q8)))
            else
              some ((-14), S)
        else
          some ((-2), S)
set_option maxRecDepth 20000 in
set_option maxHeartbeats 4000000 in
theorem e_X12_tape (d : Nat) (S : St) (hs : List Hr) (a1 : Int32) (a2 : Int32) (a3 : Int32) (v : Int32 × St) (hr : r_X12_tape S a1 a2 a3 = some v) (P : Option Value → Hp → Prop) (h : P (some (.int v.1)) (st v.2 hs)) : Ev (d + 3) ix_X12_tape 0 0 [.ref 76, .int a1, .int a2, .int a3] (st S hs) P := by
  refine Ev.intro (M := mi_X12_tape) rfl (Nat.le_of_ble_eq_true rfl) ?_
  unfold r_X12_tape at hr
  refine Wp.stepsG 3 (fun cal X P' hk hX hP => ?_)
  show kcall cal ix_X12_isTape [.ref 76, .int a1] (st S hs) [] 0 0 (0, 0) (fun v σ' c' m' => X (5, [some (.ref 76), some (.int a1), some (.int a2), some (.int a3), none], v.toList ++ [], σ', c', m'))
  refine kcall0 rfl (hk _ _ _ _ _ _ (e_X12_isTape (d + 0) S hs a1 _ ?_))
  show X (5, [some (.ref 76), some (.int a1), some (.int a2), some (.int a3), none], [.int (r_X12_isTape a1)], st S hs, 0, 0)
  refine hX _ ?_
  clear hP hX hk P' X cal
  refine Wp.stepsG 1 (fun cal X P' hk hX hP => ?_)
  show (¬ (r_X12_isTape a1) = 0 → X (10, [some (.ref 76), some (.int a1), some (.int a2), some (.int a3), none], [], st S hs, 0, 0)) ∧ ((r_X12_isTape a1) = 0 → X (8, [some (.ref 76), some (.int a1), some (.int a2), some (.int a3), none], [], st S hs, 0, 0))
  refine ⟨fun hc => hX _ ?_, fun hc => hX _ ?_⟩
  · clear hP hX hk P' X cal
    rw [if_neg hc] at hr
    refine Wp.stepsG 5 (fun cal X P' hk hX hP => ?_)
    show kcall cal ix_X12_in [.ref 76, .int a2, .int (-1), .int 4] (st S hs) [] 0 0 (0, 0) (fun v σ' c' m' => X (17, [some (.ref 76), some (.int a1), some (.int a2), some (.int a3), none], v.toList ++ [], σ', c', m'))
    refine kcall0 rfl (hk _ _ _ _ _ _ (e_X12_in (d + 1) S hs a2 (-1) 4 _ ?_))
    show X (17, [some (.ref 76), some (.int a1), some (.int a2), some (.int a3), none], [.int (r_X12_in a2 (-1) 4)], st S hs, 0, 0)
    refine hX _ ?_
    clear hP hX hk P' X cal
    refine Wp.stepsG 1 (fun cal X P' hk hX hP => ?_)
    show ((r_X12_in a2 (-1) 4) = 0 → X (30, [some (.ref 76), some (.int a1), some (.int a2), some (.int a3), none], [], st S hs, 0, 0)) ∧ (¬ (r_X12_in a2 (-1) 4) = 0 → X (20, [some (.ref 76), some (.int a1), some (.int a2), some (.int a3), none], [], st S hs, 0, 0))
    refine ⟨fun hc => hX _ ?_, fun hc => hX _ ?_⟩
    · clear hP hX hk P' X cal
      rw [if_pos hc] at hr
      have hr := Option.some.inj hr
      subst hr
      refine Wp.stepsG 2 (fun cal X P' hk hX hP => ?_)
      exact hP _ _ h
    · clear hP hX hk P' X cal
      rw [if_neg hc] at hr
      refine Wp.stepsG 2 (fun cal X P' hk hX hP => ?_)
      show (a2 < 0 → X (33, [some (.ref 76), some (.int a1), some (.int a2), some (.int a3), none], [], st S hs, 0, 0)) ∧ (¬ a2 < 0 → X (24, [some (.ref 76), some (.int a1), some (.int a2), some (.int a3), none], [], st S hs, 0, 0))
      refine ⟨fun hc => hX _ ?_, fun hc => hX _ ?_⟩
      · clear hP hX hk P' X cal
        rw [if_pos hc] at hr
        refine Wp.stepsG 2 (fun cal X P' hk hX hP => ?_)
        show (a2 < 0 → X (44, [some (.ref 76), some (.int a1), some (.int a2), some (.int a3), none], [], st S hs, 0, 0)) ∧ (¬ a2 < 0 → X (37, [some (.ref 76), some (.int a1), some (.int a2), some (.int a3), none], [], st S hs, 0, 0))
        refine ⟨fun hc => hX _ ?_, fun hc => hX _ ?_⟩
        · clear hP hX hk P' X cal
          rw [if_pos hc] at hr
          refine Wp.stepsG 5 (fun cal X P' hk hX hP => ?_)
          show vp_in a1 6 ∧ X (51, [some (.ref 76), some (.int a1), some (.int a2), some (.int a3), none], [], st (sA S 115 (upd (S.1 115) a1.toNatClampNeg a2)) hs, 0, 0)
          obtain ⟨hg, hr⟩ := gd_some hr
          refine ⟨hg, hX _ ?_⟩
          clear hP hX hk P' X cal
          refine Wp.stepsG 5 (fun cal X P' hk hX hP => ?_)
          show (0 ≤ a2 → X (64, [some (.ref 76), some (.int a1), some (.int a2), some (.int a3), none], [.int a1, .ref 116], st (sA S 115 (upd (S.1 115) a1.toNatClampNeg a2)) hs, 0, 0)) ∧ (¬ 0 ≤ a2 → X (60, [some (.ref 76), some (.int a1), some (.int a2), some (.int a3), none], [.int a1, .ref 116], st (sA S 115 (upd (S.1 115) a1.toNatClampNeg a2)) hs, 0, 0))
          refine ⟨fun hc => hX _ ?_, fun hc => hX _ ?_⟩
          · clear hP hX hk P' X cal
            rw [if_pos hc] at hr
            refine Wp.stepsG 2 (fun cal X P' hk hX hP => ?_)
            show vp_in a1 6 ∧ X (66, [some (.ref 76), some (.int a1), some (.int a2), some (.int a3), none], [], st (sA (sA S 115 (upd (S.1 115) a1.toNatClampNeg a2)) 116 (upd (S.1 116) a1.toNatClampNeg a3)) hs, 0, 0)
            obtain ⟨hg, hr⟩ := gd_some hr
            refine ⟨hg, hX _ ?_⟩
            clear hP hX hk P' X cal
            refine Wp.stepsG 2 (fun cal X P' hk hX hP => ?_)
            show X (69, [some (.ref 76), some (.int a1), some (.int a2), some (.int a3), some (.int 0)], [], st (sA (sA S 115 (upd (S.1 115) a1.toNatClampNeg a2)) 116 (upd (S.1 116) a1.toNatClampNeg a3)) hs, 0, 0)
            refine hX _ ?_
            clear hP hX hk P' X cal
            obtain ⟨q1, hq1, hr⟩ := bd_some hr
            refine Wp.weak (leL.k (leL.k (leL.n (leL.n (leL.k leL.z))))) (e_lp_X12_tape_69 d hs P a1 _ 0 (sA (sA S 115 (upd (S.1 115) a1.toNatClampNeg a2)) 116 (upd (S.1 116) a1.toNatClampNeg a3)) q1 hq1 ?_)
            have hr := Option.some.inj hr
            subst hr
            refine Wp.stepsG 2 (fun cal X P' hk hX hP => ?_)
            exact hP _ _ h
          · clear hP hX hk P' X cal
            rw [if_neg hc] at hr
            refine Wp.stepsG 3 (fun cal X P' hk hX hP => ?_)
            show vp_in a1 6 ∧ X (66, [some (.ref 76), some (.int a1), some (.int a2), some (.int a3), none], [], st (sA (sA S 115 (upd (S.1 115) a1.toNatClampNeg a2)) 116 (upd (S.1 116) a1.toNatClampNeg 0)) hs, 0, 0)
            obtain ⟨hg, hr⟩ := gd_some hr
            refine ⟨hg, hX _ ?_⟩
            clear hP hX hk P' X cal
            refine Wp.stepsG 2 (fun cal X P' hk hX hP => ?_)
            show X (69, [some (.ref 76), some (.int a1), some (.int a2), some (.int a3), some (.int 0)], [], st (sA (sA S 115 (upd (S.1 115) a1.toNatClampNeg a2)) 116 (upd (S.1 116) a1.toNatClampNeg 0)) hs, 0, 0)
            refine hX _ ?_
            clear hP hX hk P' X cal
            obtain ⟨q2, hq2, hr⟩ := bd_some hr
            refine Wp.weak (leL.k (leL.k (leL.n (leL.n (leL.k leL.z))))) (e_lp_X12_tape_69 d hs P a1 _ 0 (sA (sA S 115 (upd (S.1 115) a1.toNatClampNeg a2)) 116 (upd (S.1 116) a1.toNatClampNeg 0)) q2 hq2 ?_)
            have hr := Option.some.inj hr
            subst hr
            refine Wp.stepsG 2 (fun cal X P' hk hX hP => ?_)
            exact hP _ _ h
        · clear hP hX hk P' X cal
          rw [if_neg hc] at hr
          refine Wp.stepsG 2 (fun cal X P' hk hX hP => ?_)
          show (0 ≤ a3 → X (44, [some (.ref 76), some (.int a1), some (.int a2), some (.int a3), none], [], st S hs, 0, 0)) ∧ (¬ 0 ≤ a3 → X (41, [some (.ref 76), some (.int a1), some (.int a2), some (.int a3), none], [], st S hs, 0, 0))
          refine ⟨fun hc => hX _ ?_, fun hc => hX _ ?_⟩
          · clear hP hX hk P' X cal
            rw [if_pos hc] at hr
            refine Wp.stepsG 5 (fun cal X P' hk hX hP => ?_)
            show vp_in a1 6 ∧ X (51, [some (.ref 76), some (.int a1), some (.int a2), some (.int a3), none], [], st (sA S 115 (upd (S.1 115) a1.toNatClampNeg a2)) hs, 0, 0)
            obtain ⟨hg, hr⟩ := gd_some hr
            refine ⟨hg, hX _ ?_⟩
            clear hP hX hk P' X cal
            refine Wp.stepsG 5 (fun cal X P' hk hX hP => ?_)
            show (0 ≤ a2 → X (64, [some (.ref 76), some (.int a1), some (.int a2), some (.int a3), none], [.int a1, .ref 116], st (sA S 115 (upd (S.1 115) a1.toNatClampNeg a2)) hs, 0, 0)) ∧ (¬ 0 ≤ a2 → X (60, [some (.ref 76), some (.int a1), some (.int a2), some (.int a3), none], [.int a1, .ref 116], st (sA S 115 (upd (S.1 115) a1.toNatClampNeg a2)) hs, 0, 0))
            refine ⟨fun hc => hX _ ?_, fun hc => hX _ ?_⟩
            · clear hP hX hk P' X cal
              rw [if_pos hc] at hr
              refine Wp.stepsG 2 (fun cal X P' hk hX hP => ?_)
              show vp_in a1 6 ∧ X (66, [some (.ref 76), some (.int a1), some (.int a2), some (.int a3), none], [], st (sA (sA S 115 (upd (S.1 115) a1.toNatClampNeg a2)) 116 (upd (S.1 116) a1.toNatClampNeg a3)) hs, 0, 0)
              obtain ⟨hg, hr⟩ := gd_some hr
              refine ⟨hg, hX _ ?_⟩
              clear hP hX hk P' X cal
              refine Wp.stepsG 2 (fun cal X P' hk hX hP => ?_)
              show X (69, [some (.ref 76), some (.int a1), some (.int a2), some (.int a3), some (.int 0)], [], st (sA (sA S 115 (upd (S.1 115) a1.toNatClampNeg a2)) 116 (upd (S.1 116) a1.toNatClampNeg a3)) hs, 0, 0)
              refine hX _ ?_
              clear hP hX hk P' X cal
              obtain ⟨q3, hq3, hr⟩ := bd_some hr
              refine Wp.weak (leL.k (leL.k (leL.n (leL.n (leL.k leL.z))))) (e_lp_X12_tape_69 d hs P a1 _ 0 (sA (sA S 115 (upd (S.1 115) a1.toNatClampNeg a2)) 116 (upd (S.1 116) a1.toNatClampNeg a3)) q3 hq3 ?_)
              have hr := Option.some.inj hr
              subst hr
              refine Wp.stepsG 2 (fun cal X P' hk hX hP => ?_)
              exact hP _ _ h
            · clear hP hX hk P' X cal
              rw [if_neg hc] at hr
              refine Wp.stepsG 3 (fun cal X P' hk hX hP => ?_)
              show vp_in a1 6 ∧ X (66, [some (.ref 76), some (.int a1), some (.int a2), some (.int a3), none], [], st (sA (sA S 115 (upd (S.1 115) a1.toNatClampNeg a2)) 116 (upd (S.1 116) a1.toNatClampNeg 0)) hs, 0, 0)
              obtain ⟨hg, hr⟩ := gd_some hr
              refine ⟨hg, hX _ ?_⟩
              clear hP hX hk P' X cal
              refine Wp.stepsG 2 (fun cal X P' hk hX hP => ?_)
              show X (69, [some (.ref 76), some (.int a1), some (.int a2), some (.int a3), some (.int 0)], [], st (sA (sA S 115 (upd (S.1 115) a1.toNatClampNeg a2)) 116 (upd (S.1 116) a1.toNatClampNeg 0)) hs, 0, 0)
              refine hX _ ?_
              clear hP hX hk P' X cal
              obtain ⟨q4, hq4, hr⟩ := bd_some hr
              refine Wp.weak (leL.k (leL.k (leL.n (leL.n (leL.k leL.z))))) (e_lp_X12_tape_69 d hs P a1 _ 0 (sA (sA S 115 (upd (S.1 115) a1.toNatClampNeg a2)) 116 (upd (S.1 116) a1.toNatClampNeg 0)) q4 hq4 ?_)
              have hr := Option.some.inj hr
              subst hr
              refine Wp.stepsG 2 (fun cal X P' hk hX hP => ?_)
              exact hP _ _ h
          · clear hP hX hk P' X cal
            rw [if_neg hc] at hr
            have hr := Option.some.inj hr
            subst hr
            refine Wp.stepsG 2 (fun cal X P' hk hX hP => ?_)
            exact hP _ _ h
      · clear hP hX hk P' X cal
        rw [if_neg hc] at hr
        refine Wp.stepsG 3 (fun cal X P' hk hX hP => ?_)
        show (a3 ≤ 60 → X (33, [some (.ref 76), some (.int a1), some (.int a2), some (.int a3), none], [], st S hs, 0, 0)) ∧ (¬ a3 ≤ 60 → X (30, [some (.ref 76), some (.int a1), some (.int a2), some (.int a3), none], [], st S hs, 0, 0))
        refine ⟨fun hc => hX _ ?_, fun hc => hX _ ?_⟩
        · clear hP hX hk P' X cal
          rw [if_pos hc] at hr
          refine Wp.stepsG 2 (fun cal X P' hk hX hP => ?_)
          show (a2 < 0 → X (44, [some (.ref 76), some (.int a1), some (.int a2), some (.int a3), none], [], st S hs, 0, 0)) ∧ (¬ a2 < 0 → X (37, [some (.ref 76), some (.int a1), some (.int a2), some (.int a3), none], [], st S hs, 0, 0))
          refine ⟨fun hc => hX _ ?_, fun hc => hX _ ?_⟩
          · clear hP hX hk P' X cal
            rw [if_pos hc] at hr
            refine Wp.stepsG 5 (fun cal X P' hk hX hP => ?_)
            show vp_in a1 6 ∧ X (51, [some (.ref 76), some (.int a1), some (.int a2), some (.int a3), none], [], st (sA S 115 (upd (S.1 115) a1.toNatClampNeg a2)) hs, 0, 0)
            obtain ⟨hg, hr⟩ := gd_some hr
            refine ⟨hg, hX _ ?_⟩
            clear hP hX hk P' X cal
            refine Wp.stepsG 5 (fun cal X P' hk hX hP => ?_)
            show (0 ≤ a2 → X (64, [some (.ref 76), some (.int a1), some (.int a2), some (.int a3), none], [.int a1, .ref 116], st (sA S 115 (upd (S.1 115) a1.toNatClampNeg a2)) hs, 0, 0)) ∧ (¬ 0 ≤ a2 → X (60, [some (.ref 76), some (.int a1), some (.int a2), some (.int a3), none], [.int a1, .ref 116], st (sA S 115 (upd (S.1 115) a1.toNatClampNeg a2)) hs, 0, 0))
            refine ⟨fun hc => hX _ ?_, fun hc => hX _ ?_⟩
            · clear hP hX hk P' X cal
              rw [if_pos hc] at hr
              refine Wp.stepsG 2 (fun cal X P' hk hX hP => ?_)
              show vp_in a1 6 ∧ X (66, [some (.ref 76), some (.int a1), some (.int a2), some (.int a3), none], [], st (sA (sA S 115 (upd (S.1 115) a1.toNatClampNeg a2)) 116 (upd (S.1 116) a1.toNatClampNeg a3)) hs, 0, 0)
              obtain ⟨hg, hr⟩ := gd_some hr
              refine ⟨hg, hX _ ?_⟩
              clear hP hX hk P' X cal
              refine Wp.stepsG 2 (fun cal X P' hk hX hP => ?_)
              show X (69, [some (.ref 76), some (.int a1), some (.int a2), some (.int a3), some (.int 0)], [], st (sA (sA S 115 (upd (S.1 115) a1.toNatClampNeg a2)) 116 (upd (S.1 116) a1.toNatClampNeg a3)) hs, 0, 0)
              refine hX _ ?_
              clear hP hX hk P' X cal
              obtain ⟨q5, hq5, hr⟩ := bd_some hr
              refine Wp.weak (leL.k (leL.k (leL.n (leL.n (leL.k leL.z))))) (e_lp_X12_tape_69 d hs P a1 _ 0 (sA (sA S 115 (upd (S.1 115) a1.toNatClampNeg a2)) 116 (upd (S.1 116) a1.toNatClampNeg a3)) q5 hq5 ?_)
              have hr := Option.some.inj hr
              subst hr
              refine Wp.stepsG 2 (fun cal X P' hk hX hP => ?_)
              exact hP _ _ h
            · clear hP hX hk P' X cal
              rw [if_neg hc] at hr
              refine Wp.stepsG 3 (fun cal X P' hk hX hP => ?_)
              show vp_in a1 6 ∧ X (66, [some (.ref 76), some (.int a1), some (.int a2), some (.int a3), none], [], st (sA (sA S 115 (upd (S.1 115) a1.toNatClampNeg a2)) 116 (upd (S.1 116) a1.toNatClampNeg 0)) hs, 0, 0)
              obtain ⟨hg, hr⟩ := gd_some hr
              refine ⟨hg, hX _ ?_⟩
              clear hP hX hk P' X cal
              refine Wp.stepsG 2 (fun cal X P' hk hX hP => ?_)
              show X (69, [some (.ref 76), some (.int a1), some (.int a2), some (.int a3), some (.int 0)], [], st (sA (sA S 115 (upd (S.1 115) a1.toNatClampNeg a2)) 116 (upd (S.1 116) a1.toNatClampNeg 0)) hs, 0, 0)
              refine hX _ ?_
              clear hP hX hk P' X cal
              obtain ⟨q6, hq6, hr⟩ := bd_some hr
              refine Wp.weak (leL.k (leL.k (leL.n (leL.n (leL.k leL.z))))) (e_lp_X12_tape_69 d hs P a1 _ 0 (sA (sA S 115 (upd (S.1 115) a1.toNatClampNeg a2)) 116 (upd (S.1 116) a1.toNatClampNeg 0)) q6 hq6 ?_)
              have hr := Option.some.inj hr
              subst hr
              refine Wp.stepsG 2 (fun cal X P' hk hX hP => ?_)
              exact hP _ _ h
          · clear hP hX hk P' X cal
            rw [if_neg hc] at hr
            refine Wp.stepsG 2 (fun cal X P' hk hX hP => ?_)
            show (0 ≤ a3 → X (44, [some (.ref 76), some (.int a1), some (.int a2), some (.int a3), none], [], st S hs, 0, 0)) ∧ (¬ 0 ≤ a3 → X (41, [some (.ref 76), some (.int a1), some (.int a2), some (.int a3), none], [], st S hs, 0, 0))
            refine ⟨fun hc => hX _ ?_, fun hc => hX _ ?_⟩
            · clear hP hX hk P' X cal
              rw [if_pos hc] at hr
              refine Wp.stepsG 5 (fun cal X P' hk hX hP => ?_)
              show vp_in a1 6 ∧ X (51, [some (.ref 76), some (.int a1), some (.int a2), some (.int a3), none], [], st (sA S 115 (upd (S.1 115) a1.toNatClampNeg a2)) hs, 0, 0)
              obtain ⟨hg, hr⟩ := gd_some hr
              refine ⟨hg, hX _ ?_⟩
              clear hP hX hk P' X cal
              refine Wp.stepsG 5 (fun cal X P' hk hX hP => ?_)
              show (0 ≤ a2 → X (64, [some (.ref 76), some (.int a1), some (.int a2), some (.int a3), none], [.int a1, .ref 116], st (sA S 115 (upd (S.1 115) a1.toNatClampNeg a2)) hs, 0, 0)) ∧ (¬ 0 ≤ a2 → X (60, [some (.ref 76), some (.int a1), some (.int a2), some (.int a3), none], [.int a1, .ref 116], st (sA S 115 (upd (S.1 115) a1.toNatClampNeg a2)) hs, 0, 0))
              refine ⟨fun hc => hX _ ?_, fun hc => hX _ ?_⟩
              · clear hP hX hk P' X cal
                rw [if_pos hc] at hr
                refine Wp.stepsG 2 (fun cal X P' hk hX hP => ?_)
                show vp_in a1 6 ∧ X (66, [some (.ref 76), some (.int a1), some (.int a2), some (.int a3), none], [], st (sA (sA S 115 (upd (S.1 115) a1.toNatClampNeg a2)) 116 (upd (S.1 116) a1.toNatClampNeg a3)) hs, 0, 0)
                obtain ⟨hg, hr⟩ := gd_some hr
                refine ⟨hg, hX _ ?_⟩
                clear hP hX hk P' X cal
                refine Wp.stepsG 2 (fun cal X P' hk hX hP => ?_)
                show X (69, [some (.ref 76), some (.int a1), some (.int a2), some (.int a3), some (.int 0)], [], st (sA (sA S 115 (upd (S.1 115) a1.toNatClampNeg a2)) 116 (upd (S.1 116) a1.toNatClampNeg a3)) hs, 0, 0)
                refine hX _ ?_
                clear hP hX hk P' X cal
                obtain ⟨q7, hq7, hr⟩ := bd_some hr
                refine Wp.weak (leL.k (leL.k (leL.n (leL.n (leL.k leL.z))))) (e_lp_X12_tape_69 d hs P a1 _ 0 (sA (sA S 115 (upd (S.1 115) a1.toNatClampNeg a2)) 116 (upd (S.1 116) a1.toNatClampNeg a3)) q7 hq7 ?_)
                have hr := Option.some.inj hr
                subst hr
                refine Wp.stepsG 2 (fun cal X P' hk hX hP => ?_)
                exact hP _ _ h
              · clear hP hX hk P' X cal
                rw [if_neg hc] at hr
                refine Wp.stepsG 3 (fun cal X P' hk hX hP => ?_)
                show vp_in a1 6 ∧ X (66, [some (.ref 76), some (.int a1), some (.int a2), some (.int a3), none], [], st (sA (sA S 115 (upd (S.1 115) a1.toNatClampNeg a2)) 116 (upd (S.1 116) a1.toNatClampNeg 0)) hs, 0, 0)
                obtain ⟨hg, hr⟩ := gd_some hr
                refine ⟨hg, hX _ ?_⟩
                clear hP hX hk P' X cal
                refine Wp.stepsG 2 (fun cal X P' hk hX hP => ?_)
                show X (69, [some (.ref 76), some (.int a1), some (.int a2), some (.int a3), some (.int 0)], [], st (sA (sA S 115 (upd (S.1 115) a1.toNatClampNeg a2)) 116 (upd (S.1 116) a1.toNatClampNeg 0)) hs, 0, 0)
                refine hX _ ?_
                clear hP hX hk P' X cal
                obtain ⟨q8, hq8, hr⟩ := bd_some hr
                refine Wp.weak (leL.k (leL.k (leL.n (leL.n (leL.k leL.z))))) (e_lp_X12_tape_69 d hs P a1 _ 0 (sA (sA S 115 (upd (S.1 115) a1.toNatClampNeg a2)) 116 (upd (S.1 116) a1.toNatClampNeg 0)) q8 hq8 ?_)
                have hr := Option.some.inj hr
                subst hr
                refine Wp.stepsG 2 (fun cal X P' hk hX hP => ?_)
                exact hP _ _ h
            · clear hP hX hk P' X cal
              rw [if_neg hc] at hr
              have hr := Option.some.inj hr
              subst hr
              refine Wp.stepsG 2 (fun cal X P' hk hX hP => ?_)
              exact hP _ _ h
        · clear hP hX hk P' X cal
          rw [if_neg hc] at hr
          have hr := Option.some.inj hr
          subst hr
          refine Wp.stepsG 2 (fun cal X P' hk hX hP => ?_)
          exact hP _ _ h
  · clear hP hX hk P' X cal
    rw [if_pos hc] at hr
    have hr := Option.some.inj hr
    subst hr
    refine Wp.stepsG 2 (fun cal X P' hk hX hP => ?_)
    exact hP _ _ h
def r_X12_narrow (a1 : Int32) (a2 : Int64) : Int64 :=
  if a1 = 0 then
    a2.toInt32.toInt8.toInt32.toInt64
  else
    if a1 = 1 then
      a2.toInt32.toInt16.toInt32.toInt64
    else
      if a1 = 2 then
        a2.toInt32.toInt64
      else
        if a1 = 4 then
          if (lg_cmp a2 0) = 0 then
            0
          else
            1
        else
          a2
set_option maxRecDepth 20000 in
set_option maxHeartbeats 4000000 in
theorem e_X12_narrow (d : Nat) (S : St) (hs : List Hr) (a1 : Int32) (a2 : Int64) (P : Option Value → Hp → Prop) (h : P (some (.long (r_X12_narrow a1 a2))) (st S hs)) : Ev (d + 1) ix_X12_narrow 0 0 [.ref 76, .int a1, .long a2] (st S hs) P := by
  refine Ev.intro (M := mi_X12_narrow) rfl (Nat.le_of_ble_eq_true rfl) ?_
  unfold r_X12_narrow at h
  refine Wp.stepsG 2 (fun cal X P' hk hX hP => ?_)
  show (¬ a1 = 0 → X (11, [some (.ref 76), some (.int a1), some (.long a2), none], [], st S hs, 0, 0)) ∧ (a1 = 0 → X (4, [some (.ref 76), some (.int a1), some (.long a2), none], [], st S hs, 0, 0))
  refine ⟨fun hc => hX _ ?_, fun hc => hX _ ?_⟩
  · clear hP hX hk P' X cal
    rw [if_neg hc] at h
    refine Wp.stepsG 3 (fun cal X P' hk hX hP => ?_)
    show (¬ a1 = 1 → X (23, [some (.ref 76), some (.int a1), some (.long a2), none], [], st S hs, 0, 0)) ∧ (a1 = 1 → X (16, [some (.ref 76), some (.int a1), some (.long a2), none], [], st S hs, 0, 0))
    refine ⟨fun hc => hX _ ?_, fun hc => hX _ ?_⟩
    · clear hP hX hk P' X cal
      rw [if_neg hc] at h
      refine Wp.stepsG 3 (fun cal X P' hk hX hP => ?_)
      show (¬ a1 = 2 → X (34, [some (.ref 76), some (.int a1), some (.long a2), none], [], st S hs, 0, 0)) ∧ (a1 = 2 → X (28, [some (.ref 76), some (.int a1), some (.long a2), none], [], st S hs, 0, 0))
      refine ⟨fun hc => hX _ ?_, fun hc => hX _ ?_⟩
      · clear hP hX hk P' X cal
        rw [if_neg hc] at h
        refine Wp.stepsG 3 (fun cal X P' hk hX hP => ?_)
        show (¬ a1 = 4 → X (53, [some (.ref 76), some (.int a1), some (.long a2), none], [], st S hs, 0, 0)) ∧ (a1 = 4 → X (39, [some (.ref 76), some (.int a1), some (.long a2), none], [], st S hs, 0, 0))
        refine ⟨fun hc => hX _ ?_, fun hc => hX _ ?_⟩
        · clear hP hX hk P' X cal
          rw [if_neg hc] at h
          refine Wp.stepsG 2 (fun cal X P' hk hX hP => ?_)
          exact hP _ _ h
        · clear hP hX hk P' X cal
          rw [if_pos hc] at h
          refine Wp.stepsG 4 (fun cal X P' hk hX hP => ?_)
          show ((lg_cmp a2 0) = 0 → X (49, [some (.ref 76), some (.int a1), some (.long a2), none], [], st S hs, 0, 0)) ∧ (¬ (lg_cmp a2 0) = 0 → X (45, [some (.ref 76), some (.int a1), some (.long a2), none], [], st S hs, 0, 0))
          refine ⟨fun hc => hX _ ?_, fun hc => hX _ ?_⟩
          · clear hP hX hk P' X cal
            rw [if_pos hc] at h
            refine Wp.stepsG 3 (fun cal X P' hk hX hP => ?_)
            exact hP _ _ h
          · clear hP hX hk P' X cal
            rw [if_neg hc] at h
            refine Wp.stepsG 3 (fun cal X P' hk hX hP => ?_)
            exact hP _ _ h
      · clear hP hX hk P' X cal
        rw [if_pos hc] at h
        refine Wp.stepsG 5 (fun cal X P' hk hX hP => ?_)
        exact hP _ _ h
    · clear hP hX hk P' X cal
      rw [if_pos hc] at h
      refine Wp.stepsG 6 (fun cal X P' hk hX hP => ?_)
      exact hP _ _ h
  · clear hP hX hk P' X cal
    rw [if_pos hc] at h
    refine Wp.stepsG 6 (fun cal X P' hk hX hP => ?_)
    exact hP _ _ h
def r_X12_item (S : St) (a1 : Int32) (a2 : Int32) (a3 : Int64) : Option (Int32 × St) :=
  if (r_X12_isTape a1) = 0 then
    some ((-1), S)
  else
    gd (¬ (a1 < 0 ∨ 6 ≤ a1.toNatClampNeg)) (
      if 0 ≤ ((S.1 115) a1.toNatClampNeg) then
        gd (¬ (a1 < 0 ∨ 6 ≤ a1.toNatClampNeg)) (
          if (r_X12_in a2 0 (((S.1 116) a1.toNatClampNeg) - 1)) = 0 then
            some ((-13), S)
          else
            gd (¬ (a1 < 0 ∨ 6 ≤ a1.toNatClampNeg)) (
              gd (¬ ((((60 : Int32) * a1) + a2) < 0 ∨ 360 ≤ (((60 : Int32) * a1) + a2).toNatClampNeg)) (
                some (1, sG S 117 (vp_updL (S.2.1 117) (((60 : Int32) * a1) + a2).toNatClampNeg (r_X12_narrow ((S.1 115) a1.toNatClampNeg) a3))))))
      else
        some ((-11), S))
set_option maxRecDepth 20000 in
set_option maxHeartbeats 4000000 in
theorem e_X12_item (d : Nat) (S : St) (hs : List Hr) (a1 : Int32) (a2 : Int32) (a3 : Int64) (v : Int32 × St) (hr : r_X12_item S a1 a2 a3 = some v) (P : Option Value → Hp → Prop) (h : P (some (.int v.1)) (st v.2 hs)) : Ev (d + 3) ix_X12_item 0 0 [.ref 76, .int a1, .int a2, .long a3] (st S hs) P := by
  refine Ev.intro (M := mi_X12_item) rfl (Nat.le_of_ble_eq_true rfl) ?_
  unfold r_X12_item at hr
  refine Wp.stepsG 3 (fun cal X P' hk hX hP => ?_)
  show kcall cal ix_X12_isTape [.ref 76, .int a1] (st S hs) [] 0 0 (0, 0) (fun v σ' c' m' => X (5, [some (.ref 76), some (.int a1), some (.int a2), some (.long a3), none], v.toList ++ [], σ', c', m'))
  refine kcall0 rfl (hk _ _ _ _ _ _ (e_X12_isTape (d + 0) S hs a1 _ ?_))
  show X (5, [some (.ref 76), some (.int a1), some (.int a2), some (.long a3), none], [.int (r_X12_isTape a1)], st S hs, 0, 0)
  refine hX _ ?_
  clear hP hX hk P' X cal
  refine Wp.stepsG 1 (fun cal X P' hk hX hP => ?_)
  show (¬ (r_X12_isTape a1) = 0 → X (10, [some (.ref 76), some (.int a1), some (.int a2), some (.long a3), none], [], st S hs, 0, 0)) ∧ ((r_X12_isTape a1) = 0 → X (8, [some (.ref 76), some (.int a1), some (.int a2), some (.long a3), none], [], st S hs, 0, 0))
  refine ⟨fun hc => hX _ ?_, fun hc => hX _ ?_⟩
  · clear hP hX hk P' X cal
    rw [if_neg hc] at hr
    refine Wp.stepsG 4 (fun cal X P' hk hX hP => ?_)
    show vp_in a1 6 ∧ X (16, [some (.ref 76), some (.int a1), some (.int a2), some (.long a3), none], [.int ((S.1 115) a1.toNatClampNeg)], st S hs, 0, 0)
    obtain ⟨hg, hr⟩ := gd_some hr
    refine ⟨hg, hX _ ?_⟩
    clear hP hX hk P' X cal
    refine Wp.stepsG 1 (fun cal X P' hk hX hP => ?_)
    show (0 ≤ ((S.1 115) a1.toNatClampNeg) → X (22, [some (.ref 76), some (.int a1), some (.int a2), some (.long a3), none], [], st S hs, 0, 0)) ∧ (¬ 0 ≤ ((S.1 115) a1.toNatClampNeg) → X (19, [some (.ref 76), some (.int a1), some (.int a2), some (.long a3), none], [], st S hs, 0, 0))
    refine ⟨fun hc => hX _ ?_, fun hc => hX _ ?_⟩
    · clear hP hX hk P' X cal
      rw [if_pos hc] at hr
      refine Wp.stepsG 7 (fun cal X P' hk hX hP => ?_)
      show vp_in a1 6 ∧ X (31, [some (.ref 76), some (.int a1), some (.int a2), some (.long a3), none], [.int ((S.1 116) a1.toNatClampNeg), .int 0, .int a2, .ref 76], st S hs, 0, 0)
      obtain ⟨hg, hr⟩ := gd_some hr
      refine ⟨hg, hX _ ?_⟩
      clear hP hX hk P' X cal
      refine Wp.stepsG 3 (fun cal X P' hk hX hP => ?_)
      show kcall cal ix_X12_in [.ref 76, .int a2, .int 0, .int (((S.1 116) a1.toNatClampNeg) - 1)] (st S hs) [] 0 0 (0, 0) (fun v σ' c' m' => X (36, [some (.ref 76), some (.int a1), some (.int a2), some (.long a3), none], v.toList ++ [], σ', c', m'))
      refine kcall0 rfl (hk _ _ _ _ _ _ (e_X12_in (d + 1) S hs a2 0 (((S.1 116) a1.toNatClampNeg) - 1) _ ?_))
      show X (36, [some (.ref 76), some (.int a1), some (.int a2), some (.long a3), none], [.int (r_X12_in a2 0 (((S.1 116) a1.toNatClampNeg) - 1))], st S hs, 0, 0)
      refine hX _ ?_
      clear hP hX hk P' X cal
      refine Wp.stepsG 1 (fun cal X P' hk hX hP => ?_)
      show (¬ (r_X12_in a2 0 (((S.1 116) a1.toNatClampNeg) - 1)) = 0 → X (42, [some (.ref 76), some (.int a1), some (.int a2), some (.long a3), none], [], st S hs, 0, 0)) ∧ ((r_X12_in a2 0 (((S.1 116) a1.toNatClampNeg) - 1)) = 0 → X (39, [some (.ref 76), some (.int a1), some (.int a2), some (.long a3), none], [], st S hs, 0, 0))
      refine ⟨fun hc => hX _ ?_, fun hc => hX _ ?_⟩
      · clear hP hX hk P' X cal
        rw [if_neg hc] at hr
        refine Wp.stepsG 12 (fun cal X P' hk hX hP => ?_)
        show vp_in a1 6 ∧ X (59, [some (.ref 76), some (.int a1), some (.int a2), some (.long a3), none], [.int ((S.1 115) a1.toNatClampNeg), .ref 76, .int (((60 : Int32) * a1) + a2), .ref 117], st S hs, 0, 0)
        obtain ⟨hg, hr⟩ := gd_some hr
        refine ⟨hg, hX _ ?_⟩
        clear hP hX hk P' X cal
        refine Wp.stepsG 2 (fun cal X P' hk hX hP => ?_)
        show kcall cal ix_X12_narrow [.ref 76, .int ((S.1 115) a1.toNatClampNeg), .long a3] (st S hs) [.int (((60 : Int32) * a1) + a2), .ref 117] 0 0 (0, 0) (fun v σ' c' m' => X (63, [some (.ref 76), some (.int a1), some (.int a2), some (.long a3), none], v.toList ++ [.int (((60 : Int32) * a1) + a2), .ref 117], σ', c', m'))
        refine kcall0 rfl (hk _ _ _ _ _ _ (e_X12_narrow (d + 1) S hs ((S.1 115) a1.toNatClampNeg) a3 _ ?_))
        show X (63, [some (.ref 76), some (.int a1), some (.int a2), some (.long a3), none], [.long (r_X12_narrow ((S.1 115) a1.toNatClampNeg) a3), .int (((60 : Int32) * a1) + a2), .ref 117], st S hs, 0, 0)
        refine hX _ ?_
        clear hP hX hk P' X cal
        refine Wp.stepsG 1 (fun cal X P' hk hX hP => ?_)
        show vp_in (((60 : Int32) * a1) + a2) 360 ∧ X (64, [some (.ref 76), some (.int a1), some (.int a2), some (.long a3), none], [], st (sG S 117 (vp_updL (S.2.1 117) (((60 : Int32) * a1) + a2).toNatClampNeg (r_X12_narrow ((S.1 115) a1.toNatClampNeg) a3))) hs, 0, 0)
        obtain ⟨hg, hr⟩ := gd_some hr
        refine ⟨hg, hX _ ?_⟩
        clear hP hX hk P' X cal
        have hr := Option.some.inj hr
        subst hr
        refine Wp.stepsG 2 (fun cal X P' hk hX hP => ?_)
        exact hP _ _ h
      · clear hP hX hk P' X cal
        rw [if_pos hc] at hr
        have hr := Option.some.inj hr
        subst hr
        refine Wp.stepsG 2 (fun cal X P' hk hX hP => ?_)
        exact hP _ _ h
    · clear hP hX hk P' X cal
      rw [if_neg hc] at hr
      have hr := Option.some.inj hr
      subst hr
      refine Wp.stepsG 2 (fun cal X P' hk hX hP => ?_)
      exact hP _ _ h
  · clear hP hX hk P' X cal
    rw [if_pos hc] at hr
    have hr := Option.some.inj hr
    subst hr
    refine Wp.stepsG 2 (fun cal X P' hk hX hP => ?_)
    exact hP _ _ h
def r_X12_read (S : St) (a1 : Int32) (a2 : Int32) : Option Int64 :=
  if (r_X12_isTape a1) = 0 then
    some (-9223372036854775808)
  else
    gd (¬ (a1 < 0 ∨ 6 ≤ a1.toNatClampNeg)) (
      if ((S.1 115) a1.toNatClampNeg) < 0 then
        some (-9223372036854775808)
      else
        gd (¬ (a1 < 0 ∨ 6 ≤ a1.toNatClampNeg)) (
          if (r_X12_in a2 0 (((S.1 116) a1.toNatClampNeg) - 1)) = 0 then
            some (-9223372036854775808)
          else
            gd (¬ ((((60 : Int32) * a1) + a2) < 0 ∨ 360 ≤ (((60 : Int32) * a1) + a2).toNatClampNeg)) (
              some ((S.2.1 117) (((60 : Int32) * a1) + a2).toNatClampNeg))))
set_option maxRecDepth 20000 in
set_option maxHeartbeats 4000000 in
theorem e_X12_read (d : Nat) (S : St) (hs : List Hr) (a1 : Int32) (a2 : Int32) (v : Int64) (hr : r_X12_read S a1 a2 = some v) (P : Option Value → Hp → Prop) (h : P (some (.long v)) (st S hs)) : Ev (d + 3) ix_X12_read 0 0 [.ref 76, .int a1, .int a2] (st S hs) P := by
  refine Ev.intro (M := mi_X12_read) rfl (Nat.le_of_ble_eq_true rfl) ?_
  unfold r_X12_read at hr
  refine Wp.stepsG 3 (fun cal X P' hk hX hP => ?_)
  show kcall cal ix_X12_isTape [.ref 76, .int a1] (st S hs) [] 0 0 (0, 0) (fun v σ' c' m' => X (5, [some (.ref 76), some (.int a1), some (.int a2)], v.toList ++ [], σ', c', m'))
  refine kcall0 rfl (hk _ _ _ _ _ _ (e_X12_isTape (d + 0) S hs a1 _ ?_))
  show X (5, [some (.ref 76), some (.int a1), some (.int a2)], [.int (r_X12_isTape a1)], st S hs, 0, 0)
  refine hX _ ?_
  clear hP hX hk P' X cal
  refine Wp.stepsG 1 (fun cal X P' hk hX hP => ?_)
  show ((r_X12_isTape a1) = 0 → X (34, [some (.ref 76), some (.int a1), some (.int a2)], [], st S hs, 0, 0)) ∧ (¬ (r_X12_isTape a1) = 0 → X (8, [some (.ref 76), some (.int a1), some (.int a2)], [], st S hs, 0, 0))
  refine ⟨fun hc => hX _ ?_, fun hc => hX _ ?_⟩
  · clear hP hX hk P' X cal
    rw [if_pos hc] at hr
    have hr := Option.some.inj hr
    subst hr
    refine Wp.stepsG 3 (fun cal X P' hk hX hP => ?_)
    exact hP _ _ h
  · clear hP hX hk P' X cal
    rw [if_neg hc] at hr
    refine Wp.stepsG 4 (fun cal X P' hk hX hP => ?_)
    show vp_in a1 6 ∧ X (14, [some (.ref 76), some (.int a1), some (.int a2)], [.int ((S.1 115) a1.toNatClampNeg)], st S hs, 0, 0)
    obtain ⟨hg, hr⟩ := gd_some hr
    refine ⟨hg, hX _ ?_⟩
    clear hP hX hk P' X cal
    refine Wp.stepsG 1 (fun cal X P' hk hX hP => ?_)
    show (((S.1 115) a1.toNatClampNeg) < 0 → X (34, [some (.ref 76), some (.int a1), some (.int a2)], [], st S hs, 0, 0)) ∧ (¬ ((S.1 115) a1.toNatClampNeg) < 0 → X (17, [some (.ref 76), some (.int a1), some (.int a2)], [], st S hs, 0, 0))
    refine ⟨fun hc => hX _ ?_, fun hc => hX _ ?_⟩
    · clear hP hX hk P' X cal
      rw [if_pos hc] at hr
      have hr := Option.some.inj hr
      subst hr
      refine Wp.stepsG 3 (fun cal X P' hk hX hP => ?_)
      exact hP _ _ h
    · clear hP hX hk P' X cal
      rw [if_neg hc] at hr
      refine Wp.stepsG 7 (fun cal X P' hk hX hP => ?_)
      show vp_in a1 6 ∧ X (26, [some (.ref 76), some (.int a1), some (.int a2)], [.int ((S.1 116) a1.toNatClampNeg), .int 0, .int a2, .ref 76], st S hs, 0, 0)
      obtain ⟨hg, hr⟩ := gd_some hr
      refine ⟨hg, hX _ ?_⟩
      clear hP hX hk P' X cal
      refine Wp.stepsG 3 (fun cal X P' hk hX hP => ?_)
      show kcall cal ix_X12_in [.ref 76, .int a2, .int 0, .int (((S.1 116) a1.toNatClampNeg) - 1)] (st S hs) [] 0 0 (0, 0) (fun v σ' c' m' => X (31, [some (.ref 76), some (.int a1), some (.int a2)], v.toList ++ [], σ', c', m'))
      refine kcall0 rfl (hk _ _ _ _ _ _ (e_X12_in (d + 1) S hs a2 0 (((S.1 116) a1.toNatClampNeg) - 1) _ ?_))
      show X (31, [some (.ref 76), some (.int a1), some (.int a2)], [.int (r_X12_in a2 0 (((S.1 116) a1.toNatClampNeg) - 1))], st S hs, 0, 0)
      refine hX _ ?_
      clear hP hX hk P' X cal
      refine Wp.stepsG 1 (fun cal X P' hk hX hP => ?_)
      show (¬ (r_X12_in a2 0 (((S.1 116) a1.toNatClampNeg) - 1)) = 0 → X (40, [some (.ref 76), some (.int a1), some (.int a2)], [], st S hs, 0, 0)) ∧ ((r_X12_in a2 0 (((S.1 116) a1.toNatClampNeg) - 1)) = 0 → X (34, [some (.ref 76), some (.int a1), some (.int a2)], [], st S hs, 0, 0))
      refine ⟨fun hc => hX _ ?_, fun hc => hX _ ?_⟩
      · clear hP hX hk P' X cal
        rw [if_neg hc] at hr
        refine Wp.stepsG 8 (fun cal X P' hk hX hP => ?_)
        show vp_in (((60 : Int32) * a1) + a2) 360 ∧ X (51, [some (.ref 76), some (.int a1), some (.int a2)], [.long ((S.2.1 117) (((60 : Int32) * a1) + a2).toNatClampNeg)], st S hs, 0, 0)
        obtain ⟨hg, hr⟩ := gd_some hr
        refine ⟨hg, hX _ ?_⟩
        clear hP hX hk P' X cal
        have hr := Option.some.inj hr
        subst hr
        refine Wp.stepsG 1 (fun cal X P' hk hX hP => ?_)
        exact hP _ _ h
      · clear hP hX hk P' X cal
        rw [if_pos hc] at hr
        have hr := Option.some.inj hr
        subst hr
        refine Wp.stepsG 3 (fun cal X P' hk hX hP => ?_)
        exact hP _ _ h
def lp_X12_shift_104 (f1 : Int32) (f2 : Int32) (f3 : Int32) (f4 : Int32) (f5 : Int32) : Nat → Int32 → St → Option (St)
  | 0, _, _ => none
  | n + 1, v6, S =>
    if f5 ≤ v6 then
      some S
    else
      gd (¬ (((((60 : Int32) * f1) + f2) + v6) < 0 ∨ 360 ≤ ((((60 : Int32) * f1) + f2) + v6).toNatClampNeg)) (
        gd (¬ (v6 < 0 ∨ 60 ≤ v6.toNatClampNeg)) (
          lp_X12_shift_104 f1 f2 f3 f4 f5 n (v6 + 1) (sG S 118 (vp_updL (S.2.1 118) v6.toNatClampNeg ((S.2.1 117) ((((60 : Int32) * f1) + f2) + v6).toNatClampNeg)))))
set_option maxRecDepth 20000 in
set_option maxHeartbeats 4000000 in
theorem e_lp_X12_shift_104 (d : Nat) (hs : List Hr) (P : Option Value → Hp → Prop) (f1 : Int32) (f2 : Int32) (f3 : Int32) (f4 : Int32) (f5 : Int32) : ∀ (n : Nat) (v6 : Int32) (S : St) (q : St), lp_X12_shift_104 f1 f2 f3 f4 f5 n v6 S = some q → (WM mi_X12_shift (d + 2) P 138 [some (.ref 76), some (.int f1), some (.int f2), some (.int f3), some (.int f4), some (.int f5), none] [] (st q hs)) → WM mi_X12_shift (d + 2) P 104 [some (.ref 76), some (.int f1), some (.int f2), some (.int f3), some (.int f4), some (.int f5), some (.int v6)] [] (st S hs) := by
  intro n
  induction n with
  | zero =>
    intro v6 S q hl
    cases hl
  | succ n ih =>
    intro v6 S q hl ct
    rw [lp_X12_shift_104] at hl
    refine Wp.stepsG 3 (fun cal X P' hk hX hP => ?_)
    show (f5 ≤ v6 → X (138, [some (.ref 76), some (.int f1), some (.int f2), some (.int f3), some (.int f4), some (.int f5), some (.int v6)], [], st S hs, 0, 0)) ∧ (¬ f5 ≤ v6 → X (111, [some (.ref 76), some (.int f1), some (.int f2), some (.int f3), some (.int f4), some (.int f5), some (.int v6)], [], st S hs, 0, 0))
    refine ⟨fun hc => hX _ ?_, fun hc => hX _ ?_⟩
    · clear hP hX hk P' X cal
      rw [if_pos hc] at hl
      have hl := Option.some.inj hl
      subst hl
      exact Wp.weak (leL.k (leL.k (leL.k (leL.k (leL.k (leL.k (leL.n leL.z))))))) (ct)
    · clear hP hX hk P' X cal
      rw [if_neg hc] at hl
      refine Wp.stepsG 13 (fun cal X P' hk hX hP => ?_)
      show vp_in ((((60 : Int32) * f1) + f2) + v6) 360 ∧ X (131, [some (.ref 76), some (.int f1), some (.int f2), some (.int f3), some (.int f4), some (.int f5), some (.int v6)], [.long ((S.2.1 117) ((((60 : Int32) * f1) + f2) + v6).toNatClampNeg), .int v6, .ref 118], st S hs, 0, 0)
      obtain ⟨hg, hl⟩ := gd_some hl
      refine ⟨hg, hX _ ?_⟩
      clear hP hX hk P' X cal
      refine Wp.stepsG 1 (fun cal X P' hk hX hP => ?_)
      show vp_in v6 60 ∧ X (132, [some (.ref 76), some (.int f1), some (.int f2), some (.int f3), some (.int f4), some (.int f5), some (.int v6)], [], st (sG S 118 (vp_updL (S.2.1 118) v6.toNatClampNeg ((S.2.1 117) ((((60 : Int32) * f1) + f2) + v6).toNatClampNeg))) hs, 0, 0)
      obtain ⟨hg, hl⟩ := gd_some hl
      refine ⟨hg, hX _ ?_⟩
      clear hP hX hk P' X cal
      refine Wp.stepsG 2 (fun cal X P' hk hX hP => ?_)
      show X (104, [some (.ref 76), some (.int f1), some (.int f2), some (.int f3), some (.int f4), some (.int f5), some (.int (v6 + 1))], [], st (sG S 118 (vp_updL (S.2.1 118) v6.toNatClampNeg ((S.2.1 117) ((((60 : Int32) * f1) + f2) + v6).toNatClampNeg))) hs, 0, 0)
      refine hX _ ?_
      exact (ih (v6 + 1) (sG S 118 (vp_updL (S.2.1 118) v6.toNatClampNeg ((S.2.1 117) ((((60 : Int32) * f1) + f2) + v6).toNatClampNeg))) q hl ct)
def lp_X12_shift_141 (f3 : Int32) (f4 : Int32) (f5 : Int32) : Nat → Int32 → St → Option (St)
  | 0, _, _ => none
  | n + 1, v6, S =>
    if f5 ≤ v6 then
      some S
    else
      gd (¬ (v6 < 0 ∨ 60 ≤ v6.toNatClampNeg)) (
        gd (¬ (((((60 : Int32) * f3) + f4) + v6) < 0 ∨ 360 ≤ ((((60 : Int32) * f3) + f4) + v6).toNatClampNeg)) (
          lp_X12_shift_141 f3 f4 f5 n (v6 + 1) (sG S 117 (vp_updL (S.2.1 117) ((((60 : Int32) * f3) + f4) + v6).toNatClampNeg ((S.2.1 118) v6.toNatClampNeg)))))
set_option maxRecDepth 20000 in
set_option maxHeartbeats 4000000 in
theorem e_lp_X12_shift_141 (d : Nat) (hs : List Hr) (P : Option Value → Hp → Prop) (f3 : Int32) (f4 : Int32) (f5 : Int32) : ∀ (n : Nat) (v6 : Int32) (S : St) (q : St), lp_X12_shift_141 f3 f4 f5 n v6 S = some q → (WM mi_X12_shift (d + 2) P 176 [some (.ref 76), none, none, some (.int f3), some (.int f4), some (.int f5), none] [] (st q hs)) → WM mi_X12_shift (d + 2) P 141 [some (.ref 76), none, none, some (.int f3), some (.int f4), some (.int f5), some (.int v6)] [] (st S hs) := by
  intro n
  induction n with
  | zero =>
    intro v6 S q hl
    cases hl
  | succ n ih =>
    intro v6 S q hl ct
    rw [lp_X12_shift_141] at hl
    refine Wp.stepsG 3 (fun cal X P' hk hX hP => ?_)
    show (f5 ≤ v6 → X (176, [some (.ref 76), none, none, some (.int f3), some (.int f4), some (.int f5), some (.int v6)], [], st S hs, 0, 0)) ∧ (¬ f5 ≤ v6 → X (148, [some (.ref 76), none, none, some (.int f3), some (.int f4), some (.int f5), some (.int v6)], [], st S hs, 0, 0))
    refine ⟨fun hc => hX _ ?_, fun hc => hX _ ?_⟩
    · clear hP hX hk P' X cal
      rw [if_pos hc] at hl
      have hl := Option.some.inj hl
      subst hl
      exact Wp.weak (leL.k (leL.k (leL.k (leL.k (leL.k (leL.k (leL.n leL.z))))))) (ct)
    · clear hP hX hk P' X cal
      rw [if_neg hc] at hl
      refine Wp.stepsG 13 (fun cal X P' hk hX hP => ?_)
      show vp_in v6 60 ∧ X (169, [some (.ref 76), none, none, some (.int f3), some (.int f4), some (.int f5), some (.int v6)], [.long ((S.2.1 118) v6.toNatClampNeg), .int ((((60 : Int32) * f3) + f4) + v6), .ref 117], st S hs, 0, 0)
      obtain ⟨hg, hl⟩ := gd_some hl
      refine ⟨hg, hX _ ?_⟩
      clear hP hX hk P' X cal
      refine Wp.stepsG 1 (fun cal X P' hk hX hP => ?_)
      show vp_in ((((60 : Int32) * f3) + f4) + v6) 360 ∧ X (170, [some (.ref 76), none, none, some (.int f3), some (.int f4), some (.int f5), some (.int v6)], [], st (sG S 117 (vp_updL (S.2.1 117) ((((60 : Int32) * f3) + f4) + v6).toNatClampNeg ((S.2.1 118) v6.toNatClampNeg))) hs, 0, 0)
      obtain ⟨hg, hl⟩ := gd_some hl
      refine ⟨hg, hX _ ?_⟩
      clear hP hX hk P' X cal
      refine Wp.stepsG 2 (fun cal X P' hk hX hP => ?_)
      show X (141, [some (.ref 76), none, none, some (.int f3), some (.int f4), some (.int f5), some (.int (v6 + 1))], [], st (sG S 117 (vp_updL (S.2.1 117) ((((60 : Int32) * f3) + f4) + v6).toNatClampNeg ((S.2.1 118) v6.toNatClampNeg))) hs, 0, 0)
      refine hX _ ?_
      exact (ih (v6 + 1) (sG S 117 (vp_updL (S.2.1 117) ((((60 : Int32) * f3) + f4) + v6).toNatClampNeg ((S.2.1 118) v6.toNatClampNeg))) q hl ct)
def r_X12_shift (S : St) (a1 : Int32) (a2 : Int32) (a3 : Int32) (a4 : Int32) (a5 : Int32) : Option (Int32 × St) :=
  if (r_X12_isTape a1) = 0 then
    some ((-1), S)
  else
    if (r_X12_isTape a3) = 0 then
      some ((-1), S)
    else
      gd (¬ (a1 < 0 ∨ 6 ≤ a1.toNatClampNeg)) (
        if ((S.1 115) a1.toNatClampNeg) < 0 then
          some ((-11), S)
        else
          gd (¬ (a3 < 0 ∨ 6 ≤ a3.toNatClampNeg)) (
            if 0 ≤ ((S.1 115) a3.toNatClampNeg) then
              gd (¬ (a1 < 0 ∨ 6 ≤ a1.toNatClampNeg)) (
                gd (¬ (a3 < 0 ∨ 6 ≤ a3.toNatClampNeg)) (
                  if ((S.1 115) a1.toNatClampNeg) = ((S.1 115) a3.toNatClampNeg) then
                    if a5 < 0 then
                      some ((-13), S)
                    else
                      if a2 < 0 then
                        some ((-13), S)
                      else
                        if a4 < 0 then
                          some ((-13), S)
                        else
                          gd (¬ (a1 < 0 ∨ 6 ≤ a1.toNatClampNeg)) (
                            if (((S.1 116) a1.toNatClampNeg) - a5) < a2 then
                              some ((-13), S)
                            else
                              gd (¬ (a3 < 0 ∨ 6 ≤ a3.toNatClampNeg)) (
                                if a4 ≤ (((S.1 116) a3.toNatClampNeg) - a5) then
                                  (lp_X12_shift_104 a1 a2 a3 a4 a5 4000 0 S).bind fun q1 =>
                                    (lp_X12_shift_141 a3 a4 a5 4000 0 q1).bind fun q2 =>
                                      some (a5, q2)
                                else
                                  some ((-13), S)))
                  else
                    some ((-12), S)))
            else
              some ((-11), S)))
set_option maxRecDepth 20000 in
set_option maxHeartbeats 4000000 in
theorem e_X12_shift (d : Nat) (S : St) (hs : List Hr) (a1 : Int32) (a2 : Int32) (a3 : Int32) (a4 : Int32) (a5 : Int32) (v : Int32 × St) (hr : r_X12_shift S a1 a2 a3 a4 a5 = some v) (P : Option Value → Hp → Prop) (h : P (some (.int v.1)) (st v.2 hs)) : Ev (d + 3) ix_X12_shift 0 0 [.ref 76, .int a1, .int a2, .int a3, .int a4, .int a5] (st S hs) P := by
  refine Ev.intro (M := mi_X12_shift) rfl (Nat.le_of_ble_eq_true rfl) ?_
  unfold r_X12_shift at hr
  refine Wp.stepsG 3 (fun cal X P' hk hX hP => ?_)
  show kcall cal ix_X12_isTape [.ref 76, .int a1] (st S hs) [] 0 0 (0, 0) (fun v σ' c' m' => X (5, [some (.ref 76), some (.int a1), some (.int a2), some (.int a3), some (.int a4), some (.int a5), none], v.toList ++ [], σ', c', m'))
  refine kcall0 rfl (hk _ _ _ _ _ _ (e_X12_isTape (d + 0) S hs a1 _ ?_))
  show X (5, [some (.ref 76), some (.int a1), some (.int a2), some (.int a3), some (.int a4), some (.int a5), none], [.int (r_X12_isTape a1)], st S hs, 0, 0)
  refine hX _ ?_
  clear hP hX hk P' X cal
  refine Wp.stepsG 1 (fun cal X P' hk hX hP => ?_)
  show ((r_X12_isTape a1) = 0 → X (16, [some (.ref 76), some (.int a1), some (.int a2), some (.int a3), some (.int a4), some (.int a5), none], [], st S hs, 0, 0)) ∧ (¬ (r_X12_isTape a1) = 0 → X (8, [some (.ref 76), some (.int a1), some (.int a2), some (.int a3), some (.int a4), some (.int a5), none], [], st S hs, 0, 0))
  refine ⟨fun hc => hX _ ?_, fun hc => hX _ ?_⟩
  · clear hP hX hk P' X cal
    rw [if_pos hc] at hr
    have hr := Option.some.inj hr
    subst hr
    refine Wp.stepsG 2 (fun cal X P' hk hX hP => ?_)
    exact hP _ _ h
  · clear hP hX hk P' X cal
    rw [if_neg hc] at hr
    refine Wp.stepsG 3 (fun cal X P' hk hX hP => ?_)
    show kcall cal ix_X12_isTape [.ref 76, .int a3] (st S hs) [] 0 0 (0, 0) (fun v σ' c' m' => X (13, [some (.ref 76), some (.int a1), some (.int a2), some (.int a3), some (.int a4), some (.int a5), none], v.toList ++ [], σ', c', m'))
    refine kcall0 rfl (hk _ _ _ _ _ _ (e_X12_isTape (d + 0) S hs a3 _ ?_))
    show X (13, [some (.ref 76), some (.int a1), some (.int a2), some (.int a3), some (.int a4), some (.int a5), none], [.int (r_X12_isTape a3)], st S hs, 0, 0)
    refine hX _ ?_
    clear hP hX hk P' X cal
    refine Wp.stepsG 1 (fun cal X P' hk hX hP => ?_)
    show (¬ (r_X12_isTape a3) = 0 → X (18, [some (.ref 76), some (.int a1), some (.int a2), some (.int a3), some (.int a4), some (.int a5), none], [], st S hs, 0, 0)) ∧ ((r_X12_isTape a3) = 0 → X (16, [some (.ref 76), some (.int a1), some (.int a2), some (.int a3), some (.int a4), some (.int a5), none], [], st S hs, 0, 0))
    refine ⟨fun hc => hX _ ?_, fun hc => hX _ ?_⟩
    · clear hP hX hk P' X cal
      rw [if_neg hc] at hr
      refine Wp.stepsG 4 (fun cal X P' hk hX hP => ?_)
      show vp_in a1 6 ∧ X (24, [some (.ref 76), some (.int a1), some (.int a2), some (.int a3), some (.int a4), some (.int a5), none], [.int ((S.1 115) a1.toNatClampNeg)], st S hs, 0, 0)
      obtain ⟨hg, hr⟩ := gd_some hr
      refine ⟨hg, hX _ ?_⟩
      clear hP hX hk P' X cal
      refine Wp.stepsG 1 (fun cal X P' hk hX hP => ?_)
      show (((S.1 115) a1.toNatClampNeg) < 0 → X (36, [some (.ref 76), some (.int a1), some (.int a2), some (.int a3), some (.int a4), some (.int a5), none], [], st S hs, 0, 0)) ∧ (¬ ((S.1 115) a1.toNatClampNeg) < 0 → X (27, [some (.ref 76), some (.int a1), some (.int a2), some (.int a3), some (.int a4), some (.int a5), none], [], st S hs, 0, 0))
      refine ⟨fun hc => hX _ ?_, fun hc => hX _ ?_⟩
      · clear hP hX hk P' X cal
        rw [if_pos hc] at hr
        have hr := Option.some.inj hr
        subst hr
        refine Wp.stepsG 2 (fun cal X P' hk hX hP => ?_)
        exact hP _ _ h
      · clear hP hX hk P' X cal
        rw [if_neg hc] at hr
        refine Wp.stepsG 4 (fun cal X P' hk hX hP => ?_)
        show vp_in a3 6 ∧ X (33, [some (.ref 76), some (.int a1), some (.int a2), some (.int a3), some (.int a4), some (.int a5), none], [.int ((S.1 115) a3.toNatClampNeg)], st S hs, 0, 0)
        obtain ⟨hg, hr⟩ := gd_some hr
        refine ⟨hg, hX _ ?_⟩
        clear hP hX hk P' X cal
        refine Wp.stepsG 1 (fun cal X P' hk hX hP => ?_)
        show (0 ≤ ((S.1 115) a3.toNatClampNeg) → X (39, [some (.ref 76), some (.int a1), some (.int a2), some (.int a3), some (.int a4), some (.int a5), none], [], st S hs, 0, 0)) ∧ (¬ 0 ≤ ((S.1 115) a3.toNatClampNeg) → X (36, [some (.ref 76), some (.int a1), some (.int a2), some (.int a3), some (.int a4), some (.int a5), none], [], st S hs, 0, 0))
        refine ⟨fun hc => hX _ ?_, fun hc => hX _ ?_⟩
        · clear hP hX hk P' X cal
          rw [if_pos hc] at hr
          refine Wp.stepsG 4 (fun cal X P' hk hX hP => ?_)
          show vp_in a1 6 ∧ X (45, [some (.ref 76), some (.int a1), some (.int a2), some (.int a3), some (.int a4), some (.int a5), none], [.int ((S.1 115) a1.toNatClampNeg)], st S hs, 0, 0)
          obtain ⟨hg, hr⟩ := gd_some hr
          refine ⟨hg, hX _ ?_⟩
          clear hP hX hk P' X cal
          refine Wp.stepsG 4 (fun cal X P' hk hX hP => ?_)
          show vp_in a3 6 ∧ X (51, [some (.ref 76), some (.int a1), some (.int a2), some (.int a3), some (.int a4), some (.int a5), none], [.int ((S.1 115) a3.toNatClampNeg), .int ((S.1 115) a1.toNatClampNeg)], st S hs, 0, 0)
          obtain ⟨hg, hr⟩ := gd_some hr
          refine ⟨hg, hX _ ?_⟩
          clear hP hX hk P' X cal
          refine Wp.stepsG 1 (fun cal X P' hk hX hP => ?_)
          show (((S.1 115) a1.toNatClampNeg) = ((S.1 115) a3.toNatClampNeg) → X (57, [some (.ref 76), some (.int a1), some (.int a2), some (.int a3), some (.int a4), some (.int a5), none], [], st S hs, 0, 0)) ∧ (¬ ((S.1 115) a1.toNatClampNeg) = ((S.1 115) a3.toNatClampNeg) → X (54, [some (.ref 76), some (.int a1), some (.int a2), some (.int a3), some (.int a4), some (.int a5), none], [], st S hs, 0, 0))
          refine ⟨fun hc => hX _ ?_, fun hc => hX _ ?_⟩
          · clear hP hX hk P' X cal
            rw [if_pos hc] at hr
            refine Wp.stepsG 2 (fun cal X P' hk hX hP => ?_)
            show (a5 < 0 → X (98, [some (.ref 76), some (.int a1), some (.int a2), some (.int a3), some (.int a4), some (.int a5), none], [], st S hs, 0, 0)) ∧ (¬ a5 < 0 → X (62, [some (.ref 76), some (.int a1), some (.int a2), some (.int a3), some (.int a4), some (.int a5), none], [], st S hs, 0, 0))
            refine ⟨fun hc => hX _ ?_, fun hc => hX _ ?_⟩
            · clear hP hX hk P' X cal
              rw [if_pos hc] at hr
              have hr := Option.some.inj hr
              subst hr
              refine Wp.stepsG 2 (fun cal X P' hk hX hP => ?_)
              exact hP _ _ h
            · clear hP hX hk P' X cal
              rw [if_neg hc] at hr
              refine Wp.stepsG 2 (fun cal X P' hk hX hP => ?_)
              show (a2 < 0 → X (98, [some (.ref 76), some (.int a1), some (.int a2), some (.int a3), some (.int a4), some (.int a5), none], [], st S hs, 0, 0)) ∧ (¬ a2 < 0 → X (66, [some (.ref 76), some (.int a1), some (.int a2), some (.int a3), some (.int a4), some (.int a5), none], [], st S hs, 0, 0))
              refine ⟨fun hc => hX _ ?_, fun hc => hX _ ?_⟩
              · clear hP hX hk P' X cal
                rw [if_pos hc] at hr
                have hr := Option.some.inj hr
                subst hr
                refine Wp.stepsG 2 (fun cal X P' hk hX hP => ?_)
                exact hP _ _ h
              · clear hP hX hk P' X cal
                rw [if_neg hc] at hr
                refine Wp.stepsG 2 (fun cal X P' hk hX hP => ?_)
                show (a4 < 0 → X (98, [some (.ref 76), some (.int a1), some (.int a2), some (.int a3), some (.int a4), some (.int a5), none], [], st S hs, 0, 0)) ∧ (¬ a4 < 0 → X (71, [some (.ref 76), some (.int a1), some (.int a2), some (.int a3), some (.int a4), some (.int a5), none], [], st S hs, 0, 0))
                refine ⟨fun hc => hX _ ?_, fun hc => hX _ ?_⟩
                · clear hP hX hk P' X cal
                  rw [if_pos hc] at hr
                  have hr := Option.some.inj hr
                  subst hr
                  refine Wp.stepsG 2 (fun cal X P' hk hX hP => ?_)
                  exact hP _ _ h
                · clear hP hX hk P' X cal
                  rw [if_neg hc] at hr
                  refine Wp.stepsG 5 (fun cal X P' hk hX hP => ?_)
                  show vp_in a1 6 ∧ X (78, [some (.ref 76), some (.int a1), some (.int a2), some (.int a3), some (.int a4), some (.int a5), none], [.int ((S.1 116) a1.toNatClampNeg), .int a2], st S hs, 0, 0)
                  obtain ⟨hg, hr⟩ := gd_some hr
                  refine ⟨hg, hX _ ?_⟩
                  clear hP hX hk P' X cal
                  refine Wp.stepsG 3 (fun cal X P' hk hX hP => ?_)
                  show ((((S.1 116) a1.toNatClampNeg) - a5) < a2 → X (98, [some (.ref 76), some (.int a1), some (.int a2), some (.int a3), some (.int a4), some (.int a5), none], [], st S hs, 0, 0)) ∧ (¬ (((S.1 116) a1.toNatClampNeg) - a5) < a2 → X (84, [some (.ref 76), some (.int a1), some (.int a2), some (.int a3), some (.int a4), some (.int a5), none], [], st S hs, 0, 0))
                  refine ⟨fun hc => hX _ ?_, fun hc => hX _ ?_⟩
                  · clear hP hX hk P' X cal
                    rw [if_pos hc] at hr
                    have hr := Option.some.inj hr
                    subst hr
                    refine Wp.stepsG 2 (fun cal X P' hk hX hP => ?_)
                    exact hP _ _ h
                  · clear hP hX hk P' X cal
                    rw [if_neg hc] at hr
                    refine Wp.stepsG 5 (fun cal X P' hk hX hP => ?_)
                    show vp_in a3 6 ∧ X (92, [some (.ref 76), some (.int a1), some (.int a2), some (.int a3), some (.int a4), some (.int a5), none], [.int ((S.1 116) a3.toNatClampNeg), .int a4], st S hs, 0, 0)
                    obtain ⟨hg, hr⟩ := gd_some hr
                    refine ⟨hg, hX _ ?_⟩
                    clear hP hX hk P' X cal
                    refine Wp.stepsG 3 (fun cal X P' hk hX hP => ?_)
                    show (a4 ≤ (((S.1 116) a3.toNatClampNeg) - a5) → X (101, [some (.ref 76), some (.int a1), some (.int a2), some (.int a3), some (.int a4), some (.int a5), none], [], st S hs, 0, 0)) ∧ (¬ a4 ≤ (((S.1 116) a3.toNatClampNeg) - a5) → X (98, [some (.ref 76), some (.int a1), some (.int a2), some (.int a3), some (.int a4), some (.int a5), none], [], st S hs, 0, 0))
                    refine ⟨fun hc => hX _ ?_, fun hc => hX _ ?_⟩
                    · clear hP hX hk P' X cal
                      rw [if_pos hc] at hr
                      refine Wp.stepsG 2 (fun cal X P' hk hX hP => ?_)
                      show X (104, [some (.ref 76), some (.int a1), some (.int a2), some (.int a3), some (.int a4), some (.int a5), some (.int 0)], [], st S hs, 0, 0)
                      refine hX _ ?_
                      clear hP hX hk P' X cal
                      obtain ⟨q1, hq1, hr⟩ := bd_some hr
                      refine (e_lp_X12_shift_104 d hs P a1 a2 a3 a4 a5 _ 0 S q1 hq1 ?_)
                      refine Wp.stepsG 2 (fun cal X P' hk hX hP => ?_)
                      show X (141, [some (.ref 76), some (.int a1), some (.int a2), some (.int a3), some (.int a4), some (.int a5), some (.int 0)], [], st q1 hs, 0, 0)
                      refine hX _ ?_
                      clear hP hX hk P' X cal
                      obtain ⟨q2, hq2, hr⟩ := bd_some hr
                      refine Wp.weak (leL.k (leL.n (leL.n (leL.k (leL.k (leL.k (leL.k leL.z))))))) (e_lp_X12_shift_141 d hs P a3 a4 a5 _ 0 q1 q2 hq2 ?_)
                      have hr := Option.some.inj hr
                      subst hr
                      refine Wp.stepsG 2 (fun cal X P' hk hX hP => ?_)
                      exact hP _ _ h
                    · clear hP hX hk P' X cal
                      rw [if_neg hc] at hr
                      have hr := Option.some.inj hr
                      subst hr
                      refine Wp.stepsG 2 (fun cal X P' hk hX hP => ?_)
                      exact hP _ _ h
          · clear hP hX hk P' X cal
            rw [if_neg hc] at hr
            have hr := Option.some.inj hr
            subst hr
            refine Wp.stepsG 2 (fun cal X P' hk hX hP => ?_)
            exact hP _ _ h
        · clear hP hX hk P' X cal
          rw [if_neg hc] at hr
          have hr := Option.some.inj hr
          subst hr
          refine Wp.stepsG 2 (fun cal X P' hk hX hP => ?_)
          exact hP _ _ h
    · clear hP hX hk P' X cal
      rw [if_pos hc] at hr
      have hr := Option.some.inj hr
      subst hr
      refine Wp.stepsG 2 (fun cal X P' hk hX hP => ?_)
      exact hP _ _ h
