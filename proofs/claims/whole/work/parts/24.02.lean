def r_X11_laughThen (S : St) (hs : List Hr) (a1 : Int32) (a2 : Int32) (a3 : Int32) (a4 : Int32) (a5 : Int32) : Option (Int32 × St) :=
  (r_X11_hearerAt S a1).bind fun q1 =>
  oH hs (q1) (
    some (0, S)) (fun zb2 =>
    (r_X11_timesOf S a1 a2).bind fun q3 =>
    if a4 ≤ 0 then
      gd (¬ (((a1 * 8) + a2) < 0 ∨ 48 ≤ ((a1 * 8) + a2).toNatClampNeg)) (
        gd (¬ (a2 < 0 ∨ 8 ≤ a2.toNatClampNeg)) (
          (r_X11_moodThen S zb2 a2 (if (q3 + a4) < (999 : Int32) then (q3 + a4) else (999 : Int32)) a3).bind fun q4 =>
          (r_X11_knowsThen q4.2 zb2 (if (q3 + a4) < (999 : Int32) then (q3 + a4) else (999 : Int32)) ((S.1 13) ((a1 * 8) + a2).toNatClampNeg) a3).bind fun q5 =>
          if q5 = 0 then
            (r_sel_whenNew q4.2 zb2 (((S.1 9) a2.toNatClampNeg) + q4.1) (if (q3 + a4) < (999 : Int32) then (q3 + a4) else (999 : Int32))).bind fun q6 =>
            some (q6, q4.2)
          else
            (r_X11_faceTold q4.2).bind fun q7 =>
            (r_sel_whenKnown q4.2 zb2 (((S.1 9) a2.toNatClampNeg) + q4.1) q7).bind fun q8 =>
            some (q8, q4.2)))
    else
      gd (¬ (a2 < 0 ∨ 8 ≤ a2.toNatClampNeg)) (
        (r_X11_moodThen S zb2 a2 (if (q3 + a4) < (999 : Int32) then (q3 + a4) else (999 : Int32)) a3).bind fun q9 =>
        (r_X11_knowsThen q9.2 zb2 (if (q3 + a4) < (999 : Int32) then (q3 + a4) else (999 : Int32)) a5 a3).bind fun q10 =>
        if q10 = 0 then
          (r_sel_whenNew q9.2 zb2 (((S.1 9) a2.toNatClampNeg) + q9.1) (if (q3 + a4) < (999 : Int32) then (q3 + a4) else (999 : Int32))).bind fun q11 =>
          some (q11, q9.2)
        else
          (r_X11_faceTold q9.2).bind fun q12 =>
          (r_sel_whenKnown q9.2 zb2 (((S.1 9) a2.toNatClampNeg) + q9.1) q12).bind fun q13 =>
          some (q13, q9.2)))
set_option maxRecDepth 20000 in
set_option maxHeartbeats 4000000 in
theorem e_X11_laughThen (d : Nat) (S : St) (hs : List Hr) (a1 : Int32) (a2 : Int32) (a3 : Int32) (a4 : Int32) (a5 : Int32) (v : Int32 × St) (hr : r_X11_laughThen S hs a1 a2 a3 a4 a5 = some v) (P : Option Value → Hp → Prop) (h : P (some (.int v.1)) (st v.2 hs)) : Ev (d + 5) ix_X11_laughThen 0 0 [.ref 7, .int a1, .int a2, .int a3, .int a4, .int a5] (st S hs) P := by
  refine Ev.intro (M := mi_X11_laughThen) rfl (Nat.le_of_ble_eq_true rfl) ?_
  unfold r_X11_laughThen at hr
  refine Wp.stepsG 3 (fun cal X P' hk hX hP => ?_)
  show kcall cal ix_X11_hearerAt [.ref 7, .int a1] (st S hs) [] 0 0 (0, 0) (fun v σ' c' m' => X (5, [some (.ref 7), some (.int a1), some (.int a2), some (.int a3), some (.int a4), some (.int a5), none, none, none, none], v.toList ++ [], σ', c', m'))
  obtain ⟨q1, hq1, hr⟩ := bd_some hr
  refine kcall0 rfl (hk _ _ _ _ _ _ (e_X11_hearerAt (d + 2) S hs a1 q1 hq1 _ ?_))
  show X (5, [some (.ref 7), some (.int a1), some (.int a2), some (.int a3), some (.int a4), some (.int a5), none, none, none, none], [va_rf q1], st S hs, 0, 0)
  refine hX _ ?_
  clear hP hX hk P' X cal
  rcases oH_some hr with ⟨hz, hr⟩ | ⟨b2, zb2, hz, hb2, fb2, hr⟩
  · rw [hz]
    have hr := Option.some.inj hr
    subst hr
    refine Wp.stepsG 5 (fun cal X P' hk hX hP => ?_)
    exact hP _ _ h
  · rw [hz]
    refine Wp.stepsG 8 (fun cal X P' hk hX hP => ?_)
    show kcall cal ix_X11_timesOf [.ref 7, .int a1, .int a2] (st S hs) [.int 999] 0 0 (0, 0) (fun v σ' c' m' => X (23, [some (.ref 7), some (.int a1), some (.int a2), some (.int a3), some (.int a4), some (.int a5), some (.ref b2), none, none, none], v.toList ++ [.int 999], σ', c', m'))
    obtain ⟨q3, hq3, hr⟩ := bd_some hr
    refine kcall0 rfl (hk _ _ _ _ _ _ (e_X11_timesOf (d + 3) S hs a1 a2 q3 hq3 _ ?_))
    show X (23, [some (.ref 7), some (.int a1), some (.int a2), some (.int a3), some (.int a4), some (.int a5), some (.ref b2), none, none, none], [.int q3, .int 999], st S hs, 0, 0)
    refine hX _ ?_
    clear hP hX hk P' X cal
    refine Wp.stepsG 6 (fun cal X P' hk hX hP => ?_)
    show (a4 ≤ 0 → X (41, [some (.ref 7), some (.int a1), some (.int a2), some (.int a3), some (.int a4), some (.int a5), some (.ref b2), some (.int (if (q3 + a4) < (999 : Int32) then (q3 + a4) else (999 : Int32))), none, none], [], st S hs, 0, 0)) ∧ (¬ a4 ≤ 0 → X (36, [some (.ref 7), some (.int a1), some (.int a2), some (.int a3), some (.int a4), some (.int a5), some (.ref b2), some (.int (if (q3 + a4) < (999 : Int32) then (q3 + a4) else (999 : Int32))), none, none], [], st S hs, 0, 0))
    refine ⟨fun hc => hX _ ?_, fun hc => hX _ ?_⟩
    · clear hP hX hk P' X cal
      rw [if_pos hc] at hr
      refine Wp.stepsG 9 (fun cal X P' hk hX hP => ?_)
      show vp_in ((a1 * 8) + a2) 48 ∧ X (55, [some (.ref 7), some (.int a1), some (.int a2), some (.int a3), some (.int a4), some (.int a5), some (.ref b2), some (.int (if (q3 + a4) < (999 : Int32) then (q3 + a4) else (999 : Int32))), none, none], [.int ((S.1 13) ((a1 * 8) + a2).toNatClampNeg)], st S hs, 0, 0)
      obtain ⟨hg, hr⟩ := gd_some hr
      refine ⟨hg, hX _ ?_⟩
      clear hP hX hk P' X cal
      refine Wp.stepsG 6 (fun cal X P' hk hX hP => ?_)
      show vp_in a2 8 ∧ X (66, [some (.ref 7), some (.int a1), some (.int a2), some (.int a3), some (.int a4), some (.int a5), some (.ref b2), some (.int (if (q3 + a4) < (999 : Int32) then (q3 + a4) else (999 : Int32))), some (.int ((S.1 13) ((a1 * 8) + a2).toNatClampNeg)), none], [.int ((S.1 9) a2.toNatClampNeg)], st S hs, 0, 0)
      obtain ⟨hg, hr⟩ := gd_some hr
      refine ⟨hg, hX _ ?_⟩
      clear hP hX hk P' X cal
      refine Wp.stepsG 6 (fun cal X P' hk hX hP => ?_)
      show kcall cal ix_X11_moodThen [.ref 7, .ref b2, .int a2, .int (if (q3 + a4) < (999 : Int32) then (q3 + a4) else (999 : Int32)), .int a3] (st S hs) [.int ((S.1 9) a2.toNatClampNeg)] 0 0 (0, 0) (fun v σ' c' m' => X (76, [some (.ref 7), some (.int a1), some (.int a2), some (.int a3), some (.int a4), some (.int a5), some (.ref b2), some (.int (if (q3 + a4) < (999 : Int32) then (q3 + a4) else (999 : Int32))), some (.int ((S.1 13) ((a1 * 8) + a2).toNatClampNeg)), none], v.toList ++ [.int ((S.1 9) a2.toNatClampNeg)], σ', c', m'))
      obtain ⟨q4, hq4, hr⟩ := bd_some hr
      refine kcall0 rfl (hk _ _ _ _ _ _ (e_X11_moodThen (d + 1) S hs b2 zb2 hb2 fb2 a2 (if (q3 + a4) < (999 : Int32) then (q3 + a4) else (999 : Int32)) a3 q4 hq4 _ ?_))
      show X (76, [some (.ref 7), some (.int a1), some (.int a2), some (.int a3), some (.int a4), some (.int a5), some (.ref b2), some (.int (if (q3 + a4) < (999 : Int32) then (q3 + a4) else (999 : Int32))), some (.int ((S.1 13) ((a1 * 8) + a2).toNatClampNeg)), none], [.int q4.1, .int ((S.1 9) a2.toNatClampNeg)], st q4.2 hs, 0, 0)
      refine hX _ ?_
      clear hP hX hk P' X cal
      refine Wp.stepsG 8 (fun cal X P' hk hX hP => ?_)
      show kcall cal ix_X11_knowsThen [.ref 7, .ref b2, .int (if (q3 + a4) < (999 : Int32) then (q3 + a4) else (999 : Int32)), .int ((S.1 13) ((a1 * 8) + a2).toNatClampNeg), .int a3] (st q4.2 hs) [] 0 0 (0, 0) (fun v σ' c' m' => X (90, [some (.ref 7), some (.int a1), some (.int a2), some (.int a3), some (.int a4), some (.int a5), some (.ref b2), some (.int (if (q3 + a4) < (999 : Int32) then (q3 + a4) else (999 : Int32))), some (.int ((S.1 13) ((a1 * 8) + a2).toNatClampNeg)), some (.int (((S.1 9) a2.toNatClampNeg) + q4.1))], v.toList ++ [], σ', c', m'))
      obtain ⟨q5, hq5, hr⟩ := bd_some hr
      refine kcall0 rfl (hk _ _ _ _ _ _ (e_X11_knowsThen (d + 0) q4.2 hs b2 zb2 hb2 fb2 (if (q3 + a4) < (999 : Int32) then (q3 + a4) else (999 : Int32)) ((S.1 13) ((a1 * 8) + a2).toNatClampNeg) a3 q5 hq5 _ ?_))
      show X (90, [some (.ref 7), some (.int a1), some (.int a2), some (.int a3), some (.int a4), some (.int a5), some (.ref b2), some (.int (if (q3 + a4) < (999 : Int32) then (q3 + a4) else (999 : Int32))), some (.int ((S.1 13) ((a1 * 8) + a2).toNatClampNeg)), some (.int (((S.1 9) a2.toNatClampNeg) + q4.1))], [.int q5], st q4.2 hs, 0, 0)
      refine hX _ ?_
      clear hP hX hk P' X cal
      refine Wp.stepsG 1 (fun cal X P' hk hX hP => ?_)
      show (q5 = 0 → X (107, [some (.ref 7), some (.int a1), some (.int a2), some (.int a3), some (.int a4), some (.int a5), some (.ref b2), some (.int (if (q3 + a4) < (999 : Int32) then (q3 + a4) else (999 : Int32))), some (.int ((S.1 13) ((a1 * 8) + a2).toNatClampNeg)), some (.int (((S.1 9) a2.toNatClampNeg) + q4.1))], [], st q4.2 hs, 0, 0)) ∧ (¬ q5 = 0 → X (93, [some (.ref 7), some (.int a1), some (.int a2), some (.int a3), some (.int a4), some (.int a5), some (.ref b2), some (.int (if (q3 + a4) < (999 : Int32) then (q3 + a4) else (999 : Int32))), some (.int ((S.1 13) ((a1 * 8) + a2).toNatClampNeg)), some (.int (((S.1 9) a2.toNatClampNeg) + q4.1))], [], st q4.2 hs, 0, 0))
      refine ⟨fun hc => hX _ ?_, fun hc => hX _ ?_⟩
      · clear hP hX hk P' X cal
        rw [if_pos hc] at hr
        refine Wp.stepsG 4 (fun cal X P' hk hX hP => ?_)
        obtain ⟨q6, hq6, hr⟩ := bd_some hr
        refine kObj_at (hb2 _) (disp_at hk rfl (e_sel_whenNew (d + 3) q4.2 hs b2 zb2 hb2 (((S.1 9) a2.toNatClampNeg) + q4.1) (if (q3 + a4) < (999 : Int32) then (q3 + a4) else (999 : Int32)) q6 hq6 _ ?_))
        show X (116, [some (.ref 7), some (.int a1), some (.int a2), some (.int a3), some (.int a4), some (.int a5), some (.ref b2), some (.int (if (q3 + a4) < (999 : Int32) then (q3 + a4) else (999 : Int32))), some (.int ((S.1 13) ((a1 * 8) + a2).toNatClampNeg)), some (.int (((S.1 9) a2.toNatClampNeg) + q4.1))], [.int q6], st q4.2 hs, 0, 0)
        refine hX _ ?_
        clear hP hX hk P' X cal
        have hr := Option.some.inj hr
        subst hr
        refine Wp.stepsG 1 (fun cal X P' hk hX hP => ?_)
        exact hP _ _ h
      · clear hP hX hk P' X cal
        rw [if_neg hc] at hr
        refine Wp.stepsG 4 (fun cal X P' hk hX hP => ?_)
        show kcall cal ix_X11_faceTold [.ref 7] (st q4.2 hs) [.int (((S.1 9) a2.toNatClampNeg) + q4.1), .ref b2] 0 0 (0, 0) (fun v σ' c' m' => X (101, [some (.ref 7), some (.int a1), some (.int a2), some (.int a3), some (.int a4), some (.int a5), some (.ref b2), some (.int (if (q3 + a4) < (999 : Int32) then (q3 + a4) else (999 : Int32))), some (.int ((S.1 13) ((a1 * 8) + a2).toNatClampNeg)), some (.int (((S.1 9) a2.toNatClampNeg) + q4.1))], v.toList ++ [.int (((S.1 9) a2.toNatClampNeg) + q4.1), .ref b2], σ', c', m'))
        obtain ⟨q7, hq7, hr⟩ := bd_some hr
        refine kcall0 rfl (hk _ _ _ _ _ _ (e_X11_faceTold (d + 1) q4.2 hs q7 hq7 _ ?_))
        show X (101, [some (.ref 7), some (.int a1), some (.int a2), some (.int a3), some (.int a4), some (.int a5), some (.ref b2), some (.int (if (q3 + a4) < (999 : Int32) then (q3 + a4) else (999 : Int32))), some (.int ((S.1 13) ((a1 * 8) + a2).toNatClampNeg)), some (.int (((S.1 9) a2.toNatClampNeg) + q4.1))], [.int q7, .int (((S.1 9) a2.toNatClampNeg) + q4.1), .ref b2], st q4.2 hs, 0, 0)
        refine hX _ ?_
        clear hP hX hk P' X cal
        refine Wp.stepsG 1 (fun cal X P' hk hX hP => ?_)
        obtain ⟨q8, hq8, hr⟩ := bd_some hr
        refine kObj_at (hb2 _) (disp_at hk rfl (e_sel_whenKnown (d + 3) q4.2 hs b2 zb2 hb2 (((S.1 9) a2.toNatClampNeg) + q4.1) q7 q8 hq8 _ ?_))
        show X (104, [some (.ref 7), some (.int a1), some (.int a2), some (.int a3), some (.int a4), some (.int a5), some (.ref b2), some (.int (if (q3 + a4) < (999 : Int32) then (q3 + a4) else (999 : Int32))), some (.int ((S.1 13) ((a1 * 8) + a2).toNatClampNeg)), some (.int (((S.1 9) a2.toNatClampNeg) + q4.1))], [.int q8], st q4.2 hs, 0, 0)
        refine hX _ ?_
        clear hP hX hk P' X cal
        have hr := Option.some.inj hr
        subst hr
        refine Wp.stepsG 2 (fun cal X P' hk hX hP => ?_)
        exact hP _ _ h
    · clear hP hX hk P' X cal
      rw [if_neg hc] at hr
      refine Wp.stepsG 8 (fun cal X P' hk hX hP => ?_)
      show vp_in a2 8 ∧ X (66, [some (.ref 7), some (.int a1), some (.int a2), some (.int a3), some (.int a4), some (.int a5), some (.ref b2), some (.int (if (q3 + a4) < (999 : Int32) then (q3 + a4) else (999 : Int32))), some (.int a5), none], [.int ((S.1 9) a2.toNatClampNeg)], st S hs, 0, 0)
      obtain ⟨hg, hr⟩ := gd_some hr
      refine ⟨hg, hX _ ?_⟩
      clear hP hX hk P' X cal
      refine Wp.stepsG 6 (fun cal X P' hk hX hP => ?_)
      show kcall cal ix_X11_moodThen [.ref 7, .ref b2, .int a2, .int (if (q3 + a4) < (999 : Int32) then (q3 + a4) else (999 : Int32)), .int a3] (st S hs) [.int ((S.1 9) a2.toNatClampNeg)] 0 0 (0, 0) (fun v σ' c' m' => X (76, [some (.ref 7), some (.int a1), some (.int a2), some (.int a3), some (.int a4), some (.int a5), some (.ref b2), some (.int (if (q3 + a4) < (999 : Int32) then (q3 + a4) else (999 : Int32))), some (.int a5), none], v.toList ++ [.int ((S.1 9) a2.toNatClampNeg)], σ', c', m'))
      obtain ⟨q9, hq9, hr⟩ := bd_some hr
      refine kcall0 rfl (hk _ _ _ _ _ _ (e_X11_moodThen (d + 1) S hs b2 zb2 hb2 fb2 a2 (if (q3 + a4) < (999 : Int32) then (q3 + a4) else (999 : Int32)) a3 q9 hq9 _ ?_))
      show X (76, [some (.ref 7), some (.int a1), some (.int a2), some (.int a3), some (.int a4), some (.int a5), some (.ref b2), some (.int (if (q3 + a4) < (999 : Int32) then (q3 + a4) else (999 : Int32))), some (.int a5), none], [.int q9.1, .int ((S.1 9) a2.toNatClampNeg)], st q9.2 hs, 0, 0)
      refine hX _ ?_
      clear hP hX hk P' X cal
      refine Wp.stepsG 8 (fun cal X P' hk hX hP => ?_)
      show kcall cal ix_X11_knowsThen [.ref 7, .ref b2, .int (if (q3 + a4) < (999 : Int32) then (q3 + a4) else (999 : Int32)), .int a5, .int a3] (st q9.2 hs) [] 0 0 (0, 0) (fun v σ' c' m' => X (90, [some (.ref 7), some (.int a1), some (.int a2), some (.int a3), some (.int a4), some (.int a5), some (.ref b2), some (.int (if (q3 + a4) < (999 : Int32) then (q3 + a4) else (999 : Int32))), some (.int a5), some (.int (((S.1 9) a2.toNatClampNeg) + q9.1))], v.toList ++ [], σ', c', m'))
      obtain ⟨q10, hq10, hr⟩ := bd_some hr
      refine kcall0 rfl (hk _ _ _ _ _ _ (e_X11_knowsThen (d + 0) q9.2 hs b2 zb2 hb2 fb2 (if (q3 + a4) < (999 : Int32) then (q3 + a4) else (999 : Int32)) a5 a3 q10 hq10 _ ?_))
      show X (90, [some (.ref 7), some (.int a1), some (.int a2), some (.int a3), some (.int a4), some (.int a5), some (.ref b2), some (.int (if (q3 + a4) < (999 : Int32) then (q3 + a4) else (999 : Int32))), some (.int a5), some (.int (((S.1 9) a2.toNatClampNeg) + q9.1))], [.int q10], st q9.2 hs, 0, 0)
      refine hX _ ?_
      clear hP hX hk P' X cal
      refine Wp.stepsG 1 (fun cal X P' hk hX hP => ?_)
      show (q10 = 0 → X (107, [some (.ref 7), some (.int a1), some (.int a2), some (.int a3), some (.int a4), some (.int a5), some (.ref b2), some (.int (if (q3 + a4) < (999 : Int32) then (q3 + a4) else (999 : Int32))), some (.int a5), some (.int (((S.1 9) a2.toNatClampNeg) + q9.1))], [], st q9.2 hs, 0, 0)) ∧ (¬ q10 = 0 → X (93, [some (.ref 7), some (.int a1), some (.int a2), some (.int a3), some (.int a4), some (.int a5), some (.ref b2), some (.int (if (q3 + a4) < (999 : Int32) then (q3 + a4) else (999 : Int32))), some (.int a5), some (.int (((S.1 9) a2.toNatClampNeg) + q9.1))], [], st q9.2 hs, 0, 0))
      refine ⟨fun hc => hX _ ?_, fun hc => hX _ ?_⟩
      · clear hP hX hk P' X cal
        rw [if_pos hc] at hr
        refine Wp.stepsG 4 (fun cal X P' hk hX hP => ?_)
        obtain ⟨q11, hq11, hr⟩ := bd_some hr
        refine kObj_at (hb2 _) (disp_at hk rfl (e_sel_whenNew (d + 3) q9.2 hs b2 zb2 hb2 (((S.1 9) a2.toNatClampNeg) + q9.1) (if (q3 + a4) < (999 : Int32) then (q3 + a4) else (999 : Int32)) q11 hq11 _ ?_))
        show X (116, [some (.ref 7), some (.int a1), some (.int a2), some (.int a3), some (.int a4), some (.int a5), some (.ref b2), some (.int (if (q3 + a4) < (999 : Int32) then (q3 + a4) else (999 : Int32))), some (.int a5), some (.int (((S.1 9) a2.toNatClampNeg) + q9.1))], [.int q11], st q9.2 hs, 0, 0)
        refine hX _ ?_
        clear hP hX hk P' X cal
        have hr := Option.some.inj hr
        subst hr
        refine Wp.stepsG 1 (fun cal X P' hk hX hP => ?_)
        exact hP _ _ h
      · clear hP hX hk P' X cal
        rw [if_neg hc] at hr
        refine Wp.stepsG 4 (fun cal X P' hk hX hP => ?_)
        show kcall cal ix_X11_faceTold [.ref 7] (st q9.2 hs) [.int (((S.1 9) a2.toNatClampNeg) + q9.1), .ref b2] 0 0 (0, 0) (fun v σ' c' m' => X (101, [some (.ref 7), some (.int a1), some (.int a2), some (.int a3), some (.int a4), some (.int a5), some (.ref b2), some (.int (if (q3 + a4) < (999 : Int32) then (q3 + a4) else (999 : Int32))), some (.int a5), some (.int (((S.1 9) a2.toNatClampNeg) + q9.1))], v.toList ++ [.int (((S.1 9) a2.toNatClampNeg) + q9.1), .ref b2], σ', c', m'))
        obtain ⟨q12, hq12, hr⟩ := bd_some hr
        refine kcall0 rfl (hk _ _ _ _ _ _ (e_X11_faceTold (d + 1) q9.2 hs q12 hq12 _ ?_))
        show X (101, [some (.ref 7), some (.int a1), some (.int a2), some (.int a3), some (.int a4), some (.int a5), some (.ref b2), some (.int (if (q3 + a4) < (999 : Int32) then (q3 + a4) else (999 : Int32))), some (.int a5), some (.int (((S.1 9) a2.toNatClampNeg) + q9.1))], [.int q12, .int (((S.1 9) a2.toNatClampNeg) + q9.1), .ref b2], st q9.2 hs, 0, 0)
        refine hX _ ?_
        clear hP hX hk P' X cal
        refine Wp.stepsG 1 (fun cal X P' hk hX hP => ?_)
        obtain ⟨q13, hq13, hr⟩ := bd_some hr
        refine kObj_at (hb2 _) (disp_at hk rfl (e_sel_whenKnown (d + 3) q9.2 hs b2 zb2 hb2 (((S.1 9) a2.toNatClampNeg) + q9.1) q12 q13 hq13 _ ?_))
        show X (104, [some (.ref 7), some (.int a1), some (.int a2), some (.int a3), some (.int a4), some (.int a5), some (.ref b2), some (.int (if (q3 + a4) < (999 : Int32) then (q3 + a4) else (999 : Int32))), some (.int a5), some (.int (((S.1 9) a2.toNatClampNeg) + q9.1))], [.int q13], st q9.2 hs, 0, 0)
        refine hX _ ?_
        clear hP hX hk P' X cal
        have hr := Option.some.inj hr
        subst hr
        refine Wp.stepsG 2 (fun cal X P' hk hX hP => ?_)
        exact hP _ _ h
def lp_X11_laughterThen_6 (hs : List Hr) (f1 : Int32) (f2 : Int32) (f3 : Int32) (f4 : Int32) (f5 : Int32) : Nat → Int32 → Int32 → St → Option (Int32 × St)
  | 0, _, _, _ => none
  | n + 1, v6, v7, S =>
    if (S.1 8 3) ≤ v7 then
      some (v6, S)
    else
      if (r_X11_in f2 v7) = 0 then
        lp_X11_laughterThen_6 hs f1 f2 f3 f4 f5 n v6 (v7 + 1) S
      else
        (r_X11_laughThen S hs v7 f1 f3 f4 f5).bind fun q1 =>
        lp_X11_laughterThen_6 hs f1 f2 f3 f4 f5 n (v6 + q1.1) (v7 + 1) q1.2
set_option maxRecDepth 20000 in
set_option maxHeartbeats 4000000 in
theorem e_lp_X11_laughterThen_6 (d : Nat) (hs : List Hr) (P : Option Value → Hp → Prop) (f1 : Int32) (f2 : Int32) (f3 : Int32) (f4 : Int32) (f5 : Int32) : ∀ (n : Nat) (v6 : Int32) (v7 : Int32) (S : St) (q : Int32 × St), lp_X11_laughterThen_6 hs f1 f2 f3 f4 f5 n v6 v7 S = some q → (WM mi_X11_laughterThen (d + 5) P 50 [some (.ref 7), some (.int f1), some (.int f2), some (.int f3), some (.int f4), some (.int f5), some (.int q.1), none] [] (st q.2 hs)) → WM mi_X11_laughterThen (d + 5) P 6 [some (.ref 7), some (.int f1), some (.int f2), some (.int f3), some (.int f4), some (.int f5), some (.int v6), some (.int v7)] [] (st S hs) := by
  intro n
  induction n with
  | zero =>
    intro v6 v7 S q hl
    cases hl
  | succ n ih =>
    intro v6 v7 S q hl ct
    rw [lp_X11_laughterThen_6] at hl
    refine Wp.stepsG 5 (fun cal X P' hk hX hP => ?_)
    show ((S.1 8 3) ≤ v7 → X (50, [some (.ref 7), some (.int f1), some (.int f2), some (.int f3), some (.int f4), some (.int f5), some (.int v6), some (.int v7)], [], st S hs, 0, 0)) ∧ (¬ (S.1 8 3) ≤ v7 → X (18, [some (.ref 7), some (.int f1), some (.int f2), some (.int f3), some (.int f4), some (.int f5), some (.int v6), some (.int v7)], [], st S hs, 0, 0))
    refine ⟨fun hc => hX _ ?_, fun hc => hX _ ?_⟩
    · clear hP hX hk P' X cal
      rw [if_pos hc] at hl
      have hl := Option.some.inj hl
      subst hl
      exact Wp.weak (leL.k (leL.k (leL.k (leL.k (leL.k (leL.k (leL.k (leL.n leL.z)))))))) (ct)
    · clear hP hX hk P' X cal
      rw [if_neg hc] at hl
      refine Wp.stepsG 3 (fun cal X P' hk hX hP => ?_)
      show kcall cal ix_X11_in [.int f2, .int v7] (st S hs) [] 0 0 (0, 0) (fun v σ' c' m' => X (24, [some (.ref 7), some (.int f1), some (.int f2), some (.int f3), some (.int f4), some (.int f5), some (.int v6), some (.int v7)], v.toList ++ [], σ', c', m'))
      refine kcall0 rfl (hk _ _ _ _ _ _ (e_X11_in (d + 4) S hs f2 v7 _ ?_))
      show X (24, [some (.ref 7), some (.int f1), some (.int f2), some (.int f3), some (.int f4), some (.int f5), some (.int v6), some (.int v7)], [.int (r_X11_in f2 v7)], st S hs, 0, 0)
      refine hX _ ?_
      clear hP hX hk P' X cal
      refine Wp.stepsG 1 (fun cal X P' hk hX hP => ?_)
      show ((r_X11_in f2 v7) = 0 → X (44, [some (.ref 7), some (.int f1), some (.int f2), some (.int f3), some (.int f4), some (.int f5), some (.int v6), some (.int v7)], [], st S hs, 0, 0)) ∧ (¬ (r_X11_in f2 v7) = 0 → X (27, [some (.ref 7), some (.int f1), some (.int f2), some (.int f3), some (.int f4), some (.int f5), some (.int v6), some (.int v7)], [], st S hs, 0, 0))
      refine ⟨fun hc => hX _ ?_, fun hc => hX _ ?_⟩
      · clear hP hX hk P' X cal
        rw [if_pos hc] at hl
        refine Wp.stepsG 2 (fun cal X P' hk hX hP => ?_)
        show X (6, [some (.ref 7), some (.int f1), some (.int f2), some (.int f3), some (.int f4), some (.int f5), some (.int v6), some (.int (v7 + 1))], [], st S hs, 0, 0)
        refine hX _ ?_
        exact (ih v6 (v7 + 1) S q hl ct)
      · clear hP hX hk P' X cal
        rw [if_neg hc] at hl
        refine Wp.stepsG 8 (fun cal X P' hk hX hP => ?_)
        show kcall cal ix_X11_laughThen [.ref 7, .int v7, .int f1, .int f3, .int f4, .int f5] (st S hs) [.int v6] 0 0 (0, 0) (fun v σ' c' m' => X (41, [some (.ref 7), some (.int f1), some (.int f2), some (.int f3), some (.int f4), some (.int f5), some (.int v6), some (.int v7)], v.toList ++ [.int v6], σ', c', m'))
        obtain ⟨q1, hq1, hl⟩ := bd_some hl
        refine kcall0 rfl (hk _ _ _ _ _ _ (e_X11_laughThen (d + 0) S hs v7 f1 f3 f4 f5 q1 hq1 _ ?_))
        show X (41, [some (.ref 7), some (.int f1), some (.int f2), some (.int f3), some (.int f4), some (.int f5), some (.int v6), some (.int v7)], [.int q1.1, .int v6], st q1.2 hs, 0, 0)
        refine hX _ ?_
        clear hP hX hk P' X cal
        refine Wp.stepsG 4 (fun cal X P' hk hX hP => ?_)
        show X (6, [some (.ref 7), some (.int f1), some (.int f2), some (.int f3), some (.int f4), some (.int f5), some (.int (v6 + q1.1)), some (.int (v7 + 1))], [], st q1.2 hs, 0, 0)
        refine hX _ ?_
        exact (ih (v6 + q1.1) (v7 + 1) q1.2 q hl ct)
def r_X11_laughterThen (S : St) (hs : List Hr) (a1 : Int32) (a2 : Int32) (a3 : Int32) (a4 : Int32) (a5 : Int32) : Option (Int32 × St) :=
  (lp_X11_laughterThen_6 hs a1 a2 a3 a4 a5 4000 0 0 S).bind fun q2 =>
    some (q2.1, q2.2)
set_option maxRecDepth 20000 in
set_option maxHeartbeats 4000000 in
theorem e_X11_laughterThen (d : Nat) (S : St) (hs : List Hr) (a1 : Int32) (a2 : Int32) (a3 : Int32) (a4 : Int32) (a5 : Int32) (v : Int32 × St) (hr : r_X11_laughterThen S hs a1 a2 a3 a4 a5 = some v) (P : Option Value → Hp → Prop) (h : P (some (.int v.1)) (st v.2 hs)) : Ev (d + 6) ix_X11_laughterThen 0 0 [.ref 7, .int a1, .int a2, .int a3, .int a4, .int a5] (st S hs) P := by
  refine Ev.intro (M := mi_X11_laughterThen) rfl (Nat.le_of_ble_eq_true rfl) ?_
  unfold r_X11_laughterThen at hr
  refine Wp.stepsG 4 (fun cal X P' hk hX hP => ?_)
  show X (6, [some (.ref 7), some (.int a1), some (.int a2), some (.int a3), some (.int a4), some (.int a5), some (.int 0), some (.int 0)], [], st S hs, 0, 0)
  refine hX _ ?_
  clear hP hX hk P' X cal
  obtain ⟨q2, hq2, hr⟩ := bd_some hr
  refine (e_lp_X11_laughterThen_6 d hs P a1 a2 a3 a4 a5 _ 0 0 S q2 hq2 ?_)
  have hr := Option.some.inj hr
  subst hr
  refine Wp.stepsG 2 (fun cal X P' hk hX hP => ?_)
  exact hP _ _ h
def r_X11_laughter (S : St) (hs : List Hr) (a1 : Int32) (a2 : Int32) : Option (Int32 × St) :=
  (r_X11_laughterThen S hs a1 a2 (S.1 8 0) 0 0).bind fun q1 =>
  some (q1.1, q1.2)
set_option maxRecDepth 20000 in
set_option maxHeartbeats 4000000 in
theorem e_X11_laughter (d : Nat) (S : St) (hs : List Hr) (a1 : Int32) (a2 : Int32) (v : Int32 × St) (hr : r_X11_laughter S hs a1 a2 = some v) (P : Option Value → Hp → Prop) (h : P (some (.int v.1)) (st v.2 hs)) : Ev (d + 7) ix_X11_laughter 0 0 [.ref 7, .int a1, .int a2] (st S hs) P := by
  refine Ev.intro (M := mi_X11_laughter) rfl (Nat.le_of_ble_eq_true rfl) ?_
  unfold r_X11_laughter at hr
  refine Wp.stepsG 9 (fun cal X P' hk hX hP => ?_)
  show kcall cal ix_X11_laughterThen [.ref 7, .int a1, .int a2, .int (S.1 8 0), .int 0, .int 0] (st S hs) [] 0 0 (0, 0) (fun v σ' c' m' => X (15, [some (.ref 7), some (.int a1), some (.int a2)], v.toList ++ [], σ', c', m'))
  obtain ⟨q1, hq1, hr⟩ := bd_some hr
  refine kcall0 rfl (hk _ _ _ _ _ _ (e_X11_laughterThen (d + 0) S hs a1 a2 (S.1 8 0) 0 0 q1 hq1 _ ?_))
  show X (15, [some (.ref 7), some (.int a1), some (.int a2)], [.int q1.1], st q1.2 hs, 0, 0)
  refine hX _ ?_
  clear hP hX hk P' X cal
  have hr := Option.some.inj hr
  subst hr
  refine Wp.stepsG 1 (fun cal X P' hk hX hP => ?_)
  exact hP _ _ h
def lp_X11_tell_34 (hs : List Hr) (f1 : Int32) (f2 : Int32) (f3 : Int32) : Nat → Int32 → St → Option (St)
  | 0, _, _ => none
  | n + 1, v4, S =>
    if (S.1 8 3) ≤ v4 then
      some S
    else
      if (r_X11_in f2 v4) = 0 then
        lp_X11_tell_34 hs f1 f2 f3 n (v4 + 1) S
      else
        (r_X11_timesOf S v4 f1).bind fun q2 =>
        (r_X11_setHad S v4 f1 (if (q2 + 1) < (999 : Int32) then (q2 + 1) else (999 : Int32))).bind fun q3 =>
        lp_X11_tell_34 hs f1 f2 f3 n (v4 + 1) q3.2
set_option maxRecDepth 20000 in
set_option maxHeartbeats 4000000 in
theorem e_lp_X11_tell_34 (d : Nat) (hs : List Hr) (P : Option Value → Hp → Prop) (f1 : Int32) (f2 : Int32) (f3 : Int32) : ∀ (n : Nat) (v4 : Int32) (S : St) (q : St), lp_X11_tell_34 hs f1 f2 f3 n v4 S = some q → (WM mi_X11_tell (d + 7) P 83 [some (.ref 7), some (.int f1), some (.int f2), some (.int f3), none] [] (st q hs)) → WM mi_X11_tell (d + 7) P 34 [some (.ref 7), some (.int f1), some (.int f2), some (.int f3), some (.int v4)] [] (st S hs) := by
  intro n
  induction n with
  | zero =>
    intro v4 S q hl
    cases hl
  | succ n ih =>
    intro v4 S q hl ct
    rw [lp_X11_tell_34] at hl
    refine Wp.stepsG 5 (fun cal X P' hk hX hP => ?_)
    show ((S.1 8 3) ≤ v4 → X (83, [some (.ref 7), some (.int f1), some (.int f2), some (.int f3), some (.int v4)], [], st S hs, 0, 0)) ∧ (¬ (S.1 8 3) ≤ v4 → X (46, [some (.ref 7), some (.int f1), some (.int f2), some (.int f3), some (.int v4)], [], st S hs, 0, 0))
    refine ⟨fun hc => hX _ ?_, fun hc => hX _ ?_⟩
    · clear hP hX hk P' X cal
      rw [if_pos hc] at hl
      have hl := Option.some.inj hl
      subst hl
      exact Wp.weak (leL.k (leL.k (leL.k (leL.k (leL.n leL.z))))) (ct)
    · clear hP hX hk P' X cal
      rw [if_neg hc] at hl
      refine Wp.stepsG 3 (fun cal X P' hk hX hP => ?_)
      show kcall cal ix_X11_in [.int f2, .int v4] (st S hs) [] 0 0 (0, 0) (fun v σ' c' m' => X (52, [some (.ref 7), some (.int f1), some (.int f2), some (.int f3), some (.int v4)], v.toList ++ [], σ', c', m'))
      refine kcall0 rfl (hk _ _ _ _ _ _ (e_X11_in (d + 6) S hs f2 v4 _ ?_))
      show X (52, [some (.ref 7), some (.int f1), some (.int f2), some (.int f3), some (.int v4)], [.int (r_X11_in f2 v4)], st S hs, 0, 0)
      refine hX _ ?_
      clear hP hX hk P' X cal
      refine Wp.stepsG 1 (fun cal X P' hk hX hP => ?_)
      show ((r_X11_in f2 v4) = 0 → X (77, [some (.ref 7), some (.int f1), some (.int f2), some (.int f3), some (.int v4)], [], st S hs, 0, 0)) ∧ (¬ (r_X11_in f2 v4) = 0 → X (55, [some (.ref 7), some (.int f1), some (.int f2), some (.int f3), some (.int v4)], [], st S hs, 0, 0))
      refine ⟨fun hc => hX _ ?_, fun hc => hX _ ?_⟩
      · clear hP hX hk P' X cal
        rw [if_pos hc] at hl
        refine Wp.stepsG 2 (fun cal X P' hk hX hP => ?_)
        show X (34, [some (.ref 7), some (.int f1), some (.int f2), some (.int f3), some (.int (v4 + 1))], [], st S hs, 0, 0)
        refine hX _ ?_
        exact (ih (v4 + 1) S q hl ct)
      · clear hP hX hk P' X cal
        rw [if_neg hc] at hl
        refine Wp.stepsG 8 (fun cal X P' hk hX hP => ?_)
        show kcall cal ix_X11_timesOf [.ref 7, .int v4, .int f1] (st S hs) [.int 999, .int f1, .int v4, .ref 7] 0 0 (0, 0) (fun v σ' c' m' => X (69, [some (.ref 7), some (.int f1), some (.int f2), some (.int f3), some (.int v4)], v.toList ++ [.int 999, .int f1, .int v4, .ref 7], σ', c', m'))
        obtain ⟨q2, hq2, hl⟩ := bd_some hl
        refine kcall0 rfl (hk _ _ _ _ _ _ (e_X11_timesOf (d + 6) S hs v4 f1 q2 hq2 _ ?_))
        show X (69, [some (.ref 7), some (.int f1), some (.int f2), some (.int f3), some (.int v4)], [.int q2, .int 999, .int f1, .int v4, .ref 7], st S hs, 0, 0)
        refine hX _ ?_
        clear hP hX hk P' X cal
        refine Wp.stepsG 4 (fun cal X P' hk hX hP => ?_)
        show kcall cal ix_X11_setHad [.ref 7, .int v4, .int f1, .int (if (q2 + 1) < (999 : Int32) then (q2 + 1) else (999 : Int32))] (st S hs) [] 0 0 (0, 0) (fun v σ' c' m' => X (77, [some (.ref 7), some (.int f1), some (.int f2), some (.int f3), some (.int v4)], v.toList ++ [], σ', c', m'))
        obtain ⟨q3, hq3, hl⟩ := bd_some hl
        refine kcall0 rfl (hk _ _ _ _ _ _ (e_X11_setHad (d + 6) S hs v4 f1 (if (q2 + 1) < (999 : Int32) then (q2 + 1) else (999 : Int32)) q3 hq3 _ ?_))
        show X (77, [some (.ref 7), some (.int f1), some (.int f2), some (.int f3), some (.int v4)], [], st q3.2 hs, 0, 0)
        refine hX _ ?_
        clear hP hX hk P' X cal
        refine Wp.stepsG 2 (fun cal X P' hk hX hP => ?_)
        show X (34, [some (.ref 7), some (.int f1), some (.int f2), some (.int f3), some (.int (v4 + 1))], [], st q3.2 hs, 0, 0)
        refine hX _ ?_
        exact (ih (v4 + 1) q3.2 q hl ct)
def r_X11_tell (S : St) (hs : List Hr) (a1 : Int32) (a2 : Int32) : Option (Int32 × St) :=
  if (r_X11_isStory S a1) = 0 then
    some ((-10001), S)
  else
    if (r_X11_isTable S a2) = 0 then
      some ((-10002), S)
    else
      (r_X11_laughter S hs a1 a2).bind fun q1 =>
      (lp_X11_tell_34 hs a1 a2 q1.1 4000 0 q1.2).bind fun q4 =>
        some (q1.1, q4)
set_option maxRecDepth 20000 in
set_option maxHeartbeats 4000000 in
theorem e_X11_tell (d : Nat) (S : St) (hs : List Hr) (a1 : Int32) (a2 : Int32) (v : Int32 × St) (hr : r_X11_tell S hs a1 a2 = some v) (P : Option Value → Hp → Prop) (h : P (some (.int v.1)) (st v.2 hs)) : Ev (d + 8) ix_X11_tell 0 0 [.ref 7, .int a1, .int a2] (st S hs) P := by
  refine Ev.intro (M := mi_X11_tell) rfl (Nat.le_of_ble_eq_true rfl) ?_
  unfold r_X11_tell at hr
  refine Wp.stepsG 3 (fun cal X P' hk hX hP => ?_)
  show kcall cal ix_X11_isStory [.ref 7, .int a1] (st S hs) [] 0 0 (0, 0) (fun v σ' c' m' => X (5, [some (.ref 7), some (.int a1), some (.int a2), none, none], v.toList ++ [], σ', c', m'))
  refine kcall0 rfl (hk _ _ _ _ _ _ (e_X11_isStory (d + 5) S hs a1 _ ?_))
  show X (5, [some (.ref 7), some (.int a1), some (.int a2), none, none], [.int (r_X11_isStory S a1)], st S hs, 0, 0)
  refine hX _ ?_
  clear hP hX hk P' X cal
  refine Wp.stepsG 1 (fun cal X P' hk hX hP => ?_)
  show (¬ (r_X11_isStory S a1) = 0 → X (12, [some (.ref 7), some (.int a1), some (.int a2), none, none], [], st S hs, 0, 0)) ∧ ((r_X11_isStory S a1) = 0 → X (8, [some (.ref 7), some (.int a1), some (.int a2), none, none], [], st S hs, 0, 0))
  refine ⟨fun hc => hX _ ?_, fun hc => hX _ ?_⟩
  · clear hP hX hk P' X cal
    rw [if_neg hc] at hr
    refine Wp.stepsG 3 (fun cal X P' hk hX hP => ?_)
    show kcall cal ix_X11_isTable [.ref 7, .int a2] (st S hs) [] 0 0 (0, 0) (fun v σ' c' m' => X (17, [some (.ref 7), some (.int a1), some (.int a2), none, none], v.toList ++ [], σ', c', m'))
    refine kcall0 rfl (hk _ _ _ _ _ _ (e_X11_isTable (d + 5) S hs a2 _ ?_))
    show X (17, [some (.ref 7), some (.int a1), some (.int a2), none, none], [.int (r_X11_isTable S a2)], st S hs, 0, 0)
    refine hX _ ?_
    clear hP hX hk P' X cal
    refine Wp.stepsG 1 (fun cal X P' hk hX hP => ?_)
    show (¬ (r_X11_isTable S a2) = 0 → X (24, [some (.ref 7), some (.int a1), some (.int a2), none, none], [], st S hs, 0, 0)) ∧ ((r_X11_isTable S a2) = 0 → X (20, [some (.ref 7), some (.int a1), some (.int a2), none, none], [], st S hs, 0, 0))
    refine ⟨fun hc => hX _ ?_, fun hc => hX _ ?_⟩
    · clear hP hX hk P' X cal
      rw [if_neg hc] at hr
      refine Wp.stepsG 4 (fun cal X P' hk hX hP => ?_)
      show kcall cal ix_X11_laughter [.ref 7, .int a1, .int a2] (st S hs) [] 0 0 (0, 0) (fun v σ' c' m' => X (30, [some (.ref 7), some (.int a1), some (.int a2), none, none], v.toList ++ [], σ', c', m'))
      obtain ⟨q1, hq1, hr⟩ := bd_some hr
      refine kcall0 rfl (hk _ _ _ _ _ _ (e_X11_laughter (d + 0) S hs a1 a2 q1 hq1 _ ?_))
      show X (30, [some (.ref 7), some (.int a1), some (.int a2), none, none], [.int q1.1], st q1.2 hs, 0, 0)
      refine hX _ ?_
      clear hP hX hk P' X cal
      refine Wp.stepsG 3 (fun cal X P' hk hX hP => ?_)
      show X (34, [some (.ref 7), some (.int a1), some (.int a2), some (.int q1.1), some (.int 0)], [], st q1.2 hs, 0, 0)
      refine hX _ ?_
      clear hP hX hk P' X cal
      obtain ⟨q4, hq4, hr⟩ := bd_some hr
      refine (e_lp_X11_tell_34 d hs P a1 a2 q1.1 _ 0 q1.2 q4 hq4 ?_)
      have hr := Option.some.inj hr
      subst hr
      refine Wp.stepsG 2 (fun cal X P' hk hX hP => ?_)
      exact hP _ _ h
    · clear hP hX hk P' X cal
      rw [if_pos hc] at hr
      have hr := Option.some.inj hr
      subst hr
      refine Wp.stepsG 2 (fun cal X P' hk hX hP => ?_)
      exact hP _ _ h
  · clear hP hX hk P' X cal
    rw [if_pos hc] at hr
    have hr := Option.some.inj hr
    subst hr
    refine Wp.stepsG 2 (fun cal X P' hk hX hP => ?_)
    exact hP _ _ h
def r_X11_laughNow (S : St) (hs : List Hr) (a1 : Int32) (a2 : Int32) : Option (Int32 × St) :=
  (r_X11_laughThen S hs a1 a2 (S.1 8 0) 0 0).bind fun q1 =>
  some (q1.1, q1.2)
set_option maxRecDepth 20000 in
set_option maxHeartbeats 4000000 in
theorem e_X11_laughNow (d : Nat) (S : St) (hs : List Hr) (a1 : Int32) (a2 : Int32) (v : Int32 × St) (hr : r_X11_laughNow S hs a1 a2 = some v) (P : Option Value → Hp → Prop) (h : P (some (.int v.1)) (st v.2 hs)) : Ev (d + 6) ix_X11_laughNow 0 0 [.ref 7, .int a1, .int a2] (st S hs) P := by
  refine Ev.intro (M := mi_X11_laughNow) rfl (Nat.le_of_ble_eq_true rfl) ?_
  unfold r_X11_laughNow at hr
  refine Wp.stepsG 9 (fun cal X P' hk hX hP => ?_)
  show kcall cal ix_X11_laughThen [.ref 7, .int a1, .int a2, .int (S.1 8 0), .int 0, .int 0] (st S hs) [] 0 0 (0, 0) (fun v σ' c' m' => X (15, [some (.ref 7), some (.int a1), some (.int a2)], v.toList ++ [], σ', c', m'))
  obtain ⟨q1, hq1, hr⟩ := bd_some hr
  refine kcall0 rfl (hk _ _ _ _ _ _ (e_X11_laughThen (d + 0) S hs a1 a2 (S.1 8 0) 0 0 q1 hq1 _ ?_))
  show X (15, [some (.ref 7), some (.int a1), some (.int a2)], [.int q1.1], st q1.2 hs, 0, 0)
  refine hX _ ?_
  clear hP hX hk P' X cal
  have hr := Option.some.inj hr
  subst hr
  refine Wp.stepsG 1 (fun cal X P' hk hX hP => ?_)
  exact hP _ _ h
def r_X11_laugh (S : St) (hs : List Hr) (a1 : Int32) (a2 : Int32) : Option (Int32 × St) :=
  (r_X11_hearerAt S a1).bind fun q1 =>
  oH hs (q1) (
    some ((-10001), S)) (fun zb2 =>
    if (r_X11_isStory S a2) = 0 then
      some ((-10001), S)
    else
      (r_X11_laughNow S hs a1 a2).bind fun q3 =>
      some (q3.1, q3.2))
set_option maxRecDepth 20000 in
set_option maxHeartbeats 4000000 in
theorem e_X11_laugh (d : Nat) (S : St) (hs : List Hr) (a1 : Int32) (a2 : Int32) (v : Int32 × St) (hr : r_X11_laugh S hs a1 a2 = some v) (P : Option Value → Hp → Prop) (h : P (some (.int v.1)) (st v.2 hs)) : Ev (d + 7) ix_X11_laugh 0 0 [.ref 7, .int a1, .int a2] (st S hs) P := by
  refine Ev.intro (M := mi_X11_laugh) rfl (Nat.le_of_ble_eq_true rfl) ?_
  unfold r_X11_laugh at hr
  refine Wp.stepsG 3 (fun cal X P' hk hX hP => ?_)
  show kcall cal ix_X11_hearerAt [.ref 7, .int a1] (st S hs) [] 0 0 (0, 0) (fun v σ' c' m' => X (5, [some (.ref 7), some (.int a1), some (.int a2)], v.toList ++ [], σ', c', m'))
  obtain ⟨q1, hq1, hr⟩ := bd_some hr
  refine kcall0 rfl (hk _ _ _ _ _ _ (e_X11_hearerAt (d + 4) S hs a1 q1 hq1 _ ?_))
  show X (5, [some (.ref 7), some (.int a1), some (.int a2)], [va_rf q1], st S hs, 0, 0)
  refine hX _ ?_
  clear hP hX hk P' X cal
  rcases oH_some hr with ⟨hz, hr⟩ | ⟨b2, zb2, hz, hb2, fb2, hr⟩
  · rw [hz]
    have hr := Option.some.inj hr
    subst hr
    refine Wp.stepsG 3 (fun cal X P' hk hX hP => ?_)
    exact hP _ _ h
  · rw [hz]
    refine Wp.stepsG 4 (fun cal X P' hk hX hP => ?_)
    show kcall cal ix_X11_isStory [.ref 7, .int a2] (st S hs) [] 0 0 (0, 0) (fun v σ' c' m' => X (13, [some (.ref 7), some (.int a1), some (.int a2)], v.toList ++ [], σ', c', m'))
    refine kcall0 rfl (hk _ _ _ _ _ _ (e_X11_isStory (d + 4) S hs a2 _ ?_))
    show X (13, [some (.ref 7), some (.int a1), some (.int a2)], [.int (r_X11_isStory S a2)], st S hs, 0, 0)
    refine hX _ ?_
    clear hP hX hk P' X cal
    refine Wp.stepsG 1 (fun cal X P' hk hX hP => ?_)
    show (¬ (r_X11_isStory S a2) = 0 → X (20, [some (.ref 7), some (.int a1), some (.int a2)], [], st S hs, 0, 0)) ∧ ((r_X11_isStory S a2) = 0 → X (16, [some (.ref 7), some (.int a1), some (.int a2)], [], st S hs, 0, 0))
    refine ⟨fun hc => hX _ ?_, fun hc => hX _ ?_⟩
    · clear hP hX hk P' X cal
      rw [if_neg hc] at hr
      refine Wp.stepsG 4 (fun cal X P' hk hX hP => ?_)
      show kcall cal ix_X11_laughNow [.ref 7, .int a1, .int a2] (st S hs) [] 0 0 (0, 0) (fun v σ' c' m' => X (26, [some (.ref 7), some (.int a1), some (.int a2)], v.toList ++ [], σ', c', m'))
      obtain ⟨q3, hq3, hr⟩ := bd_some hr
      refine kcall0 rfl (hk _ _ _ _ _ _ (e_X11_laughNow (d + 0) S hs a1 a2 q3 hq3 _ ?_))
      show X (26, [some (.ref 7), some (.int a1), some (.int a2)], [.int q3.1], st q3.2 hs, 0, 0)
      refine hX _ ?_
      clear hP hX hk P' X cal
      have hr := Option.some.inj hr
      subst hr
      refine Wp.stepsG 1 (fun cal X P' hk hX hP => ?_)
      exact hP _ _ h
    · clear hP hX hk P' X cal
      rw [if_pos hc] at hr
      have hr := Option.some.inj hr
      subst hr
      refine Wp.stepsG 2 (fun cal X P' hk hX hP => ?_)
      exact hP _ _ h
def r_J6_bitCount_0f7a4 (a1 : Int32) : Int32 :=
  (((((((a1 - (((a1.toUInt32 >>> ((1 : Int32).toUInt32 &&& Int32.toUInt32 31)).toInt32) &&& 1431655765)) &&& 858993459) + ((((a1 - (((a1.toUInt32 >>> ((1 : Int32).toUInt32 &&& Int32.toUInt32 31)).toInt32) &&& 1431655765)).toUInt32 >>> ((2 : Int32).toUInt32 &&& Int32.toUInt32 31)).toInt32) &&& 858993459)) + (((((a1 - (((a1.toUInt32 >>> ((1 : Int32).toUInt32 &&& Int32.toUInt32 31)).toInt32) &&& 1431655765)) &&& 858993459) + ((((a1 - (((a1.toUInt32 >>> ((1 : Int32).toUInt32 &&& Int32.toUInt32 31)).toInt32) &&& 1431655765)).toUInt32 >>> ((2 : Int32).toUInt32 &&& Int32.toUInt32 31)).toInt32) &&& 858993459)).toUInt32 >>> ((4 : Int32).toUInt32 &&& Int32.toUInt32 31)).toInt32)) &&& 252645135) + (((((((a1 - (((a1.toUInt32 >>> ((1 : Int32).toUInt32 &&& Int32.toUInt32 31)).toInt32) &&& 1431655765)) &&& 858993459) + ((((a1 - (((a1.toUInt32 >>> ((1 : Int32).toUInt32 &&& Int32.toUInt32 31)).toInt32) &&& 1431655765)).toUInt32 >>> ((2 : Int32).toUInt32 &&& Int32.toUInt32 31)).toInt32) &&& 858993459)) + (((((a1 - (((a1.toUInt32 >>> ((1 : Int32).toUInt32 &&& Int32.toUInt32 31)).toInt32) &&& 1431655765)) &&& 858993459) + ((((a1 - (((a1.toUInt32 >>> ((1 : Int32).toUInt32 &&& Int32.toUInt32 31)).toInt32) &&& 1431655765)).toUInt32 >>> ((2 : Int32).toUInt32 &&& Int32.toUInt32 31)).toInt32) &&& 858993459)).toUInt32 >>> ((4 : Int32).toUInt32 &&& Int32.toUInt32 31)).toInt32)) &&& 252645135).toUInt32 >>> ((8 : Int32).toUInt32 &&& Int32.toUInt32 31)).toInt32)) + ((((((((a1 - (((a1.toUInt32 >>> ((1 : Int32).toUInt32 &&& Int32.toUInt32 31)).toInt32) &&& 1431655765)) &&& 858993459) + ((((a1 - (((a1.toUInt32 >>> ((1 : Int32).toUInt32 &&& Int32.toUInt32 31)).toInt32) &&& 1431655765)).toUInt32 >>> ((2 : Int32).toUInt32 &&& Int32.toUInt32 31)).toInt32) &&& 858993459)) + (((((a1 - (((a1.toUInt32 >>> ((1 : Int32).toUInt32 &&& Int32.toUInt32 31)).toInt32) &&& 1431655765)) &&& 858993459) + ((((a1 - (((a1.toUInt32 >>> ((1 : Int32).toUInt32 &&& Int32.toUInt32 31)).toInt32) &&& 1431655765)).toUInt32 >>> ((2 : Int32).toUInt32 &&& Int32.toUInt32 31)).toInt32) &&& 858993459)).toUInt32 >>> ((4 : Int32).toUInt32 &&& Int32.toUInt32 31)).toInt32)) &&& 252645135) + (((((((a1 - (((a1.toUInt32 >>> ((1 : Int32).toUInt32 &&& Int32.toUInt32 31)).toInt32) &&& 1431655765)) &&& 858993459) + ((((a1 - (((a1.toUInt32 >>> ((1 : Int32).toUInt32 &&& Int32.toUInt32 31)).toInt32) &&& 1431655765)).toUInt32 >>> ((2 : Int32).toUInt32 &&& Int32.toUInt32 31)).toInt32) &&& 858993459)) + (((((a1 - (((a1.toUInt32 >>> ((1 : Int32).toUInt32 &&& Int32.toUInt32 31)).toInt32) &&& 1431655765)) &&& 858993459) + ((((a1 - (((a1.toUInt32 >>> ((1 : Int32).toUInt32 &&& Int32.toUInt32 31)).toInt32) &&& 1431655765)).toUInt32 >>> ((2 : Int32).toUInt32 &&& Int32.toUInt32 31)).toInt32) &&& 858993459)).toUInt32 >>> ((4 : Int32).toUInt32 &&& Int32.toUInt32 31)).toInt32)) &&& 252645135).toUInt32 >>> ((8 : Int32).toUInt32 &&& Int32.toUInt32 31)).toInt32)).toUInt32 >>> ((16 : Int32).toUInt32 &&& Int32.toUInt32 31)).toInt32)) &&& 63
set_option maxRecDepth 20000 in
set_option maxHeartbeats 4000000 in
theorem e_J6_bitCount_0f7a4 (d : Nat) (S : St) (hs : List Hr) (a1 : Int32) (P : Option Value → Hp → Prop) (h : P (some (.int (r_J6_bitCount_0f7a4 a1))) (st S hs)) : Ev (d + 1) ix_J6_bitCount_0f7a4 0 0 [.int a1] (st S hs) P := by
  refine Ev.intro (M := mi_J6_bitCount_0f7a4) rfl (Nat.le_of_ble_eq_true rfl) ?_
  unfold r_J6_bitCount_0f7a4 at h
  refine Wp.stepsG 42 (fun cal X P' hk hX hP => ?_)
  exact hP _ _ h
def r_X11_would (S : St) (hs : List Hr) (a1 : Int32) (a2 : Int32) (a3 : Int32) : Option (Int32 × St) :=
  if (r_X11_isStory S a1) = 0 then
    some ((-10001), S)
  else
    if (r_X11_within a3 0 1) = 0 then
      some ((-10001), S)
    else
      if (r_X11_isTable S a2) = 0 then
        some ((-10002), S)
      else
        if a3 = 0 then
          (r_X11_laughter S hs a1 a2).bind fun q2 =>
          some (q2.1, q2.2)
        else
          (r_X11_knowersThen S hs a1 a2 (S.1 8 0)).bind fun q1 =>
          some (r_J6_bitCount_0f7a4 q1, S)
set_option maxRecDepth 20000 in
set_option maxHeartbeats 4000000 in
theorem e_X11_would (d : Nat) (S : St) (hs : List Hr) (a1 : Int32) (a2 : Int32) (a3 : Int32) (v : Int32 × St) (hr : r_X11_would S hs a1 a2 a3 = some v) (P : Option Value → Hp → Prop) (h : P (some (.int v.1)) (st v.2 hs)) : Ev (d + 8) ix_X11_would 0 0 [.ref 7, .int a1, .int a2, .int a3] (st S hs) P := by
  refine Ev.intro (M := mi_X11_would) rfl (Nat.le_of_ble_eq_true rfl) ?_
  unfold r_X11_would at hr
  refine Wp.stepsG 3 (fun cal X P' hk hX hP => ?_)
  show kcall cal ix_X11_isStory [.ref 7, .int a1] (st S hs) [] 0 0 (0, 0) (fun v σ' c' m' => X (5, [some (.ref 7), some (.int a1), some (.int a2), some (.int a3)], v.toList ++ [], σ', c', m'))
  refine kcall0 rfl (hk _ _ _ _ _ _ (e_X11_isStory (d + 5) S hs a1 _ ?_))
  show X (5, [some (.ref 7), some (.int a1), some (.int a2), some (.int a3)], [.int (r_X11_isStory S a1)], st S hs, 0, 0)
  refine hX _ ?_
  clear hP hX hk P' X cal
  refine Wp.stepsG 1 (fun cal X P' hk hX hP => ?_)
  show ((r_X11_isStory S a1) = 0 → X (17, [some (.ref 7), some (.int a1), some (.int a2), some (.int a3)], [], st S hs, 0, 0)) ∧ (¬ (r_X11_isStory S a1) = 0 → X (8, [some (.ref 7), some (.int a1), some (.int a2), some (.int a3)], [], st S hs, 0, 0))
  refine ⟨fun hc => hX _ ?_, fun hc => hX _ ?_⟩
  · clear hP hX hk P' X cal
    rw [if_pos hc] at hr
    have hr := Option.some.inj hr
    subst hr
    refine Wp.stepsG 2 (fun cal X P' hk hX hP => ?_)
    exact hP _ _ h
  · clear hP hX hk P' X cal
    rw [if_neg hc] at hr
    refine Wp.stepsG 4 (fun cal X P' hk hX hP => ?_)
    show kcall cal ix_X11_within [.int a3, .int 0, .int 1] (st S hs) [] 0 0 (0, 0) (fun v σ' c' m' => X (14, [some (.ref 7), some (.int a1), some (.int a2), some (.int a3)], v.toList ++ [], σ', c', m'))
    refine kcall0 rfl (hk _ _ _ _ _ _ (e_X11_within (d + 6) S hs a3 0 1 _ ?_))
    show X (14, [some (.ref 7), some (.int a1), some (.int a2), some (.int a3)], [.int (r_X11_within a3 0 1)], st S hs, 0, 0)
    refine hX _ ?_
    clear hP hX hk P' X cal
    refine Wp.stepsG 1 (fun cal X P' hk hX hP => ?_)
    show (¬ (r_X11_within a3 0 1) = 0 → X (21, [some (.ref 7), some (.int a1), some (.int a2), some (.int a3)], [], st S hs, 0, 0)) ∧ ((r_X11_within a3 0 1) = 0 → X (17, [some (.ref 7), some (.int a1), some (.int a2), some (.int a3)], [], st S hs, 0, 0))
    refine ⟨fun hc => hX _ ?_, fun hc => hX _ ?_⟩
    · clear hP hX hk P' X cal
      rw [if_neg hc] at hr
      refine Wp.stepsG 3 (fun cal X P' hk hX hP => ?_)
      show kcall cal ix_X11_isTable [.ref 7, .int a2] (st S hs) [] 0 0 (0, 0) (fun v σ' c' m' => X (26, [some (.ref 7), some (.int a1), some (.int a2), some (.int a3)], v.toList ++ [], σ', c', m'))
      refine kcall0 rfl (hk _ _ _ _ _ _ (e_X11_isTable (d + 5) S hs a2 _ ?_))
      show X (26, [some (.ref 7), some (.int a1), some (.int a2), some (.int a3)], [.int (r_X11_isTable S a2)], st S hs, 0, 0)
      refine hX _ ?_
      clear hP hX hk P' X cal
      refine Wp.stepsG 1 (fun cal X P' hk hX hP => ?_)
      show (¬ (r_X11_isTable S a2) = 0 → X (33, [some (.ref 7), some (.int a1), some (.int a2), some (.int a3)], [], st S hs, 0, 0)) ∧ ((r_X11_isTable S a2) = 0 → X (29, [some (.ref 7), some (.int a1), some (.int a2), some (.int a3)], [], st S hs, 0, 0))
      refine ⟨fun hc => hX _ ?_, fun hc => hX _ ?_⟩
      · clear hP hX hk P' X cal
        rw [if_neg hc] at hr
        refine Wp.stepsG 2 (fun cal X P' hk hX hP => ?_)
        show (¬ a3 = 0 → X (46, [some (.ref 7), some (.int a1), some (.int a2), some (.int a3)], [], st S hs, 0, 0)) ∧ (a3 = 0 → X (37, [some (.ref 7), some (.int a1), some (.int a2), some (.int a3)], [], st S hs, 0, 0))
        refine ⟨fun hc => hX _ ?_, fun hc => hX _ ?_⟩
        · clear hP hX hk P' X cal
          rw [if_neg hc] at hr
          refine Wp.stepsG 7 (fun cal X P' hk hX hP => ?_)
          show kcall cal ix_X11_knowersThen [.ref 7, .int a1, .int a2, .int (S.1 8 0)] (st S hs) [] 0 0 (0, 0) (fun v σ' c' m' => X (59, [some (.ref 7), some (.int a1), some (.int a2), some (.int a3)], v.toList ++ [], σ', c', m'))
          obtain ⟨q1, hq1, hr⟩ := bd_some hr
          refine kcall0 rfl (hk _ _ _ _ _ _ (e_X11_knowersThen (d + 2) S hs a1 a2 (S.1 8 0) q1 hq1 _ ?_))
          show X (59, [some (.ref 7), some (.int a1), some (.int a2), some (.int a3)], [.int q1], st S hs, 0, 0)
          refine hX _ ?_
          clear hP hX hk P' X cal
          refine Wp.stepsG 1 (fun cal X P' hk hX hP => ?_)
          show kcall cal ix_J6_bitCount_0f7a4 [.int q1] (st S hs) [] 0 0 (0, 0) (fun v σ' c' m' => X (62, [some (.ref 7), some (.int a1), some (.int a2), some (.int a3)], v.toList ++ [], σ', c', m'))
          refine kcall0 rfl (hk _ _ _ _ _ _ (e_J6_bitCount_0f7a4 (d + 6) S hs q1 _ ?_))
          show X (62, [some (.ref 7), some (.int a1), some (.int a2), some (.int a3)], [.int (r_J6_bitCount_0f7a4 q1)], st S hs, 0, 0)
          refine hX _ ?_
          clear hP hX hk P' X cal
          have hr := Option.some.inj hr
          subst hr
          refine Wp.stepsG 1 (fun cal X P' hk hX hP => ?_)
          exact hP _ _ h
        · clear hP hX hk P' X cal
          rw [if_pos hc] at hr
          refine Wp.stepsG 4 (fun cal X P' hk hX hP => ?_)
          show kcall cal ix_X11_laughter [.ref 7, .int a1, .int a2] (st S hs) [] 0 0 (0, 0) (fun v σ' c' m' => X (43, [some (.ref 7), some (.int a1), some (.int a2), some (.int a3)], v.toList ++ [], σ', c', m'))
          obtain ⟨q2, hq2, hr⟩ := bd_some hr
          refine kcall0 rfl (hk _ _ _ _ _ _ (e_X11_laughter (d + 0) S hs a1 a2 q2 hq2 _ ?_))
          show X (43, [some (.ref 7), some (.int a1), some (.int a2), some (.int a3)], [.int q2.1], st q2.2 hs, 0, 0)
          refine hX _ ?_
          clear hP hX hk P' X cal
          have hr := Option.some.inj hr
          subst hr
          refine Wp.stepsG 2 (fun cal X P' hk hX hP => ?_)
          exact hP _ _ h
      · clear hP hX hk P' X cal
        rw [if_pos hc] at hr
        have hr := Option.some.inj hr
        subst hr
        refine Wp.stepsG 2 (fun cal X P' hk hX hP => ?_)
        exact hP _ _ h
    · clear hP hX hk P' X cal
      rw [if_pos hc] at hr
      have hr := Option.some.inj hr
      subst hr
      refine Wp.stepsG 2 (fun cal X P' hk hX hP => ?_)
      exact hP _ _ h
def lp_X11_weigh_34_3 (hs : List Hr) (f2 : Int32) (f3 : Int32) : Nat → Int32 → St → Option (St)
  | 0, _, _ => none
  | n + 1, v4, S =>
    if (S.1 8 2) ≤ v4 then
      some S
    else
      if 8 ≤ v4 then
        some S
      else
        (r_X11_laughterThen S hs v4 f2 f3 0 0).bind fun q1 =>
        gd (¬ (v4 < 0 ∨ 8 ≤ v4.toNatClampNeg)) (
          lp_X11_weigh_34_3 hs f2 f3 n (v4 + 1) (sA q1.2 34 (upd (q1.2.1 34) v4.toNatClampNeg q1.1)))
set_option maxRecDepth 20000 in
set_option maxHeartbeats 4000000 in
theorem e_lp_X11_weigh_34_3 (d : Nat) (hs : List Hr) (P : Option Value → Hp → Prop) (f2 : Int32) (f3 : Int32) : ∀ (n : Nat) (v4 : Int32) (S : St) (q : St), lp_X11_weigh_34_3 hs f2 f3 n v4 S = some q → (WM mi_X11_weigh (d + 6) P 42 [some (.ref 7), some (.ref 34), some (.int f2), some (.int f3), none] [] (st q hs)) → WM mi_X11_weigh (d + 6) P 3 [some (.ref 7), some (.ref 34), some (.int f2), some (.int f3), some (.int v4)] [] (st S hs) := by
  intro n
  induction n with
  | zero =>
    intro v4 S q hl
    cases hl
  | succ n ih =>
    intro v4 S q hl ct
    rw [lp_X11_weigh_34_3] at hl
    refine Wp.stepsG 5 (fun cal X P' hk hX hP => ?_)
    show ((S.1 8 2) ≤ v4 → X (42, [some (.ref 7), some (.ref 34), some (.int f2), some (.int f3), some (.int v4)], [], st S hs, 0, 0)) ∧ (¬ (S.1 8 2) ≤ v4 → X (15, [some (.ref 7), some (.ref 34), some (.int f2), some (.int f3), some (.int v4)], [], st S hs, 0, 0))
    refine ⟨fun hc => hX _ ?_, fun hc => hX _ ?_⟩
    · clear hP hX hk P' X cal
      rw [if_pos hc] at hl
      have hl := Option.some.inj hl
      subst hl
      exact Wp.weak (leL.k (leL.k (leL.k (leL.k (leL.n leL.z))))) (ct)
    · clear hP hX hk P' X cal
      rw [if_neg hc] at hl
      refine Wp.stepsG 4 (fun cal X P' hk hX hP => ?_)
      show (8 ≤ v4 → X (42, [some (.ref 7), some (.ref 34), some (.int f2), some (.int f3), some (.int v4)], [], st S hs, 0, 0)) ∧ (¬ 8 ≤ v4 → X (22, [some (.ref 7), some (.ref 34), some (.int f2), some (.int f3), some (.int v4)], [], st S hs, 0, 0))
      refine ⟨fun hc => hX _ ?_, fun hc => hX _ ?_⟩
      · clear hP hX hk P' X cal
        rw [if_pos hc] at hl
        have hl := Option.some.inj hl
        subst hl
        exact Wp.weak (leL.k (leL.k (leL.k (leL.k (leL.n leL.z))))) (ct)
      · clear hP hX hk P' X cal
        rw [if_neg hc] at hl
        refine Wp.stepsG 9 (fun cal X P' hk hX hP => ?_)
        show kcall cal ix_X11_laughterThen [.ref 7, .int v4, .int f2, .int f3, .int 0, .int 0] (st S hs) [.int v4, .ref 34] 0 0 (0, 0) (fun v σ' c' m' => X (35, [some (.ref 7), some (.ref 34), some (.int f2), some (.int f3), some (.int v4)], v.toList ++ [.int v4, .ref 34], σ', c', m'))
        obtain ⟨q1, hq1, hl⟩ := bd_some hl
        refine kcall0 rfl (hk _ _ _ _ _ _ (e_X11_laughterThen (d + 0) S hs v4 f2 f3 0 0 q1 hq1 _ ?_))
        show X (35, [some (.ref 7), some (.ref 34), some (.int f2), some (.int f3), some (.int v4)], [.int q1.1, .int v4, .ref 34], st q1.2 hs, 0, 0)
        refine hX _ ?_
        clear hP hX hk P' X cal
        refine Wp.stepsG 1 (fun cal X P' hk hX hP => ?_)
        show vp_in v4 8 ∧ X (36, [some (.ref 7), some (.ref 34), some (.int f2), some (.int f3), some (.int v4)], [], st (sA q1.2 34 (upd (q1.2.1 34) v4.toNatClampNeg q1.1)) hs, 0, 0)
        obtain ⟨hg, hl⟩ := gd_some hl
        refine ⟨hg, hX _ ?_⟩
        clear hP hX hk P' X cal
        refine Wp.stepsG 2 (fun cal X P' hk hX hP => ?_)
        show X (3, [some (.ref 7), some (.ref 34), some (.int f2), some (.int f3), some (.int (v4 + 1))], [], st (sA q1.2 34 (upd (q1.2.1 34) v4.toNatClampNeg q1.1)) hs, 0, 0)
        refine hX _ ?_
        exact (ih (v4 + 1) (sA q1.2 34 (upd (q1.2.1 34) v4.toNatClampNeg q1.1)) q hl ct)
def r_X11_weigh_34 (S : St) (hs : List Hr) (a2 : Int32) (a3 : Int32) : Option (Int32 × St) :=
  (lp_X11_weigh_34_3 hs a2 a3 4000 0 S).bind fun q2 =>
    some (0, q2)
set_option maxRecDepth 20000 in
set_option maxHeartbeats 4000000 in
theorem e_X11_weigh_34 (d : Nat) (S : St) (hs : List Hr) (a2 : Int32) (a3 : Int32) (v : Int32 × St) (hr : r_X11_weigh_34 S hs a2 a3 = some v) (P : Option Value → Hp → Prop) (h : P none (st v.2 hs)) : Ev (d + 7) ix_X11_weigh 0 0 [.ref 7, .ref 34, .int a2, .int a3] (st S hs) P := by
  refine Ev.intro (M := mi_X11_weigh) rfl (Nat.le_of_ble_eq_true rfl) ?_
  unfold r_X11_weigh_34 at hr
  refine Wp.stepsG 2 (fun cal X P' hk hX hP => ?_)
  show X (3, [some (.ref 7), some (.ref 34), some (.int a2), some (.int a3), some (.int 0)], [], st S hs, 0, 0)
  refine hX _ ?_
  clear hP hX hk P' X cal
  obtain ⟨q2, hq2, hr⟩ := bd_some hr
  refine (e_lp_X11_weigh_34_3 d hs P a2 a3 _ 0 S q2 hq2 ?_)
  have hr := Option.some.inj hr
  subst hr
  refine Wp.stepsG 1 (fun cal X P' hk hX hP => ?_)
  exact hP _ _ h
def r_X11_best (S : St) (hs : List Hr) (a1 : Int32) (a2 : Int32) : Option (Int32 × St) :=
  if (r_X11_within a2 0 1) = 0 then
    some ((-10001), S)
  else
    if (r_X11_isTable S a1) = 0 then
      some ((-10002), S)
    else
      (r_X11_weigh_34 S hs a1 (S.1 8 0)).bind fun q1 =>
      (r_X11_bestBeside q1.2 0).bind fun q2 =>
      if 0 ≤ q2 then
        if a2 = 0 then
          some (q2, q1.2)
        else
          gd (¬ (q2 < 0 ∨ 8 ≤ q2.toNatClampNeg)) (
            some ((q1.2.1 34) q2.toNatClampNeg, q1.2))
      else
        some ((-10005), q1.2)
set_option maxRecDepth 20000 in
set_option maxHeartbeats 4000000 in
theorem e_X11_best (d : Nat) (S : St) (hs : List Hr) (a1 : Int32) (a2 : Int32) (v : Int32 × St) (hr : r_X11_best S hs a1 a2 = some v) (P : Option Value → Hp → Prop) (h : P (some (.int v.1)) (st v.2 hs)) : Ev (d + 8) ix_X11_best 0 0 [.ref 7, .int a1, .int a2] (st S hs) P := by
  refine Ev.intro (M := mi_X11_best) rfl (Nat.le_of_ble_eq_true rfl) ?_
  unfold r_X11_best at hr
  refine Wp.stepsG 4 (fun cal X P' hk hX hP => ?_)
  show kcall cal ix_X11_within [.int a2, .int 0, .int 1] (st S hs) [] 0 0 (0, 0) (fun v σ' c' m' => X (6, [some (.ref 7), some (.int a1), some (.int a2), none], v.toList ++ [], σ', c', m'))
  refine kcall0 rfl (hk _ _ _ _ _ _ (e_X11_within (d + 6) S hs a2 0 1 _ ?_))
  show X (6, [some (.ref 7), some (.int a1), some (.int a2), none], [.int (r_X11_within a2 0 1)], st S hs, 0, 0)
  refine hX _ ?_
  clear hP hX hk P' X cal
  refine Wp.stepsG 1 (fun cal X P' hk hX hP => ?_)
  show (¬ (r_X11_within a2 0 1) = 0 → X (13, [some (.ref 7), some (.int a1), some (.int a2), none], [], st S hs, 0, 0)) ∧ ((r_X11_within a2 0 1) = 0 → X (9, [some (.ref 7), some (.int a1), some (.int a2), none], [], st S hs, 0, 0))
  refine ⟨fun hc => hX _ ?_, fun hc => hX _ ?_⟩
  · clear hP hX hk P' X cal
    rw [if_neg hc] at hr
    refine Wp.stepsG 3 (fun cal X P' hk hX hP => ?_)
    show kcall cal ix_X11_isTable [.ref 7, .int a1] (st S hs) [] 0 0 (0, 0) (fun v σ' c' m' => X (18, [some (.ref 7), some (.int a1), some (.int a2), none], v.toList ++ [], σ', c', m'))
    refine kcall0 rfl (hk _ _ _ _ _ _ (e_X11_isTable (d + 5) S hs a1 _ ?_))
    show X (18, [some (.ref 7), some (.int a1), some (.int a2), none], [.int (r_X11_isTable S a1)], st S hs, 0, 0)
    refine hX _ ?_
    clear hP hX hk P' X cal
    refine Wp.stepsG 1 (fun cal X P' hk hX hP => ?_)
    show (¬ (r_X11_isTable S a1) = 0 → X (25, [some (.ref 7), some (.int a1), some (.int a2), none], [], st S hs, 0, 0)) ∧ ((r_X11_isTable S a1) = 0 → X (21, [some (.ref 7), some (.int a1), some (.int a2), none], [], st S hs, 0, 0))
    refine ⟨fun hc => hX _ ?_, fun hc => hX _ ?_⟩
    · clear hP hX hk P' X cal
      rw [if_neg hc] at hr
      refine Wp.stepsG 8 (fun cal X P' hk hX hP => ?_)
      show kcall cal ix_X11_weigh [.ref 7, .ref 34, .int a1, .int (S.1 8 0)] (st S hs) [] 0 0 (0, 0) (fun v σ' c' m' => X (41, [some (.ref 7), some (.int a1), some (.int a2), none], v.toList ++ [], σ', c', m'))
      obtain ⟨q1, hq1, hr⟩ := bd_some hr
      refine kcall0 rfl (hk _ _ _ _ _ _ (e_X11_weigh_34 (d + 0) S hs a1 (S.1 8 0) q1 hq1 _ ?_))
      show X (41, [some (.ref 7), some (.int a1), some (.int a2), none], [], st q1.2 hs, 0, 0)
      refine hX _ ?_
      clear hP hX hk P' X cal
      refine Wp.stepsG 3 (fun cal X P' hk hX hP => ?_)
      show kcall cal ix_X11_bestBeside [.ref 7, .int 0] (st q1.2 hs) [] 0 0 (0, 0) (fun v σ' c' m' => X (46, [some (.ref 7), some (.int a1), some (.int a2), none], v.toList ++ [], σ', c', m'))
      obtain ⟨q2, hq2, hr⟩ := bd_some hr
      refine kcall0 rfl (hk _ _ _ _ _ _ (e_X11_bestBeside (d + 5) q1.2 hs 0 q2 hq2 _ ?_))
      show X (46, [some (.ref 7), some (.int a1), some (.int a2), none], [.int q2], st q1.2 hs, 0, 0)
      refine hX _ ?_
      clear hP hX hk P' X cal
      refine Wp.stepsG 3 (fun cal X P' hk hX hP => ?_)
      show (0 ≤ q2 → X (55, [some (.ref 7), some (.int a1), some (.int a2), some (.int q2)], [], st q1.2 hs, 0, 0)) ∧ (¬ 0 ≤ q2 → X (51, [some (.ref 7), some (.int a1), some (.int a2), some (.int q2)], [], st q1.2 hs, 0, 0))
      refine ⟨fun hc => hX _ ?_, fun hc => hX _ ?_⟩
      · clear hP hX hk P' X cal
        rw [if_pos hc] at hr
        refine Wp.stepsG 2 (fun cal X P' hk hX hP => ?_)
        show (¬ a2 = 0 → X (63, [some (.ref 7), some (.int a1), some (.int a2), some (.int q2)], [], st q1.2 hs, 0, 0)) ∧ (a2 = 0 → X (59, [some (.ref 7), some (.int a1), some (.int a2), some (.int q2)], [], st q1.2 hs, 0, 0))
        refine ⟨fun hc => hX _ ?_, fun hc => hX _ ?_⟩
        · clear hP hX hk P' X cal
          rw [if_neg hc] at hr
          refine Wp.stepsG 4 (fun cal X P' hk hX hP => ?_)
          show vp_in q2 8 ∧ X (69, [some (.ref 7), some (.int a1), some (.int a2), some (.int q2)], [.int ((q1.2.1 34) q2.toNatClampNeg)], st q1.2 hs, 0, 0)
          obtain ⟨hg, hr⟩ := gd_some hr
          refine ⟨hg, hX _ ?_⟩
          clear hP hX hk P' X cal
          have hr := Option.some.inj hr
          subst hr
          refine Wp.stepsG 1 (fun cal X P' hk hX hP => ?_)
          exact hP _ _ h
        · clear hP hX hk P' X cal
          rw [if_pos hc] at hr
          have hr := Option.some.inj hr
          subst hr
          refine Wp.stepsG 3 (fun cal X P' hk hX hP => ?_)
          exact hP _ _ h
      · clear hP hX hk P' X cal
        rw [if_neg hc] at hr
        have hr := Option.some.inj hr
        subst hr
        refine Wp.stepsG 2 (fun cal X P' hk hX hP => ?_)
        exact hP _ _ h
    · clear hP hX hk P' X cal
      rw [if_pos hc] at hr
      have hr := Option.some.inj hr
      subst hr
      refine Wp.stepsG 2 (fun cal X P' hk hX hP => ?_)
      exact hP _ _ h
  · clear hP hX hk P' X cal
    rw [if_pos hc] at hr
    have hr := Option.some.inj hr
    subst hr
    refine Wp.stepsG 2 (fun cal X P' hk hX hP => ?_)
    exact hP _ _ h
def r_X11_fresh (S : St) (hs : List Hr) (a1 : Int32) : Option Int32 :=
  if (r_X11_isStory S a1) = 0 then
    some (-1)
  else
    (r_X11_knowersThen S hs a1 (r_X11_everybody S) (S.1 8 0)).bind fun q1 =>
    some ((r_X11_everybody S) &&& (q1 ^^^ (-1)))
set_option maxRecDepth 20000 in
set_option maxHeartbeats 4000000 in
theorem e_X11_fresh (d : Nat) (S : St) (hs : List Hr) (a1 : Int32) (v : Int32) (hr : r_X11_fresh S hs a1 = some v) (P : Option Value → Hp → Prop) (h : P (some (.int v)) (st S hs)) : Ev (d + 6) ix_X11_fresh 0 0 [.ref 7, .int a1] (st S hs) P := by
  refine Ev.intro (M := mi_X11_fresh) rfl (Nat.le_of_ble_eq_true rfl) ?_
  unfold r_X11_fresh at hr
  refine Wp.stepsG 3 (fun cal X P' hk hX hP => ?_)
  show kcall cal ix_X11_isStory [.ref 7, .int a1] (st S hs) [] 0 0 (0, 0) (fun v σ' c' m' => X (5, [some (.ref 7), some (.int a1)], v.toList ++ [], σ', c', m'))
  refine kcall0 rfl (hk _ _ _ _ _ _ (e_X11_isStory (d + 3) S hs a1 _ ?_))
  show X (5, [some (.ref 7), some (.int a1)], [.int (r_X11_isStory S a1)], st S hs, 0, 0)
  refine hX _ ?_
  clear hP hX hk P' X cal
  refine Wp.stepsG 1 (fun cal X P' hk hX hP => ?_)
  show (¬ (r_X11_isStory S a1) = 0 → X (10, [some (.ref 7), some (.int a1)], [], st S hs, 0, 0)) ∧ ((r_X11_isStory S a1) = 0 → X (8, [some (.ref 7), some (.int a1)], [], st S hs, 0, 0))
  refine ⟨fun hc => hX _ ?_, fun hc => hX _ ?_⟩
  · clear hP hX hk P' X cal
    rw [if_neg hc] at hr
    refine Wp.stepsG 2 (fun cal X P' hk hX hP => ?_)
    show kcall cal ix_X11_everybody [.ref 7] (st S hs) [] 0 0 (0, 0) (fun v σ' c' m' => X (14, [some (.ref 7), some (.int a1)], v.toList ++ [], σ', c', m'))
    refine kcall0 rfl (hk _ _ _ _ _ _ (e_X11_everybody (d + 4) S hs _ ?_))
    show X (14, [some (.ref 7), some (.int a1)], [.int (r_X11_everybody S)], st S hs, 0, 0)
    refine hX _ ?_
    clear hP hX hk P' X cal
    refine Wp.stepsG 4 (fun cal X P' hk hX hP => ?_)
    show kcall cal ix_X11_everybody [.ref 7] (st S hs) [.int a1, .ref 7, .int (r_X11_everybody S)] 0 0 (0, 0) (fun v σ' c' m' => X (20, [some (.ref 7), some (.int a1)], v.toList ++ [.int a1, .ref 7, .int (r_X11_everybody S)], σ', c', m'))
    refine kcall0 rfl (hk _ _ _ _ _ _ (e_X11_everybody (d + 4) S hs _ ?_))
    show X (20, [some (.ref 7), some (.int a1)], [.int (r_X11_everybody S), .int a1, .ref 7, .int (r_X11_everybody S)], st S hs, 0, 0)
    refine hX _ ?_
    clear hP hX hk P' X cal
    refine Wp.stepsG 4 (fun cal X P' hk hX hP => ?_)
    show kcall cal ix_X11_knowersThen [.ref 7, .int a1, .int (r_X11_everybody S), .int (S.1 8 0)] (st S hs) [.int (r_X11_everybody S)] 0 0 (0, 0) (fun v σ' c' m' => X (30, [some (.ref 7), some (.int a1)], v.toList ++ [.int (r_X11_everybody S)], σ', c', m'))
    obtain ⟨q1, hq1, hr⟩ := bd_some hr
    refine kcall0 rfl (hk _ _ _ _ _ _ (e_X11_knowersThen (d + 0) S hs a1 (r_X11_everybody S) (S.1 8 0) q1 hq1 _ ?_))
    show X (30, [some (.ref 7), some (.int a1)], [.int q1, .int (r_X11_everybody S)], st S hs, 0, 0)
    refine hX _ ?_
    clear hP hX hk P' X cal
    have hr := Option.some.inj hr
    subst hr
    refine Wp.stepsG 4 (fun cal X P' hk hX hP => ?_)
    exact hP _ _ h
  · clear hP hX hk P' X cal
    rw [if_pos hc] at hr
    have hr := Option.some.inj hr
    subst hr
    refine Wp.stepsG 2 (fun cal X P' hk hX hP => ?_)
    exact hP _ _ h
def lp_X11_again_23 (S : St) (hs : List Hr) (f1 : Int32) (f2 : Int32) : Nat → Int32 → Option (Nat × Int32)
  | 0, _ => none
  | n + 1, v3 =>
    if 99 < v3 then
      some (1, v3)
    else
      (r_X11_knowersThen S hs f1 f2 ((S.1 8 0) + v3)).bind fun q1 =>
      if q1 = 0 then
        some (0, v3)
      else
        lp_X11_again_23 S hs f1 f2 n (v3 + 1)
set_option maxRecDepth 20000 in
set_option maxHeartbeats 4000000 in
theorem e_lp_X11_again_23 (d : Nat) (hs : List Hr) (P : Option Value → Hp → Prop) (S : St) (f1 : Int32) (f2 : Int32) : ∀ (n : Nat) (v3 : Int32) (q : Nat × Int32), lp_X11_again_23 S hs f1 f2 n v3 = some q → (q.1 = 0 → WM mi_X11_again (d + 5) P 47 [some (.ref 7), some (.int f1), some (.int f2), some (.int q.2)] [] (st S hs)) ∧ (q.1 = 1 → WM mi_X11_again (d + 5) P 55 [some (.ref 7), some (.int f1), some (.int f2), none] [] (st S hs)) → WM mi_X11_again (d + 5) P 23 [some (.ref 7), some (.int f1), some (.int f2), some (.int v3)] [] (st S hs) := by
  intro n
  induction n with
  | zero =>
    intro v3 q hl
    cases hl
  | succ n ih =>
    intro v3 q hl ct
    rw [lp_X11_again_23] at hl
    refine Wp.stepsG 3 (fun cal X P' hk hX hP => ?_)
    show (99 < v3 → X (55, [some (.ref 7), some (.int f1), some (.int f2), some (.int v3)], [], st S hs, 0, 0)) ∧ (¬ 99 < v3 → X (29, [some (.ref 7), some (.int f1), some (.int f2), some (.int v3)], [], st S hs, 0, 0))
    refine ⟨fun hc => hX _ ?_, fun hc => hX _ ?_⟩
    · clear hP hX hk P' X cal
      rw [if_pos hc] at hl
      have hl := Option.some.inj hl
      subst hl
      exact Wp.weak (leL.k (leL.k (leL.k (leL.n leL.z)))) (ct.2 rfl)
    · clear hP hX hk P' X cal
      rw [if_neg hc] at hl
      refine Wp.stepsG 9 (fun cal X P' hk hX hP => ?_)
      show kcall cal ix_X11_knowersThen [.ref 7, .int f1, .int f2, .int ((S.1 8 0) + v3)] (st S hs) [] 0 0 (0, 0) (fun v σ' c' m' => X (44, [some (.ref 7), some (.int f1), some (.int f2), some (.int v3)], v.toList ++ [], σ', c', m'))
      obtain ⟨q1, hq1, hl⟩ := bd_some hl
      refine kcall0 rfl (hk _ _ _ _ _ _ (e_X11_knowersThen (d + 0) S hs f1 f2 ((S.1 8 0) + v3) q1 hq1 _ ?_))
      show X (44, [some (.ref 7), some (.int f1), some (.int f2), some (.int v3)], [.int q1], st S hs, 0, 0)
      refine hX _ ?_
      clear hP hX hk P' X cal
      refine Wp.stepsG 1 (fun cal X P' hk hX hP => ?_)
      show (¬ q1 = 0 → X (49, [some (.ref 7), some (.int f1), some (.int f2), some (.int v3)], [], st S hs, 0, 0)) ∧ (q1 = 0 → X (47, [some (.ref 7), some (.int f1), some (.int f2), some (.int v3)], [], st S hs, 0, 0))
      refine ⟨fun hc => hX _ ?_, fun hc => hX _ ?_⟩
      · clear hP hX hk P' X cal
        rw [if_neg hc] at hl
        refine Wp.stepsG 2 (fun cal X P' hk hX hP => ?_)
        show X (23, [some (.ref 7), some (.int f1), some (.int f2), some (.int (v3 + 1))], [], st S hs, 0, 0)
        refine hX _ ?_
        exact (ih (v3 + 1) q hl ct)
      · clear hP hX hk P' X cal
        rw [if_pos hc] at hl
        have hl := Option.some.inj hl
        subst hl
        exact (ct.1 rfl)
def r_X11_again (S : St) (hs : List Hr) (a1 : Int32) (a2 : Int32) : Option Int32 :=
  if (r_X11_isStory S a1) = 0 then
    some (-1)
  else
    if (r_X11_isTable S a2) = 0 then
      some (-2)
    else
      (lp_X11_again_23 S hs a1 a2 4000 0).bind fun q2 =>
      if q2.1 = 0 then
        some q2.2
      else
        some (-5)
set_option maxRecDepth 20000 in
set_option maxHeartbeats 4000000 in
theorem e_X11_again (d : Nat) (S : St) (hs : List Hr) (a1 : Int32) (a2 : Int32) (v : Int32) (hr : r_X11_again S hs a1 a2 = some v) (P : Option Value → Hp → Prop) (h : P (some (.int v)) (st S hs)) : Ev (d + 6) ix_X11_again 0 0 [.ref 7, .int a1, .int a2] (st S hs) P := by
  refine Ev.intro (M := mi_X11_again) rfl (Nat.le_of_ble_eq_true rfl) ?_
  unfold r_X11_again at hr
  refine Wp.stepsG 3 (fun cal X P' hk hX hP => ?_)
  show kcall cal ix_X11_isStory [.ref 7, .int a1] (st S hs) [] 0 0 (0, 0) (fun v σ' c' m' => X (5, [some (.ref 7), some (.int a1), some (.int a2), none], v.toList ++ [], σ', c', m'))
  refine kcall0 rfl (hk _ _ _ _ _ _ (e_X11_isStory (d + 3) S hs a1 _ ?_))
  show X (5, [some (.ref 7), some (.int a1), some (.int a2), none], [.int (r_X11_isStory S a1)], st S hs, 0, 0)
  refine hX _ ?_
  clear hP hX hk P' X cal
  refine Wp.stepsG 1 (fun cal X P' hk hX hP => ?_)
  show (¬ (r_X11_isStory S a1) = 0 → X (10, [some (.ref 7), some (.int a1), some (.int a2), none], [], st S hs, 0, 0)) ∧ ((r_X11_isStory S a1) = 0 → X (8, [some (.ref 7), some (.int a1), some (.int a2), none], [], st S hs, 0, 0))
  refine ⟨fun hc => hX _ ?_, fun hc => hX _ ?_⟩
  · clear hP hX hk P' X cal
    rw [if_neg hc] at hr
    refine Wp.stepsG 3 (fun cal X P' hk hX hP => ?_)
    show kcall cal ix_X11_isTable [.ref 7, .int a2] (st S hs) [] 0 0 (0, 0) (fun v σ' c' m' => X (15, [some (.ref 7), some (.int a1), some (.int a2), none], v.toList ++ [], σ', c', m'))
    refine kcall0 rfl (hk _ _ _ _ _ _ (e_X11_isTable (d + 3) S hs a2 _ ?_))
    show X (15, [some (.ref 7), some (.int a1), some (.int a2), none], [.int (r_X11_isTable S a2)], st S hs, 0, 0)
    refine hX _ ?_
    clear hP hX hk P' X cal
    refine Wp.stepsG 1 (fun cal X P' hk hX hP => ?_)
    show (¬ (r_X11_isTable S a2) = 0 → X (21, [some (.ref 7), some (.int a1), some (.int a2), none], [], st S hs, 0, 0)) ∧ ((r_X11_isTable S a2) = 0 → X (18, [some (.ref 7), some (.int a1), some (.int a2), none], [], st S hs, 0, 0))
    refine ⟨fun hc => hX _ ?_, fun hc => hX _ ?_⟩
    · clear hP hX hk P' X cal
      rw [if_neg hc] at hr
      refine Wp.stepsG 2 (fun cal X P' hk hX hP => ?_)
      show X (23, [some (.ref 7), some (.int a1), some (.int a2), some (.int 0)], [], st S hs, 0, 0)
      refine hX _ ?_
      clear hP hX hk P' X cal
      obtain ⟨q2, hq2, hr⟩ := bd_some hr
      refine (e_lp_X11_again_23 d hs P S a1 a2 _ 0 q2 hq2 ?_)
      refine ⟨fun hc => ?_, fun hc => ?_⟩
      · have hcc := hc
        rw [if_pos hcc] at hr
        have hr := Option.some.inj hr
        subst hr
        refine Wp.stepsG 2 (fun cal X P' hk hX hP => ?_)
        exact hP _ _ h
      · have hcc := hc
        rw [if_neg (fun z => by rw [z] at hcc; exact absurd hcc (by decide))] at hr
        have hr := Option.some.inj hr
        subst hr
        refine Wp.stepsG 2 (fun cal X P' hk hX hP => ?_)
        exact hP _ _ h
    · clear hP hX hk P' X cal
      rw [if_pos hc] at hr
      have hr := Option.some.inj hr
      subst hr
      refine Wp.stepsG 2 (fun cal X P' hk hX hP => ?_)
      exact hP _ _ h
  · clear hP hX hk P' X cal
    rw [if_pos hc] at hr
    have hr := Option.some.inj hr
    subst hr
    refine Wp.stepsG 2 (fun cal X P' hk hX hP => ?_)
    exact hP _ _ h
def lp_X11_sumOf_34_4 (S : St) (f1 : Int32) : Nat → Int32 → Int32 → Option (Int32)
  | 0, _, _ => none
  | n + 1, v2, v3 =>
    if 8 ≤ v3 then
      some v2
    else
      if (r_X11_in f1 v3) = 0 then
        lp_X11_sumOf_34_4 S f1 n v2 (v3 + 1)
      else
        gd (¬ (v3 < 0 ∨ 8 ≤ v3.toNatClampNeg)) (
          lp_X11_sumOf_34_4 S f1 n (v2 + ((S.1 34) v3.toNatClampNeg)) (v3 + 1))
set_option maxRecDepth 20000 in
set_option maxHeartbeats 4000000 in
theorem e_lp_X11_sumOf_34_4 (d : Nat) (hs : List Hr) (P : Option Value → Hp → Prop) (S : St) (f1 : Int32) : ∀ (n : Nat) (v2 : Int32) (v3 : Int32) (q : Int32), lp_X11_sumOf_34_4 S f1 n v2 v3 = some q → (WM mi_X11_sumOf (d + 1) P 30 [some (.ref 34), some (.int f1), some (.int q), none] [] (st S hs)) → WM mi_X11_sumOf (d + 1) P 4 [some (.ref 34), some (.int f1), some (.int v2), some (.int v3)] [] (st S hs) := by
  intro n
  induction n with
  | zero =>
    intro v2 v3 q hl
    cases hl
  | succ n ih =>
    intro v2 v3 q hl ct
    rw [lp_X11_sumOf_34_4] at hl
    refine Wp.stepsG 4 (fun cal X P' hk hX hP => ?_)
    show (8 ≤ v3 → X (30, [some (.ref 34), some (.int f1), some (.int v2), some (.int v3)], [], st S hs, 0, 0)) ∧ (¬ 8 ≤ v3 → X (10, [some (.ref 34), some (.int f1), some (.int v2), some (.int v3)], [], st S hs, 0, 0))
    refine ⟨fun hc => hX _ ?_, fun hc => hX _ ?_⟩
    · clear hP hX hk P' X cal
      rw [if_pos hc] at hl
      have hl := Option.some.inj hl
      subst hl
      exact Wp.weak (leL.k (leL.k (leL.k (leL.n leL.z)))) (ct)
    · clear hP hX hk P' X cal
      rw [if_neg hc] at hl
      refine Wp.stepsG 3 (fun cal X P' hk hX hP => ?_)
      show kcall cal ix_X11_in [.int f1, .int v3] (st S hs) [] 0 0 (0, 0) (fun v σ' c' m' => X (15, [some (.ref 34), some (.int f1), some (.int v2), some (.int v3)], v.toList ++ [], σ', c', m'))
      refine kcall0 rfl (hk _ _ _ _ _ _ (e_X11_in (d + 0) S hs f1 v3 _ ?_))
      show X (15, [some (.ref 34), some (.int f1), some (.int v2), some (.int v3)], [.int (r_X11_in f1 v3)], st S hs, 0, 0)
      refine hX _ ?_
      clear hP hX hk P' X cal
      refine Wp.stepsG 1 (fun cal X P' hk hX hP => ?_)
      show ((r_X11_in f1 v3) = 0 → X (24, [some (.ref 34), some (.int f1), some (.int v2), some (.int v3)], [], st S hs, 0, 0)) ∧ (¬ (r_X11_in f1 v3) = 0 → X (18, [some (.ref 34), some (.int f1), some (.int v2), some (.int v3)], [], st S hs, 0, 0))
      refine ⟨fun hc => hX _ ?_, fun hc => hX _ ?_⟩
      · clear hP hX hk P' X cal
        rw [if_pos hc] at hl
        refine Wp.stepsG 2 (fun cal X P' hk hX hP => ?_)
        show X (4, [some (.ref 34), some (.int f1), some (.int v2), some (.int (v3 + 1))], [], st S hs, 0, 0)
        refine hX _ ?_
        exact (ih v2 (v3 + 1) q hl ct)
      · clear hP hX hk P' X cal
        rw [if_neg hc] at hl
        refine Wp.stepsG 4 (fun cal X P' hk hX hP => ?_)
        show vp_in v3 8 ∧ X (22, [some (.ref 34), some (.int f1), some (.int v2), some (.int v3)], [.int ((S.1 34) v3.toNatClampNeg), .int v2], st S hs, 0, 0)
        obtain ⟨hg, hl⟩ := gd_some hl
        refine ⟨hg, hX _ ?_⟩
        clear hP hX hk P' X cal
        refine Wp.stepsG 4 (fun cal X P' hk hX hP => ?_)
        show X (4, [some (.ref 34), some (.int f1), some (.int (v2 + ((S.1 34) v3.toNatClampNeg))), some (.int (v3 + 1))], [], st S hs, 0, 0)
        refine hX _ ?_
        exact (ih (v2 + ((S.1 34) v3.toNatClampNeg)) (v3 + 1) q hl ct)
def r_X11_sumOf_34 (S : St) (a2 : Int32) : Option Int32 :=
  (lp_X11_sumOf_34_4 S a2 4000 0 0).bind fun q1 =>
    some q1
set_option maxRecDepth 20000 in
set_option maxHeartbeats 4000000 in
theorem e_X11_sumOf_34 (d : Nat) (S : St) (hs : List Hr) (a2 : Int32) (v : Int32) (hr : r_X11_sumOf_34 S a2 = some v) (P : Option Value → Hp → Prop) (h : P (some (.int v)) (st S hs)) : Ev (d + 2) ix_X11_sumOf 0 0 [.ref 34, .int a2] (st S hs) P := by
  refine Ev.intro (M := mi_X11_sumOf) rfl (Nat.le_of_ble_eq_true rfl) ?_
  unfold r_X11_sumOf_34 at hr
  refine Wp.stepsG 4 (fun cal X P' hk hX hP => ?_)
  show X (4, [some (.ref 34), some (.int a2), some (.int 0), some (.int 0)], [], st S hs, 0, 0)
  refine hX _ ?_
  clear hP hX hk P' X cal
  obtain ⟨q1, hq1, hr⟩ := bd_some hr
  refine (e_lp_X11_sumOf_34_4 d hs P S a2 _ 0 0 q1 hq1 ?_)
  have hr := Option.some.inj hr
  subst hr
  refine Wp.stepsG 2 (fun cal X P' hk hX hP => ?_)
  exact hP _ _ h
def lp_X11_sumOf_10_4 (S : St) (f1 : Int32) : Nat → Int32 → Int32 → Option (Int32)
  | 0, _, _ => none
  | n + 1, v2, v3 =>
    if 8 ≤ v3 then
      some v2
    else
      if (r_X11_in f1 v3) = 0 then
        lp_X11_sumOf_10_4 S f1 n v2 (v3 + 1)
      else
        gd (¬ (v3 < 0 ∨ 8 ≤ v3.toNatClampNeg)) (
          lp_X11_sumOf_10_4 S f1 n (v2 + ((S.1 10) v3.toNatClampNeg)) (v3 + 1))
set_option maxRecDepth 20000 in
set_option maxHeartbeats 4000000 in
theorem e_lp_X11_sumOf_10_4 (d : Nat) (hs : List Hr) (P : Option Value → Hp → Prop) (S : St) (f1 : Int32) : ∀ (n : Nat) (v2 : Int32) (v3 : Int32) (q : Int32), lp_X11_sumOf_10_4 S f1 n v2 v3 = some q → (WM mi_X11_sumOf (d + 1) P 30 [some (.ref 10), some (.int f1), some (.int q), none] [] (st S hs)) → WM mi_X11_sumOf (d + 1) P 4 [some (.ref 10), some (.int f1), some (.int v2), some (.int v3)] [] (st S hs) := by
  intro n
  induction n with
  | zero =>
    intro v2 v3 q hl
    cases hl
  | succ n ih =>
    intro v2 v3 q hl ct
    rw [lp_X11_sumOf_10_4] at hl
    refine Wp.stepsG 4 (fun cal X P' hk hX hP => ?_)
    show (8 ≤ v3 → X (30, [some (.ref 10), some (.int f1), some (.int v2), some (.int v3)], [], st S hs, 0, 0)) ∧ (¬ 8 ≤ v3 → X (10, [some (.ref 10), some (.int f1), some (.int v2), some (.int v3)], [], st S hs, 0, 0))
    refine ⟨fun hc => hX _ ?_, fun hc => hX _ ?_⟩
    · clear hP hX hk P' X cal
      rw [if_pos hc] at hl
      have hl := Option.some.inj hl
      subst hl
      exact Wp.weak (leL.k (leL.k (leL.k (leL.n leL.z)))) (ct)
    · clear hP hX hk P' X cal
      rw [if_neg hc] at hl
      refine Wp.stepsG 3 (fun cal X P' hk hX hP => ?_)
      show kcall cal ix_X11_in [.int f1, .int v3] (st S hs) [] 0 0 (0, 0) (fun v σ' c' m' => X (15, [some (.ref 10), some (.int f1), some (.int v2), some (.int v3)], v.toList ++ [], σ', c', m'))
      refine kcall0 rfl (hk _ _ _ _ _ _ (e_X11_in (d + 0) S hs f1 v3 _ ?_))
      show X (15, [some (.ref 10), some (.int f1), some (.int v2), some (.int v3)], [.int (r_X11_in f1 v3)], st S hs, 0, 0)
      refine hX _ ?_
      clear hP hX hk P' X cal
      refine Wp.stepsG 1 (fun cal X P' hk hX hP => ?_)
      show ((r_X11_in f1 v3) = 0 → X (24, [some (.ref 10), some (.int f1), some (.int v2), some (.int v3)], [], st S hs, 0, 0)) ∧ (¬ (r_X11_in f1 v3) = 0 → X (18, [some (.ref 10), some (.int f1), some (.int v2), some (.int v3)], [], st S hs, 0, 0))
      refine ⟨fun hc => hX _ ?_, fun hc => hX _ ?_⟩
      · clear hP hX hk P' X cal
        rw [if_pos hc] at hl
        refine Wp.stepsG 2 (fun cal X P' hk hX hP => ?_)
        show X (4, [some (.ref 10), some (.int f1), some (.int v2), some (.int (v3 + 1))], [], st S hs, 0, 0)
        refine hX _ ?_
        exact (ih v2 (v3 + 1) q hl ct)
      · clear hP hX hk P' X cal
        rw [if_neg hc] at hl
        refine Wp.stepsG 4 (fun cal X P' hk hX hP => ?_)
        show vp_in v3 8 ∧ X (22, [some (.ref 10), some (.int f1), some (.int v2), some (.int v3)], [.int ((S.1 10) v3.toNatClampNeg), .int v2], st S hs, 0, 0)
        obtain ⟨hg, hl⟩ := gd_some hl
        refine ⟨hg, hX _ ?_⟩
        clear hP hX hk P' X cal
        refine Wp.stepsG 4 (fun cal X P' hk hX hP => ?_)
        show X (4, [some (.ref 10), some (.int f1), some (.int (v2 + ((S.1 10) v3.toNatClampNeg))), some (.int (v3 + 1))], [], st S hs, 0, 0)
        refine hX _ ?_
        exact (ih (v2 + ((S.1 10) v3.toNatClampNeg)) (v3 + 1) q hl ct)
def r_X11_sumOf_10 (S : St) (a2 : Int32) : Option Int32 :=
  (lp_X11_sumOf_10_4 S a2 4000 0 0).bind fun q1 =>
    some q1
set_option maxRecDepth 20000 in
set_option maxHeartbeats 4000000 in
theorem e_X11_sumOf_10 (d : Nat) (S : St) (hs : List Hr) (a2 : Int32) (v : Int32) (hr : r_X11_sumOf_10 S a2 = some v) (P : Option Value → Hp → Prop) (h : P (some (.int v)) (st S hs)) : Ev (d + 2) ix_X11_sumOf 0 0 [.ref 10, .int a2] (st S hs) P := by
  refine Ev.intro (M := mi_X11_sumOf) rfl (Nat.le_of_ble_eq_true rfl) ?_
  unfold r_X11_sumOf_10 at hr
  refine Wp.stepsG 4 (fun cal X P' hk hX hP => ?_)
  show X (4, [some (.ref 10), some (.int a2), some (.int 0), some (.int 0)], [], st S hs, 0, 0)
  refine hX _ ?_
  clear hP hX hk P' X cal
  obtain ⟨q1, hq1, hr⟩ := bd_some hr
  refine (e_lp_X11_sumOf_10_4 d hs P S a2 _ 0 0 q1 hq1 ?_)
  have hr := Option.some.inj hr
  subst hr
  refine Wp.stepsG 2 (fun cal X P' hk hX hP => ?_)
  exact hP _ _ h
def lp_X11_evening_60 (S : St) (hs : List Hr) (f2 : Int32) (f3 : Int32) : Nat → Int32 → Int32 → Int32 → Option (Int32 × Int32)
  | 0, _, _, _ => none
  | n + 1, v4, v5, v6 =>
    if ((1 : Int32) <<< ((S.1 8 2) &&& 31)) ≤ v6 then
      some (v4, v5)
    else
      (r_X11_sumOf_34 S v6).bind fun q2 =>
      if q2 ≤ v5 then
        lp_X11_evening_60 S hs f2 f3 n v4 v5 (v6 + 1)
      else
        (r_X11_sumOf_10 S v6).bind fun q3 =>
        if f2 < q3 then
          lp_X11_evening_60 S hs f2 f3 n v4 v5 (v6 + 1)
        else
          lp_X11_evening_60 S hs f2 f3 n v6 q2 (v6 + 1)
set_option maxRecDepth 20000 in
set_option maxHeartbeats 4000000 in
theorem e_lp_X11_evening_60 (d : Nat) (hs : List Hr) (P : Option Value → Hp → Prop) (S : St) (f2 : Int32) (f3 : Int32) : ∀ (n : Nat) (v4 : Int32) (v5 : Int32) (v6 : Int32) (q : Int32 × Int32), lp_X11_evening_60 S hs f2 f3 n v4 v5 v6 = some q → (WM mi_X11_evening (d + 7) P 122 [some (.ref 7), none, some (.int f2), some (.int f3), some (.int q.1), some (.int q.2), none, none] [] (st S hs)) → WM mi_X11_evening (d + 7) P 60 [some (.ref 7), none, some (.int f2), some (.int f3), some (.int v4), some (.int v5), some (.int v6), none] [] (st S hs) := by
  intro n
  induction n with
  | zero =>
    intro v4 v5 v6 q hl
    cases hl
  | succ n ih =>
    intro v4 v5 v6 q hl ct
    rw [lp_X11_evening_60] at hl
    refine Wp.stepsG 7 (fun cal X P' hk hX hP => ?_)
    show (((1 : Int32) <<< ((S.1 8 2) &&& 31)) ≤ v6 → X (122, [some (.ref 7), none, some (.int f2), some (.int f3), some (.int v4), some (.int v5), some (.int v6), none], [], st S hs, 0, 0)) ∧ (¬ ((1 : Int32) <<< ((S.1 8 2) &&& 31)) ≤ v6 → X (74, [some (.ref 7), none, some (.int f2), some (.int f3), some (.int v4), some (.int v5), some (.int v6), none], [], st S hs, 0, 0))
    refine ⟨fun hc => hX _ ?_, fun hc => hX _ ?_⟩
    · clear hP hX hk P' X cal
      rw [if_pos hc] at hl
      have hl := Option.some.inj hl
      subst hl
      exact Wp.weak (leL.k (leL.k (leL.k (leL.k (leL.k (leL.k (leL.n (leL.k leL.z)))))))) (ct)
    · clear hP hX hk P' X cal
      rw [if_neg hc] at hl
      refine Wp.stepsG 4 (fun cal X P' hk hX hP => ?_)
      show kcall cal ix_X11_sumOf [.ref 34, .int v6] (st S hs) [] 0 0 (0, 0) (fun v σ' c' m' => X (83, [some (.ref 7), none, some (.int f2), some (.int f3), some (.int v4), some (.int v5), some (.int v6), none], v.toList ++ [], σ', c', m'))
      obtain ⟨q2, hq2, hl⟩ := bd_some hl
      refine kcall0 rfl (hk _ _ _ _ _ _ (e_X11_sumOf_34 (d + 5) S hs v6 q2 hq2 _ ?_))
      show X (83, [some (.ref 7), none, some (.int f2), some (.int f3), some (.int v4), some (.int v5), some (.int v6), none], [.int q2], st S hs, 0, 0)
      refine hX _ ?_
      clear hP hX hk P' X cal
      refine Wp.stepsG 4 (fun cal X P' hk hX hP => ?_)
      show (q2 ≤ v5 → X (116, [some (.ref 7), none, some (.int f2), some (.int f3), some (.int v4), some (.int v5), some (.int v6), some (.int q2)], [], st S hs, 0, 0)) ∧ (¬ q2 ≤ v5 → X (92, [some (.ref 7), none, some (.int f2), some (.int f3), some (.int v4), some (.int v5), some (.int v6), some (.int q2)], [], st S hs, 0, 0))
      refine ⟨fun hc => hX _ ?_, fun hc => hX _ ?_⟩
      · clear hP hX hk P' X cal
        rw [if_pos hc] at hl
        refine Wp.stepsG 2 (fun cal X P' hk hX hP => ?_)
        show X (60, [some (.ref 7), none, some (.int f2), some (.int f3), some (.int v4), some (.int v5), some (.int (v6 + 1)), some (.int q2)], [], st S hs, 0, 0)
        refine hX _ ?_
        exact Wp.weak (leL.k (leL.k (leL.k (leL.k (leL.k (leL.k (leL.k (leL.n leL.z)))))))) (ih v4 v5 (v6 + 1) q hl ct)
      · clear hP hX hk P' X cal
        rw [if_neg hc] at hl
        refine Wp.stepsG 5 (fun cal X P' hk hX hP => ?_)
        show kcall cal ix_X11_sumOf [.ref 10, .int v6] (st S hs) [] 0 0 (0, 0) (fun v σ' c' m' => X (104, [some (.ref 7), none, some (.int f2), some (.int f3), some (.int v4), some (.int v5), some (.int v6), some (.int q2)], v.toList ++ [], σ', c', m'))
        obtain ⟨q3, hq3, hl⟩ := bd_some hl
        refine kcall0 rfl (hk _ _ _ _ _ _ (e_X11_sumOf_10 (d + 5) S hs v6 q3 hq3 _ ?_))
        show X (104, [some (.ref 7), none, some (.int f2), some (.int f3), some (.int v4), some (.int v5), some (.int v6), some (.int q2)], [.int q3], st S hs, 0, 0)
        refine hX _ ?_
        clear hP hX hk P' X cal
        refine Wp.stepsG 2 (fun cal X P' hk hX hP => ?_)
        show (f2 < q3 → X (116, [some (.ref 7), none, some (.int f2), some (.int f3), some (.int v4), some (.int v5), some (.int v6), some (.int q2)], [], st S hs, 0, 0)) ∧ (¬ f2 < q3 → X (108, [some (.ref 7), none, some (.int f2), some (.int f3), some (.int v4), some (.int v5), some (.int v6), some (.int q2)], [], st S hs, 0, 0))
        refine ⟨fun hc => hX _ ?_, fun hc => hX _ ?_⟩
        · clear hP hX hk P' X cal
          rw [if_pos hc] at hl
          refine Wp.stepsG 2 (fun cal X P' hk hX hP => ?_)
          show X (60, [some (.ref 7), none, some (.int f2), some (.int f3), some (.int v4), some (.int v5), some (.int (v6 + 1)), some (.int q2)], [], st S hs, 0, 0)
          refine hX _ ?_
          exact Wp.weak (leL.k (leL.k (leL.k (leL.k (leL.k (leL.k (leL.k (leL.n leL.z)))))))) (ih v4 v5 (v6 + 1) q hl ct)
        · clear hP hX hk P' X cal
          rw [if_neg hc] at hl
          refine Wp.stepsG 6 (fun cal X P' hk hX hP => ?_)
          show X (60, [some (.ref 7), none, some (.int f2), some (.int f3), some (.int v6), some (.int q2), some (.int (v6 + 1)), some (.int q2)], [], st S hs, 0, 0)
          refine hX _ ?_
          exact Wp.weak (leL.k (leL.k (leL.k (leL.k (leL.k (leL.k (leL.k (leL.n leL.z)))))))) (ih v6 q2 (v6 + 1) q hl ct)
def r_X11_evening (S : St) (hs : List Hr) (a1 : Int32) (a2 : Int32) (a3 : Int32) : Option (Int32 × St) :=
  if (r_X11_within a3 0 1) = 0 then
    some ((-10001), S)
  else
    if (r_X11_isTable S a1) = 0 then
      some ((-10002), S)
    else
      if (r_X11_within a2 1 40) = 0 then
        some ((-10002), S)
      else
        (r_X11_weigh_34 S hs a1 (S.1 8 0)).bind fun q1 =>
        (lp_X11_evening_60 q1.2 hs a2 a3 4000 0 0 1).bind fun q4 =>
          if a3 = 0 then
            some (q4.1, q1.2)
          else
            some (q4.2, q1.2)
set_option maxRecDepth 20000 in
set_option maxHeartbeats 4000000 in
theorem e_X11_evening (d : Nat) (S : St) (hs : List Hr) (a1 : Int32) (a2 : Int32) (a3 : Int32) (v : Int32 × St) (hr : r_X11_evening S hs a1 a2 a3 = some v) (P : Option Value → Hp → Prop) (h : P (some (.int v.1)) (st v.2 hs)) : Ev (d + 8) ix_X11_evening 0 0 [.ref 7, .int a1, .int a2, .int a3] (st S hs) P := by
  refine Ev.intro (M := mi_X11_evening) rfl (Nat.le_of_ble_eq_true rfl) ?_
  unfold r_X11_evening at hr
  refine Wp.stepsG 4 (fun cal X P' hk hX hP => ?_)
  show kcall cal ix_X11_within [.int a3, .int 0, .int 1] (st S hs) [] 0 0 (0, 0) (fun v σ' c' m' => X (6, [some (.ref 7), some (.int a1), some (.int a2), some (.int a3), none, none, none, none], v.toList ++ [], σ', c', m'))
  refine kcall0 rfl (hk _ _ _ _ _ _ (e_X11_within (d + 6) S hs a3 0 1 _ ?_))
  show X (6, [some (.ref 7), some (.int a1), some (.int a2), some (.int a3), none, none, none, none], [.int (r_X11_within a3 0 1)], st S hs, 0, 0)
  refine hX _ ?_
  clear hP hX hk P' X cal
  refine Wp.stepsG 1 (fun cal X P' hk hX hP => ?_)
  show (¬ (r_X11_within a3 0 1) = 0 → X (13, [some (.ref 7), some (.int a1), some (.int a2), some (.int a3), none, none, none, none], [], st S hs, 0, 0)) ∧ ((r_X11_within a3 0 1) = 0 → X (9, [some (.ref 7), some (.int a1), some (.int a2), some (.int a3), none, none, none, none], [], st S hs, 0, 0))
  refine ⟨fun hc => hX _ ?_, fun hc => hX _ ?_⟩
  · clear hP hX hk P' X cal
    rw [if_neg hc] at hr
    refine Wp.stepsG 3 (fun cal X P' hk hX hP => ?_)
    show kcall cal ix_X11_isTable [.ref 7, .int a1] (st S hs) [] 0 0 (0, 0) (fun v σ' c' m' => X (18, [some (.ref 7), some (.int a1), some (.int a2), some (.int a3), none, none, none, none], v.toList ++ [], σ', c', m'))
    refine kcall0 rfl (hk _ _ _ _ _ _ (e_X11_isTable (d + 5) S hs a1 _ ?_))
    show X (18, [some (.ref 7), some (.int a1), some (.int a2), some (.int a3), none, none, none, none], [.int (r_X11_isTable S a1)], st S hs, 0, 0)
    refine hX _ ?_
    clear hP hX hk P' X cal
    refine Wp.stepsG 1 (fun cal X P' hk hX hP => ?_)
    show ((r_X11_isTable S a1) = 0 → X (31, [some (.ref 7), some (.int a1), some (.int a2), some (.int a3), none, none, none, none], [], st S hs, 0, 0)) ∧ (¬ (r_X11_isTable S a1) = 0 → X (21, [some (.ref 7), some (.int a1), some (.int a2), some (.int a3), none, none, none, none], [], st S hs, 0, 0))
    refine ⟨fun hc => hX _ ?_, fun hc => hX _ ?_⟩
    · clear hP hX hk P' X cal
      rw [if_pos hc] at hr
      have hr := Option.some.inj hr
      subst hr
      refine Wp.stepsG 2 (fun cal X P' hk hX hP => ?_)
      exact hP _ _ h
    · clear hP hX hk P' X cal
      rw [if_neg hc] at hr
      refine Wp.stepsG 4 (fun cal X P' hk hX hP => ?_)
      show kcall cal ix_X11_within [.int a2, .int 1, .int 40] (st S hs) [] 0 0 (0, 0) (fun v σ' c' m' => X (28, [some (.ref 7), some (.int a1), some (.int a2), some (.int a3), none, none, none, none], v.toList ++ [], σ', c', m'))
      refine kcall0 rfl (hk _ _ _ _ _ _ (e_X11_within (d + 6) S hs a2 1 40 _ ?_))
      show X (28, [some (.ref 7), some (.int a1), some (.int a2), some (.int a3), none, none, none, none], [.int (r_X11_within a2 1 40)], st S hs, 0, 0)
      refine hX _ ?_
      clear hP hX hk P' X cal
      refine Wp.stepsG 1 (fun cal X P' hk hX hP => ?_)
      show (¬ (r_X11_within a2 1 40) = 0 → X (35, [some (.ref 7), some (.int a1), some (.int a2), some (.int a3), none, none, none, none], [], st S hs, 0, 0)) ∧ ((r_X11_within a2 1 40) = 0 → X (31, [some (.ref 7), some (.int a1), some (.int a2), some (.int a3), none, none, none, none], [], st S hs, 0, 0))
      refine ⟨fun hc => hX _ ?_, fun hc => hX _ ?_⟩
      · clear hP hX hk P' X cal
        rw [if_neg hc] at hr
        refine Wp.stepsG 8 (fun cal X P' hk hX hP => ?_)
        show kcall cal ix_X11_weigh [.ref 7, .ref 34, .int a1, .int (S.1 8 0)] (st S hs) [] 0 0 (0, 0) (fun v σ' c' m' => X (51, [some (.ref 7), some (.int a1), some (.int a2), some (.int a3), none, none, none, none], v.toList ++ [], σ', c', m'))
        obtain ⟨q1, hq1, hr⟩ := bd_some hr
        refine kcall0 rfl (hk _ _ _ _ _ _ (e_X11_weigh_34 (d + 0) S hs a1 (S.1 8 0) q1 hq1 _ ?_))
        show X (51, [some (.ref 7), some (.int a1), some (.int a2), some (.int a3), none, none, none, none], [], st q1.2 hs, 0, 0)
        refine hX _ ?_
        clear hP hX hk P' X cal
        refine Wp.stepsG 6 (fun cal X P' hk hX hP => ?_)
        show X (60, [some (.ref 7), some (.int a1), some (.int a2), some (.int a3), some (.int 0), some (.int 0), some (.int 1), none], [], st q1.2 hs, 0, 0)
        refine hX _ ?_
        clear hP hX hk P' X cal
        obtain ⟨q4, hq4, hr⟩ := bd_some hr
        refine Wp.weak (leL.k (leL.n (leL.k (leL.k (leL.k (leL.k (leL.k (leL.k leL.z)))))))) (e_lp_X11_evening_60 d hs P q1.2 a2 a3 _ 0 0 1 q4 hq4 ?_)
        refine Wp.stepsG 2 (fun cal X P' hk hX hP => ?_)
        show (¬ a3 = 0 → X (131, [some (.ref 7), none, some (.int a2), some (.int a3), some (.int q4.1), some (.int q4.2), none, none], [], st q1.2 hs, 0, 0)) ∧ (a3 = 0 → X (126, [some (.ref 7), none, some (.int a2), some (.int a3), some (.int q4.1), some (.int q4.2), none, none], [], st q1.2 hs, 0, 0))
        refine ⟨fun hc => hX _ ?_, fun hc => hX _ ?_⟩
        · clear hP hX hk P' X cal
          rw [if_neg hc] at hr
          have hr := Option.some.inj hr
          subst hr
          refine Wp.stepsG 2 (fun cal X P' hk hX hP => ?_)
          exact hP _ _ h
        · clear hP hX hk P' X cal
          rw [if_pos hc] at hr
          have hr := Option.some.inj hr
          subst hr
          refine Wp.stepsG 3 (fun cal X P' hk hX hP => ?_)
          exact hP _ _ h
      · clear hP hX hk P' X cal
        rw [if_pos hc] at hr
        have hr := Option.some.inj hr
        subst hr
        refine Wp.stepsG 2 (fun cal X P' hk hX hP => ?_)
        exact hP _ _ h
  · clear hP hX hk P' X cal
    rw [if_pos hc] at hr
    have hr := Option.some.inj hr
    subst hr
    refine Wp.stepsG 2 (fun cal X P' hk hX hP => ?_)
    exact hP _ _ h
