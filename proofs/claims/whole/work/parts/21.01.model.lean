def r_X12_at (S : St) (a1 : Int32) (a2 : Int32) : Option Int32 :=
  if (r_X12_isStory S a1) = 0 then
    some (-1)
  else
    if a2 = 0 then
      gd (¬ (a1 < 0 ∨ 8 ≤ a1.toNatClampNeg)) (
        some ((S.1 77) a1.toNatClampNeg))
    else
      if a2 = 1 then
        gd (¬ (a1 < 0 ∨ 8 ≤ a1.toNatClampNeg)) (
          some ((S.1 78) a1.toNatClampNeg))
      else
        some (-1)
set_option maxRecDepth 20000 in
set_option maxHeartbeats 4000000 in
theorem e_X12_at (d : Nat) (S : St) (hs : List Hr) (a1 : Int32) (a2 : Int32) (v : Int32) (hr : r_X12_at S a1 a2 = some v) (P : Option Value → Hp → Prop) (h : P (some (.int v)) (st S hs)) : Ev (d + 3) ix_X12_at 0 0 [.ref 76, .int a1, .int a2] (st S hs) P := by
  refine Ev.intro (M := mi_X12_at) rfl (Nat.le_of_ble_eq_true rfl) ?_
  unfold r_X12_at at hr
  refine Wp.stepsG 3 (fun cal X P' hk hX hP => ?_)
  show kcall cal ix_X12_isStory [.ref 76, .int a1] (st S hs) [] 0 0 (0, 0) (fun v σ' c' m' => X (5, [some (.ref 76), some (.int a1), some (.int a2)], v.toList ++ [], σ', c', m'))
  refine kcall0 rfl (hk _ _ _ _ _ _ (e_X12_isStory (d + 0) S hs a1 _ ?_))
  show X (5, [some (.ref 76), some (.int a1), some (.int a2)], [.int (r_X12_isStory S a1)], st S hs, 0, 0)
  refine hX _ ?_
  clear hP hX hk P' X cal
  refine Wp.stepsG 1 (fun cal X P' hk hX hP => ?_)
  show (¬ (r_X12_isStory S a1) = 0 → X (12, [some (.ref 76), some (.int a1), some (.int a2)], [], st S hs, 0, 0)) ∧ ((r_X12_isStory S a1) = 0 → X (8, [some (.ref 76), some (.int a1), some (.int a2)], [], st S hs, 0, 0))
  refine ⟨fun hc => hX _ ?_, fun hc => hX _ ?_⟩
  · clear hP hX hk P' X cal
    rw [if_neg hc] at hr
    refine Wp.stepsG 2 (fun cal X P' hk hX hP => ?_)
    show (¬ a2 = 0 → X (25, [some (.ref 76), some (.int a1), some (.int a2)], [], st S hs, 0, 0)) ∧ (a2 = 0 → X (16, [some (.ref 76), some (.int a1), some (.int a2)], [], st S hs, 0, 0))
    refine ⟨fun hc => hX _ ?_, fun hc => hX _ ?_⟩
    · clear hP hX hk P' X cal
      rw [if_neg hc] at hr
      refine Wp.stepsG 3 (fun cal X P' hk hX hP => ?_)
      show (¬ a2 = 1 → X (39, [some (.ref 76), some (.int a1), some (.int a2)], [], st S hs, 0, 0)) ∧ (a2 = 1 → X (30, [some (.ref 76), some (.int a1), some (.int a2)], [], st S hs, 0, 0))
      refine ⟨fun hc => hX _ ?_, fun hc => hX _ ?_⟩
      · clear hP hX hk P' X cal
        rw [if_neg hc] at hr
        have hr := Option.some.inj hr
        subst hr
        refine Wp.stepsG 2 (fun cal X P' hk hX hP => ?_)
        exact hP _ _ h
      · clear hP hX hk P' X cal
        rw [if_pos hc] at hr
        refine Wp.stepsG 4 (fun cal X P' hk hX hP => ?_)
        show vp_in a1 8 ∧ X (36, [some (.ref 76), some (.int a1), some (.int a2)], [.int ((S.1 78) a1.toNatClampNeg)], st S hs, 0, 0)
        obtain ⟨hg, hr⟩ := gd_some hr
        refine ⟨hg, hX _ ?_⟩
        clear hP hX hk P' X cal
        have hr := Option.some.inj hr
        subst hr
        refine Wp.stepsG 2 (fun cal X P' hk hX hP => ?_)
        exact hP _ _ h
    · clear hP hX hk P' X cal
      rw [if_pos hc] at hr
      refine Wp.stepsG 4 (fun cal X P' hk hX hP => ?_)
      show vp_in a1 8 ∧ X (22, [some (.ref 76), some (.int a1), some (.int a2)], [.int ((S.1 77) a1.toNatClampNeg)], st S hs, 0, 0)
      obtain ⟨hg, hr⟩ := gd_some hr
      refine ⟨hg, hX _ ?_⟩
      clear hP hX hk P' X cal
      have hr := Option.some.inj hr
      subst hr
      refine Wp.stepsG 2 (fun cal X P' hk hX hP => ?_)
      exact hP _ _ h
  · clear hP hX hk P' X cal
    rw [if_pos hc] at hr
    have hr := Option.some.inj hr
    subst hr
    refine Wp.stepsG 3 (fun cal X P' hk hX hP => ?_)
    exact hP _ _ h
def r_X12_good (S : St) (a1 : Int32) (a2 : Int32) : Option (Int32 × St) :=
  if (r_X12_isStory S a1) = 0 then
    some ((-1), S)
  else
    if (r_X12_in a2 1 30) = 0 then
      some ((-2), S)
    else
      gd (¬ (a1 < 0 ∨ 8 ≤ a1.toNatClampNeg)) (
        gd (¬ (a1 < 0 ∨ 8 ≤ a1.toNatClampNeg)) (
          some ((S.1 77) a1.toNatClampNeg, sA S 77 (upd (S.1 77) a1.toNatClampNeg a2))))
set_option maxRecDepth 20000 in
set_option maxHeartbeats 4000000 in
theorem e_X12_good (d : Nat) (S : St) (hs : List Hr) (a1 : Int32) (a2 : Int32) (v : Int32 × St) (hr : r_X12_good S a1 a2 = some v) (P : Option Value → Hp → Prop) (h : P (some (.int v.1)) (st v.2 hs)) : Ev (d + 3) ix_X12_good 0 0 [.ref 76, .int a1, .int a2] (st S hs) P := by
  refine Ev.intro (M := mi_X12_good) rfl (Nat.le_of_ble_eq_true rfl) ?_
  unfold r_X12_good at hr
  refine Wp.stepsG 3 (fun cal X P' hk hX hP => ?_)
  show kcall cal ix_X12_isStory [.ref 76, .int a1] (st S hs) [] 0 0 (0, 0) (fun v σ' c' m' => X (5, [some (.ref 76), some (.int a1), some (.int a2), none], v.toList ++ [], σ', c', m'))
  refine kcall0 rfl (hk _ _ _ _ _ _ (e_X12_isStory (d + 0) S hs a1 _ ?_))
  show X (5, [some (.ref 76), some (.int a1), some (.int a2), none], [.int (r_X12_isStory S a1)], st S hs, 0, 0)
  refine hX _ ?_
  clear hP hX hk P' X cal
  refine Wp.stepsG 1 (fun cal X P' hk hX hP => ?_)
  show (¬ (r_X12_isStory S a1) = 0 → X (10, [some (.ref 76), some (.int a1), some (.int a2), none], [], st S hs, 0, 0)) ∧ ((r_X12_isStory S a1) = 0 → X (8, [some (.ref 76), some (.int a1), some (.int a2), none], [], st S hs, 0, 0))
  refine ⟨fun hc => hX _ ?_, fun hc => hX _ ?_⟩
  · clear hP hX hk P' X cal
    rw [if_neg hc] at hr
    refine Wp.stepsG 5 (fun cal X P' hk hX hP => ?_)
    show kcall cal ix_X12_in [.ref 76, .int a2, .int 1, .int 30] (st S hs) [] 0 0 (0, 0) (fun v σ' c' m' => X (18, [some (.ref 76), some (.int a1), some (.int a2), none], v.toList ++ [], σ', c', m'))
    refine kcall0 rfl (hk _ _ _ _ _ _ (e_X12_in (d + 1) S hs a2 1 30 _ ?_))
    show X (18, [some (.ref 76), some (.int a1), some (.int a2), none], [.int (r_X12_in a2 1 30)], st S hs, 0, 0)
    refine hX _ ?_
    clear hP hX hk P' X cal
    refine Wp.stepsG 1 (fun cal X P' hk hX hP => ?_)
    show (¬ (r_X12_in a2 1 30) = 0 → X (24, [some (.ref 76), some (.int a1), some (.int a2), none], [], st S hs, 0, 0)) ∧ ((r_X12_in a2 1 30) = 0 → X (21, [some (.ref 76), some (.int a1), some (.int a2), none], [], st S hs, 0, 0))
    refine ⟨fun hc => hX _ ?_, fun hc => hX _ ?_⟩
    · clear hP hX hk P' X cal
      rw [if_neg hc] at hr
      refine Wp.stepsG 4 (fun cal X P' hk hX hP => ?_)
      show vp_in a1 8 ∧ X (30, [some (.ref 76), some (.int a1), some (.int a2), none], [.int ((S.1 77) a1.toNatClampNeg)], st S hs, 0, 0)
      obtain ⟨hg, hr⟩ := gd_some hr
      refine ⟨hg, hX _ ?_⟩
      clear hP hX hk P' X cal
      refine Wp.stepsG 6 (fun cal X P' hk hX hP => ?_)
      show vp_in a1 8 ∧ X (38, [some (.ref 76), some (.int a1), some (.int a2), some (.int ((S.1 77) a1.toNatClampNeg))], [], st (sA S 77 (upd (S.1 77) a1.toNatClampNeg a2)) hs, 0, 0)
      obtain ⟨hg, hr⟩ := gd_some hr
      refine ⟨hg, hX _ ?_⟩
      clear hP hX hk P' X cal
      have hr := Option.some.inj hr
      subst hr
      refine Wp.stepsG 2 (fun cal X P' hk hX hP => ?_)
      exact hP _ _ h
    · clear hP hX hk P' X cal
      rw [if_pos hc] at hr
      have hr := Option.some.inj hr
      subst hr
      refine Wp.stepsG 2 (fun cal X P' hk hX hP => ?_)
      exact hP _ _ h
  · clear hP hX hk P' X cal
    rw [if_pos hc] at hr
    have hr := Option.some.inj hr
    subst hr
    refine Wp.stepsG 2 (fun cal X P' hk hX hP => ?_)
    exact hP _ _ h
def r_X12_had (S : St) (a1 : Int32) (a2 : Int32) (a3 : Int32) : Option (Int32 × St) :=
  if (r_X12_isHearer S a1) = 0 then
    some ((-1), S)
  else
    if (r_X12_isStory S a2) = 0 then
      some ((-1), S)
    else
      if (r_X12_in a3 0 99) = 0 then
        some ((-2), S)
      else
        gd (¬ ((((8 : Int32) * a1) + a2) < 0 ∨ 48 ≤ (((8 : Int32) * a1) + a2).toNatClampNeg)) (
          gd (¬ ((((8 : Int32) * a1) + a2) < 0 ∨ 48 ≤ (((8 : Int32) * a1) + a2).toNatClampNeg)) (
            gd (¬ ((((8 : Int32) * a1) + a2) < 0 ∨ 48 ≤ (((8 : Int32) * a1) + a2).toNatClampNeg)) (
              some ((S.1 82) (((8 : Int32) * a1) + a2).toNatClampNeg, sA (sA S 82 (upd (S.1 82) (((8 : Int32) * a1) + a2).toNatClampNeg a3)) 83 (upd (S.1 83) (((8 : Int32) * a1) + a2).toNatClampNeg (S.1 76 2))))))
set_option maxRecDepth 20000 in
set_option maxHeartbeats 4000000 in
theorem e_X12_had (d : Nat) (S : St) (hs : List Hr) (a1 : Int32) (a2 : Int32) (a3 : Int32) (v : Int32 × St) (hr : r_X12_had S a1 a2 a3 = some v) (P : Option Value → Hp → Prop) (h : P (some (.int v.1)) (st v.2 hs)) : Ev (d + 3) ix_X12_had 0 0 [.ref 76, .int a1, .int a2, .int a3] (st S hs) P := by
  refine Ev.intro (M := mi_X12_had) rfl (Nat.le_of_ble_eq_true rfl) ?_
  unfold r_X12_had at hr
  refine Wp.stepsG 3 (fun cal X P' hk hX hP => ?_)
  show kcall cal ix_X12_isHearer [.ref 76, .int a1] (st S hs) [] 0 0 (0, 0) (fun v σ' c' m' => X (5, [some (.ref 76), some (.int a1), some (.int a2), some (.int a3), none], v.toList ++ [], σ', c', m'))
  refine kcall0 rfl (hk _ _ _ _ _ _ (e_X12_isHearer (d + 0) S hs a1 _ ?_))
  show X (5, [some (.ref 76), some (.int a1), some (.int a2), some (.int a3), none], [.int (r_X12_isHearer S a1)], st S hs, 0, 0)
  refine hX _ ?_
  clear hP hX hk P' X cal
  refine Wp.stepsG 1 (fun cal X P' hk hX hP => ?_)
  show ((r_X12_isHearer S a1) = 0 → X (16, [some (.ref 76), some (.int a1), some (.int a2), some (.int a3), none], [], st S hs, 0, 0)) ∧ (¬ (r_X12_isHearer S a1) = 0 → X (8, [some (.ref 76), some (.int a1), some (.int a2), some (.int a3), none], [], st S hs, 0, 0))
  refine ⟨fun hc => hX _ ?_, fun hc => hX _ ?_⟩
  · clear hP hX hk P' X cal
    rw [if_pos hc] at hr
    have hr := Option.some.inj hr
    subst hr
    refine Wp.stepsG 2 (fun cal X P' hk hX hP => ?_)
    exact hP _ _ h
  · clear hP hX hk P' X cal
    rw [if_neg hc] at hr
    refine Wp.stepsG 3 (fun cal X P' hk hX hP => ?_)
    show kcall cal ix_X12_isStory [.ref 76, .int a2] (st S hs) [] 0 0 (0, 0) (fun v σ' c' m' => X (13, [some (.ref 76), some (.int a1), some (.int a2), some (.int a3), none], v.toList ++ [], σ', c', m'))
    refine kcall0 rfl (hk _ _ _ _ _ _ (e_X12_isStory (d + 0) S hs a2 _ ?_))
    show X (13, [some (.ref 76), some (.int a1), some (.int a2), some (.int a3), none], [.int (r_X12_isStory S a2)], st S hs, 0, 0)
    refine hX _ ?_
    clear hP hX hk P' X cal
    refine Wp.stepsG 1 (fun cal X P' hk hX hP => ?_)
    show (¬ (r_X12_isStory S a2) = 0 → X (18, [some (.ref 76), some (.int a1), some (.int a2), some (.int a3), none], [], st S hs, 0, 0)) ∧ ((r_X12_isStory S a2) = 0 → X (16, [some (.ref 76), some (.int a1), some (.int a2), some (.int a3), none], [], st S hs, 0, 0))
    refine ⟨fun hc => hX _ ?_, fun hc => hX _ ?_⟩
    · clear hP hX hk P' X cal
      rw [if_neg hc] at hr
      refine Wp.stepsG 5 (fun cal X P' hk hX hP => ?_)
      show kcall cal ix_X12_in [.ref 76, .int a3, .int 0, .int 99] (st S hs) [] 0 0 (0, 0) (fun v σ' c' m' => X (26, [some (.ref 76), some (.int a1), some (.int a2), some (.int a3), none], v.toList ++ [], σ', c', m'))
      refine kcall0 rfl (hk _ _ _ _ _ _ (e_X12_in (d + 1) S hs a3 0 99 _ ?_))
      show X (26, [some (.ref 76), some (.int a1), some (.int a2), some (.int a3), none], [.int (r_X12_in a3 0 99)], st S hs, 0, 0)
      refine hX _ ?_
      clear hP hX hk P' X cal
      refine Wp.stepsG 1 (fun cal X P' hk hX hP => ?_)
      show (¬ (r_X12_in a3 0 99) = 0 → X (32, [some (.ref 76), some (.int a1), some (.int a2), some (.int a3), none], [], st S hs, 0, 0)) ∧ ((r_X12_in a3 0 99) = 0 → X (29, [some (.ref 76), some (.int a1), some (.int a2), some (.int a3), none], [], st S hs, 0, 0))
      refine ⟨fun hc => hX _ ?_, fun hc => hX _ ?_⟩
      · clear hP hX hk P' X cal
        rw [if_neg hc] at hr
        refine Wp.stepsG 8 (fun cal X P' hk hX hP => ?_)
        show vp_in (((8 : Int32) * a1) + a2) 48 ∧ X (43, [some (.ref 76), some (.int a1), some (.int a2), some (.int a3), none], [.int ((S.1 82) (((8 : Int32) * a1) + a2).toNatClampNeg)], st S hs, 0, 0)
        obtain ⟨hg, hr⟩ := gd_some hr
        refine ⟨hg, hX _ ?_⟩
        clear hP hX hk P' X cal
        refine Wp.stepsG 10 (fun cal X P' hk hX hP => ?_)
        show vp_in (((8 : Int32) * a1) + a2) 48 ∧ X (57, [some (.ref 76), some (.int a1), some (.int a2), some (.int a3), some (.int ((S.1 82) (((8 : Int32) * a1) + a2).toNatClampNeg))], [], st (sA S 82 (upd (S.1 82) (((8 : Int32) * a1) + a2).toNatClampNeg a3)) hs, 0, 0)
        obtain ⟨hg, hr⟩ := gd_some hr
        refine ⟨hg, hX _ ?_⟩
        clear hP hX hk P' X cal
        refine Wp.stepsG 10 (fun cal X P' hk hX hP => ?_)
        show vp_in (((8 : Int32) * a1) + a2) 48 ∧ X (72, [some (.ref 76), some (.int a1), some (.int a2), some (.int a3), some (.int ((S.1 82) (((8 : Int32) * a1) + a2).toNatClampNeg))], [], st (sA (sA S 82 (upd (S.1 82) (((8 : Int32) * a1) + a2).toNatClampNeg a3)) 83 (upd (S.1 83) (((8 : Int32) * a1) + a2).toNatClampNeg (S.1 76 2))) hs, 0, 0)
        obtain ⟨hg, hr⟩ := gd_some hr
        refine ⟨hg, hX _ ?_⟩
        clear hP hX hk P' X cal
        have hr := Option.some.inj hr
        subst hr
        refine Wp.stepsG 2 (fun cal X P' hk hX hP => ?_)
        exact hP _ _ h
      · clear hP hX hk P' X cal
        rw [if_pos hc] at hr
        have hr := Option.some.inj hr
        subst hr
        refine Wp.stepsG 2 (fun cal X P' hk hX hP => ?_)
        exact hP _ _ h
    · clear hP hX hk P' X cal
      rw [if_pos hc] at hr
      have hr := Option.some.inj hr
      subst hr
      refine Wp.stepsG 2 (fun cal X P' hk hX hP => ?_)
      exact hP _ _ h
def r_X12_row (S : St) (a1 : Int32) (a2 : Int32) (a3 : Int32) : Option (Int32 × St) :=
  if (r_X12_isHearer S a1) = 0 then
    some ((-1), S)
  else
    if (r_X12_in a2 0 3) = 0 then
      some ((-1), S)
    else
      if (r_X12_in a3 1 9) = 0 then
        some ((-2), S)
      else
        gd (¬ (a1 < 0 ∨ 6 ≤ a1.toNatClampNeg)) (
          if ((S.1 79) a1.toNatClampNeg) = 6 then
            gd (¬ ((((4 : Int32) * a1) + a2) < 0 ∨ 24 ≤ (((4 : Int32) * a1) + a2).toNatClampNeg)) (
              gd (¬ ((((4 : Int32) * a1) + a2) < 0 ∨ 24 ≤ (((4 : Int32) * a1) + a2).toNatClampNeg)) (
                some ((S.1 81) (((4 : Int32) * a1) + a2).toNatClampNeg, sA S 81 (upd (S.1 81) (((4 : Int32) * a1) + a2).toNatClampNeg a3))))
          else
            some ((-3), S))
set_option maxRecDepth 20000 in
set_option maxHeartbeats 4000000 in
theorem e_X12_row (d : Nat) (S : St) (hs : List Hr) (a1 : Int32) (a2 : Int32) (a3 : Int32) (v : Int32 × St) (hr : r_X12_row S a1 a2 a3 = some v) (P : Option Value → Hp → Prop) (h : P (some (.int v.1)) (st v.2 hs)) : Ev (d + 3) ix_X12_row 0 0 [.ref 76, .int a1, .int a2, .int a3] (st S hs) P := by
  refine Ev.intro (M := mi_X12_row) rfl (Nat.le_of_ble_eq_true rfl) ?_
  unfold r_X12_row at hr
  refine Wp.stepsG 3 (fun cal X P' hk hX hP => ?_)
  show kcall cal ix_X12_isHearer [.ref 76, .int a1] (st S hs) [] 0 0 (0, 0) (fun v σ' c' m' => X (5, [some (.ref 76), some (.int a1), some (.int a2), some (.int a3), none], v.toList ++ [], σ', c', m'))
  refine kcall0 rfl (hk _ _ _ _ _ _ (e_X12_isHearer (d + 0) S hs a1 _ ?_))
  show X (5, [some (.ref 76), some (.int a1), some (.int a2), some (.int a3), none], [.int (r_X12_isHearer S a1)], st S hs, 0, 0)
  refine hX _ ?_
  clear hP hX hk P' X cal
  refine Wp.stepsG 1 (fun cal X P' hk hX hP => ?_)
  show ((r_X12_isHearer S a1) = 0 → X (18, [some (.ref 76), some (.int a1), some (.int a2), some (.int a3), none], [], st S hs, 0, 0)) ∧ (¬ (r_X12_isHearer S a1) = 0 → X (8, [some (.ref 76), some (.int a1), some (.int a2), some (.int a3), none], [], st S hs, 0, 0))
  refine ⟨fun hc => hX _ ?_, fun hc => hX _ ?_⟩
  · clear hP hX hk P' X cal
    rw [if_pos hc] at hr
    have hr := Option.some.inj hr
    subst hr
    refine Wp.stepsG 2 (fun cal X P' hk hX hP => ?_)
    exact hP _ _ h
  · clear hP hX hk P' X cal
    rw [if_neg hc] at hr
    refine Wp.stepsG 5 (fun cal X P' hk hX hP => ?_)
    show kcall cal ix_X12_in [.ref 76, .int a2, .int 0, .int 3] (st S hs) [] 0 0 (0, 0) (fun v σ' c' m' => X (15, [some (.ref 76), some (.int a1), some (.int a2), some (.int a3), none], v.toList ++ [], σ', c', m'))
    refine kcall0 rfl (hk _ _ _ _ _ _ (e_X12_in (d + 1) S hs a2 0 3 _ ?_))
    show X (15, [some (.ref 76), some (.int a1), some (.int a2), some (.int a3), none], [.int (r_X12_in a2 0 3)], st S hs, 0, 0)
    refine hX _ ?_
    clear hP hX hk P' X cal
    refine Wp.stepsG 1 (fun cal X P' hk hX hP => ?_)
    show (¬ (r_X12_in a2 0 3) = 0 → X (20, [some (.ref 76), some (.int a1), some (.int a2), some (.int a3), none], [], st S hs, 0, 0)) ∧ ((r_X12_in a2 0 3) = 0 → X (18, [some (.ref 76), some (.int a1), some (.int a2), some (.int a3), none], [], st S hs, 0, 0))
    refine ⟨fun hc => hX _ ?_, fun hc => hX _ ?_⟩
    · clear hP hX hk P' X cal
      rw [if_neg hc] at hr
      refine Wp.stepsG 5 (fun cal X P' hk hX hP => ?_)
      show kcall cal ix_X12_in [.ref 76, .int a3, .int 1, .int 9] (st S hs) [] 0 0 (0, 0) (fun v σ' c' m' => X (28, [some (.ref 76), some (.int a1), some (.int a2), some (.int a3), none], v.toList ++ [], σ', c', m'))
      refine kcall0 rfl (hk _ _ _ _ _ _ (e_X12_in (d + 1) S hs a3 1 9 _ ?_))
      show X (28, [some (.ref 76), some (.int a1), some (.int a2), some (.int a3), none], [.int (r_X12_in a3 1 9)], st S hs, 0, 0)
      refine hX _ ?_
      clear hP hX hk P' X cal
      refine Wp.stepsG 1 (fun cal X P' hk hX hP => ?_)
      show (¬ (r_X12_in a3 1 9) = 0 → X (34, [some (.ref 76), some (.int a1), some (.int a2), some (.int a3), none], [], st S hs, 0, 0)) ∧ ((r_X12_in a3 1 9) = 0 → X (31, [some (.ref 76), some (.int a1), some (.int a2), some (.int a3), none], [], st S hs, 0, 0))
      refine ⟨fun hc => hX _ ?_, fun hc => hX _ ?_⟩
      · clear hP hX hk P' X cal
        rw [if_neg hc] at hr
        refine Wp.stepsG 4 (fun cal X P' hk hX hP => ?_)
        show vp_in a1 6 ∧ X (40, [some (.ref 76), some (.int a1), some (.int a2), some (.int a3), none], [.int ((S.1 79) a1.toNatClampNeg)], st S hs, 0, 0)
        obtain ⟨hg, hr⟩ := gd_some hr
        refine ⟨hg, hX _ ?_⟩
        clear hP hX hk P' X cal
        refine Wp.stepsG 2 (fun cal X P' hk hX hP => ?_)
        show (((S.1 79) a1.toNatClampNeg) = 6 → X (48, [some (.ref 76), some (.int a1), some (.int a2), some (.int a3), none], [], st S hs, 0, 0)) ∧ (¬ ((S.1 79) a1.toNatClampNeg) = 6 → X (45, [some (.ref 76), some (.int a1), some (.int a2), some (.int a3), none], [], st S hs, 0, 0))
        refine ⟨fun hc => hX _ ?_, fun hc => hX _ ?_⟩
        · clear hP hX hk P' X cal
          rw [if_pos hc] at hr
          refine Wp.stepsG 8 (fun cal X P' hk hX hP => ?_)
          show vp_in (((4 : Int32) * a1) + a2) 24 ∧ X (58, [some (.ref 76), some (.int a1), some (.int a2), some (.int a3), none], [.int ((S.1 81) (((4 : Int32) * a1) + a2).toNatClampNeg)], st S hs, 0, 0)
          obtain ⟨hg, hr⟩ := gd_some hr
          refine ⟨hg, hX _ ?_⟩
          clear hP hX hk P' X cal
          refine Wp.stepsG 10 (fun cal X P' hk hX hP => ?_)
          show vp_in (((4 : Int32) * a1) + a2) 24 ∧ X (71, [some (.ref 76), some (.int a1), some (.int a2), some (.int a3), some (.int ((S.1 81) (((4 : Int32) * a1) + a2).toNatClampNeg))], [], st (sA S 81 (upd (S.1 81) (((4 : Int32) * a1) + a2).toNatClampNeg a3)) hs, 0, 0)
          obtain ⟨hg, hr⟩ := gd_some hr
          refine ⟨hg, hX _ ?_⟩
          clear hP hX hk P' X cal
          have hr := Option.some.inj hr
          subst hr
          refine Wp.stepsG 2 (fun cal X P' hk hX hP => ?_)
          exact hP _ _ h
        · clear hP hX hk P' X cal
          rw [if_neg hc] at hr
          have hr := Option.some.inj hr
          subst hr
          refine Wp.stepsG 2 (fun cal X P' hk hX hP => ?_)
          exact hP _ _ h
      · clear hP hX hk P' X cal
        rw [if_pos hc] at hr
        have hr := Option.some.inj hr
        subst hr
        refine Wp.stepsG 2 (fun cal X P' hk hX hP => ?_)
        exact hP _ _ h
    · clear hP hX hk P' X cal
      rw [if_pos hc] at hr
      have hr := Option.some.inj hr
      subst hr
      refine Wp.stepsG 2 (fun cal X P' hk hX hP => ?_)
      exact hP _ _ h
def r_X12_feed (S : St) (a1 : Int32) : Option (Int32 × St) :=
  if (r_X12_in a1 0 127) = 0 then
    some ((-2), S)
  else
    if (S.1 76 12) = 100 then
      some ((-4), S)
    else
      gd (¬ ((S.1 76 12) < 0 ∨ 100 ≤ (S.1 76 12).toNatClampNeg)) (
        some ((S.1 76 12) + 1, sI (sA S 84 (upd (S.1 84) (S.1 76 12).toNatClampNeg a1)) 76 12 ((S.1 76 12) + 1)))
set_option maxRecDepth 20000 in
set_option maxHeartbeats 4000000 in
theorem e_X12_feed (d : Nat) (S : St) (hs : List Hr) (a1 : Int32) (v : Int32 × St) (hr : r_X12_feed S a1 = some v) (P : Option Value → Hp → Prop) (h : P (some (.int v.1)) (st v.2 hs)) : Ev (d + 2) ix_X12_feed 0 0 [.ref 76, .int a1] (st S hs) P := by
  refine Ev.intro (M := mi_X12_feed) rfl (Nat.le_of_ble_eq_true rfl) ?_
  unfold r_X12_feed at hr
  refine Wp.stepsG 5 (fun cal X P' hk hX hP => ?_)
  show kcall cal ix_X12_in [.ref 76, .int a1, .int 0, .int 127] (st S hs) [] 0 0 (0, 0) (fun v σ' c' m' => X (8, [some (.ref 76), some (.int a1)], v.toList ++ [], σ', c', m'))
  refine kcall0 rfl (hk _ _ _ _ _ _ (e_X12_in (d + 0) S hs a1 0 127 _ ?_))
  show X (8, [some (.ref 76), some (.int a1)], [.int (r_X12_in a1 0 127)], st S hs, 0, 0)
  refine hX _ ?_
  clear hP hX hk P' X cal
  refine Wp.stepsG 1 (fun cal X P' hk hX hP => ?_)
  show (¬ (r_X12_in a1 0 127) = 0 → X (14, [some (.ref 76), some (.int a1)], [], st S hs, 0, 0)) ∧ ((r_X12_in a1 0 127) = 0 → X (11, [some (.ref 76), some (.int a1)], [], st S hs, 0, 0))
  refine ⟨fun hc => hX _ ?_, fun hc => hX _ ?_⟩
  · clear hP hX hk P' X cal
    rw [if_neg hc] at hr
    refine Wp.stepsG 4 (fun cal X P' hk hX hP => ?_)
    show (¬ (S.1 76 12) = 100 → X (26, [some (.ref 76), some (.int a1)], [], st S hs, 0, 0)) ∧ ((S.1 76 12) = 100 → X (23, [some (.ref 76), some (.int a1)], [], st S hs, 0, 0))
    refine ⟨fun hc => hX _ ?_, fun hc => hX _ ?_⟩
    · clear hP hX hk P' X cal
      rw [if_neg hc] at hr
      refine Wp.stepsG 6 (fun cal X P' hk hX hP => ?_)
      show vp_in (S.1 76 12) 100 ∧ X (36, [some (.ref 76), some (.int a1)], [], st (sA S 84 (upd (S.1 84) (S.1 76 12).toNatClampNeg a1)) hs, 0, 0)
      obtain ⟨hg, hr⟩ := gd_some hr
      refine ⟨hg, hX _ ?_⟩
      clear hP hX hk P' X cal
      have hr := Option.some.inj hr
      subst hr
      refine Wp.stepsG 9 (fun cal X P' hk hX hP => ?_)
      exact hP _ _ h
    · clear hP hX hk P' X cal
      rw [if_pos hc] at hr
      have hr := Option.some.inj hr
      subst hr
      refine Wp.stepsG 2 (fun cal X P' hk hX hP => ?_)
      exact hP _ _ h
  · clear hP hX hk P' X cal
    rw [if_pos hc] at hr
    have hr := Option.some.inj hr
    subst hr
    refine Wp.stepsG 2 (fun cal X P' hk hX hP => ?_)
    exact hP _ _ h
def r_X12_next (S : St) : Option Int32 :=
  if (S.1 76 12) ≤ (S.1 76 13) then
    some (-1)
  else
    gd (¬ ((S.1 76 13) < 0 ∨ 100 ≤ (S.1 76 13).toNatClampNeg)) (
      some ((S.1 84) (S.1 76 13).toNatClampNeg))
set_option maxRecDepth 20000 in
set_option maxHeartbeats 4000000 in
theorem e_X12_next (d : Nat) (S : St) (hs : List Hr) (v : Int32) (hr : r_X12_next S = some v) (P : Option Value → Hp → Prop) (h : P (some (.int v)) (st S hs)) : Ev (d + 1) ix_X12_next 0 0 [.ref 76] (st S hs) P := by
  refine Ev.intro (M := mi_X12_next) rfl (Nat.le_of_ble_eq_true rfl) ?_
  unfold r_X12_next at hr
  refine Wp.stepsG 5 (fun cal X P' hk hX hP => ?_)
  show ((S.1 76 12) ≤ (S.1 76 13) → X (23, [some (.ref 76)], [], st S hs, 0, 0)) ∧ (¬ (S.1 76 12) ≤ (S.1 76 13) → X (11, [some (.ref 76)], [], st S hs, 0, 0))
  refine ⟨fun hc => hX _ ?_, fun hc => hX _ ?_⟩
  · clear hP hX hk P' X cal
    rw [if_pos hc] at hr
    have hr := Option.some.inj hr
    subst hr
    refine Wp.stepsG 2 (fun cal X P' hk hX hP => ?_)
    exact hP _ _ h
  · clear hP hX hk P' X cal
    rw [if_neg hc] at hr
    refine Wp.stepsG 5 (fun cal X P' hk hX hP => ?_)
    show vp_in (S.1 76 13) 100 ∧ X (20, [some (.ref 76)], [.int ((S.1 84) (S.1 76 13).toNatClampNeg)], st S hs, 0, 0)
    obtain ⟨hg, hr⟩ := gd_some hr
    refine ⟨hg, hX _ ?_⟩
    clear hP hX hk P' X cal
    have hr := Option.some.inj hr
    subst hr
    refine Wp.stepsG 2 (fun cal X P' hk hX hP => ?_)
    exact hP _ _ h
def r_X12_second (S : St) : Option Int32 :=
  if (S.1 76 12) ≤ ((S.1 76 13) + 1) then
    some (-1)
  else
    gd (¬ (((S.1 76 13) + 1) < 0 ∨ 100 ≤ ((S.1 76 13) + 1).toNatClampNeg)) (
      some ((S.1 84) ((S.1 76 13) + 1).toNatClampNeg))
set_option maxRecDepth 20000 in
set_option maxHeartbeats 4000000 in
theorem e_X12_second (d : Nat) (S : St) (hs : List Hr) (v : Int32) (hr : r_X12_second S = some v) (P : Option Value → Hp → Prop) (h : P (some (.int v)) (st S hs)) : Ev (d + 1) ix_X12_second 0 0 [.ref 76] (st S hs) P := by
  refine Ev.intro (M := mi_X12_second) rfl (Nat.le_of_ble_eq_true rfl) ?_
  unfold r_X12_second at hr
  refine Wp.stepsG 7 (fun cal X P' hk hX hP => ?_)
  show ((S.1 76 12) ≤ ((S.1 76 13) + 1) → X (27, [some (.ref 76)], [], st S hs, 0, 0)) ∧ (¬ (S.1 76 12) ≤ ((S.1 76 13) + 1) → X (13, [some (.ref 76)], [], st S hs, 0, 0))
  refine ⟨fun hc => hX _ ?_, fun hc => hX _ ?_⟩
  · clear hP hX hk P' X cal
    rw [if_pos hc] at hr
    have hr := Option.some.inj hr
    subst hr
    refine Wp.stepsG 2 (fun cal X P' hk hX hP => ?_)
    exact hP _ _ h
  · clear hP hX hk P' X cal
    rw [if_neg hc] at hr
    refine Wp.stepsG 7 (fun cal X P' hk hX hP => ?_)
    show vp_in ((S.1 76 13) + 1) 100 ∧ X (24, [some (.ref 76)], [.int ((S.1 84) ((S.1 76 13) + 1).toNatClampNeg)], st S hs, 0, 0)
    obtain ⟨hg, hr⟩ := gd_some hr
    refine ⟨hg, hX _ ?_⟩
    clear hP hX hk P' X cal
    have hr := Option.some.inj hr
    subst hr
    refine Wp.stepsG 2 (fun cal X P' hk hX hP => ?_)
    exact hP _ _ h
def r_X12_takes (S : St) (a1 : Int32) : Option (Int32 × St) :=
  (r_X12_next S).bind fun q1 =>
  if q1 = a1 then
    some (1, sI S 76 13 ((S.1 76 13) + 1))
  else
    some (0, S)
set_option maxRecDepth 20000 in
set_option maxHeartbeats 4000000 in
theorem e_X12_takes (d : Nat) (S : St) (hs : List Hr) (a1 : Int32) (v : Int32 × St) (hr : r_X12_takes S a1 = some v) (P : Option Value → Hp → Prop) (h : P (some (.int v.1)) (st v.2 hs)) : Ev (d + 2) ix_X12_takes 0 0 [.ref 76, .int a1] (st S hs) P := by
  refine Ev.intro (M := mi_X12_takes) rfl (Nat.le_of_ble_eq_true rfl) ?_
  unfold r_X12_takes at hr
  refine Wp.stepsG 2 (fun cal X P' hk hX hP => ?_)
  show kcall cal ix_X12_next [.ref 76] (st S hs) [] 0 0 (0, 0) (fun v σ' c' m' => X (4, [some (.ref 76), some (.int a1)], v.toList ++ [], σ', c', m'))
  obtain ⟨q1, hq1, hr⟩ := bd_some hr
  refine kcall0 rfl (hk _ _ _ _ _ _ (e_X12_next (d + 0) S hs q1 hq1 _ ?_))
  show X (4, [some (.ref 76), some (.int a1)], [.int q1], st S hs, 0, 0)
  refine hX _ ?_
  clear hP hX hk P' X cal
  refine Wp.stepsG 2 (fun cal X P' hk hX hP => ?_)
  show (q1 = a1 → X (10, [some (.ref 76), some (.int a1)], [], st S hs, 0, 0)) ∧ (¬ q1 = a1 → X (8, [some (.ref 76), some (.int a1)], [], st S hs, 0, 0))
  refine ⟨fun hc => hX _ ?_, fun hc => hX _ ?_⟩
  · clear hP hX hk P' X cal
    rw [if_pos hc] at hr
    have hr := Option.some.inj hr
    subst hr
    refine Wp.stepsG 8 (fun cal X P' hk hX hP => ?_)
    exact ⟨Or.inr rfl, hP _ _ h⟩
  · clear hP hX hk P' X cal
    rw [if_neg hc] at hr
    have hr := Option.some.inj hr
    subst hr
    refine Wp.stepsG 2 (fun cal X P' hk hX hP => ?_)
    exact ⟨Or.inl rfl, hP _ _ h⟩
