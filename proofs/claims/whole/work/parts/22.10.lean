def r_X8_fitted (S : St) (o : Nat) (a1 : Int64) : Int64 :=
  if (S.1 o 1) = 0 then
    a1.toInt32.toInt8.toInt32.toInt64
  else
  if (S.1 o 1) = 1 then
    a1.toInt32.toInt16.toInt32.toInt64
  else
  if (S.1 o 1) = 2 then
    a1.toInt32.toInt64
  else
  if (S.1 o 1) = 3 then
    a1
  else
  if (S.1 o 1) = 4 then
    if (lg_cmp a1 0) = 0 then
      0
    else
      1
  else
    a1
set_option maxRecDepth 20000 in
set_option maxHeartbeats 4000000 in
theorem e_X8_fitted_64 (d : Nat) (S : St) (hs : List Hr) (a1 : Int64) (P : Option Value → Hp → Prop) (h : P (some (.long (r_X8_fitted S 64 a1))) (st S hs)) : Ev (d + 1) ix_X8_fitted 0 0 [.ref 64, .long a1] (st S hs) P := by
  refine Ev.intro (M := mi_X8_fitted) rfl (Nat.le_of_ble_eq_true rfl) ?_
  unfold r_X8_fitted at h
  refine Wp.stepsG 3 (fun cal X P' hk hX hP => ?_)
  show ((S.1 64 1) = 0 → X (40, [some (.ref 64), some (.long a1), none], [], st S hs, 0, 0)) ∧ (¬ (S.1 64 1) = 0 → ((S.1 64 1) = 1 → X (45, [some (.ref 64), some (.long a1), none], [], st S hs, 0, 0)) ∧ (¬ (S.1 64 1) = 1 → ((S.1 64 1) = 2 → X (50, [some (.ref 64), some (.long a1), none], [], st S hs, 0, 0)) ∧ (¬ (S.1 64 1) = 2 → ((S.1 64 1) = 3 → X (66, [some (.ref 64), some (.long a1), none], [], st S hs, 0, 0)) ∧ (¬ (S.1 64 1) = 3 → ((S.1 64 1) = 4 → X (54, [some (.ref 64), some (.long a1), none], [], st S hs, 0, 0)) ∧ (¬ (S.1 64 1) = 4 → X (66, [some (.ref 64), some (.long a1), none], [], st S hs, 0, 0))))))
  refine ⟨fun hc => hX _ ?_, fun hc => ?_⟩
  · clear hP hX hk P' X cal
    rw [if_pos hc] at h
    refine Wp.stepsG 5 (fun cal X P' hk hX hP => ?_)
    exact hP _ _ h
  · rw [if_neg hc] at h
    refine ⟨fun hc => hX _ ?_, fun hc => ?_⟩
    · clear hP hX hk P' X cal
      rw [if_pos hc] at h
      refine Wp.stepsG 5 (fun cal X P' hk hX hP => ?_)
      exact hP _ _ h
    · rw [if_neg hc] at h
      refine ⟨fun hc => hX _ ?_, fun hc => ?_⟩
      · clear hP hX hk P' X cal
        rw [if_pos hc] at h
        refine Wp.stepsG 4 (fun cal X P' hk hX hP => ?_)
        exact hP _ _ h
      · rw [if_neg hc] at h
        refine ⟨fun hc => hX _ ?_, fun hc => ?_⟩
        · clear hP hX hk P' X cal
          rw [if_pos hc] at h
          refine Wp.stepsG 2 (fun cal X P' hk hX hP => ?_)
          exact hP _ _ h
        · rw [if_neg hc] at h
          refine ⟨fun hc => hX _ ?_, fun hc => hX _ ?_⟩
          · clear hP hX hk P' X cal
            rw [if_pos hc] at h
            refine Wp.stepsG 4 (fun cal X P' hk hX hP => ?_)
            show ((lg_cmp a1 0) = 0 → X (64, [some (.ref 64), some (.long a1), none], [], st S hs, 0, 0)) ∧ (¬ (lg_cmp a1 0) = 0 → X (60, [some (.ref 64), some (.long a1), none], [], st S hs, 0, 0))
            refine ⟨fun hc => hX _ ?_, fun hc => hX _ ?_⟩
            · clear hP hX hk P' X cal
              rw [if_pos hc] at h
              refine Wp.stepsG 2 (fun cal X P' hk hX hP => ?_)
              exact hP _ _ h
            · clear hP hX hk P' X cal
              rw [if_neg hc] at h
              refine Wp.stepsG 3 (fun cal X P' hk hX hP => ?_)
              exact hP _ _ h
          · rw [if_neg hc] at h
            clear hP hX hk P' X cal
            refine Wp.stepsG 2 (fun cal X P' hk hX hP => ?_)
            exact hP _ _ h
set_option maxRecDepth 20000 in
set_option maxHeartbeats 4000000 in
theorem e_X8_fitted_66 (d : Nat) (S : St) (hs : List Hr) (a1 : Int64) (P : Option Value → Hp → Prop) (h : P (some (.long (r_X8_fitted S 66 a1))) (st S hs)) : Ev (d + 1) ix_X8_fitted 0 0 [.ref 66, .long a1] (st S hs) P := by
  refine Ev.intro (M := mi_X8_fitted) rfl (Nat.le_of_ble_eq_true rfl) ?_
  unfold r_X8_fitted at h
  refine Wp.stepsG 3 (fun cal X P' hk hX hP => ?_)
  show ((S.1 66 1) = 0 → X (40, [some (.ref 66), some (.long a1), none], [], st S hs, 0, 0)) ∧ (¬ (S.1 66 1) = 0 → ((S.1 66 1) = 1 → X (45, [some (.ref 66), some (.long a1), none], [], st S hs, 0, 0)) ∧ (¬ (S.1 66 1) = 1 → ((S.1 66 1) = 2 → X (50, [some (.ref 66), some (.long a1), none], [], st S hs, 0, 0)) ∧ (¬ (S.1 66 1) = 2 → ((S.1 66 1) = 3 → X (66, [some (.ref 66), some (.long a1), none], [], st S hs, 0, 0)) ∧ (¬ (S.1 66 1) = 3 → ((S.1 66 1) = 4 → X (54, [some (.ref 66), some (.long a1), none], [], st S hs, 0, 0)) ∧ (¬ (S.1 66 1) = 4 → X (66, [some (.ref 66), some (.long a1), none], [], st S hs, 0, 0))))))
  refine ⟨fun hc => hX _ ?_, fun hc => ?_⟩
  · clear hP hX hk P' X cal
    rw [if_pos hc] at h
    refine Wp.stepsG 5 (fun cal X P' hk hX hP => ?_)
    exact hP _ _ h
  · rw [if_neg hc] at h
    refine ⟨fun hc => hX _ ?_, fun hc => ?_⟩
    · clear hP hX hk P' X cal
      rw [if_pos hc] at h
      refine Wp.stepsG 5 (fun cal X P' hk hX hP => ?_)
      exact hP _ _ h
    · rw [if_neg hc] at h
      refine ⟨fun hc => hX _ ?_, fun hc => ?_⟩
      · clear hP hX hk P' X cal
        rw [if_pos hc] at h
        refine Wp.stepsG 4 (fun cal X P' hk hX hP => ?_)
        exact hP _ _ h
      · rw [if_neg hc] at h
        refine ⟨fun hc => hX _ ?_, fun hc => ?_⟩
        · clear hP hX hk P' X cal
          rw [if_pos hc] at h
          refine Wp.stepsG 2 (fun cal X P' hk hX hP => ?_)
          exact hP _ _ h
        · rw [if_neg hc] at h
          refine ⟨fun hc => hX _ ?_, fun hc => hX _ ?_⟩
          · clear hP hX hk P' X cal
            rw [if_pos hc] at h
            refine Wp.stepsG 4 (fun cal X P' hk hX hP => ?_)
            show ((lg_cmp a1 0) = 0 → X (64, [some (.ref 66), some (.long a1), none], [], st S hs, 0, 0)) ∧ (¬ (lg_cmp a1 0) = 0 → X (60, [some (.ref 66), some (.long a1), none], [], st S hs, 0, 0))
            refine ⟨fun hc => hX _ ?_, fun hc => hX _ ?_⟩
            · clear hP hX hk P' X cal
              rw [if_pos hc] at h
              refine Wp.stepsG 2 (fun cal X P' hk hX hP => ?_)
              exact hP _ _ h
            · clear hP hX hk P' X cal
              rw [if_neg hc] at h
              refine Wp.stepsG 3 (fun cal X P' hk hX hP => ?_)
              exact hP _ _ h
          · rw [if_neg hc] at h
            clear hP hX hk P' X cal
            refine Wp.stepsG 2 (fun cal X P' hk hX hP => ?_)
            exact hP _ _ h
set_option maxRecDepth 20000 in
set_option maxHeartbeats 4000000 in
theorem e_X8_fitted_68 (d : Nat) (S : St) (hs : List Hr) (a1 : Int64) (P : Option Value → Hp → Prop) (h : P (some (.long (r_X8_fitted S 68 a1))) (st S hs)) : Ev (d + 1) ix_X8_fitted 0 0 [.ref 68, .long a1] (st S hs) P := by
  refine Ev.intro (M := mi_X8_fitted) rfl (Nat.le_of_ble_eq_true rfl) ?_
  unfold r_X8_fitted at h
  refine Wp.stepsG 3 (fun cal X P' hk hX hP => ?_)
  show ((S.1 68 1) = 0 → X (40, [some (.ref 68), some (.long a1), none], [], st S hs, 0, 0)) ∧ (¬ (S.1 68 1) = 0 → ((S.1 68 1) = 1 → X (45, [some (.ref 68), some (.long a1), none], [], st S hs, 0, 0)) ∧ (¬ (S.1 68 1) = 1 → ((S.1 68 1) = 2 → X (50, [some (.ref 68), some (.long a1), none], [], st S hs, 0, 0)) ∧ (¬ (S.1 68 1) = 2 → ((S.1 68 1) = 3 → X (66, [some (.ref 68), some (.long a1), none], [], st S hs, 0, 0)) ∧ (¬ (S.1 68 1) = 3 → ((S.1 68 1) = 4 → X (54, [some (.ref 68), some (.long a1), none], [], st S hs, 0, 0)) ∧ (¬ (S.1 68 1) = 4 → X (66, [some (.ref 68), some (.long a1), none], [], st S hs, 0, 0))))))
  refine ⟨fun hc => hX _ ?_, fun hc => ?_⟩
  · clear hP hX hk P' X cal
    rw [if_pos hc] at h
    refine Wp.stepsG 5 (fun cal X P' hk hX hP => ?_)
    exact hP _ _ h
  · rw [if_neg hc] at h
    refine ⟨fun hc => hX _ ?_, fun hc => ?_⟩
    · clear hP hX hk P' X cal
      rw [if_pos hc] at h
      refine Wp.stepsG 5 (fun cal X P' hk hX hP => ?_)
      exact hP _ _ h
    · rw [if_neg hc] at h
      refine ⟨fun hc => hX _ ?_, fun hc => ?_⟩
      · clear hP hX hk P' X cal
        rw [if_pos hc] at h
        refine Wp.stepsG 4 (fun cal X P' hk hX hP => ?_)
        exact hP _ _ h
      · rw [if_neg hc] at h
        refine ⟨fun hc => hX _ ?_, fun hc => ?_⟩
        · clear hP hX hk P' X cal
          rw [if_pos hc] at h
          refine Wp.stepsG 2 (fun cal X P' hk hX hP => ?_)
          exact hP _ _ h
        · rw [if_neg hc] at h
          refine ⟨fun hc => hX _ ?_, fun hc => hX _ ?_⟩
          · clear hP hX hk P' X cal
            rw [if_pos hc] at h
            refine Wp.stepsG 4 (fun cal X P' hk hX hP => ?_)
            show ((lg_cmp a1 0) = 0 → X (64, [some (.ref 68), some (.long a1), none], [], st S hs, 0, 0)) ∧ (¬ (lg_cmp a1 0) = 0 → X (60, [some (.ref 68), some (.long a1), none], [], st S hs, 0, 0))
            refine ⟨fun hc => hX _ ?_, fun hc => hX _ ?_⟩
            · clear hP hX hk P' X cal
              rw [if_pos hc] at h
              refine Wp.stepsG 2 (fun cal X P' hk hX hP => ?_)
              exact hP _ _ h
            · clear hP hX hk P' X cal
              rw [if_neg hc] at h
              refine Wp.stepsG 3 (fun cal X P' hk hX hP => ?_)
              exact hP _ _ h
          · rw [if_neg hc] at h
            clear hP hX hk P' X cal
            refine Wp.stepsG 2 (fun cal X P' hk hX hP => ?_)
            exact hP _ _ h
set_option maxRecDepth 20000 in
set_option maxHeartbeats 4000000 in
theorem e_X8_fitted_70 (d : Nat) (S : St) (hs : List Hr) (a1 : Int64) (P : Option Value → Hp → Prop) (h : P (some (.long (r_X8_fitted S 70 a1))) (st S hs)) : Ev (d + 1) ix_X8_fitted 0 0 [.ref 70, .long a1] (st S hs) P := by
  refine Ev.intro (M := mi_X8_fitted) rfl (Nat.le_of_ble_eq_true rfl) ?_
  unfold r_X8_fitted at h
  refine Wp.stepsG 3 (fun cal X P' hk hX hP => ?_)
  show ((S.1 70 1) = 0 → X (40, [some (.ref 70), some (.long a1), none], [], st S hs, 0, 0)) ∧ (¬ (S.1 70 1) = 0 → ((S.1 70 1) = 1 → X (45, [some (.ref 70), some (.long a1), none], [], st S hs, 0, 0)) ∧ (¬ (S.1 70 1) = 1 → ((S.1 70 1) = 2 → X (50, [some (.ref 70), some (.long a1), none], [], st S hs, 0, 0)) ∧ (¬ (S.1 70 1) = 2 → ((S.1 70 1) = 3 → X (66, [some (.ref 70), some (.long a1), none], [], st S hs, 0, 0)) ∧ (¬ (S.1 70 1) = 3 → ((S.1 70 1) = 4 → X (54, [some (.ref 70), some (.long a1), none], [], st S hs, 0, 0)) ∧ (¬ (S.1 70 1) = 4 → X (66, [some (.ref 70), some (.long a1), none], [], st S hs, 0, 0))))))
  refine ⟨fun hc => hX _ ?_, fun hc => ?_⟩
  · clear hP hX hk P' X cal
    rw [if_pos hc] at h
    refine Wp.stepsG 5 (fun cal X P' hk hX hP => ?_)
    exact hP _ _ h
  · rw [if_neg hc] at h
    refine ⟨fun hc => hX _ ?_, fun hc => ?_⟩
    · clear hP hX hk P' X cal
      rw [if_pos hc] at h
      refine Wp.stepsG 5 (fun cal X P' hk hX hP => ?_)
      exact hP _ _ h
    · rw [if_neg hc] at h
      refine ⟨fun hc => hX _ ?_, fun hc => ?_⟩
      · clear hP hX hk P' X cal
        rw [if_pos hc] at h
        refine Wp.stepsG 4 (fun cal X P' hk hX hP => ?_)
        exact hP _ _ h
      · rw [if_neg hc] at h
        refine ⟨fun hc => hX _ ?_, fun hc => ?_⟩
        · clear hP hX hk P' X cal
          rw [if_pos hc] at h
          refine Wp.stepsG 2 (fun cal X P' hk hX hP => ?_)
          exact hP _ _ h
        · rw [if_neg hc] at h
          refine ⟨fun hc => hX _ ?_, fun hc => hX _ ?_⟩
          · clear hP hX hk P' X cal
            rw [if_pos hc] at h
            refine Wp.stepsG 4 (fun cal X P' hk hX hP => ?_)
            show ((lg_cmp a1 0) = 0 → X (64, [some (.ref 70), some (.long a1), none], [], st S hs, 0, 0)) ∧ (¬ (lg_cmp a1 0) = 0 → X (60, [some (.ref 70), some (.long a1), none], [], st S hs, 0, 0))
            refine ⟨fun hc => hX _ ?_, fun hc => hX _ ?_⟩
            · clear hP hX hk P' X cal
              rw [if_pos hc] at h
              refine Wp.stepsG 2 (fun cal X P' hk hX hP => ?_)
              exact hP _ _ h
            · clear hP hX hk P' X cal
              rw [if_neg hc] at h
              refine Wp.stepsG 3 (fun cal X P' hk hX hP => ?_)
              exact hP _ _ h
          · rw [if_neg hc] at h
            clear hP hX hk P' X cal
            refine Wp.stepsG 2 (fun cal X P' hk hX hP => ?_)
            exact hP _ _ h
set_option maxRecDepth 20000 in
set_option maxHeartbeats 4000000 in
theorem e_X8_fitted_72 (d : Nat) (S : St) (hs : List Hr) (a1 : Int64) (P : Option Value → Hp → Prop) (h : P (some (.long (r_X8_fitted S 72 a1))) (st S hs)) : Ev (d + 1) ix_X8_fitted 0 0 [.ref 72, .long a1] (st S hs) P := by
  refine Ev.intro (M := mi_X8_fitted) rfl (Nat.le_of_ble_eq_true rfl) ?_
  unfold r_X8_fitted at h
  refine Wp.stepsG 3 (fun cal X P' hk hX hP => ?_)
  show ((S.1 72 1) = 0 → X (40, [some (.ref 72), some (.long a1), none], [], st S hs, 0, 0)) ∧ (¬ (S.1 72 1) = 0 → ((S.1 72 1) = 1 → X (45, [some (.ref 72), some (.long a1), none], [], st S hs, 0, 0)) ∧ (¬ (S.1 72 1) = 1 → ((S.1 72 1) = 2 → X (50, [some (.ref 72), some (.long a1), none], [], st S hs, 0, 0)) ∧ (¬ (S.1 72 1) = 2 → ((S.1 72 1) = 3 → X (66, [some (.ref 72), some (.long a1), none], [], st S hs, 0, 0)) ∧ (¬ (S.1 72 1) = 3 → ((S.1 72 1) = 4 → X (54, [some (.ref 72), some (.long a1), none], [], st S hs, 0, 0)) ∧ (¬ (S.1 72 1) = 4 → X (66, [some (.ref 72), some (.long a1), none], [], st S hs, 0, 0))))))
  refine ⟨fun hc => hX _ ?_, fun hc => ?_⟩
  · clear hP hX hk P' X cal
    rw [if_pos hc] at h
    refine Wp.stepsG 5 (fun cal X P' hk hX hP => ?_)
    exact hP _ _ h
  · rw [if_neg hc] at h
    refine ⟨fun hc => hX _ ?_, fun hc => ?_⟩
    · clear hP hX hk P' X cal
      rw [if_pos hc] at h
      refine Wp.stepsG 5 (fun cal X P' hk hX hP => ?_)
      exact hP _ _ h
    · rw [if_neg hc] at h
      refine ⟨fun hc => hX _ ?_, fun hc => ?_⟩
      · clear hP hX hk P' X cal
        rw [if_pos hc] at h
        refine Wp.stepsG 4 (fun cal X P' hk hX hP => ?_)
        exact hP _ _ h
      · rw [if_neg hc] at h
        refine ⟨fun hc => hX _ ?_, fun hc => ?_⟩
        · clear hP hX hk P' X cal
          rw [if_pos hc] at h
          refine Wp.stepsG 2 (fun cal X P' hk hX hP => ?_)
          exact hP _ _ h
        · rw [if_neg hc] at h
          refine ⟨fun hc => hX _ ?_, fun hc => hX _ ?_⟩
          · clear hP hX hk P' X cal
            rw [if_pos hc] at h
            refine Wp.stepsG 4 (fun cal X P' hk hX hP => ?_)
            show ((lg_cmp a1 0) = 0 → X (64, [some (.ref 72), some (.long a1), none], [], st S hs, 0, 0)) ∧ (¬ (lg_cmp a1 0) = 0 → X (60, [some (.ref 72), some (.long a1), none], [], st S hs, 0, 0))
            refine ⟨fun hc => hX _ ?_, fun hc => hX _ ?_⟩
            · clear hP hX hk P' X cal
              rw [if_pos hc] at h
              refine Wp.stepsG 2 (fun cal X P' hk hX hP => ?_)
              exact hP _ _ h
            · clear hP hX hk P' X cal
              rw [if_neg hc] at h
              refine Wp.stepsG 3 (fun cal X P' hk hX hP => ?_)
              exact hP _ _ h
          · rw [if_neg hc] at h
            clear hP hX hk P' X cal
            refine Wp.stepsG 2 (fun cal X P' hk hX hP => ?_)
            exact hP _ _ h
set_option maxRecDepth 20000 in
set_option maxHeartbeats 4000000 in
theorem e_X8_fitted_74 (d : Nat) (S : St) (hs : List Hr) (a1 : Int64) (P : Option Value → Hp → Prop) (h : P (some (.long (r_X8_fitted S 74 a1))) (st S hs)) : Ev (d + 1) ix_X8_fitted 0 0 [.ref 74, .long a1] (st S hs) P := by
  refine Ev.intro (M := mi_X8_fitted) rfl (Nat.le_of_ble_eq_true rfl) ?_
  unfold r_X8_fitted at h
  refine Wp.stepsG 3 (fun cal X P' hk hX hP => ?_)
  show ((S.1 74 1) = 0 → X (40, [some (.ref 74), some (.long a1), none], [], st S hs, 0, 0)) ∧ (¬ (S.1 74 1) = 0 → ((S.1 74 1) = 1 → X (45, [some (.ref 74), some (.long a1), none], [], st S hs, 0, 0)) ∧ (¬ (S.1 74 1) = 1 → ((S.1 74 1) = 2 → X (50, [some (.ref 74), some (.long a1), none], [], st S hs, 0, 0)) ∧ (¬ (S.1 74 1) = 2 → ((S.1 74 1) = 3 → X (66, [some (.ref 74), some (.long a1), none], [], st S hs, 0, 0)) ∧ (¬ (S.1 74 1) = 3 → ((S.1 74 1) = 4 → X (54, [some (.ref 74), some (.long a1), none], [], st S hs, 0, 0)) ∧ (¬ (S.1 74 1) = 4 → X (66, [some (.ref 74), some (.long a1), none], [], st S hs, 0, 0))))))
  refine ⟨fun hc => hX _ ?_, fun hc => ?_⟩
  · clear hP hX hk P' X cal
    rw [if_pos hc] at h
    refine Wp.stepsG 5 (fun cal X P' hk hX hP => ?_)
    exact hP _ _ h
  · rw [if_neg hc] at h
    refine ⟨fun hc => hX _ ?_, fun hc => ?_⟩
    · clear hP hX hk P' X cal
      rw [if_pos hc] at h
      refine Wp.stepsG 5 (fun cal X P' hk hX hP => ?_)
      exact hP _ _ h
    · rw [if_neg hc] at h
      refine ⟨fun hc => hX _ ?_, fun hc => ?_⟩
      · clear hP hX hk P' X cal
        rw [if_pos hc] at h
        refine Wp.stepsG 4 (fun cal X P' hk hX hP => ?_)
        exact hP _ _ h
      · rw [if_neg hc] at h
        refine ⟨fun hc => hX _ ?_, fun hc => ?_⟩
        · clear hP hX hk P' X cal
          rw [if_pos hc] at h
          refine Wp.stepsG 2 (fun cal X P' hk hX hP => ?_)
          exact hP _ _ h
        · rw [if_neg hc] at h
          refine ⟨fun hc => hX _ ?_, fun hc => hX _ ?_⟩
          · clear hP hX hk P' X cal
            rw [if_pos hc] at h
            refine Wp.stepsG 4 (fun cal X P' hk hX hP => ?_)
            show ((lg_cmp a1 0) = 0 → X (64, [some (.ref 74), some (.long a1), none], [], st S hs, 0, 0)) ∧ (¬ (lg_cmp a1 0) = 0 → X (60, [some (.ref 74), some (.long a1), none], [], st S hs, 0, 0))
            refine ⟨fun hc => hX _ ?_, fun hc => hX _ ?_⟩
            · clear hP hX hk P' X cal
              rw [if_pos hc] at h
              refine Wp.stepsG 2 (fun cal X P' hk hX hP => ?_)
              exact hP _ _ h
            · clear hP hX hk P' X cal
              rw [if_neg hc] at h
              refine Wp.stepsG 3 (fun cal X P' hk hX hP => ?_)
              exact hP _ _ h
          · rw [if_neg hc] at h
            clear hP hX hk P' X cal
            refine Wp.stepsG 2 (fun cal X P' hk hX hP => ?_)
            exact hP _ _ h
def r_X11_item (S : St) (a1 : Int32) (a2 : Int32) (a3 : Int64) : Option (Int32 × St) :=
  (r_X11_tapeAt S a1).bind fun q1 =>
  oN (q1) (
    some ((-1), S)) (fun o =>
    if (S.1 o 1) = (-1) then
      some ((-11), S)
    else
      if (r_X11_within a2 0 ((S.1 o 2) - 1)) = 0 then
        some ((-13), S)
      else
        gd (¬ (a2 < 0 ∨ 60 ≤ a2.toNatClampNeg)) (
          some (1, sG S (o + 1) (vp_updL (S.2.1 (o + 1)) a2.toNatClampNeg (r_X8_fitted S o a3)))))
set_option maxRecDepth 20000 in
set_option maxHeartbeats 4000000 in
theorem e_X11_item (d : Nat) (S : St) (hs : List Hr) (a1 : Int32) (a2 : Int32) (a3 : Int64) (v : Int32 × St) (hr : r_X11_item S a1 a2 a3 = some v) (P : Option Value → Hp → Prop) (h : P (some (.int v.1)) (st v.2 hs)) : Ev (d + 3) ix_X11_item 0 0 [.ref 7, .int a1, .int a2, .long a3] (st S hs) P := by
  refine Ev.intro (M := mi_X11_item) rfl (Nat.le_of_ble_eq_true rfl) ?_
  unfold r_X11_item at hr
  refine Wp.stepsG 3 (fun cal X P' hk hX hP => ?_)
  show kcall cal ix_X11_tapeAt [.ref 7, .int a1] (st S hs) [] 0 0 (0, 0) (fun v σ' c' m' => X (5, [some (.ref 7), some (.int a1), some (.int a2), some (.long a3), none, none], v.toList ++ [], σ', c', m'))
  obtain ⟨q1, hq1, hr⟩ := bd_some hr
  refine kcall0 rfl (hk _ _ _ _ _ _ (e_X11_tapeAt (d + 0) S hs a1 q1 hq1 _ ?_))
  show X (5, [some (.ref 7), some (.int a1), some (.int a2), some (.long a3), none, none], [va_rf q1], st S hs, 0, 0)
  refine hX _ ?_
  clear hP hX hk P' X cal
  rcases c_X11_tapeAt hq1 with hz2 | hz2 | hz2 | hz2 | hz2 | hz2 | hz2
  · rw [hz2]
    rw [oN_no hz2] at hr
    have hr := Option.some.inj hr
    subst hr
    refine Wp.stepsG 5 (fun cal X P' hk hX hP => ?_)
    exact hP _ _ h
  · rw [hz2]
    rw [oN_is hz2] at hr
    refine Wp.stepsG 7 (fun cal X P' hk hX hP => ?_)
    show (¬ (S.1 64 1) = (-1) → X (26, [some (.ref 7), some (.int a1), some (.int a2), some (.long a3), none, some (.ref 64)], [], st S hs, 0, 0)) ∧ ((S.1 64 1) = (-1) → X (23, [some (.ref 7), some (.int a1), some (.int a2), some (.long a3), none, some (.ref 64)], [], st S hs, 0, 0))
    refine ⟨fun hc => hX _ ?_, fun hc => hX _ ?_⟩
    · clear hP hX hk P' X cal
      rw [if_neg hc] at hr
      refine Wp.stepsG 7 (fun cal X P' hk hX hP => ?_)
      show kcall cal ix_X11_within [.int a2, .int 0, .int ((S.1 64 2) - 1)] (st S hs) [] 0 0 (0, 0) (fun v σ' c' m' => X (38, [some (.ref 7), some (.int a1), some (.int a2), some (.long a3), none, some (.ref 64)], v.toList ++ [], σ', c', m'))
      refine kcall0 rfl (hk _ _ _ _ _ _ (e_X11_within (d + 1) S hs a2 0 ((S.1 64 2) - 1) _ ?_))
      show X (38, [some (.ref 7), some (.int a1), some (.int a2), some (.long a3), none, some (.ref 64)], [.int (r_X11_within a2 0 ((S.1 64 2) - 1))], st S hs, 0, 0)
      refine hX _ ?_
      clear hP hX hk P' X cal
      refine Wp.stepsG 1 (fun cal X P' hk hX hP => ?_)
      show (¬ (r_X11_within a2 0 ((S.1 64 2) - 1)) = 0 → X (44, [some (.ref 7), some (.int a1), some (.int a2), some (.long a3), none, some (.ref 64)], [], st S hs, 0, 0)) ∧ ((r_X11_within a2 0 ((S.1 64 2) - 1)) = 0 → X (41, [some (.ref 7), some (.int a1), some (.int a2), some (.long a3), none, some (.ref 64)], [], st S hs, 0, 0))
      refine ⟨fun hc => hX _ ?_, fun hc => hX _ ?_⟩
      · clear hP hX hk P' X cal
        rw [if_neg hc] at hr
        refine Wp.stepsG 6 (fun cal X P' hk hX hP => ?_)
        show kcall cal ix_X8_fitted [.ref 64, .long a3] (st S hs) [.int a2, .ref 65] 0 0 (0, 0) (fun v σ' c' m' => X (56, [some (.ref 7), some (.int a1), some (.int a2), some (.long a3), none, some (.ref 64)], v.toList ++ [.int a2, .ref 65], σ', c', m'))
        refine kcall0 rfl (hk _ _ _ _ _ _ (e_X8_fitted_64 (d + 1) S hs a3 _ ?_))
        show X (56, [some (.ref 7), some (.int a1), some (.int a2), some (.long a3), none, some (.ref 64)], [.long (r_X8_fitted S 64 a3), .int a2, .ref 65], st S hs, 0, 0)
        refine hX _ ?_
        clear hP hX hk P' X cal
        refine Wp.stepsG 1 (fun cal X P' hk hX hP => ?_)
        show vp_in a2 60 ∧ X (57, [some (.ref 7), some (.int a1), some (.int a2), some (.long a3), none, some (.ref 64)], [], st (sG S 65 (vp_updL (S.2.1 65) a2.toNatClampNeg (r_X8_fitted S 64 a3))) hs, 0, 0)
        obtain ⟨hg, hr⟩ := gd_some hr
        refine ⟨hg, hX _ ?_⟩
        clear hP hX hk P' X cal
        have hr := Option.some.inj hr
        subst hr
        refine Wp.stepsG 2 (fun cal X P' hk hX hP => ?_)
        exact hP _ _ h
      · clear hP hX hk P' X cal
        rw [if_pos hc] at hr
        have hr := Option.some.inj hr
        subst hr
        refine Wp.stepsG 2 (fun cal X P' hk hX hP => ?_)
        exact hP _ _ h
    · clear hP hX hk P' X cal
      rw [if_pos hc] at hr
      have hr := Option.some.inj hr
      subst hr
      refine Wp.stepsG 2 (fun cal X P' hk hX hP => ?_)
      exact hP _ _ h
  · rw [hz2]
    rw [oN_is hz2] at hr
    refine Wp.stepsG 7 (fun cal X P' hk hX hP => ?_)
    show (¬ (S.1 66 1) = (-1) → X (26, [some (.ref 7), some (.int a1), some (.int a2), some (.long a3), none, some (.ref 66)], [], st S hs, 0, 0)) ∧ ((S.1 66 1) = (-1) → X (23, [some (.ref 7), some (.int a1), some (.int a2), some (.long a3), none, some (.ref 66)], [], st S hs, 0, 0))
    refine ⟨fun hc => hX _ ?_, fun hc => hX _ ?_⟩
    · clear hP hX hk P' X cal
      rw [if_neg hc] at hr
      refine Wp.stepsG 7 (fun cal X P' hk hX hP => ?_)
      show kcall cal ix_X11_within [.int a2, .int 0, .int ((S.1 66 2) - 1)] (st S hs) [] 0 0 (0, 0) (fun v σ' c' m' => X (38, [some (.ref 7), some (.int a1), some (.int a2), some (.long a3), none, some (.ref 66)], v.toList ++ [], σ', c', m'))
      refine kcall0 rfl (hk _ _ _ _ _ _ (e_X11_within (d + 1) S hs a2 0 ((S.1 66 2) - 1) _ ?_))
      show X (38, [some (.ref 7), some (.int a1), some (.int a2), some (.long a3), none, some (.ref 66)], [.int (r_X11_within a2 0 ((S.1 66 2) - 1))], st S hs, 0, 0)
      refine hX _ ?_
      clear hP hX hk P' X cal
      refine Wp.stepsG 1 (fun cal X P' hk hX hP => ?_)
      show (¬ (r_X11_within a2 0 ((S.1 66 2) - 1)) = 0 → X (44, [some (.ref 7), some (.int a1), some (.int a2), some (.long a3), none, some (.ref 66)], [], st S hs, 0, 0)) ∧ ((r_X11_within a2 0 ((S.1 66 2) - 1)) = 0 → X (41, [some (.ref 7), some (.int a1), some (.int a2), some (.long a3), none, some (.ref 66)], [], st S hs, 0, 0))
      refine ⟨fun hc => hX _ ?_, fun hc => hX _ ?_⟩
      · clear hP hX hk P' X cal
        rw [if_neg hc] at hr
        refine Wp.stepsG 6 (fun cal X P' hk hX hP => ?_)
        show kcall cal ix_X8_fitted [.ref 66, .long a3] (st S hs) [.int a2, .ref 67] 0 0 (0, 0) (fun v σ' c' m' => X (56, [some (.ref 7), some (.int a1), some (.int a2), some (.long a3), none, some (.ref 66)], v.toList ++ [.int a2, .ref 67], σ', c', m'))
        refine kcall0 rfl (hk _ _ _ _ _ _ (e_X8_fitted_66 (d + 1) S hs a3 _ ?_))
        show X (56, [some (.ref 7), some (.int a1), some (.int a2), some (.long a3), none, some (.ref 66)], [.long (r_X8_fitted S 66 a3), .int a2, .ref 67], st S hs, 0, 0)
        refine hX _ ?_
        clear hP hX hk P' X cal
        refine Wp.stepsG 1 (fun cal X P' hk hX hP => ?_)
        show vp_in a2 60 ∧ X (57, [some (.ref 7), some (.int a1), some (.int a2), some (.long a3), none, some (.ref 66)], [], st (sG S 67 (vp_updL (S.2.1 67) a2.toNatClampNeg (r_X8_fitted S 66 a3))) hs, 0, 0)
        obtain ⟨hg, hr⟩ := gd_some hr
        refine ⟨hg, hX _ ?_⟩
        clear hP hX hk P' X cal
        have hr := Option.some.inj hr
        subst hr
        refine Wp.stepsG 2 (fun cal X P' hk hX hP => ?_)
        exact hP _ _ h
      · clear hP hX hk P' X cal
        rw [if_pos hc] at hr
        have hr := Option.some.inj hr
        subst hr
        refine Wp.stepsG 2 (fun cal X P' hk hX hP => ?_)
        exact hP _ _ h
    · clear hP hX hk P' X cal
      rw [if_pos hc] at hr
      have hr := Option.some.inj hr
      subst hr
      refine Wp.stepsG 2 (fun cal X P' hk hX hP => ?_)
      exact hP _ _ h
  · rw [hz2]
    rw [oN_is hz2] at hr
    refine Wp.stepsG 7 (fun cal X P' hk hX hP => ?_)
    show (¬ (S.1 68 1) = (-1) → X (26, [some (.ref 7), some (.int a1), some (.int a2), some (.long a3), none, some (.ref 68)], [], st S hs, 0, 0)) ∧ ((S.1 68 1) = (-1) → X (23, [some (.ref 7), some (.int a1), some (.int a2), some (.long a3), none, some (.ref 68)], [], st S hs, 0, 0))
    refine ⟨fun hc => hX _ ?_, fun hc => hX _ ?_⟩
    · clear hP hX hk P' X cal
      rw [if_neg hc] at hr
      refine Wp.stepsG 7 (fun cal X P' hk hX hP => ?_)
      show kcall cal ix_X11_within [.int a2, .int 0, .int ((S.1 68 2) - 1)] (st S hs) [] 0 0 (0, 0) (fun v σ' c' m' => X (38, [some (.ref 7), some (.int a1), some (.int a2), some (.long a3), none, some (.ref 68)], v.toList ++ [], σ', c', m'))
      refine kcall0 rfl (hk _ _ _ _ _ _ (e_X11_within (d + 1) S hs a2 0 ((S.1 68 2) - 1) _ ?_))
      show X (38, [some (.ref 7), some (.int a1), some (.int a2), some (.long a3), none, some (.ref 68)], [.int (r_X11_within a2 0 ((S.1 68 2) - 1))], st S hs, 0, 0)
      refine hX _ ?_
      clear hP hX hk P' X cal
      refine Wp.stepsG 1 (fun cal X P' hk hX hP => ?_)
      show (¬ (r_X11_within a2 0 ((S.1 68 2) - 1)) = 0 → X (44, [some (.ref 7), some (.int a1), some (.int a2), some (.long a3), none, some (.ref 68)], [], st S hs, 0, 0)) ∧ ((r_X11_within a2 0 ((S.1 68 2) - 1)) = 0 → X (41, [some (.ref 7), some (.int a1), some (.int a2), some (.long a3), none, some (.ref 68)], [], st S hs, 0, 0))
      refine ⟨fun hc => hX _ ?_, fun hc => hX _ ?_⟩
      · clear hP hX hk P' X cal
        rw [if_neg hc] at hr
        refine Wp.stepsG 6 (fun cal X P' hk hX hP => ?_)
        show kcall cal ix_X8_fitted [.ref 68, .long a3] (st S hs) [.int a2, .ref 69] 0 0 (0, 0) (fun v σ' c' m' => X (56, [some (.ref 7), some (.int a1), some (.int a2), some (.long a3), none, some (.ref 68)], v.toList ++ [.int a2, .ref 69], σ', c', m'))
        refine kcall0 rfl (hk _ _ _ _ _ _ (e_X8_fitted_68 (d + 1) S hs a3 _ ?_))
        show X (56, [some (.ref 7), some (.int a1), some (.int a2), some (.long a3), none, some (.ref 68)], [.long (r_X8_fitted S 68 a3), .int a2, .ref 69], st S hs, 0, 0)
        refine hX _ ?_
        clear hP hX hk P' X cal
        refine Wp.stepsG 1 (fun cal X P' hk hX hP => ?_)
        show vp_in a2 60 ∧ X (57, [some (.ref 7), some (.int a1), some (.int a2), some (.long a3), none, some (.ref 68)], [], st (sG S 69 (vp_updL (S.2.1 69) a2.toNatClampNeg (r_X8_fitted S 68 a3))) hs, 0, 0)
        obtain ⟨hg, hr⟩ := gd_some hr
        refine ⟨hg, hX _ ?_⟩
        clear hP hX hk P' X cal
        have hr := Option.some.inj hr
        subst hr
        refine Wp.stepsG 2 (fun cal X P' hk hX hP => ?_)
        exact hP _ _ h
      · clear hP hX hk P' X cal
        rw [if_pos hc] at hr
        have hr := Option.some.inj hr
        subst hr
        refine Wp.stepsG 2 (fun cal X P' hk hX hP => ?_)
        exact hP _ _ h
    · clear hP hX hk P' X cal
      rw [if_pos hc] at hr
      have hr := Option.some.inj hr
      subst hr
      refine Wp.stepsG 2 (fun cal X P' hk hX hP => ?_)
      exact hP _ _ h
  · rw [hz2]
    rw [oN_is hz2] at hr
    refine Wp.stepsG 7 (fun cal X P' hk hX hP => ?_)
    show (¬ (S.1 70 1) = (-1) → X (26, [some (.ref 7), some (.int a1), some (.int a2), some (.long a3), none, some (.ref 70)], [], st S hs, 0, 0)) ∧ ((S.1 70 1) = (-1) → X (23, [some (.ref 7), some (.int a1), some (.int a2), some (.long a3), none, some (.ref 70)], [], st S hs, 0, 0))
    refine ⟨fun hc => hX _ ?_, fun hc => hX _ ?_⟩
    · clear hP hX hk P' X cal
      rw [if_neg hc] at hr
      refine Wp.stepsG 7 (fun cal X P' hk hX hP => ?_)
      show kcall cal ix_X11_within [.int a2, .int 0, .int ((S.1 70 2) - 1)] (st S hs) [] 0 0 (0, 0) (fun v σ' c' m' => X (38, [some (.ref 7), some (.int a1), some (.int a2), some (.long a3), none, some (.ref 70)], v.toList ++ [], σ', c', m'))
      refine kcall0 rfl (hk _ _ _ _ _ _ (e_X11_within (d + 1) S hs a2 0 ((S.1 70 2) - 1) _ ?_))
      show X (38, [some (.ref 7), some (.int a1), some (.int a2), some (.long a3), none, some (.ref 70)], [.int (r_X11_within a2 0 ((S.1 70 2) - 1))], st S hs, 0, 0)
      refine hX _ ?_
      clear hP hX hk P' X cal
      refine Wp.stepsG 1 (fun cal X P' hk hX hP => ?_)
      show (¬ (r_X11_within a2 0 ((S.1 70 2) - 1)) = 0 → X (44, [some (.ref 7), some (.int a1), some (.int a2), some (.long a3), none, some (.ref 70)], [], st S hs, 0, 0)) ∧ ((r_X11_within a2 0 ((S.1 70 2) - 1)) = 0 → X (41, [some (.ref 7), some (.int a1), some (.int a2), some (.long a3), none, some (.ref 70)], [], st S hs, 0, 0))
      refine ⟨fun hc => hX _ ?_, fun hc => hX _ ?_⟩
      · clear hP hX hk P' X cal
        rw [if_neg hc] at hr
        refine Wp.stepsG 6 (fun cal X P' hk hX hP => ?_)
        show kcall cal ix_X8_fitted [.ref 70, .long a3] (st S hs) [.int a2, .ref 71] 0 0 (0, 0) (fun v σ' c' m' => X (56, [some (.ref 7), some (.int a1), some (.int a2), some (.long a3), none, some (.ref 70)], v.toList ++ [.int a2, .ref 71], σ', c', m'))
        refine kcall0 rfl (hk _ _ _ _ _ _ (e_X8_fitted_70 (d + 1) S hs a3 _ ?_))
        show X (56, [some (.ref 7), some (.int a1), some (.int a2), some (.long a3), none, some (.ref 70)], [.long (r_X8_fitted S 70 a3), .int a2, .ref 71], st S hs, 0, 0)
        refine hX _ ?_
        clear hP hX hk P' X cal
        refine Wp.stepsG 1 (fun cal X P' hk hX hP => ?_)
        show vp_in a2 60 ∧ X (57, [some (.ref 7), some (.int a1), some (.int a2), some (.long a3), none, some (.ref 70)], [], st (sG S 71 (vp_updL (S.2.1 71) a2.toNatClampNeg (r_X8_fitted S 70 a3))) hs, 0, 0)
        obtain ⟨hg, hr⟩ := gd_some hr
        refine ⟨hg, hX _ ?_⟩
        clear hP hX hk P' X cal
        have hr := Option.some.inj hr
        subst hr
        refine Wp.stepsG 2 (fun cal X P' hk hX hP => ?_)
        exact hP _ _ h
      · clear hP hX hk P' X cal
        rw [if_pos hc] at hr
        have hr := Option.some.inj hr
        subst hr
        refine Wp.stepsG 2 (fun cal X P' hk hX hP => ?_)
        exact hP _ _ h
    · clear hP hX hk P' X cal
      rw [if_pos hc] at hr
      have hr := Option.some.inj hr
      subst hr
      refine Wp.stepsG 2 (fun cal X P' hk hX hP => ?_)
      exact hP _ _ h
  · rw [hz2]
    rw [oN_is hz2] at hr
    refine Wp.stepsG 7 (fun cal X P' hk hX hP => ?_)
    show (¬ (S.1 72 1) = (-1) → X (26, [some (.ref 7), some (.int a1), some (.int a2), some (.long a3), none, some (.ref 72)], [], st S hs, 0, 0)) ∧ ((S.1 72 1) = (-1) → X (23, [some (.ref 7), some (.int a1), some (.int a2), some (.long a3), none, some (.ref 72)], [], st S hs, 0, 0))
    refine ⟨fun hc => hX _ ?_, fun hc => hX _ ?_⟩
    · clear hP hX hk P' X cal
      rw [if_neg hc] at hr
      refine Wp.stepsG 7 (fun cal X P' hk hX hP => ?_)
      show kcall cal ix_X11_within [.int a2, .int 0, .int ((S.1 72 2) - 1)] (st S hs) [] 0 0 (0, 0) (fun v σ' c' m' => X (38, [some (.ref 7), some (.int a1), some (.int a2), some (.long a3), none, some (.ref 72)], v.toList ++ [], σ', c', m'))
      refine kcall0 rfl (hk _ _ _ _ _ _ (e_X11_within (d + 1) S hs a2 0 ((S.1 72 2) - 1) _ ?_))
      show X (38, [some (.ref 7), some (.int a1), some (.int a2), some (.long a3), none, some (.ref 72)], [.int (r_X11_within a2 0 ((S.1 72 2) - 1))], st S hs, 0, 0)
      refine hX _ ?_
      clear hP hX hk P' X cal
      refine Wp.stepsG 1 (fun cal X P' hk hX hP => ?_)
      show (¬ (r_X11_within a2 0 ((S.1 72 2) - 1)) = 0 → X (44, [some (.ref 7), some (.int a1), some (.int a2), some (.long a3), none, some (.ref 72)], [], st S hs, 0, 0)) ∧ ((r_X11_within a2 0 ((S.1 72 2) - 1)) = 0 → X (41, [some (.ref 7), some (.int a1), some (.int a2), some (.long a3), none, some (.ref 72)], [], st S hs, 0, 0))
      refine ⟨fun hc => hX _ ?_, fun hc => hX _ ?_⟩
      · clear hP hX hk P' X cal
        rw [if_neg hc] at hr
        refine Wp.stepsG 6 (fun cal X P' hk hX hP => ?_)
        show kcall cal ix_X8_fitted [.ref 72, .long a3] (st S hs) [.int a2, .ref 73] 0 0 (0, 0) (fun v σ' c' m' => X (56, [some (.ref 7), some (.int a1), some (.int a2), some (.long a3), none, some (.ref 72)], v.toList ++ [.int a2, .ref 73], σ', c', m'))
        refine kcall0 rfl (hk _ _ _ _ _ _ (e_X8_fitted_72 (d + 1) S hs a3 _ ?_))
        show X (56, [some (.ref 7), some (.int a1), some (.int a2), some (.long a3), none, some (.ref 72)], [.long (r_X8_fitted S 72 a3), .int a2, .ref 73], st S hs, 0, 0)
        refine hX _ ?_
        clear hP hX hk P' X cal
        refine Wp.stepsG 1 (fun cal X P' hk hX hP => ?_)
        show vp_in a2 60 ∧ X (57, [some (.ref 7), some (.int a1), some (.int a2), some (.long a3), none, some (.ref 72)], [], st (sG S 73 (vp_updL (S.2.1 73) a2.toNatClampNeg (r_X8_fitted S 72 a3))) hs, 0, 0)
        obtain ⟨hg, hr⟩ := gd_some hr
        refine ⟨hg, hX _ ?_⟩
        clear hP hX hk P' X cal
        have hr := Option.some.inj hr
        subst hr
        refine Wp.stepsG 2 (fun cal X P' hk hX hP => ?_)
        exact hP _ _ h
      · clear hP hX hk P' X cal
        rw [if_pos hc] at hr
        have hr := Option.some.inj hr
        subst hr
        refine Wp.stepsG 2 (fun cal X P' hk hX hP => ?_)
        exact hP _ _ h
    · clear hP hX hk P' X cal
      rw [if_pos hc] at hr
      have hr := Option.some.inj hr
      subst hr
      refine Wp.stepsG 2 (fun cal X P' hk hX hP => ?_)
      exact hP _ _ h
  · rw [hz2]
    rw [oN_is hz2] at hr
    refine Wp.stepsG 7 (fun cal X P' hk hX hP => ?_)
    show (¬ (S.1 74 1) = (-1) → X (26, [some (.ref 7), some (.int a1), some (.int a2), some (.long a3), none, some (.ref 74)], [], st S hs, 0, 0)) ∧ ((S.1 74 1) = (-1) → X (23, [some (.ref 7), some (.int a1), some (.int a2), some (.long a3), none, some (.ref 74)], [], st S hs, 0, 0))
    refine ⟨fun hc => hX _ ?_, fun hc => hX _ ?_⟩
    · clear hP hX hk P' X cal
      rw [if_neg hc] at hr
      refine Wp.stepsG 7 (fun cal X P' hk hX hP => ?_)
      show kcall cal ix_X11_within [.int a2, .int 0, .int ((S.1 74 2) - 1)] (st S hs) [] 0 0 (0, 0) (fun v σ' c' m' => X (38, [some (.ref 7), some (.int a1), some (.int a2), some (.long a3), none, some (.ref 74)], v.toList ++ [], σ', c', m'))
      refine kcall0 rfl (hk _ _ _ _ _ _ (e_X11_within (d + 1) S hs a2 0 ((S.1 74 2) - 1) _ ?_))
      show X (38, [some (.ref 7), some (.int a1), some (.int a2), some (.long a3), none, some (.ref 74)], [.int (r_X11_within a2 0 ((S.1 74 2) - 1))], st S hs, 0, 0)
      refine hX _ ?_
      clear hP hX hk P' X cal
      refine Wp.stepsG 1 (fun cal X P' hk hX hP => ?_)
      show (¬ (r_X11_within a2 0 ((S.1 74 2) - 1)) = 0 → X (44, [some (.ref 7), some (.int a1), some (.int a2), some (.long a3), none, some (.ref 74)], [], st S hs, 0, 0)) ∧ ((r_X11_within a2 0 ((S.1 74 2) - 1)) = 0 → X (41, [some (.ref 7), some (.int a1), some (.int a2), some (.long a3), none, some (.ref 74)], [], st S hs, 0, 0))
      refine ⟨fun hc => hX _ ?_, fun hc => hX _ ?_⟩
      · clear hP hX hk P' X cal
        rw [if_neg hc] at hr
        refine Wp.stepsG 6 (fun cal X P' hk hX hP => ?_)
        show kcall cal ix_X8_fitted [.ref 74, .long a3] (st S hs) [.int a2, .ref 75] 0 0 (0, 0) (fun v σ' c' m' => X (56, [some (.ref 7), some (.int a1), some (.int a2), some (.long a3), none, some (.ref 74)], v.toList ++ [.int a2, .ref 75], σ', c', m'))
        refine kcall0 rfl (hk _ _ _ _ _ _ (e_X8_fitted_74 (d + 1) S hs a3 _ ?_))
        show X (56, [some (.ref 7), some (.int a1), some (.int a2), some (.long a3), none, some (.ref 74)], [.long (r_X8_fitted S 74 a3), .int a2, .ref 75], st S hs, 0, 0)
        refine hX _ ?_
        clear hP hX hk P' X cal
        refine Wp.stepsG 1 (fun cal X P' hk hX hP => ?_)
        show vp_in a2 60 ∧ X (57, [some (.ref 7), some (.int a1), some (.int a2), some (.long a3), none, some (.ref 74)], [], st (sG S 75 (vp_updL (S.2.1 75) a2.toNatClampNeg (r_X8_fitted S 74 a3))) hs, 0, 0)
        obtain ⟨hg, hr⟩ := gd_some hr
        refine ⟨hg, hX _ ?_⟩
        clear hP hX hk P' X cal
        have hr := Option.some.inj hr
        subst hr
        refine Wp.stepsG 2 (fun cal X P' hk hX hP => ?_)
        exact hP _ _ h
      · clear hP hX hk P' X cal
        rw [if_pos hc] at hr
        have hr := Option.some.inj hr
        subst hr
        refine Wp.stepsG 2 (fun cal X P' hk hX hP => ?_)
        exact hP _ _ h
    · clear hP hX hk P' X cal
      rw [if_pos hc] at hr
      have hr := Option.some.inj hr
      subst hr
      refine Wp.stepsG 2 (fun cal X P' hk hX hP => ?_)
      exact hP _ _ h
def r_X11_read (S : St) (a1 : Int32) (a2 : Int32) : Option Int64 :=
  (r_X11_tapeAt S a1).bind fun q1 =>
  oN (q1) (
    some (-9223372036854775808)) (fun o =>
    if (r_X11_within a2 0 ((S.1 o 2) - 1)) = 0 then
      some (-9223372036854775808)
    else
      gd (¬ (a2 < 0 ∨ 60 ≤ a2.toNatClampNeg)) (
        some ((S.2.1 (o + 1)) a2.toNatClampNeg)))
set_option maxRecDepth 20000 in
set_option maxHeartbeats 4000000 in
theorem e_X11_read (d : Nat) (S : St) (hs : List Hr) (a1 : Int32) (a2 : Int32) (v : Int64) (hr : r_X11_read S a1 a2 = some v) (P : Option Value → Hp → Prop) (h : P (some (.long v)) (st S hs)) : Ev (d + 3) ix_X11_read 0 0 [.ref 7, .int a1, .int a2] (st S hs) P := by
  refine Ev.intro (M := mi_X11_read) rfl (Nat.le_of_ble_eq_true rfl) ?_
  unfold r_X11_read at hr
  refine Wp.stepsG 3 (fun cal X P' hk hX hP => ?_)
  show kcall cal ix_X11_tapeAt [.ref 7, .int a1] (st S hs) [] 0 0 (0, 0) (fun v σ' c' m' => X (5, [some (.ref 7), some (.int a1), some (.int a2), none], v.toList ++ [], σ', c', m'))
  obtain ⟨q1, hq1, hr⟩ := bd_some hr
  refine kcall0 rfl (hk _ _ _ _ _ _ (e_X11_tapeAt (d + 0) S hs a1 q1 hq1 _ ?_))
  show X (5, [some (.ref 7), some (.int a1), some (.int a2), none], [va_rf q1], st S hs, 0, 0)
  refine hX _ ?_
  clear hP hX hk P' X cal
  rcases c_X11_tapeAt hq1 with hz2 | hz2 | hz2 | hz2 | hz2 | hz2 | hz2
  · rw [hz2]
    rw [oN_no hz2] at hr
    have hr := Option.some.inj hr
    subst hr
    refine Wp.stepsG 5 (fun cal X P' hk hX hP => ?_)
    exact hP _ _ h
  · rw [hz2]
    rw [oN_is hz2] at hr
    refine Wp.stepsG 10 (fun cal X P' hk hX hP => ?_)
    show kcall cal ix_X11_within [.int a2, .int 0, .int ((S.1 64 2) - 1)] (st S hs) [] 0 0 (0, 0) (fun v σ' c' m' => X (21, [some (.ref 7), some (.int a1), some (.int a2), some (.ref 64)], v.toList ++ [], σ', c', m'))
    refine kcall0 rfl (hk _ _ _ _ _ _ (e_X11_within (d + 1) S hs a2 0 ((S.1 64 2) - 1) _ ?_))
    show X (21, [some (.ref 7), some (.int a1), some (.int a2), some (.ref 64)], [.int (r_X11_within a2 0 ((S.1 64 2) - 1))], st S hs, 0, 0)
    refine hX _ ?_
    clear hP hX hk P' X cal
    refine Wp.stepsG 1 (fun cal X P' hk hX hP => ?_)
    show (¬ (r_X11_within a2 0 ((S.1 64 2) - 1)) = 0 → X (28, [some (.ref 7), some (.int a1), some (.int a2), some (.ref 64)], [], st S hs, 0, 0)) ∧ ((r_X11_within a2 0 ((S.1 64 2) - 1)) = 0 → X (24, [some (.ref 7), some (.int a1), some (.int a2), some (.ref 64)], [], st S hs, 0, 0))
    refine ⟨fun hc => hX _ ?_, fun hc => hX _ ?_⟩
    · clear hP hX hk P' X cal
      rw [if_neg hc] at hr
      refine Wp.stepsG 4 (fun cal X P' hk hX hP => ?_)
      show vp_in a2 60 ∧ X (34, [some (.ref 7), some (.int a1), some (.int a2), some (.ref 64)], [.long ((S.2.1 65) a2.toNatClampNeg)], st S hs, 0, 0)
      obtain ⟨hg, hr⟩ := gd_some hr
      refine ⟨hg, hX _ ?_⟩
      clear hP hX hk P' X cal
      have hr := Option.some.inj hr
      subst hr
      refine Wp.stepsG 1 (fun cal X P' hk hX hP => ?_)
      exact hP _ _ h
    · clear hP hX hk P' X cal
      rw [if_pos hc] at hr
      have hr := Option.some.inj hr
      subst hr
      refine Wp.stepsG 2 (fun cal X P' hk hX hP => ?_)
      exact hP _ _ h
  · rw [hz2]
    rw [oN_is hz2] at hr
    refine Wp.stepsG 10 (fun cal X P' hk hX hP => ?_)
    show kcall cal ix_X11_within [.int a2, .int 0, .int ((S.1 66 2) - 1)] (st S hs) [] 0 0 (0, 0) (fun v σ' c' m' => X (21, [some (.ref 7), some (.int a1), some (.int a2), some (.ref 66)], v.toList ++ [], σ', c', m'))
    refine kcall0 rfl (hk _ _ _ _ _ _ (e_X11_within (d + 1) S hs a2 0 ((S.1 66 2) - 1) _ ?_))
    show X (21, [some (.ref 7), some (.int a1), some (.int a2), some (.ref 66)], [.int (r_X11_within a2 0 ((S.1 66 2) - 1))], st S hs, 0, 0)
    refine hX _ ?_
    clear hP hX hk P' X cal
    refine Wp.stepsG 1 (fun cal X P' hk hX hP => ?_)
    show (¬ (r_X11_within a2 0 ((S.1 66 2) - 1)) = 0 → X (28, [some (.ref 7), some (.int a1), some (.int a2), some (.ref 66)], [], st S hs, 0, 0)) ∧ ((r_X11_within a2 0 ((S.1 66 2) - 1)) = 0 → X (24, [some (.ref 7), some (.int a1), some (.int a2), some (.ref 66)], [], st S hs, 0, 0))
    refine ⟨fun hc => hX _ ?_, fun hc => hX _ ?_⟩
    · clear hP hX hk P' X cal
      rw [if_neg hc] at hr
      refine Wp.stepsG 4 (fun cal X P' hk hX hP => ?_)
      show vp_in a2 60 ∧ X (34, [some (.ref 7), some (.int a1), some (.int a2), some (.ref 66)], [.long ((S.2.1 67) a2.toNatClampNeg)], st S hs, 0, 0)
      obtain ⟨hg, hr⟩ := gd_some hr
      refine ⟨hg, hX _ ?_⟩
      clear hP hX hk P' X cal
      have hr := Option.some.inj hr
      subst hr
      refine Wp.stepsG 1 (fun cal X P' hk hX hP => ?_)
      exact hP _ _ h
    · clear hP hX hk P' X cal
      rw [if_pos hc] at hr
      have hr := Option.some.inj hr
      subst hr
      refine Wp.stepsG 2 (fun cal X P' hk hX hP => ?_)
      exact hP _ _ h
  · rw [hz2]
    rw [oN_is hz2] at hr
    refine Wp.stepsG 10 (fun cal X P' hk hX hP => ?_)
    show kcall cal ix_X11_within [.int a2, .int 0, .int ((S.1 68 2) - 1)] (st S hs) [] 0 0 (0, 0) (fun v σ' c' m' => X (21, [some (.ref 7), some (.int a1), some (.int a2), some (.ref 68)], v.toList ++ [], σ', c', m'))
    refine kcall0 rfl (hk _ _ _ _ _ _ (e_X11_within (d + 1) S hs a2 0 ((S.1 68 2) - 1) _ ?_))
    show X (21, [some (.ref 7), some (.int a1), some (.int a2), some (.ref 68)], [.int (r_X11_within a2 0 ((S.1 68 2) - 1))], st S hs, 0, 0)
    refine hX _ ?_
    clear hP hX hk P' X cal
    refine Wp.stepsG 1 (fun cal X P' hk hX hP => ?_)
    show (¬ (r_X11_within a2 0 ((S.1 68 2) - 1)) = 0 → X (28, [some (.ref 7), some (.int a1), some (.int a2), some (.ref 68)], [], st S hs, 0, 0)) ∧ ((r_X11_within a2 0 ((S.1 68 2) - 1)) = 0 → X (24, [some (.ref 7), some (.int a1), some (.int a2), some (.ref 68)], [], st S hs, 0, 0))
    refine ⟨fun hc => hX _ ?_, fun hc => hX _ ?_⟩
    · clear hP hX hk P' X cal
      rw [if_neg hc] at hr
      refine Wp.stepsG 4 (fun cal X P' hk hX hP => ?_)
      show vp_in a2 60 ∧ X (34, [some (.ref 7), some (.int a1), some (.int a2), some (.ref 68)], [.long ((S.2.1 69) a2.toNatClampNeg)], st S hs, 0, 0)
      obtain ⟨hg, hr⟩ := gd_some hr
      refine ⟨hg, hX _ ?_⟩
      clear hP hX hk P' X cal
      have hr := Option.some.inj hr
      subst hr
      refine Wp.stepsG 1 (fun cal X P' hk hX hP => ?_)
      exact hP _ _ h
    · clear hP hX hk P' X cal
      rw [if_pos hc] at hr
      have hr := Option.some.inj hr
      subst hr
      refine Wp.stepsG 2 (fun cal X P' hk hX hP => ?_)
      exact hP _ _ h
  · rw [hz2]
    rw [oN_is hz2] at hr
    refine Wp.stepsG 10 (fun cal X P' hk hX hP => ?_)
    show kcall cal ix_X11_within [.int a2, .int 0, .int ((S.1 70 2) - 1)] (st S hs) [] 0 0 (0, 0) (fun v σ' c' m' => X (21, [some (.ref 7), some (.int a1), some (.int a2), some (.ref 70)], v.toList ++ [], σ', c', m'))
    refine kcall0 rfl (hk _ _ _ _ _ _ (e_X11_within (d + 1) S hs a2 0 ((S.1 70 2) - 1) _ ?_))
    show X (21, [some (.ref 7), some (.int a1), some (.int a2), some (.ref 70)], [.int (r_X11_within a2 0 ((S.1 70 2) - 1))], st S hs, 0, 0)
    refine hX _ ?_
    clear hP hX hk P' X cal
    refine Wp.stepsG 1 (fun cal X P' hk hX hP => ?_)
    show (¬ (r_X11_within a2 0 ((S.1 70 2) - 1)) = 0 → X (28, [some (.ref 7), some (.int a1), some (.int a2), some (.ref 70)], [], st S hs, 0, 0)) ∧ ((r_X11_within a2 0 ((S.1 70 2) - 1)) = 0 → X (24, [some (.ref 7), some (.int a1), some (.int a2), some (.ref 70)], [], st S hs, 0, 0))
    refine ⟨fun hc => hX _ ?_, fun hc => hX _ ?_⟩
    · clear hP hX hk P' X cal
      rw [if_neg hc] at hr
      refine Wp.stepsG 4 (fun cal X P' hk hX hP => ?_)
      show vp_in a2 60 ∧ X (34, [some (.ref 7), some (.int a1), some (.int a2), some (.ref 70)], [.long ((S.2.1 71) a2.toNatClampNeg)], st S hs, 0, 0)
      obtain ⟨hg, hr⟩ := gd_some hr
      refine ⟨hg, hX _ ?_⟩
      clear hP hX hk P' X cal
      have hr := Option.some.inj hr
      subst hr
      refine Wp.stepsG 1 (fun cal X P' hk hX hP => ?_)
      exact hP _ _ h
    · clear hP hX hk P' X cal
      rw [if_pos hc] at hr
      have hr := Option.some.inj hr
      subst hr
      refine Wp.stepsG 2 (fun cal X P' hk hX hP => ?_)
      exact hP _ _ h
  · rw [hz2]
    rw [oN_is hz2] at hr
    refine Wp.stepsG 10 (fun cal X P' hk hX hP => ?_)
    show kcall cal ix_X11_within [.int a2, .int 0, .int ((S.1 72 2) - 1)] (st S hs) [] 0 0 (0, 0) (fun v σ' c' m' => X (21, [some (.ref 7), some (.int a1), some (.int a2), some (.ref 72)], v.toList ++ [], σ', c', m'))
    refine kcall0 rfl (hk _ _ _ _ _ _ (e_X11_within (d + 1) S hs a2 0 ((S.1 72 2) - 1) _ ?_))
    show X (21, [some (.ref 7), some (.int a1), some (.int a2), some (.ref 72)], [.int (r_X11_within a2 0 ((S.1 72 2) - 1))], st S hs, 0, 0)
    refine hX _ ?_
    clear hP hX hk P' X cal
    refine Wp.stepsG 1 (fun cal X P' hk hX hP => ?_)
    show (¬ (r_X11_within a2 0 ((S.1 72 2) - 1)) = 0 → X (28, [some (.ref 7), some (.int a1), some (.int a2), some (.ref 72)], [], st S hs, 0, 0)) ∧ ((r_X11_within a2 0 ((S.1 72 2) - 1)) = 0 → X (24, [some (.ref 7), some (.int a1), some (.int a2), some (.ref 72)], [], st S hs, 0, 0))
    refine ⟨fun hc => hX _ ?_, fun hc => hX _ ?_⟩
    · clear hP hX hk P' X cal
      rw [if_neg hc] at hr
      refine Wp.stepsG 4 (fun cal X P' hk hX hP => ?_)
      show vp_in a2 60 ∧ X (34, [some (.ref 7), some (.int a1), some (.int a2), some (.ref 72)], [.long ((S.2.1 73) a2.toNatClampNeg)], st S hs, 0, 0)
      obtain ⟨hg, hr⟩ := gd_some hr
      refine ⟨hg, hX _ ?_⟩
      clear hP hX hk P' X cal
      have hr := Option.some.inj hr
      subst hr
      refine Wp.stepsG 1 (fun cal X P' hk hX hP => ?_)
      exact hP _ _ h
    · clear hP hX hk P' X cal
      rw [if_pos hc] at hr
      have hr := Option.some.inj hr
      subst hr
      refine Wp.stepsG 2 (fun cal X P' hk hX hP => ?_)
      exact hP _ _ h
  · rw [hz2]
    rw [oN_is hz2] at hr
    refine Wp.stepsG 10 (fun cal X P' hk hX hP => ?_)
    show kcall cal ix_X11_within [.int a2, .int 0, .int ((S.1 74 2) - 1)] (st S hs) [] 0 0 (0, 0) (fun v σ' c' m' => X (21, [some (.ref 7), some (.int a1), some (.int a2), some (.ref 74)], v.toList ++ [], σ', c', m'))
    refine kcall0 rfl (hk _ _ _ _ _ _ (e_X11_within (d + 1) S hs a2 0 ((S.1 74 2) - 1) _ ?_))
    show X (21, [some (.ref 7), some (.int a1), some (.int a2), some (.ref 74)], [.int (r_X11_within a2 0 ((S.1 74 2) - 1))], st S hs, 0, 0)
    refine hX _ ?_
    clear hP hX hk P' X cal
    refine Wp.stepsG 1 (fun cal X P' hk hX hP => ?_)
    show (¬ (r_X11_within a2 0 ((S.1 74 2) - 1)) = 0 → X (28, [some (.ref 7), some (.int a1), some (.int a2), some (.ref 74)], [], st S hs, 0, 0)) ∧ ((r_X11_within a2 0 ((S.1 74 2) - 1)) = 0 → X (24, [some (.ref 7), some (.int a1), some (.int a2), some (.ref 74)], [], st S hs, 0, 0))
    refine ⟨fun hc => hX _ ?_, fun hc => hX _ ?_⟩
    · clear hP hX hk P' X cal
      rw [if_neg hc] at hr
      refine Wp.stepsG 4 (fun cal X P' hk hX hP => ?_)
      show vp_in a2 60 ∧ X (34, [some (.ref 7), some (.int a1), some (.int a2), some (.ref 74)], [.long ((S.2.1 75) a2.toNatClampNeg)], st S hs, 0, 0)
      obtain ⟨hg, hr⟩ := gd_some hr
      refine ⟨hg, hX _ ?_⟩
      clear hP hX hk P' X cal
      have hr := Option.some.inj hr
      subst hr
      refine Wp.stepsG 1 (fun cal X P' hk hX hP => ?_)
      exact hP _ _ h
    · clear hP hX hk P' X cal
      rw [if_pos hc] at hr
      have hr := Option.some.inj hr
      subst hr
      refine Wp.stepsG 2 (fun cal X P' hk hX hP => ?_)
      exact hP _ _ h
def r_X8_hasRun (S : St) (o : Nat) (a1 : Int32) (a2 : Int32) : Int32 :=
  if a1 < 0 then
    0
  else
    if a2 < 0 then
      0
    else
      if ((S.1 o 2) - a1) < a2 then
        0
      else
        1
theorem b_X8_hasRun (S : St) (o : Nat) (a1 : Int32) (a2 : Int32) : r_X8_hasRun S o a1 a2 = 0 ∨ r_X8_hasRun S o a1 a2 = 1 := by
  unfold r_X8_hasRun
  (repeat' split) <;> first | exact Or.inl rfl | exact Or.inr rfl
set_option maxRecDepth 20000 in
set_option maxHeartbeats 4000000 in
theorem e_X8_hasRun_64 (d : Nat) (S : St) (hs : List Hr) (a1 : Int32) (a2 : Int32) (P : Option Value → Hp → Prop) (h : P (some (.int (r_X8_hasRun S 64 a1 a2))) (st S hs)) : Ev (d + 1) ix_X8_hasRun 0 0 [.ref 64, .int a1, .int a2] (st S hs) P := by
  refine Ev.intro (M := mi_X8_hasRun) rfl (Nat.le_of_ble_eq_true rfl) ?_
  unfold r_X8_hasRun at h
  refine Wp.stepsG 2 (fun cal X P' hk hX hP => ?_)
  show (a1 < 0 → X (22, [some (.ref 64), some (.int a1), some (.int a2)], [], st S hs, 0, 0)) ∧ (¬ a1 < 0 → X (4, [some (.ref 64), some (.int a1), some (.int a2)], [], st S hs, 0, 0))
  refine ⟨fun hc => hX _ ?_, fun hc => hX _ ?_⟩
  · clear hP hX hk P' X cal
    rw [if_pos hc] at h
    refine Wp.stepsG 2 (fun cal X P' hk hX hP => ?_)
    exact ⟨Or.inl rfl, hP _ _ h⟩
  · clear hP hX hk P' X cal
    rw [if_neg hc] at h
    refine Wp.stepsG 2 (fun cal X P' hk hX hP => ?_)
    show (a2 < 0 → X (22, [some (.ref 64), some (.int a1), some (.int a2)], [], st S hs, 0, 0)) ∧ (¬ a2 < 0 → X (8, [some (.ref 64), some (.int a1), some (.int a2)], [], st S hs, 0, 0))
    refine ⟨fun hc => hX _ ?_, fun hc => hX _ ?_⟩
    · clear hP hX hk P' X cal
      rw [if_pos hc] at h
      refine Wp.stepsG 2 (fun cal X P' hk hX hP => ?_)
      exact ⟨Or.inl rfl, hP _ _ h⟩
    · clear hP hX hk P' X cal
      rw [if_neg hc] at h
      refine Wp.stepsG 6 (fun cal X P' hk hX hP => ?_)
      show (((S.1 64 2) - a1) < a2 → X (22, [some (.ref 64), some (.int a1), some (.int a2)], [], st S hs, 0, 0)) ∧ (¬ ((S.1 64 2) - a1) < a2 → X (18, [some (.ref 64), some (.int a1), some (.int a2)], [], st S hs, 0, 0))
      refine ⟨fun hc => hX _ ?_, fun hc => hX _ ?_⟩
      · clear hP hX hk P' X cal
        rw [if_pos hc] at h
        refine Wp.stepsG 2 (fun cal X P' hk hX hP => ?_)
        exact ⟨Or.inl rfl, hP _ _ h⟩
      · clear hP hX hk P' X cal
        rw [if_neg hc] at h
        refine Wp.stepsG 3 (fun cal X P' hk hX hP => ?_)
        exact ⟨Or.inr rfl, hP _ _ h⟩
set_option maxRecDepth 20000 in
set_option maxHeartbeats 4000000 in
theorem e_X8_hasRun_66 (d : Nat) (S : St) (hs : List Hr) (a1 : Int32) (a2 : Int32) (P : Option Value → Hp → Prop) (h : P (some (.int (r_X8_hasRun S 66 a1 a2))) (st S hs)) : Ev (d + 1) ix_X8_hasRun 0 0 [.ref 66, .int a1, .int a2] (st S hs) P := by
  refine Ev.intro (M := mi_X8_hasRun) rfl (Nat.le_of_ble_eq_true rfl) ?_
  unfold r_X8_hasRun at h
  refine Wp.stepsG 2 (fun cal X P' hk hX hP => ?_)
  show (a1 < 0 → X (22, [some (.ref 66), some (.int a1), some (.int a2)], [], st S hs, 0, 0)) ∧ (¬ a1 < 0 → X (4, [some (.ref 66), some (.int a1), some (.int a2)], [], st S hs, 0, 0))
  refine ⟨fun hc => hX _ ?_, fun hc => hX _ ?_⟩
  · clear hP hX hk P' X cal
    rw [if_pos hc] at h
    refine Wp.stepsG 2 (fun cal X P' hk hX hP => ?_)
    exact ⟨Or.inl rfl, hP _ _ h⟩
  · clear hP hX hk P' X cal
    rw [if_neg hc] at h
    refine Wp.stepsG 2 (fun cal X P' hk hX hP => ?_)
    show (a2 < 0 → X (22, [some (.ref 66), some (.int a1), some (.int a2)], [], st S hs, 0, 0)) ∧ (¬ a2 < 0 → X (8, [some (.ref 66), some (.int a1), some (.int a2)], [], st S hs, 0, 0))
    refine ⟨fun hc => hX _ ?_, fun hc => hX _ ?_⟩
    · clear hP hX hk P' X cal
      rw [if_pos hc] at h
      refine Wp.stepsG 2 (fun cal X P' hk hX hP => ?_)
      exact ⟨Or.inl rfl, hP _ _ h⟩
    · clear hP hX hk P' X cal
      rw [if_neg hc] at h
      refine Wp.stepsG 6 (fun cal X P' hk hX hP => ?_)
      show (((S.1 66 2) - a1) < a2 → X (22, [some (.ref 66), some (.int a1), some (.int a2)], [], st S hs, 0, 0)) ∧ (¬ ((S.1 66 2) - a1) < a2 → X (18, [some (.ref 66), some (.int a1), some (.int a2)], [], st S hs, 0, 0))
      refine ⟨fun hc => hX _ ?_, fun hc => hX _ ?_⟩
      · clear hP hX hk P' X cal
        rw [if_pos hc] at h
        refine Wp.stepsG 2 (fun cal X P' hk hX hP => ?_)
        exact ⟨Or.inl rfl, hP _ _ h⟩
      · clear hP hX hk P' X cal
        rw [if_neg hc] at h
        refine Wp.stepsG 3 (fun cal X P' hk hX hP => ?_)
        exact ⟨Or.inr rfl, hP _ _ h⟩
set_option maxRecDepth 20000 in
set_option maxHeartbeats 4000000 in
theorem e_X8_hasRun_68 (d : Nat) (S : St) (hs : List Hr) (a1 : Int32) (a2 : Int32) (P : Option Value → Hp → Prop) (h : P (some (.int (r_X8_hasRun S 68 a1 a2))) (st S hs)) : Ev (d + 1) ix_X8_hasRun 0 0 [.ref 68, .int a1, .int a2] (st S hs) P := by
  refine Ev.intro (M := mi_X8_hasRun) rfl (Nat.le_of_ble_eq_true rfl) ?_
  unfold r_X8_hasRun at h
  refine Wp.stepsG 2 (fun cal X P' hk hX hP => ?_)
  show (a1 < 0 → X (22, [some (.ref 68), some (.int a1), some (.int a2)], [], st S hs, 0, 0)) ∧ (¬ a1 < 0 → X (4, [some (.ref 68), some (.int a1), some (.int a2)], [], st S hs, 0, 0))
  refine ⟨fun hc => hX _ ?_, fun hc => hX _ ?_⟩
  · clear hP hX hk P' X cal
    rw [if_pos hc] at h
    refine Wp.stepsG 2 (fun cal X P' hk hX hP => ?_)
    exact ⟨Or.inl rfl, hP _ _ h⟩
  · clear hP hX hk P' X cal
    rw [if_neg hc] at h
    refine Wp.stepsG 2 (fun cal X P' hk hX hP => ?_)
    show (a2 < 0 → X (22, [some (.ref 68), some (.int a1), some (.int a2)], [], st S hs, 0, 0)) ∧ (¬ a2 < 0 → X (8, [some (.ref 68), some (.int a1), some (.int a2)], [], st S hs, 0, 0))
    refine ⟨fun hc => hX _ ?_, fun hc => hX _ ?_⟩
    · clear hP hX hk P' X cal
      rw [if_pos hc] at h
      refine Wp.stepsG 2 (fun cal X P' hk hX hP => ?_)
      exact ⟨Or.inl rfl, hP _ _ h⟩
    · clear hP hX hk P' X cal
      rw [if_neg hc] at h
      refine Wp.stepsG 6 (fun cal X P' hk hX hP => ?_)
      show (((S.1 68 2) - a1) < a2 → X (22, [some (.ref 68), some (.int a1), some (.int a2)], [], st S hs, 0, 0)) ∧ (¬ ((S.1 68 2) - a1) < a2 → X (18, [some (.ref 68), some (.int a1), some (.int a2)], [], st S hs, 0, 0))
      refine ⟨fun hc => hX _ ?_, fun hc => hX _ ?_⟩
      · clear hP hX hk P' X cal
        rw [if_pos hc] at h
        refine Wp.stepsG 2 (fun cal X P' hk hX hP => ?_)
        exact ⟨Or.inl rfl, hP _ _ h⟩
      · clear hP hX hk P' X cal
        rw [if_neg hc] at h
        refine Wp.stepsG 3 (fun cal X P' hk hX hP => ?_)
        exact ⟨Or.inr rfl, hP _ _ h⟩
set_option maxRecDepth 20000 in
set_option maxHeartbeats 4000000 in
theorem e_X8_hasRun_70 (d : Nat) (S : St) (hs : List Hr) (a1 : Int32) (a2 : Int32) (P : Option Value → Hp → Prop) (h : P (some (.int (r_X8_hasRun S 70 a1 a2))) (st S hs)) : Ev (d + 1) ix_X8_hasRun 0 0 [.ref 70, .int a1, .int a2] (st S hs) P := by
  refine Ev.intro (M := mi_X8_hasRun) rfl (Nat.le_of_ble_eq_true rfl) ?_
  unfold r_X8_hasRun at h
  refine Wp.stepsG 2 (fun cal X P' hk hX hP => ?_)
  show (a1 < 0 → X (22, [some (.ref 70), some (.int a1), some (.int a2)], [], st S hs, 0, 0)) ∧ (¬ a1 < 0 → X (4, [some (.ref 70), some (.int a1), some (.int a2)], [], st S hs, 0, 0))
  refine ⟨fun hc => hX _ ?_, fun hc => hX _ ?_⟩
  · clear hP hX hk P' X cal
    rw [if_pos hc] at h
    refine Wp.stepsG 2 (fun cal X P' hk hX hP => ?_)
    exact ⟨Or.inl rfl, hP _ _ h⟩
  · clear hP hX hk P' X cal
    rw [if_neg hc] at h
    refine Wp.stepsG 2 (fun cal X P' hk hX hP => ?_)
    show (a2 < 0 → X (22, [some (.ref 70), some (.int a1), some (.int a2)], [], st S hs, 0, 0)) ∧ (¬ a2 < 0 → X (8, [some (.ref 70), some (.int a1), some (.int a2)], [], st S hs, 0, 0))
    refine ⟨fun hc => hX _ ?_, fun hc => hX _ ?_⟩
    · clear hP hX hk P' X cal
      rw [if_pos hc] at h
      refine Wp.stepsG 2 (fun cal X P' hk hX hP => ?_)
      exact ⟨Or.inl rfl, hP _ _ h⟩
    · clear hP hX hk P' X cal
      rw [if_neg hc] at h
      refine Wp.stepsG 6 (fun cal X P' hk hX hP => ?_)
      show (((S.1 70 2) - a1) < a2 → X (22, [some (.ref 70), some (.int a1), some (.int a2)], [], st S hs, 0, 0)) ∧ (¬ ((S.1 70 2) - a1) < a2 → X (18, [some (.ref 70), some (.int a1), some (.int a2)], [], st S hs, 0, 0))
      refine ⟨fun hc => hX _ ?_, fun hc => hX _ ?_⟩
      · clear hP hX hk P' X cal
        rw [if_pos hc] at h
        refine Wp.stepsG 2 (fun cal X P' hk hX hP => ?_)
        exact ⟨Or.inl rfl, hP _ _ h⟩
      · clear hP hX hk P' X cal
        rw [if_neg hc] at h
        refine Wp.stepsG 3 (fun cal X P' hk hX hP => ?_)
        exact ⟨Or.inr rfl, hP _ _ h⟩
set_option maxRecDepth 20000 in
set_option maxHeartbeats 4000000 in
theorem e_X8_hasRun_72 (d : Nat) (S : St) (hs : List Hr) (a1 : Int32) (a2 : Int32) (P : Option Value → Hp → Prop) (h : P (some (.int (r_X8_hasRun S 72 a1 a2))) (st S hs)) : Ev (d + 1) ix_X8_hasRun 0 0 [.ref 72, .int a1, .int a2] (st S hs) P := by
  refine Ev.intro (M := mi_X8_hasRun) rfl (Nat.le_of_ble_eq_true rfl) ?_
  unfold r_X8_hasRun at h
  refine Wp.stepsG 2 (fun cal X P' hk hX hP => ?_)
  show (a1 < 0 → X (22, [some (.ref 72), some (.int a1), some (.int a2)], [], st S hs, 0, 0)) ∧ (¬ a1 < 0 → X (4, [some (.ref 72), some (.int a1), some (.int a2)], [], st S hs, 0, 0))
  refine ⟨fun hc => hX _ ?_, fun hc => hX _ ?_⟩
  · clear hP hX hk P' X cal
    rw [if_pos hc] at h
    refine Wp.stepsG 2 (fun cal X P' hk hX hP => ?_)
    exact ⟨Or.inl rfl, hP _ _ h⟩
  · clear hP hX hk P' X cal
    rw [if_neg hc] at h
    refine Wp.stepsG 2 (fun cal X P' hk hX hP => ?_)
    show (a2 < 0 → X (22, [some (.ref 72), some (.int a1), some (.int a2)], [], st S hs, 0, 0)) ∧ (¬ a2 < 0 → X (8, [some (.ref 72), some (.int a1), some (.int a2)], [], st S hs, 0, 0))
    refine ⟨fun hc => hX _ ?_, fun hc => hX _ ?_⟩
    · clear hP hX hk P' X cal
      rw [if_pos hc] at h
      refine Wp.stepsG 2 (fun cal X P' hk hX hP => ?_)
      exact ⟨Or.inl rfl, hP _ _ h⟩
    · clear hP hX hk P' X cal
      rw [if_neg hc] at h
      refine Wp.stepsG 6 (fun cal X P' hk hX hP => ?_)
      show (((S.1 72 2) - a1) < a2 → X (22, [some (.ref 72), some (.int a1), some (.int a2)], [], st S hs, 0, 0)) ∧ (¬ ((S.1 72 2) - a1) < a2 → X (18, [some (.ref 72), some (.int a1), some (.int a2)], [], st S hs, 0, 0))
      refine ⟨fun hc => hX _ ?_, fun hc => hX _ ?_⟩
      · clear hP hX hk P' X cal
        rw [if_pos hc] at h
        refine Wp.stepsG 2 (fun cal X P' hk hX hP => ?_)
        exact ⟨Or.inl rfl, hP _ _ h⟩
      · clear hP hX hk P' X cal
        rw [if_neg hc] at h
        refine Wp.stepsG 3 (fun cal X P' hk hX hP => ?_)
        exact ⟨Or.inr rfl, hP _ _ h⟩
set_option maxRecDepth 20000 in
set_option maxHeartbeats 4000000 in
theorem e_X8_hasRun_74 (d : Nat) (S : St) (hs : List Hr) (a1 : Int32) (a2 : Int32) (P : Option Value → Hp → Prop) (h : P (some (.int (r_X8_hasRun S 74 a1 a2))) (st S hs)) : Ev (d + 1) ix_X8_hasRun 0 0 [.ref 74, .int a1, .int a2] (st S hs) P := by
  refine Ev.intro (M := mi_X8_hasRun) rfl (Nat.le_of_ble_eq_true rfl) ?_
  unfold r_X8_hasRun at h
  refine Wp.stepsG 2 (fun cal X P' hk hX hP => ?_)
  show (a1 < 0 → X (22, [some (.ref 74), some (.int a1), some (.int a2)], [], st S hs, 0, 0)) ∧ (¬ a1 < 0 → X (4, [some (.ref 74), some (.int a1), some (.int a2)], [], st S hs, 0, 0))
  refine ⟨fun hc => hX _ ?_, fun hc => hX _ ?_⟩
  · clear hP hX hk P' X cal
    rw [if_pos hc] at h
    refine Wp.stepsG 2 (fun cal X P' hk hX hP => ?_)
    exact ⟨Or.inl rfl, hP _ _ h⟩
  · clear hP hX hk P' X cal
    rw [if_neg hc] at h
    refine Wp.stepsG 2 (fun cal X P' hk hX hP => ?_)
    show (a2 < 0 → X (22, [some (.ref 74), some (.int a1), some (.int a2)], [], st S hs, 0, 0)) ∧ (¬ a2 < 0 → X (8, [some (.ref 74), some (.int a1), some (.int a2)], [], st S hs, 0, 0))
    refine ⟨fun hc => hX _ ?_, fun hc => hX _ ?_⟩
    · clear hP hX hk P' X cal
      rw [if_pos hc] at h
      refine Wp.stepsG 2 (fun cal X P' hk hX hP => ?_)
      exact ⟨Or.inl rfl, hP _ _ h⟩
    · clear hP hX hk P' X cal
      rw [if_neg hc] at h
      refine Wp.stepsG 6 (fun cal X P' hk hX hP => ?_)
      show (((S.1 74 2) - a1) < a2 → X (22, [some (.ref 74), some (.int a1), some (.int a2)], [], st S hs, 0, 0)) ∧ (¬ ((S.1 74 2) - a1) < a2 → X (18, [some (.ref 74), some (.int a1), some (.int a2)], [], st S hs, 0, 0))
      refine ⟨fun hc => hX _ ?_, fun hc => hX _ ?_⟩
      · clear hP hX hk P' X cal
        rw [if_pos hc] at h
        refine Wp.stepsG 2 (fun cal X P' hk hX hP => ?_)
        exact ⟨Or.inl rfl, hP _ _ h⟩
      · clear hP hX hk P' X cal
        rw [if_neg hc] at h
        refine Wp.stepsG 3 (fun cal X P' hk hX hP => ?_)
        exact ⟨Or.inr rfl, hP _ _ h⟩
def r_X11_shift (S : St) (a1 : Int32) (a2 : Int32) (a3 : Int32) (a4 : Int32) (a5 : Int32) : Option (Int32 × St) :=
  (r_X11_tapeAt S a1).bind fun q1 =>
  oN (q1) (
    (r_X11_tapeAt S a3).bind fun q2 =>
    oN (q2) (
      some ((-1), S)) (fun o =>
      some ((-1), S))) (fun o =>
    (r_X11_tapeAt S a3).bind fun q3 =>
    oN (q3) (
      some ((-1), S)) (fun p =>
      if (S.1 o 1) = (-1) then
        some ((-11), S)
      else
        if (S.1 p 1) = (-1) then
          some ((-11), S)
        else
          if (S.1 o 1) = (S.1 p 1) then
            if (r_X8_hasRun S o a2 a5) = 0 then
              some ((-13), S)
            else
              if (r_X8_hasRun S p a4 a5) = 0 then
                some ((-13), S)
              else
                gd ((¬ a2 < 0 ∧ ¬ a4 < 0 ∧ ¬ a5 < 0 ∧ a2.toNatClampNeg + a5.toNatClampNeg ≤ 60 ∧ a4.toNatClampNeg + a5.toNatClampNeg ≤ 60)) (
                  some (a5, sG S (p + 1) (va_cpy (S.2.1 (o + 1)) (S.2.1 (p + 1)) a2.toNatClampNeg a4.toNatClampNeg a5.toNatClampNeg)))
          else
            some ((-12), S)))
set_option maxRecDepth 20000 in
set_option maxHeartbeats 4000000 in
theorem e_X11_shift (d : Nat) (S : St) (hs : List Hr) (a1 : Int32) (a2 : Int32) (a3 : Int32) (a4 : Int32) (a5 : Int32) (v : Int32 × St) (hr : r_X11_shift S a1 a2 a3 a4 a5 = some v) (P : Option Value → Hp → Prop) (h : P (some (.int v.1)) (st v.2 hs)) : Ev (d + 3) ix_X11_shift 0 0 [.ref 7, .int a1, .int a2, .int a3, .int a4, .int a5] (st S hs) P := by
  refine Ev.intro (M := mi_X11_shift) rfl (Nat.le_of_ble_eq_true rfl) ?_
  unfold r_X11_shift at hr
  refine Wp.stepsG 3 (fun cal X P' hk hX hP => ?_)
  show kcall cal ix_X11_tapeAt [.ref 7, .int a1] (st S hs) [] 0 0 (0, 0) (fun v σ' c' m' => X (5, [some (.ref 7), some (.int a1), some (.int a2), some (.int a3), some (.int a4), some (.int a5), none, none], v.toList ++ [], σ', c', m'))
  obtain ⟨q1, hq1, hr⟩ := bd_some hr
  refine kcall0 rfl (hk _ _ _ _ _ _ (e_X11_tapeAt (d + 0) S hs a1 q1 hq1 _ ?_))
  show X (5, [some (.ref 7), some (.int a1), some (.int a2), some (.int a3), some (.int a4), some (.int a5), none, none], [va_rf q1], st S hs, 0, 0)
  refine hX _ ?_
  clear hP hX hk P' X cal
  rcases c_X11_tapeAt hq1 with hz10 | hz10 | hz10 | hz10 | hz10 | hz10 | hz10
  · rw [hz10]
    rw [oN_no hz10] at hr
    refine Wp.stepsG 4 (fun cal X P' hk hX hP => ?_)
    show kcall cal ix_X11_tapeAt [.ref 7, .int a3] (st S hs) [] 0 0 (0, 0) (fun v σ' c' m' => X (12, [some (.ref 7), some (.int a1), some (.int a2), some (.int a3), some (.int a4), some (.int a5), some (.null), none], v.toList ++ [], σ', c', m'))
    obtain ⟨q2, hq2, hr⟩ := bd_some hr
    refine kcall0 rfl (hk _ _ _ _ _ _ (e_X11_tapeAt (d + 0) S hs a3 q2 hq2 _ ?_))
    show X (12, [some (.ref 7), some (.int a1), some (.int a2), some (.int a3), some (.int a4), some (.int a5), some (.null), none], [va_rf q2], st S hs, 0, 0)
    refine hX _ ?_
    clear hP hX hk P' X cal
    rcases c_X11_tapeAt hq2 with hz11 | hz11 | hz11 | hz11 | hz11 | hz11 | hz11
    · rw [hz11]
      rw [oN_no hz11] at hr
      have hr := Option.some.inj hr
      subst hr
      refine Wp.stepsG 5 (fun cal X P' hk hX hP => ?_)
      exact hP _ _ h
    · rw [hz11]
      rw [oN_is hz11] at hr
      have hr := Option.some.inj hr
      subst hr
      refine Wp.stepsG 5 (fun cal X P' hk hX hP => ?_)
      exact hP _ _ h
    · rw [hz11]
      rw [oN_is hz11] at hr
      have hr := Option.some.inj hr
      subst hr
      refine Wp.stepsG 5 (fun cal X P' hk hX hP => ?_)
      exact hP _ _ h
    · rw [hz11]
      rw [oN_is hz11] at hr
      have hr := Option.some.inj hr
      subst hr
      refine Wp.stepsG 5 (fun cal X P' hk hX hP => ?_)
      exact hP _ _ h
    · rw [hz11]
      rw [oN_is hz11] at hr
      have hr := Option.some.inj hr
      subst hr
      refine Wp.stepsG 5 (fun cal X P' hk hX hP => ?_)
      exact hP _ _ h
    · rw [hz11]
      rw [oN_is hz11] at hr
      have hr := Option.some.inj hr
      subst hr
      refine Wp.stepsG 5 (fun cal X P' hk hX hP => ?_)
      exact hP _ _ h
    · rw [hz11]
      rw [oN_is hz11] at hr
      have hr := Option.some.inj hr
      subst hr
      refine Wp.stepsG 5 (fun cal X P' hk hX hP => ?_)
      exact hP _ _ h
  · rw [hz10]
    rw [oN_is hz10] at hr
    refine Wp.stepsG 4 (fun cal X P' hk hX hP => ?_)
    show kcall cal ix_X11_tapeAt [.ref 7, .int a3] (st S hs) [] 0 0 (0, 0) (fun v σ' c' m' => X (12, [some (.ref 7), some (.int a1), some (.int a2), some (.int a3), some (.int a4), some (.int a5), some (.ref 64), none], v.toList ++ [], σ', c', m'))
    obtain ⟨q4, hq4, hr⟩ := bd_some hr
    refine kcall0 rfl (hk _ _ _ _ _ _ (e_X11_tapeAt (d + 0) S hs a3 q4 hq4 _ ?_))
    show X (12, [some (.ref 7), some (.int a1), some (.int a2), some (.int a3), some (.int a4), some (.int a5), some (.ref 64), none], [va_rf q4], st S hs, 0, 0)
    refine hX _ ?_
    clear hP hX hk P' X cal
    rcases c_X11_tapeAt hq4 with hz12 | hz12 | hz12 | hz12 | hz12 | hz12 | hz12
    · rw [hz12]
      rw [oN_no hz12] at hr
      have hr := Option.some.inj hr
      subst hr
      refine Wp.stepsG 7 (fun cal X P' hk hX hP => ?_)
      exact hP _ _ h
    · rw [hz12]
      rw [oN_is hz12] at hr
      refine Wp.stepsG 9 (fun cal X P' hk hX hP => ?_)
      show ((S.1 64 1) = (-1) → X (44, [some (.ref 7), some (.int a1), some (.int a2), some (.int a3), some (.int a4), some (.int a5), some (.ref 64), some (.ref 64)], [], st S hs, 0, 0)) ∧ (¬ (S.1 64 1) = (-1) → X (35, [some (.ref 7), some (.int a1), some (.int a2), some (.int a3), some (.int a4), some (.int a5), some (.ref 64), some (.ref 64)], [], st S hs, 0, 0))
      refine ⟨fun hc => hX _ ?_, fun hc => hX _ ?_⟩
      · clear hP hX hk P' X cal
        rw [if_pos hc] at hr
        have hr := Option.some.inj hr
        subst hr
        refine Wp.stepsG 2 (fun cal X P' hk hX hP => ?_)
        exact hP _ _ h
      · clear hP hX hk P' X cal
        rw [if_neg hc] at hr
        refine Wp.stepsG 4 (fun cal X P' hk hX hP => ?_)
        show (¬ (S.1 64 1) = (-1) → X (47, [some (.ref 7), some (.int a1), some (.int a2), some (.int a3), some (.int a4), some (.int a5), some (.ref 64), some (.ref 64)], [], st S hs, 0, 0)) ∧ ((S.1 64 1) = (-1) → X (44, [some (.ref 7), some (.int a1), some (.int a2), some (.int a3), some (.int a4), some (.int a5), some (.ref 64), some (.ref 64)], [], st S hs, 0, 0))
        refine ⟨fun hc => hX _ ?_, fun hc => hX _ ?_⟩
        · clear hP hX hk P' X cal
          rw [if_neg hc] at hr
          refine Wp.stepsG 5 (fun cal X P' hk hX hP => ?_)
          show ((S.1 64 1) = (S.1 64 1) → X (63, [some (.ref 7), some (.int a1), some (.int a2), some (.int a3), some (.int a4), some (.int a5), some (.ref 64), some (.ref 64)], [], st S hs, 0, 0)) ∧ (¬ (S.1 64 1) = (S.1 64 1) → X (60, [some (.ref 7), some (.int a1), some (.int a2), some (.int a3), some (.int a4), some (.int a5), some (.ref 64), some (.ref 64)], [], st S hs, 0, 0))
          refine ⟨fun hc => hX _ ?_, fun hc => hX _ ?_⟩
          · clear hP hX hk P' X cal
            rw [if_pos hc] at hr
            refine Wp.stepsG 4 (fun cal X P' hk hX hP => ?_)
            show kcall cal ix_X8_hasRun [.ref 64, .int a2, .int a5] (st S hs) [] 0 0 (0, 0) (fun v σ' c' m' => X (71, [some (.ref 7), some (.int a1), some (.int a2), some (.int a3), some (.int a4), some (.int a5), some (.ref 64), some (.ref 64)], v.toList ++ [], σ', c', m'))
            refine kcall0 rfl (hk _ _ _ _ _ _ (e_X8_hasRun_64 (d + 1) S hs a2 a5 _ ?_))
            show X (71, [some (.ref 7), some (.int a1), some (.int a2), some (.int a3), some (.int a4), some (.int a5), some (.ref 64), some (.ref 64)], [.int (r_X8_hasRun S 64 a2 a5)], st S hs, 0, 0)
            refine hX _ ?_
            clear hP hX hk P' X cal
            refine Wp.stepsG 1 (fun cal X P' hk hX hP => ?_)
            show ((r_X8_hasRun S 64 a2 a5) = 0 → X (86, [some (.ref 7), some (.int a1), some (.int a2), some (.int a3), some (.int a4), some (.int a5), some (.ref 64), some (.ref 64)], [], st S hs, 0, 0)) ∧ (¬ (r_X8_hasRun S 64 a2 a5) = 0 → X (74, [some (.ref 7), some (.int a1), some (.int a2), some (.int a3), some (.int a4), some (.int a5), some (.ref 64), some (.ref 64)], [], st S hs, 0, 0))
            refine ⟨fun hc => hX _ ?_, fun hc => hX _ ?_⟩
            · clear hP hX hk P' X cal
              rw [if_pos hc] at hr
              have hr := Option.some.inj hr
              subst hr
              refine Wp.stepsG 2 (fun cal X P' hk hX hP => ?_)
              exact hP _ _ h
            · clear hP hX hk P' X cal
              rw [if_neg hc] at hr
              refine Wp.stepsG 4 (fun cal X P' hk hX hP => ?_)
              show kcall cal ix_X8_hasRun [.ref 64, .int a4, .int a5] (st S hs) [] 0 0 (0, 0) (fun v σ' c' m' => X (83, [some (.ref 7), some (.int a1), some (.int a2), some (.int a3), some (.int a4), some (.int a5), some (.ref 64), some (.ref 64)], v.toList ++ [], σ', c', m'))
              refine kcall0 rfl (hk _ _ _ _ _ _ (e_X8_hasRun_64 (d + 1) S hs a4 a5 _ ?_))
              show X (83, [some (.ref 7), some (.int a1), some (.int a2), some (.int a3), some (.int a4), some (.int a5), some (.ref 64), some (.ref 64)], [.int (r_X8_hasRun S 64 a4 a5)], st S hs, 0, 0)
              refine hX _ ?_
              clear hP hX hk P' X cal
              refine Wp.stepsG 1 (fun cal X P' hk hX hP => ?_)
              show (¬ (r_X8_hasRun S 64 a4 a5) = 0 → X (89, [some (.ref 7), some (.int a1), some (.int a2), some (.int a3), some (.int a4), some (.int a5), some (.ref 64), some (.ref 64)], [], st S hs, 0, 0)) ∧ ((r_X8_hasRun S 64 a4 a5) = 0 → X (86, [some (.ref 7), some (.int a1), some (.int a2), some (.int a3), some (.int a4), some (.int a5), some (.ref 64), some (.ref 64)], [], st S hs, 0, 0))
              refine ⟨fun hc => hX _ ?_, fun hc => hX _ ?_⟩
              · clear hP hX hk P' X cal
                rw [if_neg hc] at hr
                refine Wp.stepsG 8 (fun cal X P' hk hX hP => ?_)
                show (¬ a2 < 0 ∧ ¬ a4 < 0 ∧ ¬ a5 < 0 ∧ a2.toNatClampNeg + a5.toNatClampNeg ≤ 60 ∧ a4.toNatClampNeg + a5.toNatClampNeg ≤ 60) ∧ X (107, [some (.ref 7), some (.int a1), some (.int a2), some (.int a3), some (.int a4), some (.int a5), some (.ref 64), some (.ref 64)], [], st (sG S 65 (va_cpy (S.2.1 65) (S.2.1 65) a2.toNatClampNeg a4.toNatClampNeg a5.toNatClampNeg)) hs, 0, 0)
                obtain ⟨hg, hr⟩ := gd_some hr
                refine ⟨hg, hX _ ?_⟩
                clear hP hX hk P' X cal
                have hr := Option.some.inj hr
                subst hr
                refine Wp.stepsG 2 (fun cal X P' hk hX hP => ?_)
                exact hP _ _ h
              · clear hP hX hk P' X cal
                rw [if_pos hc] at hr
                have hr := Option.some.inj hr
                subst hr
                refine Wp.stepsG 2 (fun cal X P' hk hX hP => ?_)
                exact hP _ _ h
          · clear hP hX hk P' X cal
            rw [if_neg hc] at hr
            have hr := Option.some.inj hr
            subst hr
            refine Wp.stepsG 2 (fun cal X P' hk hX hP => ?_)
            exact hP _ _ h
        · clear hP hX hk P' X cal
          rw [if_pos hc] at hr
          have hr := Option.some.inj hr
          subst hr
          refine Wp.stepsG 2 (fun cal X P' hk hX hP => ?_)
          exact hP _ _ h
    · rw [hz12]
      rw [oN_is hz12] at hr
      refine Wp.stepsG 9 (fun cal X P' hk hX hP => ?_)
      show ((S.1 64 1) = (-1) → X (44, [some (.ref 7), some (.int a1), some (.int a2), some (.int a3), some (.int a4), some (.int a5), some (.ref 64), some (.ref 66)], [], st S hs, 0, 0)) ∧ (¬ (S.1 64 1) = (-1) → X (35, [some (.ref 7), some (.int a1), some (.int a2), some (.int a3), some (.int a4), some (.int a5), some (.ref 64), some (.ref 66)], [], st S hs, 0, 0))
      refine ⟨fun hc => hX _ ?_, fun hc => hX _ ?_⟩
      · clear hP hX hk P' X cal
        rw [if_pos hc] at hr
        have hr := Option.some.inj hr
        subst hr
        refine Wp.stepsG 2 (fun cal X P' hk hX hP => ?_)
        exact hP _ _ h
      · clear hP hX hk P' X cal
        rw [if_neg hc] at hr
        refine Wp.stepsG 4 (fun cal X P' hk hX hP => ?_)
        show (¬ (S.1 66 1) = (-1) → X (47, [some (.ref 7), some (.int a1), some (.int a2), some (.int a3), some (.int a4), some (.int a5), some (.ref 64), some (.ref 66)], [], st S hs, 0, 0)) ∧ ((S.1 66 1) = (-1) → X (44, [some (.ref 7), some (.int a1), some (.int a2), some (.int a3), some (.int a4), some (.int a5), some (.ref 64), some (.ref 66)], [], st S hs, 0, 0))
        refine ⟨fun hc => hX _ ?_, fun hc => hX _ ?_⟩
        · clear hP hX hk P' X cal
          rw [if_neg hc] at hr
          refine Wp.stepsG 5 (fun cal X P' hk hX hP => ?_)
          show ((S.1 64 1) = (S.1 66 1) → X (63, [some (.ref 7), some (.int a1), some (.int a2), some (.int a3), some (.int a4), some (.int a5), some (.ref 64), some (.ref 66)], [], st S hs, 0, 0)) ∧ (¬ (S.1 64 1) = (S.1 66 1) → X (60, [some (.ref 7), some (.int a1), some (.int a2), some (.int a3), some (.int a4), some (.int a5), some (.ref 64), some (.ref 66)], [], st S hs, 0, 0))
          refine ⟨fun hc => hX _ ?_, fun hc => hX _ ?_⟩
          · clear hP hX hk P' X cal
            rw [if_pos hc] at hr
            refine Wp.stepsG 4 (fun cal X P' hk hX hP => ?_)
            show kcall cal ix_X8_hasRun [.ref 64, .int a2, .int a5] (st S hs) [] 0 0 (0, 0) (fun v σ' c' m' => X (71, [some (.ref 7), some (.int a1), some (.int a2), some (.int a3), some (.int a4), some (.int a5), some (.ref 64), some (.ref 66)], v.toList ++ [], σ', c', m'))
            refine kcall0 rfl (hk _ _ _ _ _ _ (e_X8_hasRun_64 (d + 1) S hs a2 a5 _ ?_))
            show X (71, [some (.ref 7), some (.int a1), some (.int a2), some (.int a3), some (.int a4), some (.int a5), some (.ref 64), some (.ref 66)], [.int (r_X8_hasRun S 64 a2 a5)], st S hs, 0, 0)
            refine hX _ ?_
            clear hP hX hk P' X cal
            refine Wp.stepsG 1 (fun cal X P' hk hX hP => ?_)
            show ((r_X8_hasRun S 64 a2 a5) = 0 → X (86, [some (.ref 7), some (.int a1), some (.int a2), some (.int a3), some (.int a4), some (.int a5), some (.ref 64), some (.ref 66)], [], st S hs, 0, 0)) ∧ (¬ (r_X8_hasRun S 64 a2 a5) = 0 → X (74, [some (.ref 7), some (.int a1), some (.int a2), some (.int a3), some (.int a4), some (.int a5), some (.ref 64), some (.ref 66)], [], st S hs, 0, 0))
            refine ⟨fun hc => hX _ ?_, fun hc => hX _ ?_⟩
            · clear hP hX hk P' X cal
              rw [if_pos hc] at hr
              have hr := Option.some.inj hr
              subst hr
              refine Wp.stepsG 2 (fun cal X P' hk hX hP => ?_)
              exact hP _ _ h
            · clear hP hX hk P' X cal
              rw [if_neg hc] at hr
              refine Wp.stepsG 4 (fun cal X P' hk hX hP => ?_)
              show kcall cal ix_X8_hasRun [.ref 66, .int a4, .int a5] (st S hs) [] 0 0 (0, 0) (fun v σ' c' m' => X (83, [some (.ref 7), some (.int a1), some (.int a2), some (.int a3), some (.int a4), some (.int a5), some (.ref 64), some (.ref 66)], v.toList ++ [], σ', c', m'))
              refine kcall0 rfl (hk _ _ _ _ _ _ (e_X8_hasRun_66 (d + 1) S hs a4 a5 _ ?_))
              show X (83, [some (.ref 7), some (.int a1), some (.int a2), some (.int a3), some (.int a4), some (.int a5), some (.ref 64), some (.ref 66)], [.int (r_X8_hasRun S 66 a4 a5)], st S hs, 0, 0)
              refine hX _ ?_
              clear hP hX hk P' X cal
              refine Wp.stepsG 1 (fun cal X P' hk hX hP => ?_)
              show (¬ (r_X8_hasRun S 66 a4 a5) = 0 → X (89, [some (.ref 7), some (.int a1), some (.int a2), some (.int a3), some (.int a4), some (.int a5), some (.ref 64), some (.ref 66)], [], st S hs, 0, 0)) ∧ ((r_X8_hasRun S 66 a4 a5) = 0 → X (86, [some (.ref 7), some (.int a1), some (.int a2), some (.int a3), some (.int a4), some (.int a5), some (.ref 64), some (.ref 66)], [], st S hs, 0, 0))
              refine ⟨fun hc => hX _ ?_, fun hc => hX _ ?_⟩
              · clear hP hX hk P' X cal
                rw [if_neg hc] at hr
                refine Wp.stepsG 8 (fun cal X P' hk hX hP => ?_)
                show (¬ a2 < 0 ∧ ¬ a4 < 0 ∧ ¬ a5 < 0 ∧ a2.toNatClampNeg + a5.toNatClampNeg ≤ 60 ∧ a4.toNatClampNeg + a5.toNatClampNeg ≤ 60) ∧ X (107, [some (.ref 7), some (.int a1), some (.int a2), some (.int a3), some (.int a4), some (.int a5), some (.ref 64), some (.ref 66)], [], st (sG S 67 (va_cpy (S.2.1 65) (S.2.1 67) a2.toNatClampNeg a4.toNatClampNeg a5.toNatClampNeg)) hs, 0, 0)
                obtain ⟨hg, hr⟩ := gd_some hr
                refine ⟨hg, hX _ ?_⟩
                clear hP hX hk P' X cal
                have hr := Option.some.inj hr
                subst hr
                refine Wp.stepsG 2 (fun cal X P' hk hX hP => ?_)
                exact hP _ _ h
              · clear hP hX hk P' X cal
                rw [if_pos hc] at hr
                have hr := Option.some.inj hr
                subst hr
                refine Wp.stepsG 2 (fun cal X P' hk hX hP => ?_)
                exact hP _ _ h
          · clear hP hX hk P' X cal
            rw [if_neg hc] at hr
            have hr := Option.some.inj hr
            subst hr
            refine Wp.stepsG 2 (fun cal X P' hk hX hP => ?_)
            exact hP _ _ h
        · clear hP hX hk P' X cal
          rw [if_pos hc] at hr
          have hr := Option.some.inj hr
          subst hr
          refine Wp.stepsG 2 (fun cal X P' hk hX hP => ?_)
          exact hP _ _ h
    · rw [hz12]
      rw [oN_is hz12] at hr
      refine Wp.stepsG 9 (fun cal X P' hk hX hP => ?_)
      show ((S.1 64 1) = (-1) → X (44, [some (.ref 7), some (.int a1), some (.int a2), some (.int a3), some (.int a4), some (.int a5), some (.ref 64), some (.ref 68)], [], st S hs, 0, 0)) ∧ (¬ (S.1 64 1) = (-1) → X (35, [some (.ref 7), some (.int a1), some (.int a2), some (.int a3), some (.int a4), some (.int a5), some (.ref 64), some (.ref 68)], [], st S hs, 0, 0))
      refine ⟨fun hc => hX _ ?_, fun hc => hX _ ?_⟩
      · clear hP hX hk P' X cal
        rw [if_pos hc] at hr
        have hr := Option.some.inj hr
        subst hr
        refine Wp.stepsG 2 (fun cal X P' hk hX hP => ?_)
        exact hP _ _ h
      · clear hP hX hk P' X cal
        rw [if_neg hc] at hr
        refine Wp.stepsG 4 (fun cal X P' hk hX hP => ?_)
        show (¬ (S.1 68 1) = (-1) → X (47, [some (.ref 7), some (.int a1), some (.int a2), some (.int a3), some (.int a4), some (.int a5), some (.ref 64), some (.ref 68)], [], st S hs, 0, 0)) ∧ ((S.1 68 1) = (-1) → X (44, [some (.ref 7), some (.int a1), some (.int a2), some (.int a3), some (.int a4), some (.int a5), some (.ref 64), some (.ref 68)], [], st S hs, 0, 0))
        refine ⟨fun hc => hX _ ?_, fun hc => hX _ ?_⟩
        · clear hP hX hk P' X cal
          rw [if_neg hc] at hr
          refine Wp.stepsG 5 (fun cal X P' hk hX hP => ?_)
          show ((S.1 64 1) = (S.1 68 1) → X (63, [some (.ref 7), some (.int a1), some (.int a2), some (.int a3), some (.int a4), some (.int a5), some (.ref 64), some (.ref 68)], [], st S hs, 0, 0)) ∧ (¬ (S.1 64 1) = (S.1 68 1) → X (60, [some (.ref 7), some (.int a1), some (.int a2), some (.int a3), some (.int a4), some (.int a5), some (.ref 64), some (.ref 68)], [], st S hs, 0, 0))
          refine ⟨fun hc => hX _ ?_, fun hc => hX _ ?_⟩
          · clear hP hX hk P' X cal
            rw [if_pos hc] at hr
            refine Wp.stepsG 4 (fun cal X P' hk hX hP => ?_)
            show kcall cal ix_X8_hasRun [.ref 64, .int a2, .int a5] (st S hs) [] 0 0 (0, 0) (fun v σ' c' m' => X (71, [some (.ref 7), some (.int a1), some (.int a2), some (.int a3), some (.int a4), some (.int a5), some (.ref 64), some (.ref 68)], v.toList ++ [], σ', c', m'))
            refine kcall0 rfl (hk _ _ _ _ _ _ (e_X8_hasRun_64 (d + 1) S hs a2 a5 _ ?_))
            show X (71, [some (.ref 7), some (.int a1), some (.int a2), some (.int a3), some (.int a4), some (.int a5), some (.ref 64), some (.ref 68)], [.int (r_X8_hasRun S 64 a2 a5)], st S hs, 0, 0)
            refine hX _ ?_
            clear hP hX hk P' X cal
            refine Wp.stepsG 1 (fun cal X P' hk hX hP => ?_)
            show ((r_X8_hasRun S 64 a2 a5) = 0 → X (86, [some (.ref 7), some (.int a1), some (.int a2), some (.int a3), some (.int a4), some (.int a5), some (.ref 64), some (.ref 68)], [], st S hs, 0, 0)) ∧ (¬ (r_X8_hasRun S 64 a2 a5) = 0 → X (74, [some (.ref 7), some (.int a1), some (.int a2), some (.int a3), some (.int a4), some (.int a5), some (.ref 64), some (.ref 68)], [], st S hs, 0, 0))
            refine ⟨fun hc => hX _ ?_, fun hc => hX _ ?_⟩
            · clear hP hX hk P' X cal
              rw [if_pos hc] at hr
              have hr := Option.some.inj hr
              subst hr
              refine Wp.stepsG 2 (fun cal X P' hk hX hP => ?_)
              exact hP _ _ h
            · clear hP hX hk P' X cal
              rw [if_neg hc] at hr
              refine Wp.stepsG 4 (fun cal X P' hk hX hP => ?_)
              show kcall cal ix_X8_hasRun [.ref 68, .int a4, .int a5] (st S hs) [] 0 0 (0, 0) (fun v σ' c' m' => X (83, [some (.ref 7), some (.int a1), some (.int a2), some (.int a3), some (.int a4), some (.int a5), some (.ref 64), some (.ref 68)], v.toList ++ [], σ', c', m'))
              refine kcall0 rfl (hk _ _ _ _ _ _ (e_X8_hasRun_68 (d + 1) S hs a4 a5 _ ?_))
              show X (83, [some (.ref 7), some (.int a1), some (.int a2), some (.int a3), some (.int a4), some (.int a5), some (.ref 64), some (.ref 68)], [.int (r_X8_hasRun S 68 a4 a5)], st S hs, 0, 0)
              refine hX _ ?_
              clear hP hX hk P' X cal
              refine Wp.stepsG 1 (fun cal X P' hk hX hP => ?_)
              show (¬ (r_X8_hasRun S 68 a4 a5) = 0 → X (89, [some (.ref 7), some (.int a1), some (.int a2), some (.int a3), some (.int a4), some (.int a5), some (.ref 64), some (.ref 68)], [], st S hs, 0, 0)) ∧ ((r_X8_hasRun S 68 a4 a5) = 0 → X (86, [some (.ref 7), some (.int a1), some (.int a2), some (.int a3), some (.int a4), some (.int a5), some (.ref 64), some (.ref 68)], [], st S hs, 0, 0))
              refine ⟨fun hc => hX _ ?_, fun hc => hX _ ?_⟩
              · clear hP hX hk P' X cal
                rw [if_neg hc] at hr
                refine Wp.stepsG 8 (fun cal X P' hk hX hP => ?_)
                show (¬ a2 < 0 ∧ ¬ a4 < 0 ∧ ¬ a5 < 0 ∧ a2.toNatClampNeg + a5.toNatClampNeg ≤ 60 ∧ a4.toNatClampNeg + a5.toNatClampNeg ≤ 60) ∧ X (107, [some (.ref 7), some (.int a1), some (.int a2), some (.int a3), some (.int a4), some (.int a5), some (.ref 64), some (.ref 68)], [], st (sG S 69 (va_cpy (S.2.1 65) (S.2.1 69) a2.toNatClampNeg a4.toNatClampNeg a5.toNatClampNeg)) hs, 0, 0)
                obtain ⟨hg, hr⟩ := gd_some hr
                refine ⟨hg, hX _ ?_⟩
                clear hP hX hk P' X cal
                have hr := Option.some.inj hr
                subst hr
                refine Wp.stepsG 2 (fun cal X P' hk hX hP => ?_)
                exact hP _ _ h
              · clear hP hX hk P' X cal
                rw [if_pos hc] at hr
                have hr := Option.some.inj hr
                subst hr
                refine Wp.stepsG 2 (fun cal X P' hk hX hP => ?_)
                exact hP _ _ h
          · clear hP hX hk P' X cal
            rw [if_neg hc] at hr
            have hr := Option.some.inj hr
            subst hr
            refine Wp.stepsG 2 (fun cal X P' hk hX hP => ?_)
            exact hP _ _ h
        · clear hP hX hk P' X cal
          rw [if_pos hc] at hr
          have hr := Option.some.inj hr
          subst hr
          refine Wp.stepsG 2 (fun cal X P' hk hX hP => ?_)
          exact hP _ _ h
    · rw [hz12]
      rw [oN_is hz12] at hr
      refine Wp.stepsG 9 (fun cal X P' hk hX hP => ?_)
      show ((S.1 64 1) = (-1) → X (44, [some (.ref 7), some (.int a1), some (.int a2), some (.int a3), some (.int a4), some (.int a5), some (.ref 64), some (.ref 70)], [], st S hs, 0, 0)) ∧ (¬ (S.1 64 1) = (-1) → X (35, [some (.ref 7), some (.int a1), some (.int a2), some (.int a3), some (.int a4), some (.int a5), some (.ref 64), some (.ref 70)], [], st S hs, 0, 0))
      refine ⟨fun hc => hX _ ?_, fun hc => hX _ ?_⟩
      · clear hP hX hk P' X cal
        rw [if_pos hc] at hr
        have hr := Option.some.inj hr
        subst hr
        refine Wp.stepsG 2 (fun cal X P' hk hX hP => ?_)
        exact hP _ _ h
      · clear hP hX hk P' X cal
        rw [if_neg hc] at hr
        refine Wp.stepsG 4 (fun cal X P' hk hX hP => ?_)
        show (¬ (S.1 70 1) = (-1) → X (47, [some (.ref 7), some (.int a1), some (.int a2), some (.int a3), some (.int a4), some (.int a5), some (.ref 64), some (.ref 70)], [], st S hs, 0, 0)) ∧ ((S.1 70 1) = (-1) → X (44, [some (.ref 7), some (.int a1), some (.int a2), some (.int a3), some (.int a4), some (.int a5), some (.ref 64), some (.ref 70)], [], st S hs, 0, 0))
        refine ⟨fun hc => hX _ ?_, fun hc => hX _ ?_⟩
        · clear hP hX hk P' X cal
          rw [if_neg hc] at hr
          refine Wp.stepsG 5 (fun cal X P' hk hX hP => ?_)
          show ((S.1 64 1) = (S.1 70 1) → X (63, [some (.ref 7), some (.int a1), some (.int a2), some (.int a3), some (.int a4), some (.int a5), some (.ref 64), some (.ref 70)], [], st S hs, 0, 0)) ∧ (¬ (S.1 64 1) = (S.1 70 1) → X (60, [some (.ref 7), some (.int a1), some (.int a2), some (.int a3), some (.int a4), some (.int a5), some (.ref 64), some (.ref 70)], [], st S hs, 0, 0))
          refine ⟨fun hc => hX _ ?_, fun hc => hX _ ?_⟩
          · clear hP hX hk P' X cal
            rw [if_pos hc] at hr
            refine Wp.stepsG 4 (fun cal X P' hk hX hP => ?_)
            show kcall cal ix_X8_hasRun [.ref 64, .int a2, .int a5] (st S hs) [] 0 0 (0, 0) (fun v σ' c' m' => X (71, [some (.ref 7), some (.int a1), some (.int a2), some (.int a3), some (.int a4), some (.int a5), some (.ref 64), some (.ref 70)], v.toList ++ [], σ', c', m'))
            refine kcall0 rfl (hk _ _ _ _ _ _ (e_X8_hasRun_64 (d + 1) S hs a2 a5 _ ?_))
            show X (71, [some (.ref 7), some (.int a1), some (.int a2), some (.int a3), some (.int a4), some (.int a5), some (.ref 64), some (.ref 70)], [.int (r_X8_hasRun S 64 a2 a5)], st S hs, 0, 0)
            refine hX _ ?_
            clear hP hX hk P' X cal
            refine Wp.stepsG 1 (fun cal X P' hk hX hP => ?_)
            show ((r_X8_hasRun S 64 a2 a5) = 0 → X (86, [some (.ref 7), some (.int a1), some (.int a2), some (.int a3), some (.int a4), some (.int a5), some (.ref 64), some (.ref 70)], [], st S hs, 0, 0)) ∧ (¬ (r_X8_hasRun S 64 a2 a5) = 0 → X (74, [some (.ref 7), some (.int a1), some (.int a2), some (.int a3), some (.int a4), some (.int a5), some (.ref 64), some (.ref 70)], [], st S hs, 0, 0))
            refine ⟨fun hc => hX _ ?_, fun hc => hX _ ?_⟩
            · clear hP hX hk P' X cal
              rw [if_pos hc] at hr
              have hr := Option.some.inj hr
              subst hr
              refine Wp.stepsG 2 (fun cal X P' hk hX hP => ?_)
              exact hP _ _ h
            · clear hP hX hk P' X cal
              rw [if_neg hc] at hr
              refine Wp.stepsG 4 (fun cal X P' hk hX hP => ?_)
              show kcall cal ix_X8_hasRun [.ref 70, .int a4, .int a5] (st S hs) [] 0 0 (0, 0) (fun v σ' c' m' => X (83, [some (.ref 7), some (.int a1), some (.int a2), some (.int a3), some (.int a4), some (.int a5), some (.ref 64), some (.ref 70)], v.toList ++ [], σ', c', m'))
              refine kcall0 rfl (hk _ _ _ _ _ _ (e_X8_hasRun_70 (d + 1) S hs a4 a5 _ ?_))
              show X (83, [some (.ref 7), some (.int a1), some (.int a2), some (.int a3), some (.int a4), some (.int a5), some (.ref 64), some (.ref 70)], [.int (r_X8_hasRun S 70 a4 a5)], st S hs, 0, 0)
              refine hX _ ?_
              clear hP hX hk P' X cal
              refine Wp.stepsG 1 (fun cal X P' hk hX hP => ?_)
              show (¬ (r_X8_hasRun S 70 a4 a5) = 0 → X (89, [some (.ref 7), some (.int a1), some (.int a2), some (.int a3), some (.int a4), some (.int a5), some (.ref 64), some (.ref 70)], [], st S hs, 0, 0)) ∧ ((r_X8_hasRun S 70 a4 a5) = 0 → X (86, [some (.ref 7), some (.int a1), some (.int a2), some (.int a3), some (.int a4), some (.int a5), some (.ref 64), some (.ref 70)], [], st S hs, 0, 0))
              refine ⟨fun hc => hX _ ?_, fun hc => hX _ ?_⟩
              · clear hP hX hk P' X cal
                rw [if_neg hc] at hr
                refine Wp.stepsG 8 (fun cal X P' hk hX hP => ?_)
                show (¬ a2 < 0 ∧ ¬ a4 < 0 ∧ ¬ a5 < 0 ∧ a2.toNatClampNeg + a5.toNatClampNeg ≤ 60 ∧ a4.toNatClampNeg + a5.toNatClampNeg ≤ 60) ∧ X (107, [some (.ref 7), some (.int a1), some (.int a2), some (.int a3), some (.int a4), some (.int a5), some (.ref 64), some (.ref 70)], [], st (sG S 71 (va_cpy (S.2.1 65) (S.2.1 71) a2.toNatClampNeg a4.toNatClampNeg a5.toNatClampNeg)) hs, 0, 0)
                obtain ⟨hg, hr⟩ := gd_some hr
                refine ⟨hg, hX _ ?_⟩
                clear hP hX hk P' X cal
                have hr := Option.some.inj hr
                subst hr
                refine Wp.stepsG 2 (fun cal X P' hk hX hP => ?_)
                exact hP _ _ h
              · clear hP hX hk P' X cal
                rw [if_pos hc] at hr
                have hr := Option.some.inj hr
                subst hr
                refine Wp.stepsG 2 (fun cal X P' hk hX hP => ?_)
                exact hP _ _ h
          · clear hP hX hk P' X cal
            rw [if_neg hc] at hr
            have hr := Option.some.inj hr
            subst hr
            refine Wp.stepsG 2 (fun cal X P' hk hX hP => ?_)
            exact hP _ _ h
        · clear hP hX hk P' X cal
          rw [if_pos hc] at hr
          have hr := Option.some.inj hr
          subst hr
          refine Wp.stepsG 2 (fun cal X P' hk hX hP => ?_)
          exact hP _ _ h
    · rw [hz12]
      rw [oN_is hz12] at hr
      refine Wp.stepsG 9 (fun cal X P' hk hX hP => ?_)
      show ((S.1 64 1) = (-1) → X (44, [some (.ref 7), some (.int a1), some (.int a2), some (.int a3), some (.int a4), some (.int a5), some (.ref 64), some (.ref 72)], [], st S hs, 0, 0)) ∧ (¬ (S.1 64 1) = (-1) → X (35, [some (.ref 7), some (.int a1), some (.int a2), some (.int a3), some (.int a4), some (.int a5), some (.ref 64), some (.ref 72)], [], st S hs, 0, 0))
      refine ⟨fun hc => hX _ ?_, fun hc => hX _ ?_⟩
      · clear hP hX hk P' X cal
        rw [if_pos hc] at hr
        have hr := Option.some.inj hr
        subst hr
        refine Wp.stepsG 2 (fun cal X P' hk hX hP => ?_)
        exact hP _ _ h
      · clear hP hX hk P' X cal
        rw [if_neg hc] at hr
        refine Wp.stepsG 4 (fun cal X P' hk hX hP => ?_)
        show (¬ (S.1 72 1) = (-1) → X (47, [some (.ref 7), some (.int a1), some (.int a2), some (.int a3), some (.int a4), some (.int a5), some (.ref 64), some (.ref 72)], [], st S hs, 0, 0)) ∧ ((S.1 72 1) = (-1) → X (44, [some (.ref 7), some (.int a1), some (.int a2), some (.int a3), some (.int a4), some (.int a5), some (.ref 64), some (.ref 72)], [], st S hs, 0, 0))
        refine ⟨fun hc => hX _ ?_, fun hc => hX _ ?_⟩
        · clear hP hX hk P' X cal
          rw [if_neg hc] at hr
          refine Wp.stepsG 5 (fun cal X P' hk hX hP => ?_)
          show ((S.1 64 1) = (S.1 72 1) → X (63, [some (.ref 7), some (.int a1), some (.int a2), some (.int a3), some (.int a4), some (.int a5), some (.ref 64), some (.ref 72)], [], st S hs, 0, 0)) ∧ (¬ (S.1 64 1) = (S.1 72 1) → X (60, [some (.ref 7), some (.int a1), some (.int a2), some (.int a3), some (.int a4), some (.int a5), some (.ref 64), some (.ref 72)], [], st S hs, 0, 0))
          refine ⟨fun hc => hX _ ?_, fun hc => hX _ ?_⟩
          · clear hP hX hk P' X cal
            rw [if_pos hc] at hr
            refine Wp.stepsG 4 (fun cal X P' hk hX hP => ?_)
            show kcall cal ix_X8_hasRun [.ref 64, .int a2, .int a5] (st S hs) [] 0 0 (0, 0) (fun v σ' c' m' => X (71, [some (.ref 7), some (.int a1), some (.int a2), some (.int a3), some (.int a4), some (.int a5), some (.ref 64), some (.ref 72)], v.toList ++ [], σ', c', m'))
            refine kcall0 rfl (hk _ _ _ _ _ _ (e_X8_hasRun_64 (d + 1) S hs a2 a5 _ ?_))
            show X (71, [some (.ref 7), some (.int a1), some (.int a2), some (.int a3), some (.int a4), some (.int a5), some (.ref 64), some (.ref 72)], [.int (r_X8_hasRun S 64 a2 a5)], st S hs, 0, 0)
            refine hX _ ?_
            clear hP hX hk P' X cal
            refine Wp.stepsG 1 (fun cal X P' hk hX hP => ?_)
            show ((r_X8_hasRun S 64 a2 a5) = 0 → X (86, [some (.ref 7), some (.int a1), some (.int a2), some (.int a3), some (.int a4), some (.int a5), some (.ref 64), some (.ref 72)], [], st S hs, 0, 0)) ∧ (¬ (r_X8_hasRun S 64 a2 a5) = 0 → X (74, [some (.ref 7), some (.int a1), some (.int a2), some (.int a3), some (.int a4), some (.int a5), some (.ref 64), some (.ref 72)], [], st S hs, 0, 0))
            refine ⟨fun hc => hX _ ?_, fun hc => hX _ ?_⟩
            · clear hP hX hk P' X cal
              rw [if_pos hc] at hr
              have hr := Option.some.inj hr
              subst hr
              refine Wp.stepsG 2 (fun cal X P' hk hX hP => ?_)
              exact hP _ _ h
            · clear hP hX hk P' X cal
              rw [if_neg hc] at hr
              refine Wp.stepsG 4 (fun cal X P' hk hX hP => ?_)
              show kcall cal ix_X8_hasRun [.ref 72, .int a4, .int a5] (st S hs) [] 0 0 (0, 0) (fun v σ' c' m' => X (83, [some (.ref 7), some (.int a1), some (.int a2), some (.int a3), some (.int a4), some (.int a5), some (.ref 64), some (.ref 72)], v.toList ++ [], σ', c', m'))
              refine kcall0 rfl (hk _ _ _ _ _ _ (e_X8_hasRun_72 (d + 1) S hs a4 a5 _ ?_))
              show X (83, [some (.ref 7), some (.int a1), some (.int a2), some (.int a3), some (.int a4), some (.int a5), some (.ref 64), some (.ref 72)], [.int (r_X8_hasRun S 72 a4 a5)], st S hs, 0, 0)
              refine hX _ ?_
              clear hP hX hk P' X cal
              refine Wp.stepsG 1 (fun cal X P' hk hX hP => ?_)
              show (¬ (r_X8_hasRun S 72 a4 a5) = 0 → X (89, [some (.ref 7), some (.int a1), some (.int a2), some (.int a3), some (.int a4), some (.int a5), some (.ref 64), some (.ref 72)], [], st S hs, 0, 0)) ∧ ((r_X8_hasRun S 72 a4 a5) = 0 → X (86, [some (.ref 7), some (.int a1), some (.int a2), some (.int a3), some (.int a4), some (.int a5), some (.ref 64), some (.ref 72)], [], st S hs, 0, 0))
              refine ⟨fun hc => hX _ ?_, fun hc => hX _ ?_⟩
              · clear hP hX hk P' X cal
                rw [if_neg hc] at hr
                refine Wp.stepsG 8 (fun cal X P' hk hX hP => ?_)
                show (¬ a2 < 0 ∧ ¬ a4 < 0 ∧ ¬ a5 < 0 ∧ a2.toNatClampNeg + a5.toNatClampNeg ≤ 60 ∧ a4.toNatClampNeg + a5.toNatClampNeg ≤ 60) ∧ X (107, [some (.ref 7), some (.int a1), some (.int a2), some (.int a3), some (.int a4), some (.int a5), some (.ref 64), some (.ref 72)], [], st (sG S 73 (va_cpy (S.2.1 65) (S.2.1 73) a2.toNatClampNeg a4.toNatClampNeg a5.toNatClampNeg)) hs, 0, 0)
                obtain ⟨hg, hr⟩ := gd_some hr
                refine ⟨hg, hX _ ?_⟩
                clear hP hX hk P' X cal
                have hr := Option.some.inj hr
                subst hr
                refine Wp.stepsG 2 (fun cal X P' hk hX hP => ?_)
                exact hP _ _ h
              · clear hP hX hk P' X cal
                rw [if_pos hc] at hr
                have hr := Option.some.inj hr
                subst hr
                refine Wp.stepsG 2 (fun cal X P' hk hX hP => ?_)
                exact hP _ _ h
          · clear hP hX hk P' X cal
            rw [if_neg hc] at hr
            have hr := Option.some.inj hr
            subst hr
            refine Wp.stepsG 2 (fun cal X P' hk hX hP => ?_)
            exact hP _ _ h
        · clear hP hX hk P' X cal
          rw [if_pos hc] at hr
          have hr := Option.some.inj hr
          subst hr
          refine Wp.stepsG 2 (fun cal X P' hk hX hP => ?_)
          exact hP _ _ h
    · rw [hz12]
      rw [oN_is hz12] at hr
      refine Wp.stepsG 9 (fun cal X P' hk hX hP => ?_)
      show ((S.1 64 1) = (-1) → X (44, [some (.ref 7), some (.int a1), some (.int a2), some (.int a3), some (.int a4), some (.int a5), some (.ref 64), some (.ref 74)], [], st S hs, 0, 0)) ∧ (¬ (S.1 64 1) = (-1) → X (35, [some (.ref 7), some (.int a1), some (.int a2), some (.int a3), some (.int a4), some (.int a5), some (.ref 64), some (.ref 74)], [], st S hs, 0, 0))
      refine ⟨fun hc => hX _ ?_, fun hc => hX _ ?_⟩
      · clear hP hX hk P' X cal
        rw [if_pos hc] at hr
        have hr := Option.some.inj hr
        subst hr
        refine Wp.stepsG 2 (fun cal X P' hk hX hP => ?_)
        exact hP _ _ h
      · clear hP hX hk P' X cal
        rw [if_neg hc] at hr
        refine Wp.stepsG 4 (fun cal X P' hk hX hP => ?_)
        show (¬ (S.1 74 1) = (-1) → X (47, [some (.ref 7), some (.int a1), some (.int a2), some (.int a3), some (.int a4), some (.int a5), some (.ref 64), some (.ref 74)], [], st S hs, 0, 0)) ∧ ((S.1 74 1) = (-1) → X (44, [some (.ref 7), some (.int a1), some (.int a2), some (.int a3), some (.int a4), some (.int a5), some (.ref 64), some (.ref 74)], [], st S hs, 0, 0))
        refine ⟨fun hc => hX _ ?_, fun hc => hX _ ?_⟩
        · clear hP hX hk P' X cal
          rw [if_neg hc] at hr
          refine Wp.stepsG 5 (fun cal X P' hk hX hP => ?_)
          show ((S.1 64 1) = (S.1 74 1) → X (63, [some (.ref 7), some (.int a1), some (.int a2), some (.int a3), some (.int a4), some (.int a5), some (.ref 64), some (.ref 74)], [], st S hs, 0, 0)) ∧ (¬ (S.1 64 1) = (S.1 74 1) → X (60, [some (.ref 7), some (.int a1), some (.int a2), some (.int a3), some (.int a4), some (.int a5), some (.ref 64), some (.ref 74)], [], st S hs, 0, 0))
          refine ⟨fun hc => hX _ ?_, fun hc => hX _ ?_⟩
          · clear hP hX hk P' X cal
            rw [if_pos hc] at hr
            refine Wp.stepsG 4 (fun cal X P' hk hX hP => ?_)
            show kcall cal ix_X8_hasRun [.ref 64, .int a2, .int a5] (st S hs) [] 0 0 (0, 0) (fun v σ' c' m' => X (71, [some (.ref 7), some (.int a1), some (.int a2), some (.int a3), some (.int a4), some (.int a5), some (.ref 64), some (.ref 74)], v.toList ++ [], σ', c', m'))
            refine kcall0 rfl (hk _ _ _ _ _ _ (e_X8_hasRun_64 (d + 1) S hs a2 a5 _ ?_))
            show X (71, [some (.ref 7), some (.int a1), some (.int a2), some (.int a3), some (.int a4), some (.int a5), some (.ref 64), some (.ref 74)], [.int (r_X8_hasRun S 64 a2 a5)], st S hs, 0, 0)
            refine hX _ ?_
            clear hP hX hk P' X cal
            refine Wp.stepsG 1 (fun cal X P' hk hX hP => ?_)
            show ((r_X8_hasRun S 64 a2 a5) = 0 → X (86, [some (.ref 7), some (.int a1), some (.int a2), some (.int a3), some (.int a4), some (.int a5), some (.ref 64), some (.ref 74)], [], st S hs, 0, 0)) ∧ (¬ (r_X8_hasRun S 64 a2 a5) = 0 → X (74, [some (.ref 7), some (.int a1), some (.int a2), some (.int a3), some (.int a4), some (.int a5), some (.ref 64), some (.ref 74)], [], st S hs, 0, 0))
            refine ⟨fun hc => hX _ ?_, fun hc => hX _ ?_⟩
            · clear hP hX hk P' X cal
              rw [if_pos hc] at hr
              have hr := Option.some.inj hr
              subst hr
              refine Wp.stepsG 2 (fun cal X P' hk hX hP => ?_)
              exact hP _ _ h
            · clear hP hX hk P' X cal
              rw [if_neg hc] at hr
              refine Wp.stepsG 4 (fun cal X P' hk hX hP => ?_)
              show kcall cal ix_X8_hasRun [.ref 74, .int a4, .int a5] (st S hs) [] 0 0 (0, 0) (fun v σ' c' m' => X (83, [some (.ref 7), some (.int a1), some (.int a2), some (.int a3), some (.int a4), some (.int a5), some (.ref 64), some (.ref 74)], v.toList ++ [], σ', c', m'))
              refine kcall0 rfl (hk _ _ _ _ _ _ (e_X8_hasRun_74 (d + 1) S hs a4 a5 _ ?_))
              show X (83, [some (.ref 7), some (.int a1), some (.int a2), some (.int a3), some (.int a4), some (.int a5), some (.ref 64), some (.ref 74)], [.int (r_X8_hasRun S 74 a4 a5)], st S hs, 0, 0)
              refine hX _ ?_
              clear hP hX hk P' X cal
              refine Wp.stepsG 1 (fun cal X P' hk hX hP => ?_)
              show (¬ (r_X8_hasRun S 74 a4 a5) = 0 → X (89, [some (.ref 7), some (.int a1), some (.int a2), some (.int a3), some (.int a4), some (.int a5), some (.ref 64), some (.ref 74)], [], st S hs, 0, 0)) ∧ ((r_X8_hasRun S 74 a4 a5) = 0 → X (86, [some (.ref 7), some (.int a1), some (.int a2), some (.int a3), some (.int a4), some (.int a5), some (.ref 64), some (.ref 74)], [], st S hs, 0, 0))
              refine ⟨fun hc => hX _ ?_, fun hc => hX _ ?_⟩
              · clear hP hX hk P' X cal
                rw [if_neg hc] at hr
                refine Wp.stepsG 8 (fun cal X P' hk hX hP => ?_)
                show (¬ a2 < 0 ∧ ¬ a4 < 0 ∧ ¬ a5 < 0 ∧ a2.toNatClampNeg + a5.toNatClampNeg ≤ 60 ∧ a4.toNatClampNeg + a5.toNatClampNeg ≤ 60) ∧ X (107, [some (.ref 7), some (.int a1), some (.int a2), some (.int a3), some (.int a4), some (.int a5), some (.ref 64), some (.ref 74)], [], st (sG S 75 (va_cpy (S.2.1 65) (S.2.1 75) a2.toNatClampNeg a4.toNatClampNeg a5.toNatClampNeg)) hs, 0, 0)
                obtain ⟨hg, hr⟩ := gd_some hr
                refine ⟨hg, hX _ ?_⟩
                clear hP hX hk P' X cal
                have hr := Option.some.inj hr
                subst hr
                refine Wp.stepsG 2 (fun cal X P' hk hX hP => ?_)
                exact hP _ _ h
              · clear hP hX hk P' X cal
                rw [if_pos hc] at hr
                have hr := Option.some.inj hr
                subst hr
                refine Wp.stepsG 2 (fun cal X P' hk hX hP => ?_)
                exact hP _ _ h
          · clear hP hX hk P' X cal
            rw [if_neg hc] at hr
            have hr := Option.some.inj hr
            subst hr
            refine Wp.stepsG 2 (fun cal X P' hk hX hP => ?_)
            exact hP _ _ h
        · clear hP hX hk P' X cal
          rw [if_pos hc] at hr
          have hr := Option.some.inj hr
          subst hr
          refine Wp.stepsG 2 (fun cal X P' hk hX hP => ?_)
          exact hP _ _ h
  · rw [hz10]
    rw [oN_is hz10] at hr
    refine Wp.stepsG 4 (fun cal X P' hk hX hP => ?_)
    show kcall cal ix_X11_tapeAt [.ref 7, .int a3] (st S hs) [] 0 0 (0, 0) (fun v σ' c' m' => X (12, [some (.ref 7), some (.int a1), some (.int a2), some (.int a3), some (.int a4), some (.int a5), some (.ref 66), none], v.toList ++ [], σ', c', m'))
    obtain ⟨q5, hq5, hr⟩ := bd_some hr
    refine kcall0 rfl (hk _ _ _ _ _ _ (e_X11_tapeAt (d + 0) S hs a3 q5 hq5 _ ?_))
    show X (12, [some (.ref 7), some (.int a1), some (.int a2), some (.int a3), some (.int a4), some (.int a5), some (.ref 66), none], [va_rf q5], st S hs, 0, 0)
    refine hX _ ?_
    clear hP hX hk P' X cal
    rcases c_X11_tapeAt hq5 with hz13 | hz13 | hz13 | hz13 | hz13 | hz13 | hz13
    · rw [hz13]
      rw [oN_no hz13] at hr
      have hr := Option.some.inj hr
      subst hr
      refine Wp.stepsG 7 (fun cal X P' hk hX hP => ?_)
      exact hP _ _ h
    · rw [hz13]
      rw [oN_is hz13] at hr
      refine Wp.stepsG 9 (fun cal X P' hk hX hP => ?_)
      show ((S.1 66 1) = (-1) → X (44, [some (.ref 7), some (.int a1), some (.int a2), some (.int a3), some (.int a4), some (.int a5), some (.ref 66), some (.ref 64)], [], st S hs, 0, 0)) ∧ (¬ (S.1 66 1) = (-1) → X (35, [some (.ref 7), some (.int a1), some (.int a2), some (.int a3), some (.int a4), some (.int a5), some (.ref 66), some (.ref 64)], [], st S hs, 0, 0))
      refine ⟨fun hc => hX _ ?_, fun hc => hX _ ?_⟩
      · clear hP hX hk P' X cal
        rw [if_pos hc] at hr
        have hr := Option.some.inj hr
        subst hr
        refine Wp.stepsG 2 (fun cal X P' hk hX hP => ?_)
        exact hP _ _ h
      · clear hP hX hk P' X cal
        rw [if_neg hc] at hr
        refine Wp.stepsG 4 (fun cal X P' hk hX hP => ?_)
        show (¬ (S.1 64 1) = (-1) → X (47, [some (.ref 7), some (.int a1), some (.int a2), some (.int a3), some (.int a4), some (.int a5), some (.ref 66), some (.ref 64)], [], st S hs, 0, 0)) ∧ ((S.1 64 1) = (-1) → X (44, [some (.ref 7), some (.int a1), some (.int a2), some (.int a3), some (.int a4), some (.int a5), some (.ref 66), some (.ref 64)], [], st S hs, 0, 0))
        refine ⟨fun hc => hX _ ?_, fun hc => hX _ ?_⟩
        · clear hP hX hk P' X cal
          rw [if_neg hc] at hr
          refine Wp.stepsG 5 (fun cal X P' hk hX hP => ?_)
          show ((S.1 66 1) = (S.1 64 1) → X (63, [some (.ref 7), some (.int a1), some (.int a2), some (.int a3), some (.int a4), some (.int a5), some (.ref 66), some (.ref 64)], [], st S hs, 0, 0)) ∧ (¬ (S.1 66 1) = (S.1 64 1) → X (60, [some (.ref 7), some (.int a1), some (.int a2), some (.int a3), some (.int a4), some (.int a5), some (.ref 66), some (.ref 64)], [], st S hs, 0, 0))
          refine ⟨fun hc => hX _ ?_, fun hc => hX _ ?_⟩
          · clear hP hX hk P' X cal
            rw [if_pos hc] at hr
            refine Wp.stepsG 4 (fun cal X P' hk hX hP => ?_)
            show kcall cal ix_X8_hasRun [.ref 66, .int a2, .int a5] (st S hs) [] 0 0 (0, 0) (fun v σ' c' m' => X (71, [some (.ref 7), some (.int a1), some (.int a2), some (.int a3), some (.int a4), some (.int a5), some (.ref 66), some (.ref 64)], v.toList ++ [], σ', c', m'))
            refine kcall0 rfl (hk _ _ _ _ _ _ (e_X8_hasRun_66 (d + 1) S hs a2 a5 _ ?_))
            show X (71, [some (.ref 7), some (.int a1), some (.int a2), some (.int a3), some (.int a4), some (.int a5), some (.ref 66), some (.ref 64)], [.int (r_X8_hasRun S 66 a2 a5)], st S hs, 0, 0)
            refine hX _ ?_
            clear hP hX hk P' X cal
            refine Wp.stepsG 1 (fun cal X P' hk hX hP => ?_)
            show ((r_X8_hasRun S 66 a2 a5) = 0 → X (86, [some (.ref 7), some (.int a1), some (.int a2), some (.int a3), some (.int a4), some (.int a5), some (.ref 66), some (.ref 64)], [], st S hs, 0, 0)) ∧ (¬ (r_X8_hasRun S 66 a2 a5) = 0 → X (74, [some (.ref 7), some (.int a1), some (.int a2), some (.int a3), some (.int a4), some (.int a5), some (.ref 66), some (.ref 64)], [], st S hs, 0, 0))
            refine ⟨fun hc => hX _ ?_, fun hc => hX _ ?_⟩
            · clear hP hX hk P' X cal
              rw [if_pos hc] at hr
              have hr := Option.some.inj hr
              subst hr
              refine Wp.stepsG 2 (fun cal X P' hk hX hP => ?_)
              exact hP _ _ h
            · clear hP hX hk P' X cal
              rw [if_neg hc] at hr
              refine Wp.stepsG 4 (fun cal X P' hk hX hP => ?_)
              show kcall cal ix_X8_hasRun [.ref 64, .int a4, .int a5] (st S hs) [] 0 0 (0, 0) (fun v σ' c' m' => X (83, [some (.ref 7), some (.int a1), some (.int a2), some (.int a3), some (.int a4), some (.int a5), some (.ref 66), some (.ref 64)], v.toList ++ [], σ', c', m'))
              refine kcall0 rfl (hk _ _ _ _ _ _ (e_X8_hasRun_64 (d + 1) S hs a4 a5 _ ?_))
              show X (83, [some (.ref 7), some (.int a1), some (.int a2), some (.int a3), some (.int a4), some (.int a5), some (.ref 66), some (.ref 64)], [.int (r_X8_hasRun S 64 a4 a5)], st S hs, 0, 0)
              refine hX _ ?_
              clear hP hX hk P' X cal
              refine Wp.stepsG 1 (fun cal X P' hk hX hP => ?_)
              show (¬ (r_X8_hasRun S 64 a4 a5) = 0 → X (89, [some (.ref 7), some (.int a1), some (.int a2), some (.int a3), some (.int a4), some (.int a5), some (.ref 66), some (.ref 64)], [], st S hs, 0, 0)) ∧ ((r_X8_hasRun S 64 a4 a5) = 0 → X (86, [some (.ref 7), some (.int a1), some (.int a2), some (.int a3), some (.int a4), some (.int a5), some (.ref 66), some (.ref 64)], [], st S hs, 0, 0))
              refine ⟨fun hc => hX _ ?_, fun hc => hX _ ?_⟩
              · clear hP hX hk P' X cal
                rw [if_neg hc] at hr
                refine Wp.stepsG 8 (fun cal X P' hk hX hP => ?_)
                show (¬ a2 < 0 ∧ ¬ a4 < 0 ∧ ¬ a5 < 0 ∧ a2.toNatClampNeg + a5.toNatClampNeg ≤ 60 ∧ a4.toNatClampNeg + a5.toNatClampNeg ≤ 60) ∧ X (107, [some (.ref 7), some (.int a1), some (.int a2), some (.int a3), some (.int a4), some (.int a5), some (.ref 66), some (.ref 64)], [], st (sG S 65 (va_cpy (S.2.1 67) (S.2.1 65) a2.toNatClampNeg a4.toNatClampNeg a5.toNatClampNeg)) hs, 0, 0)
                obtain ⟨hg, hr⟩ := gd_some hr
                refine ⟨hg, hX _ ?_⟩
                clear hP hX hk P' X cal
                have hr := Option.some.inj hr
                subst hr
                refine Wp.stepsG 2 (fun cal X P' hk hX hP => ?_)
                exact hP _ _ h
              · clear hP hX hk P' X cal
                rw [if_pos hc] at hr
                have hr := Option.some.inj hr
                subst hr
                refine Wp.stepsG 2 (fun cal X P' hk hX hP => ?_)
                exact hP _ _ h
          · clear hP hX hk P' X cal
            rw [if_neg hc] at hr
            have hr := Option.some.inj hr
            subst hr
            refine Wp.stepsG 2 (fun cal X P' hk hX hP => ?_)
            exact hP _ _ h
        · clear hP hX hk P' X cal
          rw [if_pos hc] at hr
          have hr := Option.some.inj hr
          subst hr
          refine Wp.stepsG 2 (fun cal X P' hk hX hP => ?_)
          exact hP _ _ h
    · rw [hz13]
      rw [oN_is hz13] at hr
      refine Wp.stepsG 9 (fun cal X P' hk hX hP => ?_)
      show ((S.1 66 1) = (-1) → X (44, [some (.ref 7), some (.int a1), some (.int a2), some (.int a3), some (.int a4), some (.int a5), some (.ref 66), some (.ref 66)], [], st S hs, 0, 0)) ∧ (¬ (S.1 66 1) = (-1) → X (35, [some (.ref 7), some (.int a1), some (.int a2), some (.int a3), some (.int a4), some (.int a5), some (.ref 66), some (.ref 66)], [], st S hs, 0, 0))
      refine ⟨fun hc => hX _ ?_, fun hc => hX _ ?_⟩
      · clear hP hX hk P' X cal
        rw [if_pos hc] at hr
        have hr := Option.some.inj hr
        subst hr
        refine Wp.stepsG 2 (fun cal X P' hk hX hP => ?_)
        exact hP _ _ h
      · clear hP hX hk P' X cal
        rw [if_neg hc] at hr
        refine Wp.stepsG 4 (fun cal X P' hk hX hP => ?_)
        show (¬ (S.1 66 1) = (-1) → X (47, [some (.ref 7), some (.int a1), some (.int a2), some (.int a3), some (.int a4), some (.int a5), some (.ref 66), some (.ref 66)], [], st S hs, 0, 0)) ∧ ((S.1 66 1) = (-1) → X (44, [some (.ref 7), some (.int a1), some (.int a2), some (.int a3), some (.int a4), some (.int a5), some (.ref 66), some (.ref 66)], [], st S hs, 0, 0))
        refine ⟨fun hc => hX _ ?_, fun hc => hX _ ?_⟩
        · clear hP hX hk P' X cal
          rw [if_neg hc] at hr
          refine Wp.stepsG 5 (fun cal X P' hk hX hP => ?_)
          show ((S.1 66 1) = (S.1 66 1) → X (63, [some (.ref 7), some (.int a1), some (.int a2), some (.int a3), some (.int a4), some (.int a5), some (.ref 66), some (.ref 66)], [], st S hs, 0, 0)) ∧ (¬ (S.1 66 1) = (S.1 66 1) → X (60, [some (.ref 7), some (.int a1), some (.int a2), some (.int a3), some (.int a4), some (.int a5), some (.ref 66), some (.ref 66)], [], st S hs, 0, 0))
          refine ⟨fun hc => hX _ ?_, fun hc => hX _ ?_⟩
          · clear hP hX hk P' X cal
            rw [if_pos hc] at hr
            refine Wp.stepsG 4 (fun cal X P' hk hX hP => ?_)
            show kcall cal ix_X8_hasRun [.ref 66, .int a2, .int a5] (st S hs) [] 0 0 (0, 0) (fun v σ' c' m' => X (71, [some (.ref 7), some (.int a1), some (.int a2), some (.int a3), some (.int a4), some (.int a5), some (.ref 66), some (.ref 66)], v.toList ++ [], σ', c', m'))
            refine kcall0 rfl (hk _ _ _ _ _ _ (e_X8_hasRun_66 (d + 1) S hs a2 a5 _ ?_))
            show X (71, [some (.ref 7), some (.int a1), some (.int a2), some (.int a3), some (.int a4), some (.int a5), some (.ref 66), some (.ref 66)], [.int (r_X8_hasRun S 66 a2 a5)], st S hs, 0, 0)
            refine hX _ ?_
            clear hP hX hk P' X cal
            refine Wp.stepsG 1 (fun cal X P' hk hX hP => ?_)
            show ((r_X8_hasRun S 66 a2 a5) = 0 → X (86, [some (.ref 7), some (.int a1), some (.int a2), some (.int a3), some (.int a4), some (.int a5), some (.ref 66), some (.ref 66)], [], st S hs, 0, 0)) ∧ (¬ (r_X8_hasRun S 66 a2 a5) = 0 → X (74, [some (.ref 7), some (.int a1), some (.int a2), some (.int a3), some (.int a4), some (.int a5), some (.ref 66), some (.ref 66)], [], st S hs, 0, 0))
            refine ⟨fun hc => hX _ ?_, fun hc => hX _ ?_⟩
            · clear hP hX hk P' X cal
              rw [if_pos hc] at hr
              have hr := Option.some.inj hr
              subst hr
              refine Wp.stepsG 2 (fun cal X P' hk hX hP => ?_)
              exact hP _ _ h
            · clear hP hX hk P' X cal
              rw [if_neg hc] at hr
              refine Wp.stepsG 4 (fun cal X P' hk hX hP => ?_)
              show kcall cal ix_X8_hasRun [.ref 66, .int a4, .int a5] (st S hs) [] 0 0 (0, 0) (fun v σ' c' m' => X (83, [some (.ref 7), some (.int a1), some (.int a2), some (.int a3), some (.int a4), some (.int a5), some (.ref 66), some (.ref 66)], v.toList ++ [], σ', c', m'))
              refine kcall0 rfl (hk _ _ _ _ _ _ (e_X8_hasRun_66 (d + 1) S hs a4 a5 _ ?_))
              show X (83, [some (.ref 7), some (.int a1), some (.int a2), some (.int a3), some (.int a4), some (.int a5), some (.ref 66), some (.ref 66)], [.int (r_X8_hasRun S 66 a4 a5)], st S hs, 0, 0)
              refine hX _ ?_
              clear hP hX hk P' X cal
              refine Wp.stepsG 1 (fun cal X P' hk hX hP => ?_)
              show (¬ (r_X8_hasRun S 66 a4 a5) = 0 → X (89, [some (.ref 7), some (.int a1), some (.int a2), some (.int a3), some (.int a4), some (.int a5), some (.ref 66), some (.ref 66)], [], st S hs, 0, 0)) ∧ ((r_X8_hasRun S 66 a4 a5) = 0 → X (86, [some (.ref 7), some (.int a1), some (.int a2), some (.int a3), some (.int a4), some (.int a5), some (.ref 66), some (.ref 66)], [], st S hs, 0, 0))
              refine ⟨fun hc => hX _ ?_, fun hc => hX _ ?_⟩
              · clear hP hX hk P' X cal
                rw [if_neg hc] at hr
                refine Wp.stepsG 8 (fun cal X P' hk hX hP => ?_)
                show (¬ a2 < 0 ∧ ¬ a4 < 0 ∧ ¬ a5 < 0 ∧ a2.toNatClampNeg + a5.toNatClampNeg ≤ 60 ∧ a4.toNatClampNeg + a5.toNatClampNeg ≤ 60) ∧ X (107, [some (.ref 7), some (.int a1), some (.int a2), some (.int a3), some (.int a4), some (.int a5), some (.ref 66), some (.ref 66)], [], st (sG S 67 (va_cpy (S.2.1 67) (S.2.1 67) a2.toNatClampNeg a4.toNatClampNeg a5.toNatClampNeg)) hs, 0, 0)
                obtain ⟨hg, hr⟩ := gd_some hr
                refine ⟨hg, hX _ ?_⟩
                clear hP hX hk P' X cal
                have hr := Option.some.inj hr
                subst hr
                refine Wp.stepsG 2 (fun cal X P' hk hX hP => ?_)
                exact hP _ _ h
              · clear hP hX hk P' X cal
                rw [if_pos hc] at hr
                have hr := Option.some.inj hr
                subst hr
                refine Wp.stepsG 2 (fun cal X P' hk hX hP => ?_)
                exact hP _ _ h
          · clear hP hX hk P' X cal
            rw [if_neg hc] at hr
            have hr := Option.some.inj hr
            subst hr
            refine Wp.stepsG 2 (fun cal X P' hk hX hP => ?_)
            exact hP _ _ h
        · clear hP hX hk P' X cal
          rw [if_pos hc] at hr
          have hr := Option.some.inj hr
          subst hr
          refine Wp.stepsG 2 (fun cal X P' hk hX hP => ?_)
          exact hP _ _ h
    · rw [hz13]
      rw [oN_is hz13] at hr
      refine Wp.stepsG 9 (fun cal X P' hk hX hP => ?_)
      show ((S.1 66 1) = (-1) → X (44, [some (.ref 7), some (.int a1), some (.int a2), some (.int a3), some (.int a4), some (.int a5), some (.ref 66), some (.ref 68)], [], st S hs, 0, 0)) ∧ (¬ (S.1 66 1) = (-1) → X (35, [some (.ref 7), some (.int a1), some (.int a2), some (.int a3), some (.int a4), some (.int a5), some (.ref 66), some (.ref 68)], [], st S hs, 0, 0))
      refine ⟨fun hc => hX _ ?_, fun hc => hX _ ?_⟩
      · clear hP hX hk P' X cal
        rw [if_pos hc] at hr
        have hr := Option.some.inj hr
        subst hr
        refine Wp.stepsG 2 (fun cal X P' hk hX hP => ?_)
        exact hP _ _ h
      · clear hP hX hk P' X cal
        rw [if_neg hc] at hr
        refine Wp.stepsG 4 (fun cal X P' hk hX hP => ?_)
        show (¬ (S.1 68 1) = (-1) → X (47, [some (.ref 7), some (.int a1), some (.int a2), some (.int a3), some (.int a4), some (.int a5), some (.ref 66), some (.ref 68)], [], st S hs, 0, 0)) ∧ ((S.1 68 1) = (-1) → X (44, [some (.ref 7), some (.int a1), some (.int a2), some (.int a3), some (.int a4), some (.int a5), some (.ref 66), some (.ref 68)], [], st S hs, 0, 0))
        refine ⟨fun hc => hX _ ?_, fun hc => hX _ ?_⟩
        · clear hP hX hk P' X cal
          rw [if_neg hc] at hr
          refine Wp.stepsG 5 (fun cal X P' hk hX hP => ?_)
          show ((S.1 66 1) = (S.1 68 1) → X (63, [some (.ref 7), some (.int a1), some (.int a2), some (.int a3), some (.int a4), some (.int a5), some (.ref 66), some (.ref 68)], [], st S hs, 0, 0)) ∧ (¬ (S.1 66 1) = (S.1 68 1) → X (60, [some (.ref 7), some (.int a1), some (.int a2), some (.int a3), some (.int a4), some (.int a5), some (.ref 66), some (.ref 68)], [], st S hs, 0, 0))
          refine ⟨fun hc => hX _ ?_, fun hc => hX _ ?_⟩
          · clear hP hX hk P' X cal
            rw [if_pos hc] at hr
            refine Wp.stepsG 4 (fun cal X P' hk hX hP => ?_)
            show kcall cal ix_X8_hasRun [.ref 66, .int a2, .int a5] (st S hs) [] 0 0 (0, 0) (fun v σ' c' m' => X (71, [some (.ref 7), some (.int a1), some (.int a2), some (.int a3), some (.int a4), some (.int a5), some (.ref 66), some (.ref 68)], v.toList ++ [], σ', c', m'))
            refine kcall0 rfl (hk _ _ _ _ _ _ (e_X8_hasRun_66 (d + 1) S hs a2 a5 _ ?_))
            show X (71, [some (.ref 7), some (.int a1), some (.int a2), some (.int a3), some (.int a4), some (.int a5), some (.ref 66), some (.ref 68)], [.int (r_X8_hasRun S 66 a2 a5)], st S hs, 0, 0)
            refine hX _ ?_
            clear hP hX hk P' X cal
            refine Wp.stepsG 1 (fun cal X P' hk hX hP => ?_)
            show ((r_X8_hasRun S 66 a2 a5) = 0 → X (86, [some (.ref 7), some (.int a1), some (.int a2), some (.int a3), some (.int a4), some (.int a5), some (.ref 66), some (.ref 68)], [], st S hs, 0, 0)) ∧ (¬ (r_X8_hasRun S 66 a2 a5) = 0 → X (74, [some (.ref 7), some (.int a1), some (.int a2), some (.int a3), some (.int a4), some (.int a5), some (.ref 66), some (.ref 68)], [], st S hs, 0, 0))
            refine ⟨fun hc => hX _ ?_, fun hc => hX _ ?_⟩
            · clear hP hX hk P' X cal
              rw [if_pos hc] at hr
              have hr := Option.some.inj hr
              subst hr
              refine Wp.stepsG 2 (fun cal X P' hk hX hP => ?_)
              exact hP _ _ h
            · clear hP hX hk P' X cal
              rw [if_neg hc] at hr
              refine Wp.stepsG 4 (fun cal X P' hk hX hP => ?_)
              show kcall cal ix_X8_hasRun [.ref 68, .int a4, .int a5] (st S hs) [] 0 0 (0, 0) (fun v σ' c' m' => X (83, [some (.ref 7), some (.int a1), some (.int a2), some (.int a3), some (.int a4), some (.int a5), some (.ref 66), some (.ref 68)], v.toList ++ [], σ', c', m'))
              refine kcall0 rfl (hk _ _ _ _ _ _ (e_X8_hasRun_68 (d + 1) S hs a4 a5 _ ?_))
              show X (83, [some (.ref 7), some (.int a1), some (.int a2), some (.int a3), some (.int a4), some (.int a5), some (.ref 66), some (.ref 68)], [.int (r_X8_hasRun S 68 a4 a5)], st S hs, 0, 0)
              refine hX _ ?_
              clear hP hX hk P' X cal
              refine Wp.stepsG 1 (fun cal X P' hk hX hP => ?_)
              show (¬ (r_X8_hasRun S 68 a4 a5) = 0 → X (89, [some (.ref 7), some (.int a1), some (.int a2), some (.int a3), some (.int a4), some (.int a5), some (.ref 66), some (.ref 68)], [], st S hs, 0, 0)) ∧ ((r_X8_hasRun S 68 a4 a5) = 0 → X (86, [some (.ref 7), some (.int a1), some (.int a2), some (.int a3), some (.int a4), some (.int a5), some (.ref 66), some (.ref 68)], [], st S hs, 0, 0))
              refine ⟨fun hc => hX _ ?_, fun hc => hX _ ?_⟩
              · clear hP hX hk P' X cal
                rw [if_neg hc] at hr
                refine Wp.stepsG 8 (fun cal X P' hk hX hP => ?_)
                show (¬ a2 < 0 ∧ ¬ a4 < 0 ∧ ¬ a5 < 0 ∧ a2.toNatClampNeg + a5.toNatClampNeg ≤ 60 ∧ a4.toNatClampNeg + a5.toNatClampNeg ≤ 60) ∧ X (107, [some (.ref 7), some (.int a1), some (.int a2), some (.int a3), some (.int a4), some (.int a5), some (.ref 66), some (.ref 68)], [], st (sG S 69 (va_cpy (S.2.1 67) (S.2.1 69) a2.toNatClampNeg a4.toNatClampNeg a5.toNatClampNeg)) hs, 0, 0)
                obtain ⟨hg, hr⟩ := gd_some hr
                refine ⟨hg, hX _ ?_⟩
                clear hP hX hk P' X cal
                have hr := Option.some.inj hr
                subst hr
                refine Wp.stepsG 2 (fun cal X P' hk hX hP => ?_)
                exact hP _ _ h
              · clear hP hX hk P' X cal
                rw [if_pos hc] at hr
                have hr := Option.some.inj hr
                subst hr
                refine Wp.stepsG 2 (fun cal X P' hk hX hP => ?_)
                exact hP _ _ h
          · clear hP hX hk P' X cal
            rw [if_neg hc] at hr
            have hr := Option.some.inj hr
            subst hr
            refine Wp.stepsG 2 (fun cal X P' hk hX hP => ?_)
            exact hP _ _ h
        · clear hP hX hk P' X cal
          rw [if_pos hc] at hr
          have hr := Option.some.inj hr
          subst hr
          refine Wp.stepsG 2 (fun cal X P' hk hX hP => ?_)
          exact hP _ _ h
    · rw [hz13]
      rw [oN_is hz13] at hr
      refine Wp.stepsG 9 (fun cal X P' hk hX hP => ?_)
      show ((S.1 66 1) = (-1) → X (44, [some (.ref 7), some (.int a1), some (.int a2), some (.int a3), some (.int a4), some (.int a5), some (.ref 66), some (.ref 70)], [], st S hs, 0, 0)) ∧ (¬ (S.1 66 1) = (-1) → X (35, [some (.ref 7), some (.int a1), some (.int a2), some (.int a3), some (.int a4), some (.int a5), some (.ref 66), some (.ref 70)], [], st S hs, 0, 0))
      refine ⟨fun hc => hX _ ?_, fun hc => hX _ ?_⟩
      · clear hP hX hk P' X cal
        rw [if_pos hc] at hr
        have hr := Option.some.inj hr
        subst hr
        refine Wp.stepsG 2 (fun cal X P' hk hX hP => ?_)
        exact hP _ _ h
      · clear hP hX hk P' X cal
        rw [if_neg hc] at hr
        refine Wp.stepsG 4 (fun cal X P' hk hX hP => ?_)
        show (¬ (S.1 70 1) = (-1) → X (47, [some (.ref 7), some (.int a1), some (.int a2), some (.int a3), some (.int a4), some (.int a5), some (.ref 66), some (.ref 70)], [], st S hs, 0, 0)) ∧ ((S.1 70 1) = (-1) → X (44, [some (.ref 7), some (.int a1), some (.int a2), some (.int a3), some (.int a4), some (.int a5), some (.ref 66), some (.ref 70)], [], st S hs, 0, 0))
        refine ⟨fun hc => hX _ ?_, fun hc => hX _ ?_⟩
        · clear hP hX hk P' X cal
          rw [if_neg hc] at hr
          refine Wp.stepsG 5 (fun cal X P' hk hX hP => ?_)
          show ((S.1 66 1) = (S.1 70 1) → X (63, [some (.ref 7), some (.int a1), some (.int a2), some (.int a3), some (.int a4), some (.int a5), some (.ref 66), some (.ref 70)], [], st S hs, 0, 0)) ∧ (¬ (S.1 66 1) = (S.1 70 1) → X (60, [some (.ref 7), some (.int a1), some (.int a2), some (.int a3), some (.int a4), some (.int a5), some (.ref 66), some (.ref 70)], [], st S hs, 0, 0))
          refine ⟨fun hc => hX _ ?_, fun hc => hX _ ?_⟩
          · clear hP hX hk P' X cal
            rw [if_pos hc] at hr
            refine Wp.stepsG 4 (fun cal X P' hk hX hP => ?_)
            show kcall cal ix_X8_hasRun [.ref 66, .int a2, .int a5] (st S hs) [] 0 0 (0, 0) (fun v σ' c' m' => X (71, [some (.ref 7), some (.int a1), some (.int a2), some (.int a3), some (.int a4), some (.int a5), some (.ref 66), some (.ref 70)], v.toList ++ [], σ', c', m'))
            refine kcall0 rfl (hk _ _ _ _ _ _ (e_X8_hasRun_66 (d + 1) S hs a2 a5 _ ?_))
            show X (71, [some (.ref 7), some (.int a1), some (.int a2), some (.int a3), some (.int a4), some (.int a5), some (.ref 66), some (.ref 70)], [.int (r_X8_hasRun S 66 a2 a5)], st S hs, 0, 0)
            refine hX _ ?_
            clear hP hX hk P' X cal
            refine Wp.stepsG 1 (fun cal X P' hk hX hP => ?_)
            show ((r_X8_hasRun S 66 a2 a5) = 0 → X (86, [some (.ref 7), some (.int a1), some (.int a2), some (.int a3), some (.int a4), some (.int a5), some (.ref 66), some (.ref 70)], [], st S hs, 0, 0)) ∧ (¬ (r_X8_hasRun S 66 a2 a5) = 0 → X (74, [some (.ref 7), some (.int a1), some (.int a2), some (.int a3), some (.int a4), some (.int a5), some (.ref 66), some (.ref 70)], [], st S hs, 0, 0))
            refine ⟨fun hc => hX _ ?_, fun hc => hX _ ?_⟩
            · clear hP hX hk P' X cal
              rw [if_pos hc] at hr
              have hr := Option.some.inj hr
              subst hr
              refine Wp.stepsG 2 (fun cal X P' hk hX hP => ?_)
              exact hP _ _ h
            · clear hP hX hk P' X cal
              rw [if_neg hc] at hr
              refine Wp.stepsG 4 (fun cal X P' hk hX hP => ?_)
              show kcall cal ix_X8_hasRun [.ref 70, .int a4, .int a5] (st S hs) [] 0 0 (0, 0) (fun v σ' c' m' => X (83, [some (.ref 7), some (.int a1), some (.int a2), some (.int a3), some (.int a4), some (.int a5), some (.ref 66), some (.ref 70)], v.toList ++ [], σ', c', m'))
              refine kcall0 rfl (hk _ _ _ _ _ _ (e_X8_hasRun_70 (d + 1) S hs a4 a5 _ ?_))
              show X (83, [some (.ref 7), some (.int a1), some (.int a2), some (.int a3), some (.int a4), some (.int a5), some (.ref 66), some (.ref 70)], [.int (r_X8_hasRun S 70 a4 a5)], st S hs, 0, 0)
              refine hX _ ?_
              clear hP hX hk P' X cal
              refine Wp.stepsG 1 (fun cal X P' hk hX hP => ?_)
              show (¬ (r_X8_hasRun S 70 a4 a5) = 0 → X (89, [some (.ref 7), some (.int a1), some (.int a2), some (.int a3), some (.int a4), some (.int a5), some (.ref 66), some (.ref 70)], [], st S hs, 0, 0)) ∧ ((r_X8_hasRun S 70 a4 a5) = 0 → X (86, [some (.ref 7), some (.int a1), some (.int a2), some (.int a3), some (.int a4), some (.int a5), some (.ref 66), some (.ref 70)], [], st S hs, 0, 0))
              refine ⟨fun hc => hX _ ?_, fun hc => hX _ ?_⟩
              · clear hP hX hk P' X cal
                rw [if_neg hc] at hr
                refine Wp.stepsG 8 (fun cal X P' hk hX hP => ?_)
                show (¬ a2 < 0 ∧ ¬ a4 < 0 ∧ ¬ a5 < 0 ∧ a2.toNatClampNeg + a5.toNatClampNeg ≤ 60 ∧ a4.toNatClampNeg + a5.toNatClampNeg ≤ 60) ∧ X (107, [some (.ref 7), some (.int a1), some (.int a2), some (.int a3), some (.int a4), some (.int a5), some (.ref 66), some (.ref 70)], [], st (sG S 71 (va_cpy (S.2.1 67) (S.2.1 71) a2.toNatClampNeg a4.toNatClampNeg a5.toNatClampNeg)) hs, 0, 0)
                obtain ⟨hg, hr⟩ := gd_some hr
                refine ⟨hg, hX _ ?_⟩
                clear hP hX hk P' X cal
                have hr := Option.some.inj hr
                subst hr
                refine Wp.stepsG 2 (fun cal X P' hk hX hP => ?_)
                exact hP _ _ h
              · clear hP hX hk P' X cal
                rw [if_pos hc] at hr
                have hr := Option.some.inj hr
                subst hr
                refine Wp.stepsG 2 (fun cal X P' hk hX hP => ?_)
                exact hP _ _ h
          · clear hP hX hk P' X cal
            rw [if_neg hc] at hr
            have hr := Option.some.inj hr
            subst hr
            refine Wp.stepsG 2 (fun cal X P' hk hX hP => ?_)
            exact hP _ _ h
        · clear hP hX hk P' X cal
          rw [if_pos hc] at hr
          have hr := Option.some.inj hr
          subst hr
          refine Wp.stepsG 2 (fun cal X P' hk hX hP => ?_)
          exact hP _ _ h
    · rw [hz13]
      rw [oN_is hz13] at hr
      refine Wp.stepsG 9 (fun cal X P' hk hX hP => ?_)
      show ((S.1 66 1) = (-1) → X (44, [some (.ref 7), some (.int a1), some (.int a2), some (.int a3), some (.int a4), some (.int a5), some (.ref 66), some (.ref 72)], [], st S hs, 0, 0)) ∧ (¬ (S.1 66 1) = (-1) → X (35, [some (.ref 7), some (.int a1), some (.int a2), some (.int a3), some (.int a4), some (.int a5), some (.ref 66), some (.ref 72)], [], st S hs, 0, 0))
      refine ⟨fun hc => hX _ ?_, fun hc => hX _ ?_⟩
      · clear hP hX hk P' X cal
        rw [if_pos hc] at hr
        have hr := Option.some.inj hr
        subst hr
        refine Wp.stepsG 2 (fun cal X P' hk hX hP => ?_)
        exact hP _ _ h
      · clear hP hX hk P' X cal
        rw [if_neg hc] at hr
        refine Wp.stepsG 4 (fun cal X P' hk hX hP => ?_)
        show (¬ (S.1 72 1) = (-1) → X (47, [some (.ref 7), some (.int a1), some (.int a2), some (.int a3), some (.int a4), some (.int a5), some (.ref 66), some (.ref 72)], [], st S hs, 0, 0)) ∧ ((S.1 72 1) = (-1) → X (44, [some (.ref 7), some (.int a1), some (.int a2), some (.int a3), some (.int a4), some (.int a5), some (.ref 66), some (.ref 72)], [], st S hs, 0, 0))
        refine ⟨fun hc => hX _ ?_, fun hc => hX _ ?_⟩
        · clear hP hX hk P' X cal
          rw [if_neg hc] at hr
          refine Wp.stepsG 5 (fun cal X P' hk hX hP => ?_)
          show ((S.1 66 1) = (S.1 72 1) → X (63, [some (.ref 7), some (.int a1), some (.int a2), some (.int a3), some (.int a4), some (.int a5), some (.ref 66), some (.ref 72)], [], st S hs, 0, 0)) ∧ (¬ (S.1 66 1) = (S.1 72 1) → X (60, [some (.ref 7), some (.int a1), some (.int a2), some (.int a3), some (.int a4), some (.int a5), some (.ref 66), some (.ref 72)], [], st S hs, 0, 0))
          refine ⟨fun hc => hX _ ?_, fun hc => hX _ ?_⟩
          · clear hP hX hk P' X cal
            rw [if_pos hc] at hr
            refine Wp.stepsG 4 (fun cal X P' hk hX hP => ?_)
            show kcall cal ix_X8_hasRun [.ref 66, .int a2, .int a5] (st S hs) [] 0 0 (0, 0) (fun v σ' c' m' => X (71, [some (.ref 7), some (.int a1), some (.int a2), some (.int a3), some (.int a4), some (.int a5), some (.ref 66), some (.ref 72)], v.toList ++ [], σ', c', m'))
            refine kcall0 rfl (hk _ _ _ _ _ _ (e_X8_hasRun_66 (d + 1) S hs a2 a5 _ ?_))
            show X (71, [some (.ref 7), some (.int a1), some (.int a2), some (.int a3), some (.int a4), some (.int a5), some (.ref 66), some (.ref 72)], [.int (r_X8_hasRun S 66 a2 a5)], st S hs, 0, 0)
            refine hX _ ?_
            clear hP hX hk P' X cal
            refine Wp.stepsG 1 (fun cal X P' hk hX hP => ?_)
            show ((r_X8_hasRun S 66 a2 a5) = 0 → X (86, [some (.ref 7), some (.int a1), some (.int a2), some (.int a3), some (.int a4), some (.int a5), some (.ref 66), some (.ref 72)], [], st S hs, 0, 0)) ∧ (¬ (r_X8_hasRun S 66 a2 a5) = 0 → X (74, [some (.ref 7), some (.int a1), some (.int a2), some (.int a3), some (.int a4), some (.int a5), some (.ref 66), some (.ref 72)], [], st S hs, 0, 0))
            refine ⟨fun hc => hX _ ?_, fun hc => hX _ ?_⟩
            · clear hP hX hk P' X cal
              rw [if_pos hc] at hr
              have hr := Option.some.inj hr
              subst hr
              refine Wp.stepsG 2 (fun cal X P' hk hX hP => ?_)
              exact hP _ _ h
            · clear hP hX hk P' X cal
              rw [if_neg hc] at hr
              refine Wp.stepsG 4 (fun cal X P' hk hX hP => ?_)
              show kcall cal ix_X8_hasRun [.ref 72, .int a4, .int a5] (st S hs) [] 0 0 (0, 0) (fun v σ' c' m' => X (83, [some (.ref 7), some (.int a1), some (.int a2), some (.int a3), some (.int a4), some (.int a5), some (.ref 66), some (.ref 72)], v.toList ++ [], σ', c', m'))
              refine kcall0 rfl (hk _ _ _ _ _ _ (e_X8_hasRun_72 (d + 1) S hs a4 a5 _ ?_))
              show X (83, [some (.ref 7), some (.int a1), some (.int a2), some (.int a3), some (.int a4), some (.int a5), some (.ref 66), some (.ref 72)], [.int (r_X8_hasRun S 72 a4 a5)], st S hs, 0, 0)
              refine hX _ ?_
              clear hP hX hk P' X cal
              refine Wp.stepsG 1 (fun cal X P' hk hX hP => ?_)
              show (¬ (r_X8_hasRun S 72 a4 a5) = 0 → X (89, [some (.ref 7), some (.int a1), some (.int a2), some (.int a3), some (.int a4), some (.int a5), some (.ref 66), some (.ref 72)], [], st S hs, 0, 0)) ∧ ((r_X8_hasRun S 72 a4 a5) = 0 → X (86, [some (.ref 7), some (.int a1), some (.int a2), some (.int a3), some (.int a4), some (.int a5), some (.ref 66), some (.ref 72)], [], st S hs, 0, 0))
              refine ⟨fun hc => hX _ ?_, fun hc => hX _ ?_⟩
              · clear hP hX hk P' X cal
                rw [if_neg hc] at hr
                refine Wp.stepsG 8 (fun cal X P' hk hX hP => ?_)
                show (¬ a2 < 0 ∧ ¬ a4 < 0 ∧ ¬ a5 < 0 ∧ a2.toNatClampNeg + a5.toNatClampNeg ≤ 60 ∧ a4.toNatClampNeg + a5.toNatClampNeg ≤ 60) ∧ X (107, [some (.ref 7), some (.int a1), some (.int a2), some (.int a3), some (.int a4), some (.int a5), some (.ref 66), some (.ref 72)], [], st (sG S 73 (va_cpy (S.2.1 67) (S.2.1 73) a2.toNatClampNeg a4.toNatClampNeg a5.toNatClampNeg)) hs, 0, 0)
                obtain ⟨hg, hr⟩ := gd_some hr
                refine ⟨hg, hX _ ?_⟩
                clear hP hX hk P' X cal
                have hr := Option.some.inj hr
                subst hr
                refine Wp.stepsG 2 (fun cal X P' hk hX hP => ?_)
                exact hP _ _ h
              · clear hP hX hk P' X cal
                rw [if_pos hc] at hr
                have hr := Option.some.inj hr
                subst hr
                refine Wp.stepsG 2 (fun cal X P' hk hX hP => ?_)
                exact hP _ _ h
          · clear hP hX hk P' X cal
            rw [if_neg hc] at hr
            have hr := Option.some.inj hr
            subst hr
            refine Wp.stepsG 2 (fun cal X P' hk hX hP => ?_)
            exact hP _ _ h
        · clear hP hX hk P' X cal
          rw [if_pos hc] at hr
          have hr := Option.some.inj hr
          subst hr
          refine Wp.stepsG 2 (fun cal X P' hk hX hP => ?_)
          exact hP _ _ h
    · rw [hz13]
      rw [oN_is hz13] at hr
      refine Wp.stepsG 9 (fun cal X P' hk hX hP => ?_)
      show ((S.1 66 1) = (-1) → X (44, [some (.ref 7), some (.int a1), some (.int a2), some (.int a3), some (.int a4), some (.int a5), some (.ref 66), some (.ref 74)], [], st S hs, 0, 0)) ∧ (¬ (S.1 66 1) = (-1) → X (35, [some (.ref 7), some (.int a1), some (.int a2), some (.int a3), some (.int a4), some (.int a5), some (.ref 66), some (.ref 74)], [], st S hs, 0, 0))
      refine ⟨fun hc => hX _ ?_, fun hc => hX _ ?_⟩
      · clear hP hX hk P' X cal
        rw [if_pos hc] at hr
        have hr := Option.some.inj hr
        subst hr
        refine Wp.stepsG 2 (fun cal X P' hk hX hP => ?_)
        exact hP _ _ h
      · clear hP hX hk P' X cal
        rw [if_neg hc] at hr
        refine Wp.stepsG 4 (fun cal X P' hk hX hP => ?_)
        show (¬ (S.1 74 1) = (-1) → X (47, [some (.ref 7), some (.int a1), some (.int a2), some (.int a3), some (.int a4), some (.int a5), some (.ref 66), some (.ref 74)], [], st S hs, 0, 0)) ∧ ((S.1 74 1) = (-1) → X (44, [some (.ref 7), some (.int a1), some (.int a2), some (.int a3), some (.int a4), some (.int a5), some (.ref 66), some (.ref 74)], [], st S hs, 0, 0))
        refine ⟨fun hc => hX _ ?_, fun hc => hX _ ?_⟩
        · clear hP hX hk P' X cal
          rw [if_neg hc] at hr
          refine Wp.stepsG 5 (fun cal X P' hk hX hP => ?_)
          show ((S.1 66 1) = (S.1 74 1) → X (63, [some (.ref 7), some (.int a1), some (.int a2), some (.int a3), some (.int a4), some (.int a5), some (.ref 66), some (.ref 74)], [], st S hs, 0, 0)) ∧ (¬ (S.1 66 1) = (S.1 74 1) → X (60, [some (.ref 7), some (.int a1), some (.int a2), some (.int a3), some (.int a4), some (.int a5), some (.ref 66), some (.ref 74)], [], st S hs, 0, 0))
          refine ⟨fun hc => hX _ ?_, fun hc => hX _ ?_⟩
          · clear hP hX hk P' X cal
            rw [if_pos hc] at hr
            refine Wp.stepsG 4 (fun cal X P' hk hX hP => ?_)
            show kcall cal ix_X8_hasRun [.ref 66, .int a2, .int a5] (st S hs) [] 0 0 (0, 0) (fun v σ' c' m' => X (71, [some (.ref 7), some (.int a1), some (.int a2), some (.int a3), some (.int a4), some (.int a5), some (.ref 66), some (.ref 74)], v.toList ++ [], σ', c', m'))
            refine kcall0 rfl (hk _ _ _ _ _ _ (e_X8_hasRun_66 (d + 1) S hs a2 a5 _ ?_))
            show X (71, [some (.ref 7), some (.int a1), some (.int a2), some (.int a3), some (.int a4), some (.int a5), some (.ref 66), some (.ref 74)], [.int (r_X8_hasRun S 66 a2 a5)], st S hs, 0, 0)
            refine hX _ ?_
            clear hP hX hk P' X cal
            refine Wp.stepsG 1 (fun cal X P' hk hX hP => ?_)
            show ((r_X8_hasRun S 66 a2 a5) = 0 → X (86, [some (.ref 7), some (.int a1), some (.int a2), some (.int a3), some (.int a4), some (.int a5), some (.ref 66), some (.ref 74)], [], st S hs, 0, 0)) ∧ (¬ (r_X8_hasRun S 66 a2 a5) = 0 → X (74, [some (.ref 7), some (.int a1), some (.int a2), some (.int a3), some (.int a4), some (.int a5), some (.ref 66), some (.ref 74)], [], st S hs, 0, 0))
            refine ⟨fun hc => hX _ ?_, fun hc => hX _ ?_⟩
            · clear hP hX hk P' X cal
              rw [if_pos hc] at hr
              have hr := Option.some.inj hr
              subst hr
              refine Wp.stepsG 2 (fun cal X P' hk hX hP => ?_)
              exact hP _ _ h
            · clear hP hX hk P' X cal
              rw [if_neg hc] at hr
              refine Wp.stepsG 4 (fun cal X P' hk hX hP => ?_)
              show kcall cal ix_X8_hasRun [.ref 74, .int a4, .int a5] (st S hs) [] 0 0 (0, 0) (fun v σ' c' m' => X (83, [some (.ref 7), some (.int a1), some (.int a2), some (.int a3), some (.int a4), some (.int a5), some (.ref 66), some (.ref 74)], v.toList ++ [], σ', c', m'))
              refine kcall0 rfl (hk _ _ _ _ _ _ (e_X8_hasRun_74 (d + 1) S hs a4 a5 _ ?_))
              show X (83, [some (.ref 7), some (.int a1), some (.int a2), some (.int a3), some (.int a4), some (.int a5), some (.ref 66), some (.ref 74)], [.int (r_X8_hasRun S 74 a4 a5)], st S hs, 0, 0)
              refine hX _ ?_
              clear hP hX hk P' X cal
              refine Wp.stepsG 1 (fun cal X P' hk hX hP => ?_)
              show (¬ (r_X8_hasRun S 74 a4 a5) = 0 → X (89, [some (.ref 7), some (.int a1), some (.int a2), some (.int a3), some (.int a4), some (.int a5), some (.ref 66), some (.ref 74)], [], st S hs, 0, 0)) ∧ ((r_X8_hasRun S 74 a4 a5) = 0 → X (86, [some (.ref 7), some (.int a1), some (.int a2), some (.int a3), some (.int a4), some (.int a5), some (.ref 66), some (.ref 74)], [], st S hs, 0, 0))
              refine ⟨fun hc => hX _ ?_, fun hc => hX _ ?_⟩
              · clear hP hX hk P' X cal
                rw [if_neg hc] at hr
                refine Wp.stepsG 8 (fun cal X P' hk hX hP => ?_)
                show (¬ a2 < 0 ∧ ¬ a4 < 0 ∧ ¬ a5 < 0 ∧ a2.toNatClampNeg + a5.toNatClampNeg ≤ 60 ∧ a4.toNatClampNeg + a5.toNatClampNeg ≤ 60) ∧ X (107, [some (.ref 7), some (.int a1), some (.int a2), some (.int a3), some (.int a4), some (.int a5), some (.ref 66), some (.ref 74)], [], st (sG S 75 (va_cpy (S.2.1 67) (S.2.1 75) a2.toNatClampNeg a4.toNatClampNeg a5.toNatClampNeg)) hs, 0, 0)
                obtain ⟨hg, hr⟩ := gd_some hr
                refine ⟨hg, hX _ ?_⟩
                clear hP hX hk P' X cal
                have hr := Option.some.inj hr
                subst hr
                refine Wp.stepsG 2 (fun cal X P' hk hX hP => ?_)
                exact hP _ _ h
              · clear hP hX hk P' X cal
                rw [if_pos hc] at hr
                have hr := Option.some.inj hr
                subst hr
                refine Wp.stepsG 2 (fun cal X P' hk hX hP => ?_)
                exact hP _ _ h
          · clear hP hX hk P' X cal
            rw [if_neg hc] at hr
            have hr := Option.some.inj hr
            subst hr
            refine Wp.stepsG 2 (fun cal X P' hk hX hP => ?_)
            exact hP _ _ h
        · clear hP hX hk P' X cal
          rw [if_pos hc] at hr
          have hr := Option.some.inj hr
          subst hr
          refine Wp.stepsG 2 (fun cal X P' hk hX hP => ?_)
          exact hP _ _ h
  · rw [hz10]
    rw [oN_is hz10] at hr
    refine Wp.stepsG 4 (fun cal X P' hk hX hP => ?_)
    show kcall cal ix_X11_tapeAt [.ref 7, .int a3] (st S hs) [] 0 0 (0, 0) (fun v σ' c' m' => X (12, [some (.ref 7), some (.int a1), some (.int a2), some (.int a3), some (.int a4), some (.int a5), some (.ref 68), none], v.toList ++ [], σ', c', m'))
    obtain ⟨q6, hq6, hr⟩ := bd_some hr
    refine kcall0 rfl (hk _ _ _ _ _ _ (e_X11_tapeAt (d + 0) S hs a3 q6 hq6 _ ?_))
    show X (12, [some (.ref 7), some (.int a1), some (.int a2), some (.int a3), some (.int a4), some (.int a5), some (.ref 68), none], [va_rf q6], st S hs, 0, 0)
    refine hX _ ?_
    clear hP hX hk P' X cal
    rcases c_X11_tapeAt hq6 with hz14 | hz14 | hz14 | hz14 | hz14 | hz14 | hz14
    · rw [hz14]
      rw [oN_no hz14] at hr
      have hr := Option.some.inj hr
      subst hr
      refine Wp.stepsG 7 (fun cal X P' hk hX hP => ?_)
      exact hP _ _ h
    · rw [hz14]
      rw [oN_is hz14] at hr
      refine Wp.stepsG 9 (fun cal X P' hk hX hP => ?_)
      show ((S.1 68 1) = (-1) → X (44, [some (.ref 7), some (.int a1), some (.int a2), some (.int a3), some (.int a4), some (.int a5), some (.ref 68), some (.ref 64)], [], st S hs, 0, 0)) ∧ (¬ (S.1 68 1) = (-1) → X (35, [some (.ref 7), some (.int a1), some (.int a2), some (.int a3), some (.int a4), some (.int a5), some (.ref 68), some (.ref 64)], [], st S hs, 0, 0))
      refine ⟨fun hc => hX _ ?_, fun hc => hX _ ?_⟩
      · clear hP hX hk P' X cal
        rw [if_pos hc] at hr
        have hr := Option.some.inj hr
        subst hr
        refine Wp.stepsG 2 (fun cal X P' hk hX hP => ?_)
        exact hP _ _ h
      · clear hP hX hk P' X cal
        rw [if_neg hc] at hr
        refine Wp.stepsG 4 (fun cal X P' hk hX hP => ?_)
        show (¬ (S.1 64 1) = (-1) → X (47, [some (.ref 7), some (.int a1), some (.int a2), some (.int a3), some (.int a4), some (.int a5), some (.ref 68), some (.ref 64)], [], st S hs, 0, 0)) ∧ ((S.1 64 1) = (-1) → X (44, [some (.ref 7), some (.int a1), some (.int a2), some (.int a3), some (.int a4), some (.int a5), some (.ref 68), some (.ref 64)], [], st S hs, 0, 0))
        refine ⟨fun hc => hX _ ?_, fun hc => hX _ ?_⟩
        · clear hP hX hk P' X cal
          rw [if_neg hc] at hr
          refine Wp.stepsG 5 (fun cal X P' hk hX hP => ?_)
          show ((S.1 68 1) = (S.1 64 1) → X (63, [some (.ref 7), some (.int a1), some (.int a2), some (.int a3), some (.int a4), some (.int a5), some (.ref 68), some (.ref 64)], [], st S hs, 0, 0)) ∧ (¬ (S.1 68 1) = (S.1 64 1) → X (60, [some (.ref 7), some (.int a1), some (.int a2), some (.int a3), some (.int a4), some (.int a5), some (.ref 68), some (.ref 64)], [], st S hs, 0, 0))
          refine ⟨fun hc => hX _ ?_, fun hc => hX _ ?_⟩
          · clear hP hX hk P' X cal
            rw [if_pos hc] at hr
            refine Wp.stepsG 4 (fun cal X P' hk hX hP => ?_)
            show kcall cal ix_X8_hasRun [.ref 68, .int a2, .int a5] (st S hs) [] 0 0 (0, 0) (fun v σ' c' m' => X (71, [some (.ref 7), some (.int a1), some (.int a2), some (.int a3), some (.int a4), some (.int a5), some (.ref 68), some (.ref 64)], v.toList ++ [], σ', c', m'))
            refine kcall0 rfl (hk _ _ _ _ _ _ (e_X8_hasRun_68 (d + 1) S hs a2 a5 _ ?_))
            show X (71, [some (.ref 7), some (.int a1), some (.int a2), some (.int a3), some (.int a4), some (.int a5), some (.ref 68), some (.ref 64)], [.int (r_X8_hasRun S 68 a2 a5)], st S hs, 0, 0)
            refine hX _ ?_
            clear hP hX hk P' X cal
            refine Wp.stepsG 1 (fun cal X P' hk hX hP => ?_)
            show ((r_X8_hasRun S 68 a2 a5) = 0 → X (86, [some (.ref 7), some (.int a1), some (.int a2), some (.int a3), some (.int a4), some (.int a5), some (.ref 68), some (.ref 64)], [], st S hs, 0, 0)) ∧ (¬ (r_X8_hasRun S 68 a2 a5) = 0 → X (74, [some (.ref 7), some (.int a1), some (.int a2), some (.int a3), some (.int a4), some (.int a5), some (.ref 68), some (.ref 64)], [], st S hs, 0, 0))
            refine ⟨fun hc => hX _ ?_, fun hc => hX _ ?_⟩
            · clear hP hX hk P' X cal
              rw [if_pos hc] at hr
              have hr := Option.some.inj hr
              subst hr
              refine Wp.stepsG 2 (fun cal X P' hk hX hP => ?_)
              exact hP _ _ h
            · clear hP hX hk P' X cal
              rw [if_neg hc] at hr
              refine Wp.stepsG 4 (fun cal X P' hk hX hP => ?_)
              show kcall cal ix_X8_hasRun [.ref 64, .int a4, .int a5] (st S hs) [] 0 0 (0, 0) (fun v σ' c' m' => X (83, [some (.ref 7), some (.int a1), some (.int a2), some (.int a3), some (.int a4), some (.int a5), some (.ref 68), some (.ref 64)], v.toList ++ [], σ', c', m'))
              refine kcall0 rfl (hk _ _ _ _ _ _ (e_X8_hasRun_64 (d + 1) S hs a4 a5 _ ?_))
              show X (83, [some (.ref 7), some (.int a1), some (.int a2), some (.int a3), some (.int a4), some (.int a5), some (.ref 68), some (.ref 64)], [.int (r_X8_hasRun S 64 a4 a5)], st S hs, 0, 0)
              refine hX _ ?_
              clear hP hX hk P' X cal
              refine Wp.stepsG 1 (fun cal X P' hk hX hP => ?_)
              show (¬ (r_X8_hasRun S 64 a4 a5) = 0 → X (89, [some (.ref 7), some (.int a1), some (.int a2), some (.int a3), some (.int a4), some (.int a5), some (.ref 68), some (.ref 64)], [], st S hs, 0, 0)) ∧ ((r_X8_hasRun S 64 a4 a5) = 0 → X (86, [some (.ref 7), some (.int a1), some (.int a2), some (.int a3), some (.int a4), some (.int a5), some (.ref 68), some (.ref 64)], [], st S hs, 0, 0))
              refine ⟨fun hc => hX _ ?_, fun hc => hX _ ?_⟩
              · clear hP hX hk P' X cal
                rw [if_neg hc] at hr
                refine Wp.stepsG 8 (fun cal X P' hk hX hP => ?_)
                show (¬ a2 < 0 ∧ ¬ a4 < 0 ∧ ¬ a5 < 0 ∧ a2.toNatClampNeg + a5.toNatClampNeg ≤ 60 ∧ a4.toNatClampNeg + a5.toNatClampNeg ≤ 60) ∧ X (107, [some (.ref 7), some (.int a1), some (.int a2), some (.int a3), some (.int a4), some (.int a5), some (.ref 68), some (.ref 64)], [], st (sG S 65 (va_cpy (S.2.1 69) (S.2.1 65) a2.toNatClampNeg a4.toNatClampNeg a5.toNatClampNeg)) hs, 0, 0)
                obtain ⟨hg, hr⟩ := gd_some hr
                refine ⟨hg, hX _ ?_⟩
                clear hP hX hk P' X cal
                have hr := Option.some.inj hr
                subst hr
                refine Wp.stepsG 2 (fun cal X P' hk hX hP => ?_)
                exact hP _ _ h
              · clear hP hX hk P' X cal
                rw [if_pos hc] at hr
                have hr := Option.some.inj hr
                subst hr
                refine Wp.stepsG 2 (fun cal X P' hk hX hP => ?_)
                exact hP _ _ h
          · clear hP hX hk P' X cal
            rw [if_neg hc] at hr
            have hr := Option.some.inj hr
            subst hr
            refine Wp.stepsG 2 (fun cal X P' hk hX hP => ?_)
            exact hP _ _ h
        · clear hP hX hk P' X cal
          rw [if_pos hc] at hr
          have hr := Option.some.inj hr
          subst hr
          refine Wp.stepsG 2 (fun cal X P' hk hX hP => ?_)
          exact hP _ _ h
    · rw [hz14]
      rw [oN_is hz14] at hr
      refine Wp.stepsG 9 (fun cal X P' hk hX hP => ?_)
      show ((S.1 68 1) = (-1) → X (44, [some (.ref 7), some (.int a1), some (.int a2), some (.int a3), some (.int a4), some (.int a5), some (.ref 68), some (.ref 66)], [], st S hs, 0, 0)) ∧ (¬ (S.1 68 1) = (-1) → X (35, [some (.ref 7), some (.int a1), some (.int a2), some (.int a3), some (.int a4), some (.int a5), some (.ref 68), some (.ref 66)], [], st S hs, 0, 0))
      refine ⟨fun hc => hX _ ?_, fun hc => hX _ ?_⟩
      · clear hP hX hk P' X cal
        rw [if_pos hc] at hr
        have hr := Option.some.inj hr
        subst hr
        refine Wp.stepsG 2 (fun cal X P' hk hX hP => ?_)
        exact hP _ _ h
      · clear hP hX hk P' X cal
        rw [if_neg hc] at hr
        refine Wp.stepsG 4 (fun cal X P' hk hX hP => ?_)
        show (¬ (S.1 66 1) = (-1) → X (47, [some (.ref 7), some (.int a1), some (.int a2), some (.int a3), some (.int a4), some (.int a5), some (.ref 68), some (.ref 66)], [], st S hs, 0, 0)) ∧ ((S.1 66 1) = (-1) → X (44, [some (.ref 7), some (.int a1), some (.int a2), some (.int a3), some (.int a4), some (.int a5), some (.ref 68), some (.ref 66)], [], st S hs, 0, 0))
        refine ⟨fun hc => hX _ ?_, fun hc => hX _ ?_⟩
        · clear hP hX hk P' X cal
          rw [if_neg hc] at hr
          refine Wp.stepsG 5 (fun cal X P' hk hX hP => ?_)
          show ((S.1 68 1) = (S.1 66 1) → X (63, [some (.ref 7), some (.int a1), some (.int a2), some (.int a3), some (.int a4), some (.int a5), some (.ref 68), some (.ref 66)], [], st S hs, 0, 0)) ∧ (¬ (S.1 68 1) = (S.1 66 1) → X (60, [some (.ref 7), some (.int a1), some (.int a2), some (.int a3), some (.int a4), some (.int a5), some (.ref 68), some (.ref 66)], [], st S hs, 0, 0))
          refine ⟨fun hc => hX _ ?_, fun hc => hX _ ?_⟩
          · clear hP hX hk P' X cal
            rw [if_pos hc] at hr
            refine Wp.stepsG 4 (fun cal X P' hk hX hP => ?_)
            show kcall cal ix_X8_hasRun [.ref 68, .int a2, .int a5] (st S hs) [] 0 0 (0, 0) (fun v σ' c' m' => X (71, [some (.ref 7), some (.int a1), some (.int a2), some (.int a3), some (.int a4), some (.int a5), some (.ref 68), some (.ref 66)], v.toList ++ [], σ', c', m'))
            refine kcall0 rfl (hk _ _ _ _ _ _ (e_X8_hasRun_68 (d + 1) S hs a2 a5 _ ?_))
            show X (71, [some (.ref 7), some (.int a1), some (.int a2), some (.int a3), some (.int a4), some (.int a5), some (.ref 68), some (.ref 66)], [.int (r_X8_hasRun S 68 a2 a5)], st S hs, 0, 0)
            refine hX _ ?_
            clear hP hX hk P' X cal
            refine Wp.stepsG 1 (fun cal X P' hk hX hP => ?_)
            show ((r_X8_hasRun S 68 a2 a5) = 0 → X (86, [some (.ref 7), some (.int a1), some (.int a2), some (.int a3), some (.int a4), some (.int a5), some (.ref 68), some (.ref 66)], [], st S hs, 0, 0)) ∧ (¬ (r_X8_hasRun S 68 a2 a5) = 0 → X (74, [some (.ref 7), some (.int a1), some (.int a2), some (.int a3), some (.int a4), some (.int a5), some (.ref 68), some (.ref 66)], [], st S hs, 0, 0))
            refine ⟨fun hc => hX _ ?_, fun hc => hX _ ?_⟩
            · clear hP hX hk P' X cal
              rw [if_pos hc] at hr
              have hr := Option.some.inj hr
              subst hr
              refine Wp.stepsG 2 (fun cal X P' hk hX hP => ?_)
              exact hP _ _ h
            · clear hP hX hk P' X cal
              rw [if_neg hc] at hr
              refine Wp.stepsG 4 (fun cal X P' hk hX hP => ?_)
              show kcall cal ix_X8_hasRun [.ref 66, .int a4, .int a5] (st S hs) [] 0 0 (0, 0) (fun v σ' c' m' => X (83, [some (.ref 7), some (.int a1), some (.int a2), some (.int a3), some (.int a4), some (.int a5), some (.ref 68), some (.ref 66)], v.toList ++ [], σ', c', m'))
              refine kcall0 rfl (hk _ _ _ _ _ _ (e_X8_hasRun_66 (d + 1) S hs a4 a5 _ ?_))
              show X (83, [some (.ref 7), some (.int a1), some (.int a2), some (.int a3), some (.int a4), some (.int a5), some (.ref 68), some (.ref 66)], [.int (r_X8_hasRun S 66 a4 a5)], st S hs, 0, 0)
              refine hX _ ?_
              clear hP hX hk P' X cal
              refine Wp.stepsG 1 (fun cal X P' hk hX hP => ?_)
              show (¬ (r_X8_hasRun S 66 a4 a5) = 0 → X (89, [some (.ref 7), some (.int a1), some (.int a2), some (.int a3), some (.int a4), some (.int a5), some (.ref 68), some (.ref 66)], [], st S hs, 0, 0)) ∧ ((r_X8_hasRun S 66 a4 a5) = 0 → X (86, [some (.ref 7), some (.int a1), some (.int a2), some (.int a3), some (.int a4), some (.int a5), some (.ref 68), some (.ref 66)], [], st S hs, 0, 0))
              refine ⟨fun hc => hX _ ?_, fun hc => hX _ ?_⟩
              · clear hP hX hk P' X cal
                rw [if_neg hc] at hr
                refine Wp.stepsG 8 (fun cal X P' hk hX hP => ?_)
                show (¬ a2 < 0 ∧ ¬ a4 < 0 ∧ ¬ a5 < 0 ∧ a2.toNatClampNeg + a5.toNatClampNeg ≤ 60 ∧ a4.toNatClampNeg + a5.toNatClampNeg ≤ 60) ∧ X (107, [some (.ref 7), some (.int a1), some (.int a2), some (.int a3), some (.int a4), some (.int a5), some (.ref 68), some (.ref 66)], [], st (sG S 67 (va_cpy (S.2.1 69) (S.2.1 67) a2.toNatClampNeg a4.toNatClampNeg a5.toNatClampNeg)) hs, 0, 0)
                obtain ⟨hg, hr⟩ := gd_some hr
                refine ⟨hg, hX _ ?_⟩
                clear hP hX hk P' X cal
                have hr := Option.some.inj hr
                subst hr
                refine Wp.stepsG 2 (fun cal X P' hk hX hP => ?_)
                exact hP _ _ h
              · clear hP hX hk P' X cal
                rw [if_pos hc] at hr
                have hr := Option.some.inj hr
                subst hr
                refine Wp.stepsG 2 (fun cal X P' hk hX hP => ?_)
                exact hP _ _ h
          · clear hP hX hk P' X cal
            rw [if_neg hc] at hr
            have hr := Option.some.inj hr
            subst hr
            refine Wp.stepsG 2 (fun cal X P' hk hX hP => ?_)
            exact hP _ _ h
        · clear hP hX hk P' X cal
          rw [if_pos hc] at hr
          have hr := Option.some.inj hr
          subst hr
          refine Wp.stepsG 2 (fun cal X P' hk hX hP => ?_)
          exact hP _ _ h
    · rw [hz14]
      rw [oN_is hz14] at hr
      refine Wp.stepsG 9 (fun cal X P' hk hX hP => ?_)
      show ((S.1 68 1) = (-1) → X (44, [some (.ref 7), some (.int a1), some (.int a2), some (.int a3), some (.int a4), some (.int a5), some (.ref 68), some (.ref 68)], [], st S hs, 0, 0)) ∧ (¬ (S.1 68 1) = (-1) → X (35, [some (.ref 7), some (.int a1), some (.int a2), some (.int a3), some (.int a4), some (.int a5), some (.ref 68), some (.ref 68)], [], st S hs, 0, 0))
      refine ⟨fun hc => hX _ ?_, fun hc => hX _ ?_⟩
      · clear hP hX hk P' X cal
        rw [if_pos hc] at hr
        have hr := Option.some.inj hr
        subst hr
        refine Wp.stepsG 2 (fun cal X P' hk hX hP => ?_)
        exact hP _ _ h
      · clear hP hX hk P' X cal
        rw [if_neg hc] at hr
        refine Wp.stepsG 4 (fun cal X P' hk hX hP => ?_)
        show (¬ (S.1 68 1) = (-1) → X (47, [some (.ref 7), some (.int a1), some (.int a2), some (.int a3), some (.int a4), some (.int a5), some (.ref 68), some (.ref 68)], [], st S hs, 0, 0)) ∧ ((S.1 68 1) = (-1) → X (44, [some (.ref 7), some (.int a1), some (.int a2), some (.int a3), some (.int a4), some (.int a5), some (.ref 68), some (.ref 68)], [], st S hs, 0, 0))
        refine ⟨fun hc => hX _ ?_, fun hc => hX _ ?_⟩
        · clear hP hX hk P' X cal
          rw [if_neg hc] at hr
          refine Wp.stepsG 5 (fun cal X P' hk hX hP => ?_)
          show ((S.1 68 1) = (S.1 68 1) → X (63, [some (.ref 7), some (.int a1), some (.int a2), some (.int a3), some (.int a4), some (.int a5), some (.ref 68), some (.ref 68)], [], st S hs, 0, 0)) ∧ (¬ (S.1 68 1) = (S.1 68 1) → X (60, [some (.ref 7), some (.int a1), some (.int a2), some (.int a3), some (.int a4), some (.int a5), some (.ref 68), some (.ref 68)], [], st S hs, 0, 0))
          refine ⟨fun hc => hX _ ?_, fun hc => hX _ ?_⟩
          · clear hP hX hk P' X cal
            rw [if_pos hc] at hr
            refine Wp.stepsG 4 (fun cal X P' hk hX hP => ?_)
            show kcall cal ix_X8_hasRun [.ref 68, .int a2, .int a5] (st S hs) [] 0 0 (0, 0) (fun v σ' c' m' => X (71, [some (.ref 7), some (.int a1), some (.int a2), some (.int a3), some (.int a4), some (.int a5), some (.ref 68), some (.ref 68)], v.toList ++ [], σ', c', m'))
            refine kcall0 rfl (hk _ _ _ _ _ _ (e_X8_hasRun_68 (d + 1) S hs a2 a5 _ ?_))
            show X (71, [some (.ref 7), some (.int a1), some (.int a2), some (.int a3), some (.int a4), some (.int a5), some (.ref 68), some (.ref 68)], [.int (r_X8_hasRun S 68 a2 a5)], st S hs, 0, 0)
            refine hX _ ?_
            clear hP hX hk P' X cal
            refine Wp.stepsG 1 (fun cal X P' hk hX hP => ?_)
            show ((r_X8_hasRun S 68 a2 a5) = 0 → X (86, [some (.ref 7), some (.int a1), some (.int a2), some (.int a3), some (.int a4), some (.int a5), some (.ref 68), some (.ref 68)], [], st S hs, 0, 0)) ∧ (¬ (r_X8_hasRun S 68 a2 a5) = 0 → X (74, [some (.ref 7), some (.int a1), some (.int a2), some (.int a3), some (.int a4), some (.int a5), some (.ref 68), some (.ref 68)], [], st S hs, 0, 0))
            refine ⟨fun hc => hX _ ?_, fun hc => hX _ ?_⟩
            · clear hP hX hk P' X cal
              rw [if_pos hc] at hr
              have hr := Option.some.inj hr
              subst hr
              refine Wp.stepsG 2 (fun cal X P' hk hX hP => ?_)
              exact hP _ _ h
            · clear hP hX hk P' X cal
              rw [if_neg hc] at hr
              refine Wp.stepsG 4 (fun cal X P' hk hX hP => ?_)
              show kcall cal ix_X8_hasRun [.ref 68, .int a4, .int a5] (st S hs) [] 0 0 (0, 0) (fun v σ' c' m' => X (83, [some (.ref 7), some (.int a1), some (.int a2), some (.int a3), some (.int a4), some (.int a5), some (.ref 68), some (.ref 68)], v.toList ++ [], σ', c', m'))
              refine kcall0 rfl (hk _ _ _ _ _ _ (e_X8_hasRun_68 (d + 1) S hs a4 a5 _ ?_))
              show X (83, [some (.ref 7), some (.int a1), some (.int a2), some (.int a3), some (.int a4), some (.int a5), some (.ref 68), some (.ref 68)], [.int (r_X8_hasRun S 68 a4 a5)], st S hs, 0, 0)
              refine hX _ ?_
              clear hP hX hk P' X cal
              refine Wp.stepsG 1 (fun cal X P' hk hX hP => ?_)
              show (¬ (r_X8_hasRun S 68 a4 a5) = 0 → X (89, [some (.ref 7), some (.int a1), some (.int a2), some (.int a3), some (.int a4), some (.int a5), some (.ref 68), some (.ref 68)], [], st S hs, 0, 0)) ∧ ((r_X8_hasRun S 68 a4 a5) = 0 → X (86, [some (.ref 7), some (.int a1), some (.int a2), some (.int a3), some (.int a4), some (.int a5), some (.ref 68), some (.ref 68)], [], st S hs, 0, 0))
              refine ⟨fun hc => hX _ ?_, fun hc => hX _ ?_⟩
              · clear hP hX hk P' X cal
                rw [if_neg hc] at hr
                refine Wp.stepsG 8 (fun cal X P' hk hX hP => ?_)
                show (¬ a2 < 0 ∧ ¬ a4 < 0 ∧ ¬ a5 < 0 ∧ a2.toNatClampNeg + a5.toNatClampNeg ≤ 60 ∧ a4.toNatClampNeg + a5.toNatClampNeg ≤ 60) ∧ X (107, [some (.ref 7), some (.int a1), some (.int a2), some (.int a3), some (.int a4), some (.int a5), some (.ref 68), some (.ref 68)], [], st (sG S 69 (va_cpy (S.2.1 69) (S.2.1 69) a2.toNatClampNeg a4.toNatClampNeg a5.toNatClampNeg)) hs, 0, 0)
                obtain ⟨hg, hr⟩ := gd_some hr
                refine ⟨hg, hX _ ?_⟩
                clear hP hX hk P' X cal
                have hr := Option.some.inj hr
                subst hr
                refine Wp.stepsG 2 (fun cal X P' hk hX hP => ?_)
                exact hP _ _ h
              · clear hP hX hk P' X cal
                rw [if_pos hc] at hr
                have hr := Option.some.inj hr
                subst hr
                refine Wp.stepsG 2 (fun cal X P' hk hX hP => ?_)
                exact hP _ _ h
          · clear hP hX hk P' X cal
            rw [if_neg hc] at hr
            have hr := Option.some.inj hr
            subst hr
            refine Wp.stepsG 2 (fun cal X P' hk hX hP => ?_)
            exact hP _ _ h
        · clear hP hX hk P' X cal
          rw [if_pos hc] at hr
          have hr := Option.some.inj hr
          subst hr
          refine Wp.stepsG 2 (fun cal X P' hk hX hP => ?_)
          exact hP _ _ h
    · rw [hz14]
      rw [oN_is hz14] at hr
      refine Wp.stepsG 9 (fun cal X P' hk hX hP => ?_)
      show ((S.1 68 1) = (-1) → X (44, [some (.ref 7), some (.int a1), some (.int a2), some (.int a3), some (.int a4), some (.int a5), some (.ref 68), some (.ref 70)], [], st S hs, 0, 0)) ∧ (¬ (S.1 68 1) = (-1) → X (35, [some (.ref 7), some (.int a1), some (.int a2), some (.int a3), some (.int a4), some (.int a5), some (.ref 68), some (.ref 70)], [], st S hs, 0, 0))
      refine ⟨fun hc => hX _ ?_, fun hc => hX _ ?_⟩
      · clear hP hX hk P' X cal
        rw [if_pos hc] at hr
        have hr := Option.some.inj hr
        subst hr
        refine Wp.stepsG 2 (fun cal X P' hk hX hP => ?_)
        exact hP _ _ h
      · clear hP hX hk P' X cal
        rw [if_neg hc] at hr
        refine Wp.stepsG 4 (fun cal X P' hk hX hP => ?_)
        show (¬ (S.1 70 1) = (-1) → X (47, [some (.ref 7), some (.int a1), some (.int a2), some (.int a3), some (.int a4), some (.int a5), some (.ref 68), some (.ref 70)], [], st S hs, 0, 0)) ∧ ((S.1 70 1) = (-1) → X (44, [some (.ref 7), some (.int a1), some (.int a2), some (.int a3), some (.int a4), some (.int a5), some (.ref 68), some (.ref 70)], [], st S hs, 0, 0))
        refine ⟨fun hc => hX _ ?_, fun hc => hX _ ?_⟩
        · clear hP hX hk P' X cal
          rw [if_neg hc] at hr
          refine Wp.stepsG 5 (fun cal X P' hk hX hP => ?_)
          show ((S.1 68 1) = (S.1 70 1) → X (63, [some (.ref 7), some (.int a1), some (.int a2), some (.int a3), some (.int a4), some (.int a5), some (.ref 68), some (.ref 70)], [], st S hs, 0, 0)) ∧ (¬ (S.1 68 1) = (S.1 70 1) → X (60, [some (.ref 7), some (.int a1), some (.int a2), some (.int a3), some (.int a4), some (.int a5), some (.ref 68), some (.ref 70)], [], st S hs, 0, 0))
          refine ⟨fun hc => hX _ ?_, fun hc => hX _ ?_⟩
          · clear hP hX hk P' X cal
            rw [if_pos hc] at hr
            refine Wp.stepsG 4 (fun cal X P' hk hX hP => ?_)
            show kcall cal ix_X8_hasRun [.ref 68, .int a2, .int a5] (st S hs) [] 0 0 (0, 0) (fun v σ' c' m' => X (71, [some (.ref 7), some (.int a1), some (.int a2), some (.int a3), some (.int a4), some (.int a5), some (.ref 68), some (.ref 70)], v.toList ++ [], σ', c', m'))
            refine kcall0 rfl (hk _ _ _ _ _ _ (e_X8_hasRun_68 (d + 1) S hs a2 a5 _ ?_))
            show X (71, [some (.ref 7), some (.int a1), some (.int a2), some (.int a3), some (.int a4), some (.int a5), some (.ref 68), some (.ref 70)], [.int (r_X8_hasRun S 68 a2 a5)], st S hs, 0, 0)
            refine hX _ ?_
            clear hP hX hk P' X cal
            refine Wp.stepsG 1 (fun cal X P' hk hX hP => ?_)
            show ((r_X8_hasRun S 68 a2 a5) = 0 → X (86, [some (.ref 7), some (.int a1), some (.int a2), some (.int a3), some (.int a4), some (.int a5), some (.ref 68), some (.ref 70)], [], st S hs, 0, 0)) ∧ (¬ (r_X8_hasRun S 68 a2 a5) = 0 → X (74, [some (.ref 7), some (.int a1), some (.int a2), some (.int a3), some (.int a4), some (.int a5), some (.ref 68), some (.ref 70)], [], st S hs, 0, 0))
            refine ⟨fun hc => hX _ ?_, fun hc => hX _ ?_⟩
            · clear hP hX hk P' X cal
              rw [if_pos hc] at hr
              have hr := Option.some.inj hr
              subst hr
              refine Wp.stepsG 2 (fun cal X P' hk hX hP => ?_)
              exact hP _ _ h
            · clear hP hX hk P' X cal
              rw [if_neg hc] at hr
              refine Wp.stepsG 4 (fun cal X P' hk hX hP => ?_)
              show kcall cal ix_X8_hasRun [.ref 70, .int a4, .int a5] (st S hs) [] 0 0 (0, 0) (fun v σ' c' m' => X (83, [some (.ref 7), some (.int a1), some (.int a2), some (.int a3), some (.int a4), some (.int a5), some (.ref 68), some (.ref 70)], v.toList ++ [], σ', c', m'))
              refine kcall0 rfl (hk _ _ _ _ _ _ (e_X8_hasRun_70 (d + 1) S hs a4 a5 _ ?_))
              show X (83, [some (.ref 7), some (.int a1), some (.int a2), some (.int a3), some (.int a4), some (.int a5), some (.ref 68), some (.ref 70)], [.int (r_X8_hasRun S 70 a4 a5)], st S hs, 0, 0)
              refine hX _ ?_
              clear hP hX hk P' X cal
              refine Wp.stepsG 1 (fun cal X P' hk hX hP => ?_)
              show (¬ (r_X8_hasRun S 70 a4 a5) = 0 → X (89, [some (.ref 7), some (.int a1), some (.int a2), some (.int a3), some (.int a4), some (.int a5), some (.ref 68), some (.ref 70)], [], st S hs, 0, 0)) ∧ ((r_X8_hasRun S 70 a4 a5) = 0 → X (86, [some (.ref 7), some (.int a1), some (.int a2), some (.int a3), some (.int a4), some (.int a5), some (.ref 68), some (.ref 70)], [], st S hs, 0, 0))
              refine ⟨fun hc => hX _ ?_, fun hc => hX _ ?_⟩
              · clear hP hX hk P' X cal
                rw [if_neg hc] at hr
                refine Wp.stepsG 8 (fun cal X P' hk hX hP => ?_)
                show (¬ a2 < 0 ∧ ¬ a4 < 0 ∧ ¬ a5 < 0 ∧ a2.toNatClampNeg + a5.toNatClampNeg ≤ 60 ∧ a4.toNatClampNeg + a5.toNatClampNeg ≤ 60) ∧ X (107, [some (.ref 7), some (.int a1), some (.int a2), some (.int a3), some (.int a4), some (.int a5), some (.ref 68), some (.ref 70)], [], st (sG S 71 (va_cpy (S.2.1 69) (S.2.1 71) a2.toNatClampNeg a4.toNatClampNeg a5.toNatClampNeg)) hs, 0, 0)
                obtain ⟨hg, hr⟩ := gd_some hr
                refine ⟨hg, hX _ ?_⟩
                clear hP hX hk P' X cal
                have hr := Option.some.inj hr
                subst hr
                refine Wp.stepsG 2 (fun cal X P' hk hX hP => ?_)
                exact hP _ _ h
              · clear hP hX hk P' X cal
                rw [if_pos hc] at hr
                have hr := Option.some.inj hr
                subst hr
                refine Wp.stepsG 2 (fun cal X P' hk hX hP => ?_)
                exact hP _ _ h
          · clear hP hX hk P' X cal
            rw [if_neg hc] at hr
            have hr := Option.some.inj hr
            subst hr
            refine Wp.stepsG 2 (fun cal X P' hk hX hP => ?_)
            exact hP _ _ h
        · clear hP hX hk P' X cal
          rw [if_pos hc] at hr
          have hr := Option.some.inj hr
          subst hr
          refine Wp.stepsG 2 (fun cal X P' hk hX hP => ?_)
          exact hP _ _ h
    · rw [hz14]
      rw [oN_is hz14] at hr
      refine Wp.stepsG 9 (fun cal X P' hk hX hP => ?_)
      show ((S.1 68 1) = (-1) → X (44, [some (.ref 7), some (.int a1), some (.int a2), some (.int a3), some (.int a4), some (.int a5), some (.ref 68), some (.ref 72)], [], st S hs, 0, 0)) ∧ (¬ (S.1 68 1) = (-1) → X (35, [some (.ref 7), some (.int a1), some (.int a2), some (.int a3), some (.int a4), some (.int a5), some (.ref 68), some (.ref 72)], [], st S hs, 0, 0))
      refine ⟨fun hc => hX _ ?_, fun hc => hX _ ?_⟩
      · clear hP hX hk P' X cal
        rw [if_pos hc] at hr
        have hr := Option.some.inj hr
        subst hr
        refine Wp.stepsG 2 (fun cal X P' hk hX hP => ?_)
        exact hP _ _ h
      · clear hP hX hk P' X cal
        rw [if_neg hc] at hr
        refine Wp.stepsG 4 (fun cal X P' hk hX hP => ?_)
        show (¬ (S.1 72 1) = (-1) → X (47, [some (.ref 7), some (.int a1), some (.int a2), some (.int a3), some (.int a4), some (.int a5), some (.ref 68), some (.ref 72)], [], st S hs, 0, 0)) ∧ ((S.1 72 1) = (-1) → X (44, [some (.ref 7), some (.int a1), some (.int a2), some (.int a3), some (.int a4), some (.int a5), some (.ref 68), some (.ref 72)], [], st S hs, 0, 0))
        refine ⟨fun hc => hX _ ?_, fun hc => hX _ ?_⟩
        · clear hP hX hk P' X cal
          rw [if_neg hc] at hr
          refine Wp.stepsG 5 (fun cal X P' hk hX hP => ?_)
          show ((S.1 68 1) = (S.1 72 1) → X (63, [some (.ref 7), some (.int a1), some (.int a2), some (.int a3), some (.int a4), some (.int a5), some (.ref 68), some (.ref 72)], [], st S hs, 0, 0)) ∧ (¬ (S.1 68 1) = (S.1 72 1) → X (60, [some (.ref 7), some (.int a1), some (.int a2), some (.int a3), some (.int a4), some (.int a5), some (.ref 68), some (.ref 72)], [], st S hs, 0, 0))
          refine ⟨fun hc => hX _ ?_, fun hc => hX _ ?_⟩
          · clear hP hX hk P' X cal
            rw [if_pos hc] at hr
            refine Wp.stepsG 4 (fun cal X P' hk hX hP => ?_)
            show kcall cal ix_X8_hasRun [.ref 68, .int a2, .int a5] (st S hs) [] 0 0 (0, 0) (fun v σ' c' m' => X (71, [some (.ref 7), some (.int a1), some (.int a2), some (.int a3), some (.int a4), some (.int a5), some (.ref 68), some (.ref 72)], v.toList ++ [], σ', c', m'))
            refine kcall0 rfl (hk _ _ _ _ _ _ (e_X8_hasRun_68 (d + 1) S hs a2 a5 _ ?_))
            show X (71, [some (.ref 7), some (.int a1), some (.int a2), some (.int a3), some (.int a4), some (.int a5), some (.ref 68), some (.ref 72)], [.int (r_X8_hasRun S 68 a2 a5)], st S hs, 0, 0)
            refine hX _ ?_
            clear hP hX hk P' X cal
            refine Wp.stepsG 1 (fun cal X P' hk hX hP => ?_)
            show ((r_X8_hasRun S 68 a2 a5) = 0 → X (86, [some (.ref 7), some (.int a1), some (.int a2), some (.int a3), some (.int a4), some (.int a5), some (.ref 68), some (.ref 72)], [], st S hs, 0, 0)) ∧ (¬ (r_X8_hasRun S 68 a2 a5) = 0 → X (74, [some (.ref 7), some (.int a1), some (.int a2), some (.int a3), some (.int a4), some (.int a5), some (.ref 68), some (.ref 72)], [], st S hs, 0, 0))
            refine ⟨fun hc => hX _ ?_, fun hc => hX _ ?_⟩
            · clear hP hX hk P' X cal
              rw [if_pos hc] at hr
              have hr := Option.some.inj hr
              subst hr
              refine Wp.stepsG 2 (fun cal X P' hk hX hP => ?_)
              exact hP _ _ h
            · clear hP hX hk P' X cal
              rw [if_neg hc] at hr
              refine Wp.stepsG 4 (fun cal X P' hk hX hP => ?_)
              show kcall cal ix_X8_hasRun [.ref 72, .int a4, .int a5] (st S hs) [] 0 0 (0, 0) (fun v σ' c' m' => X (83, [some (.ref 7), some (.int a1), some (.int a2), some (.int a3), some (.int a4), some (.int a5), some (.ref 68), some (.ref 72)], v.toList ++ [], σ', c', m'))
              refine kcall0 rfl (hk _ _ _ _ _ _ (e_X8_hasRun_72 (d + 1) S hs a4 a5 _ ?_))
              show X (83, [some (.ref 7), some (.int a1), some (.int a2), some (.int a3), some (.int a4), some (.int a5), some (.ref 68), some (.ref 72)], [.int (r_X8_hasRun S 72 a4 a5)], st S hs, 0, 0)
              refine hX _ ?_
              clear hP hX hk P' X cal
              refine Wp.stepsG 1 (fun cal X P' hk hX hP => ?_)
              show (¬ (r_X8_hasRun S 72 a4 a5) = 0 → X (89, [some (.ref 7), some (.int a1), some (.int a2), some (.int a3), some (.int a4), some (.int a5), some (.ref 68), some (.ref 72)], [], st S hs, 0, 0)) ∧ ((r_X8_hasRun S 72 a4 a5) = 0 → X (86, [some (.ref 7), some (.int a1), some (.int a2), some (.int a3), some (.int a4), some (.int a5), some (.ref 68), some (.ref 72)], [], st S hs, 0, 0))
              refine ⟨fun hc => hX _ ?_, fun hc => hX _ ?_⟩
              · clear hP hX hk P' X cal
                rw [if_neg hc] at hr
                refine Wp.stepsG 8 (fun cal X P' hk hX hP => ?_)
                show (¬ a2 < 0 ∧ ¬ a4 < 0 ∧ ¬ a5 < 0 ∧ a2.toNatClampNeg + a5.toNatClampNeg ≤ 60 ∧ a4.toNatClampNeg + a5.toNatClampNeg ≤ 60) ∧ X (107, [some (.ref 7), some (.int a1), some (.int a2), some (.int a3), some (.int a4), some (.int a5), some (.ref 68), some (.ref 72)], [], st (sG S 73 (va_cpy (S.2.1 69) (S.2.1 73) a2.toNatClampNeg a4.toNatClampNeg a5.toNatClampNeg)) hs, 0, 0)
                obtain ⟨hg, hr⟩ := gd_some hr
                refine ⟨hg, hX _ ?_⟩
                clear hP hX hk P' X cal
                have hr := Option.some.inj hr
                subst hr
                refine Wp.stepsG 2 (fun cal X P' hk hX hP => ?_)
                exact hP _ _ h
              · clear hP hX hk P' X cal
                rw [if_pos hc] at hr
                have hr := Option.some.inj hr
                subst hr
                refine Wp.stepsG 2 (fun cal X P' hk hX hP => ?_)
                exact hP _ _ h
          · clear hP hX hk P' X cal
            rw [if_neg hc] at hr
            have hr := Option.some.inj hr
            subst hr
            refine Wp.stepsG 2 (fun cal X P' hk hX hP => ?_)
            exact hP _ _ h
        · clear hP hX hk P' X cal
          rw [if_pos hc] at hr
          have hr := Option.some.inj hr
          subst hr
          refine Wp.stepsG 2 (fun cal X P' hk hX hP => ?_)
          exact hP _ _ h
    · rw [hz14]
      rw [oN_is hz14] at hr
      refine Wp.stepsG 9 (fun cal X P' hk hX hP => ?_)
      show ((S.1 68 1) = (-1) → X (44, [some (.ref 7), some (.int a1), some (.int a2), some (.int a3), some (.int a4), some (.int a5), some (.ref 68), some (.ref 74)], [], st S hs, 0, 0)) ∧ (¬ (S.1 68 1) = (-1) → X (35, [some (.ref 7), some (.int a1), some (.int a2), some (.int a3), some (.int a4), some (.int a5), some (.ref 68), some (.ref 74)], [], st S hs, 0, 0))
      refine ⟨fun hc => hX _ ?_, fun hc => hX _ ?_⟩
      · clear hP hX hk P' X cal
        rw [if_pos hc] at hr
        have hr := Option.some.inj hr
        subst hr
        refine Wp.stepsG 2 (fun cal X P' hk hX hP => ?_)
        exact hP _ _ h
      · clear hP hX hk P' X cal
        rw [if_neg hc] at hr
        refine Wp.stepsG 4 (fun cal X P' hk hX hP => ?_)
        show (¬ (S.1 74 1) = (-1) → X (47, [some (.ref 7), some (.int a1), some (.int a2), some (.int a3), some (.int a4), some (.int a5), some (.ref 68), some (.ref 74)], [], st S hs, 0, 0)) ∧ ((S.1 74 1) = (-1) → X (44, [some (.ref 7), some (.int a1), some (.int a2), some (.int a3), some (.int a4), some (.int a5), some (.ref 68), some (.ref 74)], [], st S hs, 0, 0))
        refine ⟨fun hc => hX _ ?_, fun hc => hX _ ?_⟩
        · clear hP hX hk P' X cal
          rw [if_neg hc] at hr
          refine Wp.stepsG 5 (fun cal X P' hk hX hP => ?_)
          show ((S.1 68 1) = (S.1 74 1) → X (63, [some (.ref 7), some (.int a1), some (.int a2), some (.int a3), some (.int a4), some (.int a5), some (.ref 68), some (.ref 74)], [], st S hs, 0, 0)) ∧ (¬ (S.1 68 1) = (S.1 74 1) → X (60, [some (.ref 7), some (.int a1), some (.int a2), some (.int a3), some (.int a4), some (.int a5), some (.ref 68), some (.ref 74)], [], st S hs, 0, 0))
          refine ⟨fun hc => hX _ ?_, fun hc => hX _ ?_⟩
          · clear hP hX hk P' X cal
            rw [if_pos hc] at hr
            refine Wp.stepsG 4 (fun cal X P' hk hX hP => ?_)
            show kcall cal ix_X8_hasRun [.ref 68, .int a2, .int a5] (st S hs) [] 0 0 (0, 0) (fun v σ' c' m' => X (71, [some (.ref 7), some (.int a1), some (.int a2), some (.int a3), some (.int a4), some (.int a5), some (.ref 68), some (.ref 74)], v.toList ++ [], σ', c', m'))
            refine kcall0 rfl (hk _ _ _ _ _ _ (e_X8_hasRun_68 (d + 1) S hs a2 a5 _ ?_))
            show X (71, [some (.ref 7), some (.int a1), some (.int a2), some (.int a3), some (.int a4), some (.int a5), some (.ref 68), some (.ref 74)], [.int (r_X8_hasRun S 68 a2 a5)], st S hs, 0, 0)
            refine hX _ ?_
            clear hP hX hk P' X cal
            refine Wp.stepsG 1 (fun cal X P' hk hX hP => ?_)
            show ((r_X8_hasRun S 68 a2 a5) = 0 → X (86, [some (.ref 7), some (.int a1), some (.int a2), some (.int a3), some (.int a4), some (.int a5), some (.ref 68), some (.ref 74)], [], st S hs, 0, 0)) ∧ (¬ (r_X8_hasRun S 68 a2 a5) = 0 → X (74, [some (.ref 7), some (.int a1), some (.int a2), some (.int a3), some (.int a4), some (.int a5), some (.ref 68), some (.ref 74)], [], st S hs, 0, 0))
            refine ⟨fun hc => hX _ ?_, fun hc => hX _ ?_⟩
            · clear hP hX hk P' X cal
              rw [if_pos hc] at hr
              have hr := Option.some.inj hr
              subst hr
              refine Wp.stepsG 2 (fun cal X P' hk hX hP => ?_)
              exact hP _ _ h
            · clear hP hX hk P' X cal
              rw [if_neg hc] at hr
              refine Wp.stepsG 4 (fun cal X P' hk hX hP => ?_)
              show kcall cal ix_X8_hasRun [.ref 74, .int a4, .int a5] (st S hs) [] 0 0 (0, 0) (fun v σ' c' m' => X (83, [some (.ref 7), some (.int a1), some (.int a2), some (.int a3), some (.int a4), some (.int a5), some (.ref 68), some (.ref 74)], v.toList ++ [], σ', c', m'))
              refine kcall0 rfl (hk _ _ _ _ _ _ (e_X8_hasRun_74 (d + 1) S hs a4 a5 _ ?_))
              show X (83, [some (.ref 7), some (.int a1), some (.int a2), some (.int a3), some (.int a4), some (.int a5), some (.ref 68), some (.ref 74)], [.int (r_X8_hasRun S 74 a4 a5)], st S hs, 0, 0)
              refine hX _ ?_
              clear hP hX hk P' X cal
              refine Wp.stepsG 1 (fun cal X P' hk hX hP => ?_)
              show (¬ (r_X8_hasRun S 74 a4 a5) = 0 → X (89, [some (.ref 7), some (.int a1), some (.int a2), some (.int a3), some (.int a4), some (.int a5), some (.ref 68), some (.ref 74)], [], st S hs, 0, 0)) ∧ ((r_X8_hasRun S 74 a4 a5) = 0 → X (86, [some (.ref 7), some (.int a1), some (.int a2), some (.int a3), some (.int a4), some (.int a5), some (.ref 68), some (.ref 74)], [], st S hs, 0, 0))
              refine ⟨fun hc => hX _ ?_, fun hc => hX _ ?_⟩
              · clear hP hX hk P' X cal
                rw [if_neg hc] at hr
                refine Wp.stepsG 8 (fun cal X P' hk hX hP => ?_)
                show (¬ a2 < 0 ∧ ¬ a4 < 0 ∧ ¬ a5 < 0 ∧ a2.toNatClampNeg + a5.toNatClampNeg ≤ 60 ∧ a4.toNatClampNeg + a5.toNatClampNeg ≤ 60) ∧ X (107, [some (.ref 7), some (.int a1), some (.int a2), some (.int a3), some (.int a4), some (.int a5), some (.ref 68), some (.ref 74)], [], st (sG S 75 (va_cpy (S.2.1 69) (S.2.1 75) a2.toNatClampNeg a4.toNatClampNeg a5.toNatClampNeg)) hs, 0, 0)
                obtain ⟨hg, hr⟩ := gd_some hr
                refine ⟨hg, hX _ ?_⟩
                clear hP hX hk P' X cal
                have hr := Option.some.inj hr
                subst hr
                refine Wp.stepsG 2 (fun cal X P' hk hX hP => ?_)
                exact hP _ _ h
              · clear hP hX hk P' X cal
                rw [if_pos hc] at hr
                have hr := Option.some.inj hr
                subst hr
                refine Wp.stepsG 2 (fun cal X P' hk hX hP => ?_)
                exact hP _ _ h
          · clear hP hX hk P' X cal
            rw [if_neg hc] at hr
            have hr := Option.some.inj hr
            subst hr
            refine Wp.stepsG 2 (fun cal X P' hk hX hP => ?_)
            exact hP _ _ h
        · clear hP hX hk P' X cal
          rw [if_pos hc] at hr
          have hr := Option.some.inj hr
          subst hr
          refine Wp.stepsG 2 (fun cal X P' hk hX hP => ?_)
          exact hP _ _ h
  · rw [hz10]
    rw [oN_is hz10] at hr
    refine Wp.stepsG 4 (fun cal X P' hk hX hP => ?_)
    show kcall cal ix_X11_tapeAt [.ref 7, .int a3] (st S hs) [] 0 0 (0, 0) (fun v σ' c' m' => X (12, [some (.ref 7), some (.int a1), some (.int a2), some (.int a3), some (.int a4), some (.int a5), some (.ref 70), none], v.toList ++ [], σ', c', m'))
    obtain ⟨q7, hq7, hr⟩ := bd_some hr
    refine kcall0 rfl (hk _ _ _ _ _ _ (e_X11_tapeAt (d + 0) S hs a3 q7 hq7 _ ?_))
    show X (12, [some (.ref 7), some (.int a1), some (.int a2), some (.int a3), some (.int a4), some (.int a5), some (.ref 70), none], [va_rf q7], st S hs, 0, 0)
    refine hX _ ?_
    clear hP hX hk P' X cal
    rcases c_X11_tapeAt hq7 with hz15 | hz15 | hz15 | hz15 | hz15 | hz15 | hz15
    · rw [hz15]
      rw [oN_no hz15] at hr
      have hr := Option.some.inj hr
      subst hr
      refine Wp.stepsG 7 (fun cal X P' hk hX hP => ?_)
      exact hP _ _ h
    · rw [hz15]
      rw [oN_is hz15] at hr
      refine Wp.stepsG 9 (fun cal X P' hk hX hP => ?_)
      show ((S.1 70 1) = (-1) → X (44, [some (.ref 7), some (.int a1), some (.int a2), some (.int a3), some (.int a4), some (.int a5), some (.ref 70), some (.ref 64)], [], st S hs, 0, 0)) ∧ (¬ (S.1 70 1) = (-1) → X (35, [some (.ref 7), some (.int a1), some (.int a2), some (.int a3), some (.int a4), some (.int a5), some (.ref 70), some (.ref 64)], [], st S hs, 0, 0))
      refine ⟨fun hc => hX _ ?_, fun hc => hX _ ?_⟩
      · clear hP hX hk P' X cal
        rw [if_pos hc] at hr
        have hr := Option.some.inj hr
        subst hr
        refine Wp.stepsG 2 (fun cal X P' hk hX hP => ?_)
        exact hP _ _ h
      · clear hP hX hk P' X cal
        rw [if_neg hc] at hr
        refine Wp.stepsG 4 (fun cal X P' hk hX hP => ?_)
        show (¬ (S.1 64 1) = (-1) → X (47, [some (.ref 7), some (.int a1), some (.int a2), some (.int a3), some (.int a4), some (.int a5), some (.ref 70), some (.ref 64)], [], st S hs, 0, 0)) ∧ ((S.1 64 1) = (-1) → X (44, [some (.ref 7), some (.int a1), some (.int a2), some (.int a3), some (.int a4), some (.int a5), some (.ref 70), some (.ref 64)], [], st S hs, 0, 0))
        refine ⟨fun hc => hX _ ?_, fun hc => hX _ ?_⟩
        · clear hP hX hk P' X cal
          rw [if_neg hc] at hr
          refine Wp.stepsG 5 (fun cal X P' hk hX hP => ?_)
          show ((S.1 70 1) = (S.1 64 1) → X (63, [some (.ref 7), some (.int a1), some (.int a2), some (.int a3), some (.int a4), some (.int a5), some (.ref 70), some (.ref 64)], [], st S hs, 0, 0)) ∧ (¬ (S.1 70 1) = (S.1 64 1) → X (60, [some (.ref 7), some (.int a1), some (.int a2), some (.int a3), some (.int a4), some (.int a5), some (.ref 70), some (.ref 64)], [], st S hs, 0, 0))
          refine ⟨fun hc => hX _ ?_, fun hc => hX _ ?_⟩
          · clear hP hX hk P' X cal
            rw [if_pos hc] at hr
            refine Wp.stepsG 4 (fun cal X P' hk hX hP => ?_)
            show kcall cal ix_X8_hasRun [.ref 70, .int a2, .int a5] (st S hs) [] 0 0 (0, 0) (fun v σ' c' m' => X (71, [some (.ref 7), some (.int a1), some (.int a2), some (.int a3), some (.int a4), some (.int a5), some (.ref 70), some (.ref 64)], v.toList ++ [], σ', c', m'))
            refine kcall0 rfl (hk _ _ _ _ _ _ (e_X8_hasRun_70 (d + 1) S hs a2 a5 _ ?_))
            show X (71, [some (.ref 7), some (.int a1), some (.int a2), some (.int a3), some (.int a4), some (.int a5), some (.ref 70), some (.ref 64)], [.int (r_X8_hasRun S 70 a2 a5)], st S hs, 0, 0)
            refine hX _ ?_
            clear hP hX hk P' X cal
            refine Wp.stepsG 1 (fun cal X P' hk hX hP => ?_)
            show ((r_X8_hasRun S 70 a2 a5) = 0 → X (86, [some (.ref 7), some (.int a1), some (.int a2), some (.int a3), some (.int a4), some (.int a5), some (.ref 70), some (.ref 64)], [], st S hs, 0, 0)) ∧ (¬ (r_X8_hasRun S 70 a2 a5) = 0 → X (74, [some (.ref 7), some (.int a1), some (.int a2), some (.int a3), some (.int a4), some (.int a5), some (.ref 70), some (.ref 64)], [], st S hs, 0, 0))
            refine ⟨fun hc => hX _ ?_, fun hc => hX _ ?_⟩
            · clear hP hX hk P' X cal
              rw [if_pos hc] at hr
              have hr := Option.some.inj hr
              subst hr
              refine Wp.stepsG 2 (fun cal X P' hk hX hP => ?_)
              exact hP _ _ h
            · clear hP hX hk P' X cal
              rw [if_neg hc] at hr
              refine Wp.stepsG 4 (fun cal X P' hk hX hP => ?_)
              show kcall cal ix_X8_hasRun [.ref 64, .int a4, .int a5] (st S hs) [] 0 0 (0, 0) (fun v σ' c' m' => X (83, [some (.ref 7), some (.int a1), some (.int a2), some (.int a3), some (.int a4), some (.int a5), some (.ref 70), some (.ref 64)], v.toList ++ [], σ', c', m'))
              refine kcall0 rfl (hk _ _ _ _ _ _ (e_X8_hasRun_64 (d + 1) S hs a4 a5 _ ?_))
              show X (83, [some (.ref 7), some (.int a1), some (.int a2), some (.int a3), some (.int a4), some (.int a5), some (.ref 70), some (.ref 64)], [.int (r_X8_hasRun S 64 a4 a5)], st S hs, 0, 0)
              refine hX _ ?_
              clear hP hX hk P' X cal
              refine Wp.stepsG 1 (fun cal X P' hk hX hP => ?_)
              show (¬ (r_X8_hasRun S 64 a4 a5) = 0 → X (89, [some (.ref 7), some (.int a1), some (.int a2), some (.int a3), some (.int a4), some (.int a5), some (.ref 70), some (.ref 64)], [], st S hs, 0, 0)) ∧ ((r_X8_hasRun S 64 a4 a5) = 0 → X (86, [some (.ref 7), some (.int a1), some (.int a2), some (.int a3), some (.int a4), some (.int a5), some (.ref 70), some (.ref 64)], [], st S hs, 0, 0))
              refine ⟨fun hc => hX _ ?_, fun hc => hX _ ?_⟩
              · clear hP hX hk P' X cal
                rw [if_neg hc] at hr
                refine Wp.stepsG 8 (fun cal X P' hk hX hP => ?_)
                show (¬ a2 < 0 ∧ ¬ a4 < 0 ∧ ¬ a5 < 0 ∧ a2.toNatClampNeg + a5.toNatClampNeg ≤ 60 ∧ a4.toNatClampNeg + a5.toNatClampNeg ≤ 60) ∧ X (107, [some (.ref 7), some (.int a1), some (.int a2), some (.int a3), some (.int a4), some (.int a5), some (.ref 70), some (.ref 64)], [], st (sG S 65 (va_cpy (S.2.1 71) (S.2.1 65) a2.toNatClampNeg a4.toNatClampNeg a5.toNatClampNeg)) hs, 0, 0)
                obtain ⟨hg, hr⟩ := gd_some hr
                refine ⟨hg, hX _ ?_⟩
                clear hP hX hk P' X cal
                have hr := Option.some.inj hr
                subst hr
                refine Wp.stepsG 2 (fun cal X P' hk hX hP => ?_)
                exact hP _ _ h
              · clear hP hX hk P' X cal
                rw [if_pos hc] at hr
                have hr := Option.some.inj hr
                subst hr
                refine Wp.stepsG 2 (fun cal X P' hk hX hP => ?_)
                exact hP _ _ h
          · clear hP hX hk P' X cal
            rw [if_neg hc] at hr
            have hr := Option.some.inj hr
            subst hr
            refine Wp.stepsG 2 (fun cal X P' hk hX hP => ?_)
            exact hP _ _ h
        · clear hP hX hk P' X cal
          rw [if_pos hc] at hr
          have hr := Option.some.inj hr
          subst hr
          refine Wp.stepsG 2 (fun cal X P' hk hX hP => ?_)
          exact hP _ _ h
    · rw [hz15]
      rw [oN_is hz15] at hr
      refine Wp.stepsG 9 (fun cal X P' hk hX hP => ?_)
      show ((S.1 70 1) = (-1) → X (44, [some (.ref 7), some (.int a1), some (.int a2), some (.int a3), some (.int a4), some (.int a5), some (.ref 70), some (.ref 66)], [], st S hs, 0, 0)) ∧ (¬ (S.1 70 1) = (-1) → X (35, [some (.ref 7), some (.int a1), some (.int a2), some (.int a3), some (.int a4), some (.int a5), some (.ref 70), some (.ref 66)], [], st S hs, 0, 0))
      refine ⟨fun hc => hX _ ?_, fun hc => hX _ ?_⟩
      · clear hP hX hk P' X cal
        rw [if_pos hc] at hr
        have hr := Option.some.inj hr
        subst hr
        refine Wp.stepsG 2 (fun cal X P' hk hX hP => ?_)
        exact hP _ _ h
      · clear hP hX hk P' X cal
        rw [if_neg hc] at hr
        refine Wp.stepsG 4 (fun cal X P' hk hX hP => ?_)
        show (¬ (S.1 66 1) = (-1) → X (47, [some (.ref 7), some (.int a1), some (.int a2), some (.int a3), some (.int a4), some (.int a5), some (.ref 70), some (.ref 66)], [], st S hs, 0, 0)) ∧ ((S.1 66 1) = (-1) → X (44, [some (.ref 7), some (.int a1), some (.int a2), some (.int a3), some (.int a4), some (.int a5), some (.ref 70), some (.ref 66)], [], st S hs, 0, 0))
        refine ⟨fun hc => hX _ ?_, fun hc => hX _ ?_⟩
        · clear hP hX hk P' X cal
          rw [if_neg hc] at hr
          refine Wp.stepsG 5 (fun cal X P' hk hX hP => ?_)
          show ((S.1 70 1) = (S.1 66 1) → X (63, [some (.ref 7), some (.int a1), some (.int a2), some (.int a3), some (.int a4), some (.int a5), some (.ref 70), some (.ref 66)], [], st S hs, 0, 0)) ∧ (¬ (S.1 70 1) = (S.1 66 1) → X (60, [some (.ref 7), some (.int a1), some (.int a2), some (.int a3), some (.int a4), some (.int a5), some (.ref 70), some (.ref 66)], [], st S hs, 0, 0))
          refine ⟨fun hc => hX _ ?_, fun hc => hX _ ?_⟩
          · clear hP hX hk P' X cal
            rw [if_pos hc] at hr
            refine Wp.stepsG 4 (fun cal X P' hk hX hP => ?_)
            show kcall cal ix_X8_hasRun [.ref 70, .int a2, .int a5] (st S hs) [] 0 0 (0, 0) (fun v σ' c' m' => X (71, [some (.ref 7), some (.int a1), some (.int a2), some (.int a3), some (.int a4), some (.int a5), some (.ref 70), some (.ref 66)], v.toList ++ [], σ', c', m'))
            refine kcall0 rfl (hk _ _ _ _ _ _ (e_X8_hasRun_70 (d + 1) S hs a2 a5 _ ?_))
            show X (71, [some (.ref 7), some (.int a1), some (.int a2), some (.int a3), some (.int a4), some (.int a5), some (.ref 70), some (.ref 66)], [.int (r_X8_hasRun S 70 a2 a5)], st S hs, 0, 0)
            refine hX _ ?_
            clear hP hX hk P' X cal
            refine Wp.stepsG 1 (fun cal X P' hk hX hP => ?_)
            show ((r_X8_hasRun S 70 a2 a5) = 0 → X (86, [some (.ref 7), some (.int a1), some (.int a2), some (.int a3), some (.int a4), some (.int a5), some (.ref 70), some (.ref 66)], [], st S hs, 0, 0)) ∧ (¬ (r_X8_hasRun S 70 a2 a5) = 0 → X (74, [some (.ref 7), some (.int a1), some (.int a2), some (.int a3), some (.int a4), some (.int a5), some (.ref 70), some (.ref 66)], [], st S hs, 0, 0))
            refine ⟨fun hc => hX _ ?_, fun hc => hX _ ?_⟩
            · clear hP hX hk P' X cal
              rw [if_pos hc] at hr
              have hr := Option.some.inj hr
              subst hr
              refine Wp.stepsG 2 (fun cal X P' hk hX hP => ?_)
              exact hP _ _ h
            · clear hP hX hk P' X cal
              rw [if_neg hc] at hr
              refine Wp.stepsG 4 (fun cal X P' hk hX hP => ?_)
              show kcall cal ix_X8_hasRun [.ref 66, .int a4, .int a5] (st S hs) [] 0 0 (0, 0) (fun v σ' c' m' => X (83, [some (.ref 7), some (.int a1), some (.int a2), some (.int a3), some (.int a4), some (.int a5), some (.ref 70), some (.ref 66)], v.toList ++ [], σ', c', m'))
              refine kcall0 rfl (hk _ _ _ _ _ _ (e_X8_hasRun_66 (d + 1) S hs a4 a5 _ ?_))
              show X (83, [some (.ref 7), some (.int a1), some (.int a2), some (.int a3), some (.int a4), some (.int a5), some (.ref 70), some (.ref 66)], [.int (r_X8_hasRun S 66 a4 a5)], st S hs, 0, 0)
              refine hX _ ?_
              clear hP hX hk P' X cal
              refine Wp.stepsG 1 (fun cal X P' hk hX hP => ?_)
              show (¬ (r_X8_hasRun S 66 a4 a5) = 0 → X (89, [some (.ref 7), some (.int a1), some (.int a2), some (.int a3), some (.int a4), some (.int a5), some (.ref 70), some (.ref 66)], [], st S hs, 0, 0)) ∧ ((r_X8_hasRun S 66 a4 a5) = 0 → X (86, [some (.ref 7), some (.int a1), some (.int a2), some (.int a3), some (.int a4), some (.int a5), some (.ref 70), some (.ref 66)], [], st S hs, 0, 0))
              refine ⟨fun hc => hX _ ?_, fun hc => hX _ ?_⟩
              · clear hP hX hk P' X cal
                rw [if_neg hc] at hr
                refine Wp.stepsG 8 (fun cal X P' hk hX hP => ?_)
                show (¬ a2 < 0 ∧ ¬ a4 < 0 ∧ ¬ a5 < 0 ∧ a2.toNatClampNeg + a5.toNatClampNeg ≤ 60 ∧ a4.toNatClampNeg + a5.toNatClampNeg ≤ 60) ∧ X (107, [some (.ref 7), some (.int a1), some (.int a2), some (.int a3), some (.int a4), some (.int a5), some (.ref 70), some (.ref 66)], [], st (sG S 67 (va_cpy (S.2.1 71) (S.2.1 67) a2.toNatClampNeg a4.toNatClampNeg a5.toNatClampNeg)) hs, 0, 0)
                obtain ⟨hg, hr⟩ := gd_some hr
                refine ⟨hg, hX _ ?_⟩
                clear hP hX hk P' X cal
                have hr := Option.some.inj hr
                subst hr
                refine Wp.stepsG 2 (fun cal X P' hk hX hP => ?_)
                exact hP _ _ h
              · clear hP hX hk P' X cal
                rw [if_pos hc] at hr
                have hr := Option.some.inj hr
                subst hr
                refine Wp.stepsG 2 (fun cal X P' hk hX hP => ?_)
                exact hP _ _ h
          · clear hP hX hk P' X cal
            rw [if_neg hc] at hr
            have hr := Option.some.inj hr
            subst hr
            refine Wp.stepsG 2 (fun cal X P' hk hX hP => ?_)
            exact hP _ _ h
        · clear hP hX hk P' X cal
          rw [if_pos hc] at hr
          have hr := Option.some.inj hr
          subst hr
          refine Wp.stepsG 2 (fun cal X P' hk hX hP => ?_)
          exact hP _ _ h
    · rw [hz15]
      rw [oN_is hz15] at hr
      refine Wp.stepsG 9 (fun cal X P' hk hX hP => ?_)
      show ((S.1 70 1) = (-1) → X (44, [some (.ref 7), some (.int a1), some (.int a2), some (.int a3), some (.int a4), some (.int a5), some (.ref 70), some (.ref 68)], [], st S hs, 0, 0)) ∧ (¬ (S.1 70 1) = (-1) → X (35, [some (.ref 7), some (.int a1), some (.int a2), some (.int a3), some (.int a4), some (.int a5), some (.ref 70), some (.ref 68)], [], st S hs, 0, 0))
      refine ⟨fun hc => hX _ ?_, fun hc => hX _ ?_⟩
      · clear hP hX hk P' X cal
        rw [if_pos hc] at hr
        have hr := Option.some.inj hr
        subst hr
        refine Wp.stepsG 2 (fun cal X P' hk hX hP => ?_)
        exact hP _ _ h
      · clear hP hX hk P' X cal
        rw [if_neg hc] at hr
        refine Wp.stepsG 4 (fun cal X P' hk hX hP => ?_)
        show (¬ (S.1 68 1) = (-1) → X (47, [some (.ref 7), some (.int a1), some (.int a2), some (.int a3), some (.int a4), some (.int a5), some (.ref 70), some (.ref 68)], [], st S hs, 0, 0)) ∧ ((S.1 68 1) = (-1) → X (44, [some (.ref 7), some (.int a1), some (.int a2), some (.int a3), some (.int a4), some (.int a5), some (.ref 70), some (.ref 68)], [], st S hs, 0, 0))
        refine ⟨fun hc => hX _ ?_, fun hc => hX _ ?_⟩
        · clear hP hX hk P' X cal
          rw [if_neg hc] at hr
          refine Wp.stepsG 5 (fun cal X P' hk hX hP => ?_)
          show ((S.1 70 1) = (S.1 68 1) → X (63, [some (.ref 7), some (.int a1), some (.int a2), some (.int a3), some (.int a4), some (.int a5), some (.ref 70), some (.ref 68)], [], st S hs, 0, 0)) ∧ (¬ (S.1 70 1) = (S.1 68 1) → X (60, [some (.ref 7), some (.int a1), some (.int a2), some (.int a3), some (.int a4), some (.int a5), some (.ref 70), some (.ref 68)], [], st S hs, 0, 0))
          refine ⟨fun hc => hX _ ?_, fun hc => hX _ ?_⟩
          · clear hP hX hk P' X cal
            rw [if_pos hc] at hr
            refine Wp.stepsG 4 (fun cal X P' hk hX hP => ?_)
            show kcall cal ix_X8_hasRun [.ref 70, .int a2, .int a5] (st S hs) [] 0 0 (0, 0) (fun v σ' c' m' => X (71, [some (.ref 7), some (.int a1), some (.int a2), some (.int a3), some (.int a4), some (.int a5), some (.ref 70), some (.ref 68)], v.toList ++ [], σ', c', m'))
            refine kcall0 rfl (hk _ _ _ _ _ _ (e_X8_hasRun_70 (d + 1) S hs a2 a5 _ ?_))
            show X (71, [some (.ref 7), some (.int a1), some (.int a2), some (.int a3), some (.int a4), some (.int a5), some (.ref 70), some (.ref 68)], [.int (r_X8_hasRun S 70 a2 a5)], st S hs, 0, 0)
            refine hX _ ?_
            clear hP hX hk P' X cal
            refine Wp.stepsG 1 (fun cal X P' hk hX hP => ?_)
            show ((r_X8_hasRun S 70 a2 a5) = 0 → X (86, [some (.ref 7), some (.int a1), some (.int a2), some (.int a3), some (.int a4), some (.int a5), some (.ref 70), some (.ref 68)], [], st S hs, 0, 0)) ∧ (¬ (r_X8_hasRun S 70 a2 a5) = 0 → X (74, [some (.ref 7), some (.int a1), some (.int a2), some (.int a3), some (.int a4), some (.int a5), some (.ref 70), some (.ref 68)], [], st S hs, 0, 0))
            refine ⟨fun hc => hX _ ?_, fun hc => hX _ ?_⟩
            · clear hP hX hk P' X cal
              rw [if_pos hc] at hr
              have hr := Option.some.inj hr
              subst hr
              refine Wp.stepsG 2 (fun cal X P' hk hX hP => ?_)
              exact hP _ _ h
            · clear hP hX hk P' X cal
              rw [if_neg hc] at hr
              refine Wp.stepsG 4 (fun cal X P' hk hX hP => ?_)
              show kcall cal ix_X8_hasRun [.ref 68, .int a4, .int a5] (st S hs) [] 0 0 (0, 0) (fun v σ' c' m' => X (83, [some (.ref 7), some (.int a1), some (.int a2), some (.int a3), some (.int a4), some (.int a5), some (.ref 70), some (.ref 68)], v.toList ++ [], σ', c', m'))
              refine kcall0 rfl (hk _ _ _ _ _ _ (e_X8_hasRun_68 (d + 1) S hs a4 a5 _ ?_))
              show X (83, [some (.ref 7), some (.int a1), some (.int a2), some (.int a3), some (.int a4), some (.int a5), some (.ref 70), some (.ref 68)], [.int (r_X8_hasRun S 68 a4 a5)], st S hs, 0, 0)
              refine hX _ ?_
              clear hP hX hk P' X cal
              refine Wp.stepsG 1 (fun cal X P' hk hX hP => ?_)
              show (¬ (r_X8_hasRun S 68 a4 a5) = 0 → X (89, [some (.ref 7), some (.int a1), some (.int a2), some (.int a3), some (.int a4), some (.int a5), some (.ref 70), some (.ref 68)], [], st S hs, 0, 0)) ∧ ((r_X8_hasRun S 68 a4 a5) = 0 → X (86, [some (.ref 7), some (.int a1), some (.int a2), some (.int a3), some (.int a4), some (.int a5), some (.ref 70), some (.ref 68)], [], st S hs, 0, 0))
              refine ⟨fun hc => hX _ ?_, fun hc => hX _ ?_⟩
              · clear hP hX hk P' X cal
                rw [if_neg hc] at hr
                refine Wp.stepsG 8 (fun cal X P' hk hX hP => ?_)
                show (¬ a2 < 0 ∧ ¬ a4 < 0 ∧ ¬ a5 < 0 ∧ a2.toNatClampNeg + a5.toNatClampNeg ≤ 60 ∧ a4.toNatClampNeg + a5.toNatClampNeg ≤ 60) ∧ X (107, [some (.ref 7), some (.int a1), some (.int a2), some (.int a3), some (.int a4), some (.int a5), some (.ref 70), some (.ref 68)], [], st (sG S 69 (va_cpy (S.2.1 71) (S.2.1 69) a2.toNatClampNeg a4.toNatClampNeg a5.toNatClampNeg)) hs, 0, 0)
                obtain ⟨hg, hr⟩ := gd_some hr
                refine ⟨hg, hX _ ?_⟩
                clear hP hX hk P' X cal
                have hr := Option.some.inj hr
                subst hr
                refine Wp.stepsG 2 (fun cal X P' hk hX hP => ?_)
                exact hP _ _ h
              · clear hP hX hk P' X cal
                rw [if_pos hc] at hr
                have hr := Option.some.inj hr
                subst hr
                refine Wp.stepsG 2 (fun cal X P' hk hX hP => ?_)
                exact hP _ _ h
          · clear hP hX hk P' X cal
            rw [if_neg hc] at hr
            have hr := Option.some.inj hr
            subst hr
            refine Wp.stepsG 2 (fun cal X P' hk hX hP => ?_)
            exact hP _ _ h
        · clear hP hX hk P' X cal
          rw [if_pos hc] at hr
          have hr := Option.some.inj hr
          subst hr
          refine Wp.stepsG 2 (fun cal X P' hk hX hP => ?_)
          exact hP _ _ h
    · rw [hz15]
      rw [oN_is hz15] at hr
      refine Wp.stepsG 9 (fun cal X P' hk hX hP => ?_)
      show ((S.1 70 1) = (-1) → X (44, [some (.ref 7), some (.int a1), some (.int a2), some (.int a3), some (.int a4), some (.int a5), some (.ref 70), some (.ref 70)], [], st S hs, 0, 0)) ∧ (¬ (S.1 70 1) = (-1) → X (35, [some (.ref 7), some (.int a1), some (.int a2), some (.int a3), some (.int a4), some (.int a5), some (.ref 70), some (.ref 70)], [], st S hs, 0, 0))
      refine ⟨fun hc => hX _ ?_, fun hc => hX _ ?_⟩
      · clear hP hX hk P' X cal
        rw [if_pos hc] at hr
        have hr := Option.some.inj hr
        subst hr
        refine Wp.stepsG 2 (fun cal X P' hk hX hP => ?_)
        exact hP _ _ h
      · clear hP hX hk P' X cal
        rw [if_neg hc] at hr
        refine Wp.stepsG 4 (fun cal X P' hk hX hP => ?_)
        show (¬ (S.1 70 1) = (-1) → X (47, [some (.ref 7), some (.int a1), some (.int a2), some (.int a3), some (.int a4), some (.int a5), some (.ref 70), some (.ref 70)], [], st S hs, 0, 0)) ∧ ((S.1 70 1) = (-1) → X (44, [some (.ref 7), some (.int a1), some (.int a2), some (.int a3), some (.int a4), some (.int a5), some (.ref 70), some (.ref 70)], [], st S hs, 0, 0))
        refine ⟨fun hc => hX _ ?_, fun hc => hX _ ?_⟩
        · clear hP hX hk P' X cal
          rw [if_neg hc] at hr
          refine Wp.stepsG 5 (fun cal X P' hk hX hP => ?_)
          show ((S.1 70 1) = (S.1 70 1) → X (63, [some (.ref 7), some (.int a1), some (.int a2), some (.int a3), some (.int a4), some (.int a5), some (.ref 70), some (.ref 70)], [], st S hs, 0, 0)) ∧ (¬ (S.1 70 1) = (S.1 70 1) → X (60, [some (.ref 7), some (.int a1), some (.int a2), some (.int a3), some (.int a4), some (.int a5), some (.ref 70), some (.ref 70)], [], st S hs, 0, 0))
          refine ⟨fun hc => hX _ ?_, fun hc => hX _ ?_⟩
          · clear hP hX hk P' X cal
            rw [if_pos hc] at hr
            refine Wp.stepsG 4 (fun cal X P' hk hX hP => ?_)
            show kcall cal ix_X8_hasRun [.ref 70, .int a2, .int a5] (st S hs) [] 0 0 (0, 0) (fun v σ' c' m' => X (71, [some (.ref 7), some (.int a1), some (.int a2), some (.int a3), some (.int a4), some (.int a5), some (.ref 70), some (.ref 70)], v.toList ++ [], σ', c', m'))
            refine kcall0 rfl (hk _ _ _ _ _ _ (e_X8_hasRun_70 (d + 1) S hs a2 a5 _ ?_))
            show X (71, [some (.ref 7), some (.int a1), some (.int a2), some (.int a3), some (.int a4), some (.int a5), some (.ref 70), some (.ref 70)], [.int (r_X8_hasRun S 70 a2 a5)], st S hs, 0, 0)
            refine hX _ ?_
            clear hP hX hk P' X cal
            refine Wp.stepsG 1 (fun cal X P' hk hX hP => ?_)
            show ((r_X8_hasRun S 70 a2 a5) = 0 → X (86, [some (.ref 7), some (.int a1), some (.int a2), some (.int a3), some (.int a4), some (.int a5), some (.ref 70), some (.ref 70)], [], st S hs, 0, 0)) ∧ (¬ (r_X8_hasRun S 70 a2 a5) = 0 → X (74, [some (.ref 7), some (.int a1), some (.int a2), some (.int a3), some (.int a4), some (.int a5), some (.ref 70), some (.ref 70)], [], st S hs, 0, 0))
            refine ⟨fun hc => hX _ ?_, fun hc => hX _ ?_⟩
            · clear hP hX hk P' X cal
              rw [if_pos hc] at hr
              have hr := Option.some.inj hr
              subst hr
              refine Wp.stepsG 2 (fun cal X P' hk hX hP => ?_)
              exact hP _ _ h
            · clear hP hX hk P' X cal
              rw [if_neg hc] at hr
              refine Wp.stepsG 4 (fun cal X P' hk hX hP => ?_)
              show kcall cal ix_X8_hasRun [.ref 70, .int a4, .int a5] (st S hs) [] 0 0 (0, 0) (fun v σ' c' m' => X (83, [some (.ref 7), some (.int a1), some (.int a2), some (.int a3), some (.int a4), some (.int a5), some (.ref 70), some (.ref 70)], v.toList ++ [], σ', c', m'))
              refine kcall0 rfl (hk _ _ _ _ _ _ (e_X8_hasRun_70 (d + 1) S hs a4 a5 _ ?_))
              show X (83, [some (.ref 7), some (.int a1), some (.int a2), some (.int a3), some (.int a4), some (.int a5), some (.ref 70), some (.ref 70)], [.int (r_X8_hasRun S 70 a4 a5)], st S hs, 0, 0)
              refine hX _ ?_
              clear hP hX hk P' X cal
              refine Wp.stepsG 1 (fun cal X P' hk hX hP => ?_)
              show (¬ (r_X8_hasRun S 70 a4 a5) = 0 → X (89, [some (.ref 7), some (.int a1), some (.int a2), some (.int a3), some (.int a4), some (.int a5), some (.ref 70), some (.ref 70)], [], st S hs, 0, 0)) ∧ ((r_X8_hasRun S 70 a4 a5) = 0 → X (86, [some (.ref 7), some (.int a1), some (.int a2), some (.int a3), some (.int a4), some (.int a5), some (.ref 70), some (.ref 70)], [], st S hs, 0, 0))
              refine ⟨fun hc => hX _ ?_, fun hc => hX _ ?_⟩
              · clear hP hX hk P' X cal
                rw [if_neg hc] at hr
                refine Wp.stepsG 8 (fun cal X P' hk hX hP => ?_)
                show (¬ a2 < 0 ∧ ¬ a4 < 0 ∧ ¬ a5 < 0 ∧ a2.toNatClampNeg + a5.toNatClampNeg ≤ 60 ∧ a4.toNatClampNeg + a5.toNatClampNeg ≤ 60) ∧ X (107, [some (.ref 7), some (.int a1), some (.int a2), some (.int a3), some (.int a4), some (.int a5), some (.ref 70), some (.ref 70)], [], st (sG S 71 (va_cpy (S.2.1 71) (S.2.1 71) a2.toNatClampNeg a4.toNatClampNeg a5.toNatClampNeg)) hs, 0, 0)
                obtain ⟨hg, hr⟩ := gd_some hr
                refine ⟨hg, hX _ ?_⟩
                clear hP hX hk P' X cal
                have hr := Option.some.inj hr
                subst hr
                refine Wp.stepsG 2 (fun cal X P' hk hX hP => ?_)
                exact hP _ _ h
              · clear hP hX hk P' X cal
                rw [if_pos hc] at hr
                have hr := Option.some.inj hr
                subst hr
                refine Wp.stepsG 2 (fun cal X P' hk hX hP => ?_)
                exact hP _ _ h
          · clear hP hX hk P' X cal
            rw [if_neg hc] at hr
            have hr := Option.some.inj hr
            subst hr
            refine Wp.stepsG 2 (fun cal X P' hk hX hP => ?_)
            exact hP _ _ h
        · clear hP hX hk P' X cal
          rw [if_pos hc] at hr
          have hr := Option.some.inj hr
          subst hr
          refine Wp.stepsG 2 (fun cal X P' hk hX hP => ?_)
          exact hP _ _ h
    · rw [hz15]
      rw [oN_is hz15] at hr
      refine Wp.stepsG 9 (fun cal X P' hk hX hP => ?_)
      show ((S.1 70 1) = (-1) → X (44, [some (.ref 7), some (.int a1), some (.int a2), some (.int a3), some (.int a4), some (.int a5), some (.ref 70), some (.ref 72)], [], st S hs, 0, 0)) ∧ (¬ (S.1 70 1) = (-1) → X (35, [some (.ref 7), some (.int a1), some (.int a2), some (.int a3), some (.int a4), some (.int a5), some (.ref 70), some (.ref 72)], [], st S hs, 0, 0))
      refine ⟨fun hc => hX _ ?_, fun hc => hX _ ?_⟩
      · clear hP hX hk P' X cal
        rw [if_pos hc] at hr
        have hr := Option.some.inj hr
        subst hr
        refine Wp.stepsG 2 (fun cal X P' hk hX hP => ?_)
        exact hP _ _ h
      · clear hP hX hk P' X cal
        rw [if_neg hc] at hr
        refine Wp.stepsG 4 (fun cal X P' hk hX hP => ?_)
        show (¬ (S.1 72 1) = (-1) → X (47, [some (.ref 7), some (.int a1), some (.int a2), some (.int a3), some (.int a4), some (.int a5), some (.ref 70), some (.ref 72)], [], st S hs, 0, 0)) ∧ ((S.1 72 1) = (-1) → X (44, [some (.ref 7), some (.int a1), some (.int a2), some (.int a3), some (.int a4), some (.int a5), some (.ref 70), some (.ref 72)], [], st S hs, 0, 0))
        refine ⟨fun hc => hX _ ?_, fun hc => hX _ ?_⟩
        · clear hP hX hk P' X cal
          rw [if_neg hc] at hr
          refine Wp.stepsG 5 (fun cal X P' hk hX hP => ?_)
          show ((S.1 70 1) = (S.1 72 1) → X (63, [some (.ref 7), some (.int a1), some (.int a2), some (.int a3), some (.int a4), some (.int a5), some (.ref 70), some (.ref 72)], [], st S hs, 0, 0)) ∧ (¬ (S.1 70 1) = (S.1 72 1) → X (60, [some (.ref 7), some (.int a1), some (.int a2), some (.int a3), some (.int a4), some (.int a5), some (.ref 70), some (.ref 72)], [], st S hs, 0, 0))
          refine ⟨fun hc => hX _ ?_, fun hc => hX _ ?_⟩
          · clear hP hX hk P' X cal
            rw [if_pos hc] at hr
            refine Wp.stepsG 4 (fun cal X P' hk hX hP => ?_)
            show kcall cal ix_X8_hasRun [.ref 70, .int a2, .int a5] (st S hs) [] 0 0 (0, 0) (fun v σ' c' m' => X (71, [some (.ref 7), some (.int a1), some (.int a2), some (.int a3), some (.int a4), some (.int a5), some (.ref 70), some (.ref 72)], v.toList ++ [], σ', c', m'))
            refine kcall0 rfl (hk _ _ _ _ _ _ (e_X8_hasRun_70 (d + 1) S hs a2 a5 _ ?_))
            show X (71, [some (.ref 7), some (.int a1), some (.int a2), some (.int a3), some (.int a4), some (.int a5), some (.ref 70), some (.ref 72)], [.int (r_X8_hasRun S 70 a2 a5)], st S hs, 0, 0)
            refine hX _ ?_
            clear hP hX hk P' X cal
            refine Wp.stepsG 1 (fun cal X P' hk hX hP => ?_)
            show ((r_X8_hasRun S 70 a2 a5) = 0 → X (86, [some (.ref 7), some (.int a1), some (.int a2), some (.int a3), some (.int a4), some (.int a5), some (.ref 70), some (.ref 72)], [], st S hs, 0, 0)) ∧ (¬ (r_X8_hasRun S 70 a2 a5) = 0 → X (74, [some (.ref 7), some (.int a1), some (.int a2), some (.int a3), some (.int a4), some (.int a5), some (.ref 70), some (.ref 72)], [], st S hs, 0, 0))
            refine ⟨fun hc => hX _ ?_, fun hc => hX _ ?_⟩
            · clear hP hX hk P' X cal
              rw [if_pos hc] at hr
              have hr := Option.some.inj hr
              subst hr
              refine Wp.stepsG 2 (fun cal X P' hk hX hP => ?_)
              exact hP _ _ h
            · clear hP hX hk P' X cal
              rw [if_neg hc] at hr
              refine Wp.stepsG 4 (fun cal X P' hk hX hP => ?_)
              show kcall cal ix_X8_hasRun [.ref 72, .int a4, .int a5] (st S hs) [] 0 0 (0, 0) (fun v σ' c' m' => X (83, [some (.ref 7), some (.int a1), some (.int a2), some (.int a3), some (.int a4), some (.int a5), some (.ref 70), some (.ref 72)], v.toList ++ [], σ', c', m'))
              refine kcall0 rfl (hk _ _ _ _ _ _ (e_X8_hasRun_72 (d + 1) S hs a4 a5 _ ?_))
              show X (83, [some (.ref 7), some (.int a1), some (.int a2), some (.int a3), some (.int a4), some (.int a5), some (.ref 70), some (.ref 72)], [.int (r_X8_hasRun S 72 a4 a5)], st S hs, 0, 0)
              refine hX _ ?_
              clear hP hX hk P' X cal
              refine Wp.stepsG 1 (fun cal X P' hk hX hP => ?_)
              show (¬ (r_X8_hasRun S 72 a4 a5) = 0 → X (89, [some (.ref 7), some (.int a1), some (.int a2), some (.int a3), some (.int a4), some (.int a5), some (.ref 70), some (.ref 72)], [], st S hs, 0, 0)) ∧ ((r_X8_hasRun S 72 a4 a5) = 0 → X (86, [some (.ref 7), some (.int a1), some (.int a2), some (.int a3), some (.int a4), some (.int a5), some (.ref 70), some (.ref 72)], [], st S hs, 0, 0))
              refine ⟨fun hc => hX _ ?_, fun hc => hX _ ?_⟩
              · clear hP hX hk P' X cal
                rw [if_neg hc] at hr
                refine Wp.stepsG 8 (fun cal X P' hk hX hP => ?_)
                show (¬ a2 < 0 ∧ ¬ a4 < 0 ∧ ¬ a5 < 0 ∧ a2.toNatClampNeg + a5.toNatClampNeg ≤ 60 ∧ a4.toNatClampNeg + a5.toNatClampNeg ≤ 60) ∧ X (107, [some (.ref 7), some (.int a1), some (.int a2), some (.int a3), some (.int a4), some (.int a5), some (.ref 70), some (.ref 72)], [], st (sG S 73 (va_cpy (S.2.1 71) (S.2.1 73) a2.toNatClampNeg a4.toNatClampNeg a5.toNatClampNeg)) hs, 0, 0)
                obtain ⟨hg, hr⟩ := gd_some hr
                refine ⟨hg, hX _ ?_⟩
                clear hP hX hk P' X cal
                have hr := Option.some.inj hr
                subst hr
                refine Wp.stepsG 2 (fun cal X P' hk hX hP => ?_)
                exact hP _ _ h
              · clear hP hX hk P' X cal
                rw [if_pos hc] at hr
                have hr := Option.some.inj hr
                subst hr
                refine Wp.stepsG 2 (fun cal X P' hk hX hP => ?_)
                exact hP _ _ h
          · clear hP hX hk P' X cal
            rw [if_neg hc] at hr
            have hr := Option.some.inj hr
            subst hr
            refine Wp.stepsG 2 (fun cal X P' hk hX hP => ?_)
            exact hP _ _ h
        · clear hP hX hk P' X cal
          rw [if_pos hc] at hr
          have hr := Option.some.inj hr
          subst hr
          refine Wp.stepsG 2 (fun cal X P' hk hX hP => ?_)
          exact hP _ _ h
    · rw [hz15]
      rw [oN_is hz15] at hr
      refine Wp.stepsG 9 (fun cal X P' hk hX hP => ?_)
      show ((S.1 70 1) = (-1) → X (44, [some (.ref 7), some (.int a1), some (.int a2), some (.int a3), some (.int a4), some (.int a5), some (.ref 70), some (.ref 74)], [], st S hs, 0, 0)) ∧ (¬ (S.1 70 1) = (-1) → X (35, [some (.ref 7), some (.int a1), some (.int a2), some (.int a3), some (.int a4), some (.int a5), some (.ref 70), some (.ref 74)], [], st S hs, 0, 0))
      refine ⟨fun hc => hX _ ?_, fun hc => hX _ ?_⟩
      · clear hP hX hk P' X cal
        rw [if_pos hc] at hr
        have hr := Option.some.inj hr
        subst hr
        refine Wp.stepsG 2 (fun cal X P' hk hX hP => ?_)
        exact hP _ _ h
      · clear hP hX hk P' X cal
        rw [if_neg hc] at hr
        refine Wp.stepsG 4 (fun cal X P' hk hX hP => ?_)
        show (¬ (S.1 74 1) = (-1) → X (47, [some (.ref 7), some (.int a1), some (.int a2), some (.int a3), some (.int a4), some (.int a5), some (.ref 70), some (.ref 74)], [], st S hs, 0, 0)) ∧ ((S.1 74 1) = (-1) → X (44, [some (.ref 7), some (.int a1), some (.int a2), some (.int a3), some (.int a4), some (.int a5), some (.ref 70), some (.ref 74)], [], st S hs, 0, 0))
        refine ⟨fun hc => hX _ ?_, fun hc => hX _ ?_⟩
        · clear hP hX hk P' X cal
          rw [if_neg hc] at hr
          refine Wp.stepsG 5 (fun cal X P' hk hX hP => ?_)
          show ((S.1 70 1) = (S.1 74 1) → X (63, [some (.ref 7), some (.int a1), some (.int a2), some (.int a3), some (.int a4), some (.int a5), some (.ref 70), some (.ref 74)], [], st S hs, 0, 0)) ∧ (¬ (S.1 70 1) = (S.1 74 1) → X (60, [some (.ref 7), some (.int a1), some (.int a2), some (.int a3), some (.int a4), some (.int a5), some (.ref 70), some (.ref 74)], [], st S hs, 0, 0))
          refine ⟨fun hc => hX _ ?_, fun hc => hX _ ?_⟩
          · clear hP hX hk P' X cal
            rw [if_pos hc] at hr
            refine Wp.stepsG 4 (fun cal X P' hk hX hP => ?_)
            show kcall cal ix_X8_hasRun [.ref 70, .int a2, .int a5] (st S hs) [] 0 0 (0, 0) (fun v σ' c' m' => X (71, [some (.ref 7), some (.int a1), some (.int a2), some (.int a3), some (.int a4), some (.int a5), some (.ref 70), some (.ref 74)], v.toList ++ [], σ', c', m'))
            refine kcall0 rfl (hk _ _ _ _ _ _ (e_X8_hasRun_70 (d + 1) S hs a2 a5 _ ?_))
            show X (71, [some (.ref 7), some (.int a1), some (.int a2), some (.int a3), some (.int a4), some (.int a5), some (.ref 70), some (.ref 74)], [.int (r_X8_hasRun S 70 a2 a5)], st S hs, 0, 0)
            refine hX _ ?_
            clear hP hX hk P' X cal
            refine Wp.stepsG 1 (fun cal X P' hk hX hP => ?_)
            show ((r_X8_hasRun S 70 a2 a5) = 0 → X (86, [some (.ref 7), some (.int a1), some (.int a2), some (.int a3), some (.int a4), some (.int a5), some (.ref 70), some (.ref 74)], [], st S hs, 0, 0)) ∧ (¬ (r_X8_hasRun S 70 a2 a5) = 0 → X (74, [some (.ref 7), some (.int a1), some (.int a2), some (.int a3), some (.int a4), some (.int a5), some (.ref 70), some (.ref 74)], [], st S hs, 0, 0))
            refine ⟨fun hc => hX _ ?_, fun hc => hX _ ?_⟩
            · clear hP hX hk P' X cal
              rw [if_pos hc] at hr
              have hr := Option.some.inj hr
              subst hr
              refine Wp.stepsG 2 (fun cal X P' hk hX hP => ?_)
              exact hP _ _ h
            · clear hP hX hk P' X cal
              rw [if_neg hc] at hr
              refine Wp.stepsG 4 (fun cal X P' hk hX hP => ?_)
              show kcall cal ix_X8_hasRun [.ref 74, .int a4, .int a5] (st S hs) [] 0 0 (0, 0) (fun v σ' c' m' => X (83, [some (.ref 7), some (.int a1), some (.int a2), some (.int a3), some (.int a4), some (.int a5), some (.ref 70), some (.ref 74)], v.toList ++ [], σ', c', m'))
              refine kcall0 rfl (hk _ _ _ _ _ _ (e_X8_hasRun_74 (d + 1) S hs a4 a5 _ ?_))
              show X (83, [some (.ref 7), some (.int a1), some (.int a2), some (.int a3), some (.int a4), some (.int a5), some (.ref 70), some (.ref 74)], [.int (r_X8_hasRun S 74 a4 a5)], st S hs, 0, 0)
              refine hX _ ?_
              clear hP hX hk P' X cal
              refine Wp.stepsG 1 (fun cal X P' hk hX hP => ?_)
              show (¬ (r_X8_hasRun S 74 a4 a5) = 0 → X (89, [some (.ref 7), some (.int a1), some (.int a2), some (.int a3), some (.int a4), some (.int a5), some (.ref 70), some (.ref 74)], [], st S hs, 0, 0)) ∧ ((r_X8_hasRun S 74 a4 a5) = 0 → X (86, [some (.ref 7), some (.int a1), some (.int a2), some (.int a3), some (.int a4), some (.int a5), some (.ref 70), some (.ref 74)], [], st S hs, 0, 0))
              refine ⟨fun hc => hX _ ?_, fun hc => hX _ ?_⟩
              · clear hP hX hk P' X cal
                rw [if_neg hc] at hr
                refine Wp.stepsG 8 (fun cal X P' hk hX hP => ?_)
                show (¬ a2 < 0 ∧ ¬ a4 < 0 ∧ ¬ a5 < 0 ∧ a2.toNatClampNeg + a5.toNatClampNeg ≤ 60 ∧ a4.toNatClampNeg + a5.toNatClampNeg ≤ 60) ∧ X (107, [some (.ref 7), some (.int a1), some (.int a2), some (.int a3), some (.int a4), some (.int a5), some (.ref 70), some (.ref 74)], [], st (sG S 75 (va_cpy (S.2.1 71) (S.2.1 75) a2.toNatClampNeg a4.toNatClampNeg a5.toNatClampNeg)) hs, 0, 0)
                obtain ⟨hg, hr⟩ := gd_some hr
                refine ⟨hg, hX _ ?_⟩
                clear hP hX hk P' X cal
                have hr := Option.some.inj hr
                subst hr
                refine Wp.stepsG 2 (fun cal X P' hk hX hP => ?_)
                exact hP _ _ h
              · clear hP hX hk P' X cal
                rw [if_pos hc] at hr
                have hr := Option.some.inj hr
                subst hr
                refine Wp.stepsG 2 (fun cal X P' hk hX hP => ?_)
                exact hP _ _ h
          · clear hP hX hk P' X cal
            rw [if_neg hc] at hr
            have hr := Option.some.inj hr
            subst hr
            refine Wp.stepsG 2 (fun cal X P' hk hX hP => ?_)
            exact hP _ _ h
        · clear hP hX hk P' X cal
          rw [if_pos hc] at hr
          have hr := Option.some.inj hr
          subst hr
          refine Wp.stepsG 2 (fun cal X P' hk hX hP => ?_)
          exact hP _ _ h
  · rw [hz10]
    rw [oN_is hz10] at hr
    refine Wp.stepsG 4 (fun cal X P' hk hX hP => ?_)
    show kcall cal ix_X11_tapeAt [.ref 7, .int a3] (st S hs) [] 0 0 (0, 0) (fun v σ' c' m' => X (12, [some (.ref 7), some (.int a1), some (.int a2), some (.int a3), some (.int a4), some (.int a5), some (.ref 72), none], v.toList ++ [], σ', c', m'))
    obtain ⟨q8, hq8, hr⟩ := bd_some hr
    refine kcall0 rfl (hk _ _ _ _ _ _ (e_X11_tapeAt (d + 0) S hs a3 q8 hq8 _ ?_))
    show X (12, [some (.ref 7), some (.int a1), some (.int a2), some (.int a3), some (.int a4), some (.int a5), some (.ref 72), none], [va_rf q8], st S hs, 0, 0)
    refine hX _ ?_
    clear hP hX hk P' X cal
    rcases c_X11_tapeAt hq8 with hz16 | hz16 | hz16 | hz16 | hz16 | hz16 | hz16
    · rw [hz16]
      rw [oN_no hz16] at hr
      have hr := Option.some.inj hr
      subst hr
      refine Wp.stepsG 7 (fun cal X P' hk hX hP => ?_)
      exact hP _ _ h
    · rw [hz16]
      rw [oN_is hz16] at hr
      refine Wp.stepsG 9 (fun cal X P' hk hX hP => ?_)
      show ((S.1 72 1) = (-1) → X (44, [some (.ref 7), some (.int a1), some (.int a2), some (.int a3), some (.int a4), some (.int a5), some (.ref 72), some (.ref 64)], [], st S hs, 0, 0)) ∧ (¬ (S.1 72 1) = (-1) → X (35, [some (.ref 7), some (.int a1), some (.int a2), some (.int a3), some (.int a4), some (.int a5), some (.ref 72), some (.ref 64)], [], st S hs, 0, 0))
      refine ⟨fun hc => hX _ ?_, fun hc => hX _ ?_⟩
      · clear hP hX hk P' X cal
        rw [if_pos hc] at hr
        have hr := Option.some.inj hr
        subst hr
        refine Wp.stepsG 2 (fun cal X P' hk hX hP => ?_)
        exact hP _ _ h
      · clear hP hX hk P' X cal
        rw [if_neg hc] at hr
        refine Wp.stepsG 4 (fun cal X P' hk hX hP => ?_)
        show (¬ (S.1 64 1) = (-1) → X (47, [some (.ref 7), some (.int a1), some (.int a2), some (.int a3), some (.int a4), some (.int a5), some (.ref 72), some (.ref 64)], [], st S hs, 0, 0)) ∧ ((S.1 64 1) = (-1) → X (44, [some (.ref 7), some (.int a1), some (.int a2), some (.int a3), some (.int a4), some (.int a5), some (.ref 72), some (.ref 64)], [], st S hs, 0, 0))
        refine ⟨fun hc => hX _ ?_, fun hc => hX _ ?_⟩
        · clear hP hX hk P' X cal
          rw [if_neg hc] at hr
          refine Wp.stepsG 5 (fun cal X P' hk hX hP => ?_)
          show ((S.1 72 1) = (S.1 64 1) → X (63, [some (.ref 7), some (.int a1), some (.int a2), some (.int a3), some (.int a4), some (.int a5), some (.ref 72), some (.ref 64)], [], st S hs, 0, 0)) ∧ (¬ (S.1 72 1) = (S.1 64 1) → X (60, [some (.ref 7), some (.int a1), some (.int a2), some (.int a3), some (.int a4), some (.int a5), some (.ref 72), some (.ref 64)], [], st S hs, 0, 0))
          refine ⟨fun hc => hX _ ?_, fun hc => hX _ ?_⟩
          · clear hP hX hk P' X cal
            rw [if_pos hc] at hr
            refine Wp.stepsG 4 (fun cal X P' hk hX hP => ?_)
            show kcall cal ix_X8_hasRun [.ref 72, .int a2, .int a5] (st S hs) [] 0 0 (0, 0) (fun v σ' c' m' => X (71, [some (.ref 7), some (.int a1), some (.int a2), some (.int a3), some (.int a4), some (.int a5), some (.ref 72), some (.ref 64)], v.toList ++ [], σ', c', m'))
            refine kcall0 rfl (hk _ _ _ _ _ _ (e_X8_hasRun_72 (d + 1) S hs a2 a5 _ ?_))
            show X (71, [some (.ref 7), some (.int a1), some (.int a2), some (.int a3), some (.int a4), some (.int a5), some (.ref 72), some (.ref 64)], [.int (r_X8_hasRun S 72 a2 a5)], st S hs, 0, 0)
            refine hX _ ?_
            clear hP hX hk P' X cal
            refine Wp.stepsG 1 (fun cal X P' hk hX hP => ?_)
            show ((r_X8_hasRun S 72 a2 a5) = 0 → X (86, [some (.ref 7), some (.int a1), some (.int a2), some (.int a3), some (.int a4), some (.int a5), some (.ref 72), some (.ref 64)], [], st S hs, 0, 0)) ∧ (¬ (r_X8_hasRun S 72 a2 a5) = 0 → X (74, [some (.ref 7), some (.int a1), some (.int a2), some (.int a3), some (.int a4), some (.int a5), some (.ref 72), some (.ref 64)], [], st S hs, 0, 0))
            refine ⟨fun hc => hX _ ?_, fun hc => hX _ ?_⟩
            · clear hP hX hk P' X cal
              rw [if_pos hc] at hr
              have hr := Option.some.inj hr
              subst hr
              refine Wp.stepsG 2 (fun cal X P' hk hX hP => ?_)
              exact hP _ _ h
            · clear hP hX hk P' X cal
              rw [if_neg hc] at hr
              refine Wp.stepsG 4 (fun cal X P' hk hX hP => ?_)
              show kcall cal ix_X8_hasRun [.ref 64, .int a4, .int a5] (st S hs) [] 0 0 (0, 0) (fun v σ' c' m' => X (83, [some (.ref 7), some (.int a1), some (.int a2), some (.int a3), some (.int a4), some (.int a5), some (.ref 72), some (.ref 64)], v.toList ++ [], σ', c', m'))
              refine kcall0 rfl (hk _ _ _ _ _ _ (e_X8_hasRun_64 (d + 1) S hs a4 a5 _ ?_))
              show X (83, [some (.ref 7), some (.int a1), some (.int a2), some (.int a3), some (.int a4), some (.int a5), some (.ref 72), some (.ref 64)], [.int (r_X8_hasRun S 64 a4 a5)], st S hs, 0, 0)
              refine hX _ ?_
              clear hP hX hk P' X cal
              refine Wp.stepsG 1 (fun cal X P' hk hX hP => ?_)
              show (¬ (r_X8_hasRun S 64 a4 a5) = 0 → X (89, [some (.ref 7), some (.int a1), some (.int a2), some (.int a3), some (.int a4), some (.int a5), some (.ref 72), some (.ref 64)], [], st S hs, 0, 0)) ∧ ((r_X8_hasRun S 64 a4 a5) = 0 → X (86, [some (.ref 7), some (.int a1), some (.int a2), some (.int a3), some (.int a4), some (.int a5), some (.ref 72), some (.ref 64)], [], st S hs, 0, 0))
              refine ⟨fun hc => hX _ ?_, fun hc => hX _ ?_⟩
              · clear hP hX hk P' X cal
                rw [if_neg hc] at hr
                refine Wp.stepsG 8 (fun cal X P' hk hX hP => ?_)
                show (¬ a2 < 0 ∧ ¬ a4 < 0 ∧ ¬ a5 < 0 ∧ a2.toNatClampNeg + a5.toNatClampNeg ≤ 60 ∧ a4.toNatClampNeg + a5.toNatClampNeg ≤ 60) ∧ X (107, [some (.ref 7), some (.int a1), some (.int a2), some (.int a3), some (.int a4), some (.int a5), some (.ref 72), some (.ref 64)], [], st (sG S 65 (va_cpy (S.2.1 73) (S.2.1 65) a2.toNatClampNeg a4.toNatClampNeg a5.toNatClampNeg)) hs, 0, 0)
                obtain ⟨hg, hr⟩ := gd_some hr
                refine ⟨hg, hX _ ?_⟩
                clear hP hX hk P' X cal
                have hr := Option.some.inj hr
                subst hr
                refine Wp.stepsG 2 (fun cal X P' hk hX hP => ?_)
                exact hP _ _ h
              · clear hP hX hk P' X cal
                rw [if_pos hc] at hr
                have hr := Option.some.inj hr
                subst hr
                refine Wp.stepsG 2 (fun cal X P' hk hX hP => ?_)
                exact hP _ _ h
          · clear hP hX hk P' X cal
            rw [if_neg hc] at hr
            have hr := Option.some.inj hr
            subst hr
            refine Wp.stepsG 2 (fun cal X P' hk hX hP => ?_)
            exact hP _ _ h
        · clear hP hX hk P' X cal
          rw [if_pos hc] at hr
          have hr := Option.some.inj hr
          subst hr
          refine Wp.stepsG 2 (fun cal X P' hk hX hP => ?_)
          exact hP _ _ h
    · rw [hz16]
      rw [oN_is hz16] at hr
      refine Wp.stepsG 9 (fun cal X P' hk hX hP => ?_)
      show ((S.1 72 1) = (-1) → X (44, [some (.ref 7), some (.int a1), some (.int a2), some (.int a3), some (.int a4), some (.int a5), some (.ref 72), some (.ref 66)], [], st S hs, 0, 0)) ∧ (¬ (S.1 72 1) = (-1) → X (35, [some (.ref 7), some (.int a1), some (.int a2), some (.int a3), some (.int a4), some (.int a5), some (.ref 72), some (.ref 66)], [], st S hs, 0, 0))
      refine ⟨fun hc => hX _ ?_, fun hc => hX _ ?_⟩
      · clear hP hX hk P' X cal
        rw [if_pos hc] at hr
        have hr := Option.some.inj hr
        subst hr
        refine Wp.stepsG 2 (fun cal X P' hk hX hP => ?_)
        exact hP _ _ h
      · clear hP hX hk P' X cal
        rw [if_neg hc] at hr
        refine Wp.stepsG 4 (fun cal X P' hk hX hP => ?_)
        show (¬ (S.1 66 1) = (-1) → X (47, [some (.ref 7), some (.int a1), some (.int a2), some (.int a3), some (.int a4), some (.int a5), some (.ref 72), some (.ref 66)], [], st S hs, 0, 0)) ∧ ((S.1 66 1) = (-1) → X (44, [some (.ref 7), some (.int a1), some (.int a2), some (.int a3), some (.int a4), some (.int a5), some (.ref 72), some (.ref 66)], [], st S hs, 0, 0))
        refine ⟨fun hc => hX _ ?_, fun hc => hX _ ?_⟩
        · clear hP hX hk P' X cal
          rw [if_neg hc] at hr
          refine Wp.stepsG 5 (fun cal X P' hk hX hP => ?_)
          show ((S.1 72 1) = (S.1 66 1) → X (63, [some (.ref 7), some (.int a1), some (.int a2), some (.int a3), some (.int a4), some (.int a5), some (.ref 72), some (.ref 66)], [], st S hs, 0, 0)) ∧ (¬ (S.1 72 1) = (S.1 66 1) → X (60, [some (.ref 7), some (.int a1), some (.int a2), some (.int a3), some (.int a4), some (.int a5), some (.ref 72), some (.ref 66)], [], st S hs, 0, 0))
          refine ⟨fun hc => hX _ ?_, fun hc => hX _ ?_⟩
          · clear hP hX hk P' X cal
            rw [if_pos hc] at hr
            refine Wp.stepsG 4 (fun cal X P' hk hX hP => ?_)
            show kcall cal ix_X8_hasRun [.ref 72, .int a2, .int a5] (st S hs) [] 0 0 (0, 0) (fun v σ' c' m' => X (71, [some (.ref 7), some (.int a1), some (.int a2), some (.int a3), some (.int a4), some (.int a5), some (.ref 72), some (.ref 66)], v.toList ++ [], σ', c', m'))
            refine kcall0 rfl (hk _ _ _ _ _ _ (e_X8_hasRun_72 (d + 1) S hs a2 a5 _ ?_))
            show X (71, [some (.ref 7), some (.int a1), some (.int a2), some (.int a3), some (.int a4), some (.int a5), some (.ref 72), some (.ref 66)], [.int (r_X8_hasRun S 72 a2 a5)], st S hs, 0, 0)
            refine hX _ ?_
            clear hP hX hk P' X cal
            refine Wp.stepsG 1 (fun cal X P' hk hX hP => ?_)
            show ((r_X8_hasRun S 72 a2 a5) = 0 → X (86, [some (.ref 7), some (.int a1), some (.int a2), some (.int a3), some (.int a4), some (.int a5), some (.ref 72), some (.ref 66)], [], st S hs, 0, 0)) ∧ (¬ (r_X8_hasRun S 72 a2 a5) = 0 → X (74, [some (.ref 7), some (.int a1), some (.int a2), some (.int a3), some (.int a4), some (.int a5), some (.ref 72), some (.ref 66)], [], st S hs, 0, 0))
            refine ⟨fun hc => hX _ ?_, fun hc => hX _ ?_⟩
            · clear hP hX hk P' X cal
              rw [if_pos hc] at hr
              have hr := Option.some.inj hr
              subst hr
              refine Wp.stepsG 2 (fun cal X P' hk hX hP => ?_)
              exact hP _ _ h
            · clear hP hX hk P' X cal
              rw [if_neg hc] at hr
              refine Wp.stepsG 4 (fun cal X P' hk hX hP => ?_)
              show kcall cal ix_X8_hasRun [.ref 66, .int a4, .int a5] (st S hs) [] 0 0 (0, 0) (fun v σ' c' m' => X (83, [some (.ref 7), some (.int a1), some (.int a2), some (.int a3), some (.int a4), some (.int a5), some (.ref 72), some (.ref 66)], v.toList ++ [], σ', c', m'))
              refine kcall0 rfl (hk _ _ _ _ _ _ (e_X8_hasRun_66 (d + 1) S hs a4 a5 _ ?_))
              show X (83, [some (.ref 7), some (.int a1), some (.int a2), some (.int a3), some (.int a4), some (.int a5), some (.ref 72), some (.ref 66)], [.int (r_X8_hasRun S 66 a4 a5)], st S hs, 0, 0)
              refine hX _ ?_
              clear hP hX hk P' X cal
              refine Wp.stepsG 1 (fun cal X P' hk hX hP => ?_)
              show (¬ (r_X8_hasRun S 66 a4 a5) = 0 → X (89, [some (.ref 7), some (.int a1), some (.int a2), some (.int a3), some (.int a4), some (.int a5), some (.ref 72), some (.ref 66)], [], st S hs, 0, 0)) ∧ ((r_X8_hasRun S 66 a4 a5) = 0 → X (86, [some (.ref 7), some (.int a1), some (.int a2), some (.int a3), some (.int a4), some (.int a5), some (.ref 72), some (.ref 66)], [], st S hs, 0, 0))
              refine ⟨fun hc => hX _ ?_, fun hc => hX _ ?_⟩
              · clear hP hX hk P' X cal
                rw [if_neg hc] at hr
                refine Wp.stepsG 8 (fun cal X P' hk hX hP => ?_)
                show (¬ a2 < 0 ∧ ¬ a4 < 0 ∧ ¬ a5 < 0 ∧ a2.toNatClampNeg + a5.toNatClampNeg ≤ 60 ∧ a4.toNatClampNeg + a5.toNatClampNeg ≤ 60) ∧ X (107, [some (.ref 7), some (.int a1), some (.int a2), some (.int a3), some (.int a4), some (.int a5), some (.ref 72), some (.ref 66)], [], st (sG S 67 (va_cpy (S.2.1 73) (S.2.1 67) a2.toNatClampNeg a4.toNatClampNeg a5.toNatClampNeg)) hs, 0, 0)
                obtain ⟨hg, hr⟩ := gd_some hr
                refine ⟨hg, hX _ ?_⟩
                clear hP hX hk P' X cal
                have hr := Option.some.inj hr
                subst hr
                refine Wp.stepsG 2 (fun cal X P' hk hX hP => ?_)
                exact hP _ _ h
              · clear hP hX hk P' X cal
                rw [if_pos hc] at hr
                have hr := Option.some.inj hr
                subst hr
                refine Wp.stepsG 2 (fun cal X P' hk hX hP => ?_)
                exact hP _ _ h
          · clear hP hX hk P' X cal
            rw [if_neg hc] at hr
            have hr := Option.some.inj hr
            subst hr
            refine Wp.stepsG 2 (fun cal X P' hk hX hP => ?_)
            exact hP _ _ h
        · clear hP hX hk P' X cal
          rw [if_pos hc] at hr
          have hr := Option.some.inj hr
          subst hr
          refine Wp.stepsG 2 (fun cal X P' hk hX hP => ?_)
          exact hP _ _ h
    · rw [hz16]
      rw [oN_is hz16] at hr
      refine Wp.stepsG 9 (fun cal X P' hk hX hP => ?_)
      show ((S.1 72 1) = (-1) → X (44, [some (.ref 7), some (.int a1), some (.int a2), some (.int a3), some (.int a4), some (.int a5), some (.ref 72), some (.ref 68)], [], st S hs, 0, 0)) ∧ (¬ (S.1 72 1) = (-1) → X (35, [some (.ref 7), some (.int a1), some (.int a2), some (.int a3), some (.int a4), some (.int a5), some (.ref 72), some (.ref 68)], [], st S hs, 0, 0))
      refine ⟨fun hc => hX _ ?_, fun hc => hX _ ?_⟩
      · clear hP hX hk P' X cal
        rw [if_pos hc] at hr
        have hr := Option.some.inj hr
        subst hr
        refine Wp.stepsG 2 (fun cal X P' hk hX hP => ?_)
        exact hP _ _ h
      · clear hP hX hk P' X cal
        rw [if_neg hc] at hr
        refine Wp.stepsG 4 (fun cal X P' hk hX hP => ?_)
        show (¬ (S.1 68 1) = (-1) → X (47, [some (.ref 7), some (.int a1), some (.int a2), some (.int a3), some (.int a4), some (.int a5), some (.ref 72), some (.ref 68)], [], st S hs, 0, 0)) ∧ ((S.1 68 1) = (-1) → X (44, [some (.ref 7), some (.int a1), some (.int a2), some (.int a3), some (.int a4), some (.int a5), some (.ref 72), some (.ref 68)], [], st S hs, 0, 0))
        refine ⟨fun hc => hX _ ?_, fun hc => hX _ ?_⟩
        · clear hP hX hk P' X cal
          rw [if_neg hc] at hr
          refine Wp.stepsG 5 (fun cal X P' hk hX hP => ?_)
          show ((S.1 72 1) = (S.1 68 1) → X (63, [some (.ref 7), some (.int a1), some (.int a2), some (.int a3), some (.int a4), some (.int a5), some (.ref 72), some (.ref 68)], [], st S hs, 0, 0)) ∧ (¬ (S.1 72 1) = (S.1 68 1) → X (60, [some (.ref 7), some (.int a1), some (.int a2), some (.int a3), some (.int a4), some (.int a5), some (.ref 72), some (.ref 68)], [], st S hs, 0, 0))
          refine ⟨fun hc => hX _ ?_, fun hc => hX _ ?_⟩
          · clear hP hX hk P' X cal
            rw [if_pos hc] at hr
            refine Wp.stepsG 4 (fun cal X P' hk hX hP => ?_)
            show kcall cal ix_X8_hasRun [.ref 72, .int a2, .int a5] (st S hs) [] 0 0 (0, 0) (fun v σ' c' m' => X (71, [some (.ref 7), some (.int a1), some (.int a2), some (.int a3), some (.int a4), some (.int a5), some (.ref 72), some (.ref 68)], v.toList ++ [], σ', c', m'))
            refine kcall0 rfl (hk _ _ _ _ _ _ (e_X8_hasRun_72 (d + 1) S hs a2 a5 _ ?_))
            show X (71, [some (.ref 7), some (.int a1), some (.int a2), some (.int a3), some (.int a4), some (.int a5), some (.ref 72), some (.ref 68)], [.int (r_X8_hasRun S 72 a2 a5)], st S hs, 0, 0)
            refine hX _ ?_
            clear hP hX hk P' X cal
            refine Wp.stepsG 1 (fun cal X P' hk hX hP => ?_)
            show ((r_X8_hasRun S 72 a2 a5) = 0 → X (86, [some (.ref 7), some (.int a1), some (.int a2), some (.int a3), some (.int a4), some (.int a5), some (.ref 72), some (.ref 68)], [], st S hs, 0, 0)) ∧ (¬ (r_X8_hasRun S 72 a2 a5) = 0 → X (74, [some (.ref 7), some (.int a1), some (.int a2), some (.int a3), some (.int a4), some (.int a5), some (.ref 72), some (.ref 68)], [], st S hs, 0, 0))
            refine ⟨fun hc => hX _ ?_, fun hc => hX _ ?_⟩
            · clear hP hX hk P' X cal
              rw [if_pos hc] at hr
              have hr := Option.some.inj hr
              subst hr
              refine Wp.stepsG 2 (fun cal X P' hk hX hP => ?_)
              exact hP _ _ h
            · clear hP hX hk P' X cal
              rw [if_neg hc] at hr
              refine Wp.stepsG 4 (fun cal X P' hk hX hP => ?_)
              show kcall cal ix_X8_hasRun [.ref 68, .int a4, .int a5] (st S hs) [] 0 0 (0, 0) (fun v σ' c' m' => X (83, [some (.ref 7), some (.int a1), some (.int a2), some (.int a3), some (.int a4), some (.int a5), some (.ref 72), some (.ref 68)], v.toList ++ [], σ', c', m'))
              refine kcall0 rfl (hk _ _ _ _ _ _ (e_X8_hasRun_68 (d + 1) S hs a4 a5 _ ?_))
              show X (83, [some (.ref 7), some (.int a1), some (.int a2), some (.int a3), some (.int a4), some (.int a5), some (.ref 72), some (.ref 68)], [.int (r_X8_hasRun S 68 a4 a5)], st S hs, 0, 0)
              refine hX _ ?_
              clear hP hX hk P' X cal
              refine Wp.stepsG 1 (fun cal X P' hk hX hP => ?_)
              show (¬ (r_X8_hasRun S 68 a4 a5) = 0 → X (89, [some (.ref 7), some (.int a1), some (.int a2), some (.int a3), some (.int a4), some (.int a5), some (.ref 72), some (.ref 68)], [], st S hs, 0, 0)) ∧ ((r_X8_hasRun S 68 a4 a5) = 0 → X (86, [some (.ref 7), some (.int a1), some (.int a2), some (.int a3), some (.int a4), some (.int a5), some (.ref 72), some (.ref 68)], [], st S hs, 0, 0))
              refine ⟨fun hc => hX _ ?_, fun hc => hX _ ?_⟩
              · clear hP hX hk P' X cal
                rw [if_neg hc] at hr
                refine Wp.stepsG 8 (fun cal X P' hk hX hP => ?_)
                show (¬ a2 < 0 ∧ ¬ a4 < 0 ∧ ¬ a5 < 0 ∧ a2.toNatClampNeg + a5.toNatClampNeg ≤ 60 ∧ a4.toNatClampNeg + a5.toNatClampNeg ≤ 60) ∧ X (107, [some (.ref 7), some (.int a1), some (.int a2), some (.int a3), some (.int a4), some (.int a5), some (.ref 72), some (.ref 68)], [], st (sG S 69 (va_cpy (S.2.1 73) (S.2.1 69) a2.toNatClampNeg a4.toNatClampNeg a5.toNatClampNeg)) hs, 0, 0)
                obtain ⟨hg, hr⟩ := gd_some hr
                refine ⟨hg, hX _ ?_⟩
                clear hP hX hk P' X cal
                have hr := Option.some.inj hr
                subst hr
                refine Wp.stepsG 2 (fun cal X P' hk hX hP => ?_)
                exact hP _ _ h
              · clear hP hX hk P' X cal
                rw [if_pos hc] at hr
                have hr := Option.some.inj hr
                subst hr
                refine Wp.stepsG 2 (fun cal X P' hk hX hP => ?_)
                exact hP _ _ h
          · clear hP hX hk P' X cal
            rw [if_neg hc] at hr
            have hr := Option.some.inj hr
            subst hr
            refine Wp.stepsG 2 (fun cal X P' hk hX hP => ?_)
            exact hP _ _ h
        · clear hP hX hk P' X cal
          rw [if_pos hc] at hr
          have hr := Option.some.inj hr
          subst hr
          refine Wp.stepsG 2 (fun cal X P' hk hX hP => ?_)
          exact hP _ _ h
    · rw [hz16]
      rw [oN_is hz16] at hr
      refine Wp.stepsG 9 (fun cal X P' hk hX hP => ?_)
      show ((S.1 72 1) = (-1) → X (44, [some (.ref 7), some (.int a1), some (.int a2), some (.int a3), some (.int a4), some (.int a5), some (.ref 72), some (.ref 70)], [], st S hs, 0, 0)) ∧ (¬ (S.1 72 1) = (-1) → X (35, [some (.ref 7), some (.int a1), some (.int a2), some (.int a3), some (.int a4), some (.int a5), some (.ref 72), some (.ref 70)], [], st S hs, 0, 0))
      refine ⟨fun hc => hX _ ?_, fun hc => hX _ ?_⟩
      · clear hP hX hk P' X cal
        rw [if_pos hc] at hr
        have hr := Option.some.inj hr
        subst hr
        refine Wp.stepsG 2 (fun cal X P' hk hX hP => ?_)
        exact hP _ _ h
      · clear hP hX hk P' X cal
        rw [if_neg hc] at hr
        refine Wp.stepsG 4 (fun cal X P' hk hX hP => ?_)
        show (¬ (S.1 70 1) = (-1) → X (47, [some (.ref 7), some (.int a1), some (.int a2), some (.int a3), some (.int a4), some (.int a5), some (.ref 72), some (.ref 70)], [], st S hs, 0, 0)) ∧ ((S.1 70 1) = (-1) → X (44, [some (.ref 7), some (.int a1), some (.int a2), some (.int a3), some (.int a4), some (.int a5), some (.ref 72), some (.ref 70)], [], st S hs, 0, 0))
        refine ⟨fun hc => hX _ ?_, fun hc => hX _ ?_⟩
        · clear hP hX hk P' X cal
          rw [if_neg hc] at hr
          refine Wp.stepsG 5 (fun cal X P' hk hX hP => ?_)
          show ((S.1 72 1) = (S.1 70 1) → X (63, [some (.ref 7), some (.int a1), some (.int a2), some (.int a3), some (.int a4), some (.int a5), some (.ref 72), some (.ref 70)], [], st S hs, 0, 0)) ∧ (¬ (S.1 72 1) = (S.1 70 1) → X (60, [some (.ref 7), some (.int a1), some (.int a2), some (.int a3), some (.int a4), some (.int a5), some (.ref 72), some (.ref 70)], [], st S hs, 0, 0))
          refine ⟨fun hc => hX _ ?_, fun hc => hX _ ?_⟩
          · clear hP hX hk P' X cal
            rw [if_pos hc] at hr
            refine Wp.stepsG 4 (fun cal X P' hk hX hP => ?_)
            show kcall cal ix_X8_hasRun [.ref 72, .int a2, .int a5] (st S hs) [] 0 0 (0, 0) (fun v σ' c' m' => X (71, [some (.ref 7), some (.int a1), some (.int a2), some (.int a3), some (.int a4), some (.int a5), some (.ref 72), some (.ref 70)], v.toList ++ [], σ', c', m'))
            refine kcall0 rfl (hk _ _ _ _ _ _ (e_X8_hasRun_72 (d + 1) S hs a2 a5 _ ?_))
            show X (71, [some (.ref 7), some (.int a1), some (.int a2), some (.int a3), some (.int a4), some (.int a5), some (.ref 72), some (.ref 70)], [.int (r_X8_hasRun S 72 a2 a5)], st S hs, 0, 0)
            refine hX _ ?_
            clear hP hX hk P' X cal
            refine Wp.stepsG 1 (fun cal X P' hk hX hP => ?_)
            show ((r_X8_hasRun S 72 a2 a5) = 0 → X (86, [some (.ref 7), some (.int a1), some (.int a2), some (.int a3), some (.int a4), some (.int a5), some (.ref 72), some (.ref 70)], [], st S hs, 0, 0)) ∧ (¬ (r_X8_hasRun S 72 a2 a5) = 0 → X (74, [some (.ref 7), some (.int a1), some (.int a2), some (.int a3), some (.int a4), some (.int a5), some (.ref 72), some (.ref 70)], [], st S hs, 0, 0))
            refine ⟨fun hc => hX _ ?_, fun hc => hX _ ?_⟩
            · clear hP hX hk P' X cal
              rw [if_pos hc] at hr
              have hr := Option.some.inj hr
              subst hr
              refine Wp.stepsG 2 (fun cal X P' hk hX hP => ?_)
              exact hP _ _ h
            · clear hP hX hk P' X cal
              rw [if_neg hc] at hr
              refine Wp.stepsG 4 (fun cal X P' hk hX hP => ?_)
              show kcall cal ix_X8_hasRun [.ref 70, .int a4, .int a5] (st S hs) [] 0 0 (0, 0) (fun v σ' c' m' => X (83, [some (.ref 7), some (.int a1), some (.int a2), some (.int a3), some (.int a4), some (.int a5), some (.ref 72), some (.ref 70)], v.toList ++ [], σ', c', m'))
              refine kcall0 rfl (hk _ _ _ _ _ _ (e_X8_hasRun_70 (d + 1) S hs a4 a5 _ ?_))
              show X (83, [some (.ref 7), some (.int a1), some (.int a2), some (.int a3), some (.int a4), some (.int a5), some (.ref 72), some (.ref 70)], [.int (r_X8_hasRun S 70 a4 a5)], st S hs, 0, 0)
              refine hX _ ?_
              clear hP hX hk P' X cal
              refine Wp.stepsG 1 (fun cal X P' hk hX hP => ?_)
              show (¬ (r_X8_hasRun S 70 a4 a5) = 0 → X (89, [some (.ref 7), some (.int a1), some (.int a2), some (.int a3), some (.int a4), some (.int a5), some (.ref 72), some (.ref 70)], [], st S hs, 0, 0)) ∧ ((r_X8_hasRun S 70 a4 a5) = 0 → X (86, [some (.ref 7), some (.int a1), some (.int a2), some (.int a3), some (.int a4), some (.int a5), some (.ref 72), some (.ref 70)], [], st S hs, 0, 0))
              refine ⟨fun hc => hX _ ?_, fun hc => hX _ ?_⟩
              · clear hP hX hk P' X cal
                rw [if_neg hc] at hr
                refine Wp.stepsG 8 (fun cal X P' hk hX hP => ?_)
                show (¬ a2 < 0 ∧ ¬ a4 < 0 ∧ ¬ a5 < 0 ∧ a2.toNatClampNeg + a5.toNatClampNeg ≤ 60 ∧ a4.toNatClampNeg + a5.toNatClampNeg ≤ 60) ∧ X (107, [some (.ref 7), some (.int a1), some (.int a2), some (.int a3), some (.int a4), some (.int a5), some (.ref 72), some (.ref 70)], [], st (sG S 71 (va_cpy (S.2.1 73) (S.2.1 71) a2.toNatClampNeg a4.toNatClampNeg a5.toNatClampNeg)) hs, 0, 0)
                obtain ⟨hg, hr⟩ := gd_some hr
                refine ⟨hg, hX _ ?_⟩
                clear hP hX hk P' X cal
                have hr := Option.some.inj hr
                subst hr
                refine Wp.stepsG 2 (fun cal X P' hk hX hP => ?_)
                exact hP _ _ h
              · clear hP hX hk P' X cal
                rw [if_pos hc] at hr
                have hr := Option.some.inj hr
                subst hr
                refine Wp.stepsG 2 (fun cal X P' hk hX hP => ?_)
                exact hP _ _ h
          · clear hP hX hk P' X cal
            rw [if_neg hc] at hr
            have hr := Option.some.inj hr
            subst hr
            refine Wp.stepsG 2 (fun cal X P' hk hX hP => ?_)
            exact hP _ _ h
        · clear hP hX hk P' X cal
          rw [if_pos hc] at hr
          have hr := Option.some.inj hr
          subst hr
          refine Wp.stepsG 2 (fun cal X P' hk hX hP => ?_)
          exact hP _ _ h
    · rw [hz16]
      rw [oN_is hz16] at hr
      refine Wp.stepsG 9 (fun cal X P' hk hX hP => ?_)
      show ((S.1 72 1) = (-1) → X (44, [some (.ref 7), some (.int a1), some (.int a2), some (.int a3), some (.int a4), some (.int a5), some (.ref 72), some (.ref 72)], [], st S hs, 0, 0)) ∧ (¬ (S.1 72 1) = (-1) → X (35, [some (.ref 7), some (.int a1), some (.int a2), some (.int a3), some (.int a4), some (.int a5), some (.ref 72), some (.ref 72)], [], st S hs, 0, 0))
      refine ⟨fun hc => hX _ ?_, fun hc => hX _ ?_⟩
      · clear hP hX hk P' X cal
        rw [if_pos hc] at hr
        have hr := Option.some.inj hr
        subst hr
        refine Wp.stepsG 2 (fun cal X P' hk hX hP => ?_)
        exact hP _ _ h
      · clear hP hX hk P' X cal
        rw [if_neg hc] at hr
        refine Wp.stepsG 4 (fun cal X P' hk hX hP => ?_)
        show (¬ (S.1 72 1) = (-1) → X (47, [some (.ref 7), some (.int a1), some (.int a2), some (.int a3), some (.int a4), some (.int a5), some (.ref 72), some (.ref 72)], [], st S hs, 0, 0)) ∧ ((S.1 72 1) = (-1) → X (44, [some (.ref 7), some (.int a1), some (.int a2), some (.int a3), some (.int a4), some (.int a5), some (.ref 72), some (.ref 72)], [], st S hs, 0, 0))
        refine ⟨fun hc => hX _ ?_, fun hc => hX _ ?_⟩
        · clear hP hX hk P' X cal
          rw [if_neg hc] at hr
          refine Wp.stepsG 5 (fun cal X P' hk hX hP => ?_)
          show ((S.1 72 1) = (S.1 72 1) → X (63, [some (.ref 7), some (.int a1), some (.int a2), some (.int a3), some (.int a4), some (.int a5), some (.ref 72), some (.ref 72)], [], st S hs, 0, 0)) ∧ (¬ (S.1 72 1) = (S.1 72 1) → X (60, [some (.ref 7), some (.int a1), some (.int a2), some (.int a3), some (.int a4), some (.int a5), some (.ref 72), some (.ref 72)], [], st S hs, 0, 0))
          refine ⟨fun hc => hX _ ?_, fun hc => hX _ ?_⟩
          · clear hP hX hk P' X cal
            rw [if_pos hc] at hr
            refine Wp.stepsG 4 (fun cal X P' hk hX hP => ?_)
            show kcall cal ix_X8_hasRun [.ref 72, .int a2, .int a5] (st S hs) [] 0 0 (0, 0) (fun v σ' c' m' => X (71, [some (.ref 7), some (.int a1), some (.int a2), some (.int a3), some (.int a4), some (.int a5), some (.ref 72), some (.ref 72)], v.toList ++ [], σ', c', m'))
            refine kcall0 rfl (hk _ _ _ _ _ _ (e_X8_hasRun_72 (d + 1) S hs a2 a5 _ ?_))
            show X (71, [some (.ref 7), some (.int a1), some (.int a2), some (.int a3), some (.int a4), some (.int a5), some (.ref 72), some (.ref 72)], [.int (r_X8_hasRun S 72 a2 a5)], st S hs, 0, 0)
            refine hX _ ?_
            clear hP hX hk P' X cal
            refine Wp.stepsG 1 (fun cal X P' hk hX hP => ?_)
            show ((r_X8_hasRun S 72 a2 a5) = 0 → X (86, [some (.ref 7), some (.int a1), some (.int a2), some (.int a3), some (.int a4), some (.int a5), some (.ref 72), some (.ref 72)], [], st S hs, 0, 0)) ∧ (¬ (r_X8_hasRun S 72 a2 a5) = 0 → X (74, [some (.ref 7), some (.int a1), some (.int a2), some (.int a3), some (.int a4), some (.int a5), some (.ref 72), some (.ref 72)], [], st S hs, 0, 0))
            refine ⟨fun hc => hX _ ?_, fun hc => hX _ ?_⟩
            · clear hP hX hk P' X cal
              rw [if_pos hc] at hr
              have hr := Option.some.inj hr
              subst hr
              refine Wp.stepsG 2 (fun cal X P' hk hX hP => ?_)
              exact hP _ _ h
            · clear hP hX hk P' X cal
              rw [if_neg hc] at hr
              refine Wp.stepsG 4 (fun cal X P' hk hX hP => ?_)
              show kcall cal ix_X8_hasRun [.ref 72, .int a4, .int a5] (st S hs) [] 0 0 (0, 0) (fun v σ' c' m' => X (83, [some (.ref 7), some (.int a1), some (.int a2), some (.int a3), some (.int a4), some (.int a5), some (.ref 72), some (.ref 72)], v.toList ++ [], σ', c', m'))
              refine kcall0 rfl (hk _ _ _ _ _ _ (e_X8_hasRun_72 (d + 1) S hs a4 a5 _ ?_))
              show X (83, [some (.ref 7), some (.int a1), some (.int a2), some (.int a3), some (.int a4), some (.int a5), some (.ref 72), some (.ref 72)], [.int (r_X8_hasRun S 72 a4 a5)], st S hs, 0, 0)
              refine hX _ ?_
              clear hP hX hk P' X cal
              refine Wp.stepsG 1 (fun cal X P' hk hX hP => ?_)
              show (¬ (r_X8_hasRun S 72 a4 a5) = 0 → X (89, [some (.ref 7), some (.int a1), some (.int a2), some (.int a3), some (.int a4), some (.int a5), some (.ref 72), some (.ref 72)], [], st S hs, 0, 0)) ∧ ((r_X8_hasRun S 72 a4 a5) = 0 → X (86, [some (.ref 7), some (.int a1), some (.int a2), some (.int a3), some (.int a4), some (.int a5), some (.ref 72), some (.ref 72)], [], st S hs, 0, 0))
              refine ⟨fun hc => hX _ ?_, fun hc => hX _ ?_⟩
              · clear hP hX hk P' X cal
                rw [if_neg hc] at hr
                refine Wp.stepsG 8 (fun cal X P' hk hX hP => ?_)
                show (¬ a2 < 0 ∧ ¬ a4 < 0 ∧ ¬ a5 < 0 ∧ a2.toNatClampNeg + a5.toNatClampNeg ≤ 60 ∧ a4.toNatClampNeg + a5.toNatClampNeg ≤ 60) ∧ X (107, [some (.ref 7), some (.int a1), some (.int a2), some (.int a3), some (.int a4), some (.int a5), some (.ref 72), some (.ref 72)], [], st (sG S 73 (va_cpy (S.2.1 73) (S.2.1 73) a2.toNatClampNeg a4.toNatClampNeg a5.toNatClampNeg)) hs, 0, 0)
                obtain ⟨hg, hr⟩ := gd_some hr
                refine ⟨hg, hX _ ?_⟩
                clear hP hX hk P' X cal
                have hr := Option.some.inj hr
                subst hr
                refine Wp.stepsG 2 (fun cal X P' hk hX hP => ?_)
                exact hP _ _ h
              · clear hP hX hk P' X cal
                rw [if_pos hc] at hr
                have hr := Option.some.inj hr
                subst hr
                refine Wp.stepsG 2 (fun cal X P' hk hX hP => ?_)
                exact hP _ _ h
          · clear hP hX hk P' X cal
            rw [if_neg hc] at hr
            have hr := Option.some.inj hr
            subst hr
            refine Wp.stepsG 2 (fun cal X P' hk hX hP => ?_)
            exact hP _ _ h
        · clear hP hX hk P' X cal
          rw [if_pos hc] at hr
          have hr := Option.some.inj hr
          subst hr
          refine Wp.stepsG 2 (fun cal X P' hk hX hP => ?_)
          exact hP _ _ h
    · rw [hz16]
      rw [oN_is hz16] at hr
      refine Wp.stepsG 9 (fun cal X P' hk hX hP => ?_)
      show ((S.1 72 1) = (-1) → X (44, [some (.ref 7), some (.int a1), some (.int a2), some (.int a3), some (.int a4), some (.int a5), some (.ref 72), some (.ref 74)], [], st S hs, 0, 0)) ∧ (¬ (S.1 72 1) = (-1) → X (35, [some (.ref 7), some (.int a1), some (.int a2), some (.int a3), some (.int a4), some (.int a5), some (.ref 72), some (.ref 74)], [], st S hs, 0, 0))
      refine ⟨fun hc => hX _ ?_, fun hc => hX _ ?_⟩
      · clear hP hX hk P' X cal
        rw [if_pos hc] at hr
        have hr := Option.some.inj hr
        subst hr
        refine Wp.stepsG 2 (fun cal X P' hk hX hP => ?_)
        exact hP _ _ h
      · clear hP hX hk P' X cal
        rw [if_neg hc] at hr
        refine Wp.stepsG 4 (fun cal X P' hk hX hP => ?_)
        show (¬ (S.1 74 1) = (-1) → X (47, [some (.ref 7), some (.int a1), some (.int a2), some (.int a3), some (.int a4), some (.int a5), some (.ref 72), some (.ref 74)], [], st S hs, 0, 0)) ∧ ((S.1 74 1) = (-1) → X (44, [some (.ref 7), some (.int a1), some (.int a2), some (.int a3), some (.int a4), some (.int a5), some (.ref 72), some (.ref 74)], [], st S hs, 0, 0))
        refine ⟨fun hc => hX _ ?_, fun hc => hX _ ?_⟩
        · clear hP hX hk P' X cal
          rw [if_neg hc] at hr
          refine Wp.stepsG 5 (fun cal X P' hk hX hP => ?_)
          show ((S.1 72 1) = (S.1 74 1) → X (63, [some (.ref 7), some (.int a1), some (.int a2), some (.int a3), some (.int a4), some (.int a5), some (.ref 72), some (.ref 74)], [], st S hs, 0, 0)) ∧ (¬ (S.1 72 1) = (S.1 74 1) → X (60, [some (.ref 7), some (.int a1), some (.int a2), some (.int a3), some (.int a4), some (.int a5), some (.ref 72), some (.ref 74)], [], st S hs, 0, 0))
          refine ⟨fun hc => hX _ ?_, fun hc => hX _ ?_⟩
          · clear hP hX hk P' X cal
            rw [if_pos hc] at hr
            refine Wp.stepsG 4 (fun cal X P' hk hX hP => ?_)
            show kcall cal ix_X8_hasRun [.ref 72, .int a2, .int a5] (st S hs) [] 0 0 (0, 0) (fun v σ' c' m' => X (71, [some (.ref 7), some (.int a1), some (.int a2), some (.int a3), some (.int a4), some (.int a5), some (.ref 72), some (.ref 74)], v.toList ++ [], σ', c', m'))
            refine kcall0 rfl (hk _ _ _ _ _ _ (e_X8_hasRun_72 (d + 1) S hs a2 a5 _ ?_))
            show X (71, [some (.ref 7), some (.int a1), some (.int a2), some (.int a3), some (.int a4), some (.int a5), some (.ref 72), some (.ref 74)], [.int (r_X8_hasRun S 72 a2 a5)], st S hs, 0, 0)
            refine hX _ ?_
            clear hP hX hk P' X cal
            refine Wp.stepsG 1 (fun cal X P' hk hX hP => ?_)
            show ((r_X8_hasRun S 72 a2 a5) = 0 → X (86, [some (.ref 7), some (.int a1), some (.int a2), some (.int a3), some (.int a4), some (.int a5), some (.ref 72), some (.ref 74)], [], st S hs, 0, 0)) ∧ (¬ (r_X8_hasRun S 72 a2 a5) = 0 → X (74, [some (.ref 7), some (.int a1), some (.int a2), some (.int a3), some (.int a4), some (.int a5), some (.ref 72), some (.ref 74)], [], st S hs, 0, 0))
            refine ⟨fun hc => hX _ ?_, fun hc => hX _ ?_⟩
            · clear hP hX hk P' X cal
              rw [if_pos hc] at hr
              have hr := Option.some.inj hr
              subst hr
              refine Wp.stepsG 2 (fun cal X P' hk hX hP => ?_)
              exact hP _ _ h
            · clear hP hX hk P' X cal
              rw [if_neg hc] at hr
              refine Wp.stepsG 4 (fun cal X P' hk hX hP => ?_)
              show kcall cal ix_X8_hasRun [.ref 74, .int a4, .int a5] (st S hs) [] 0 0 (0, 0) (fun v σ' c' m' => X (83, [some (.ref 7), some (.int a1), some (.int a2), some (.int a3), some (.int a4), some (.int a5), some (.ref 72), some (.ref 74)], v.toList ++ [], σ', c', m'))
              refine kcall0 rfl (hk _ _ _ _ _ _ (e_X8_hasRun_74 (d + 1) S hs a4 a5 _ ?_))
              show X (83, [some (.ref 7), some (.int a1), some (.int a2), some (.int a3), some (.int a4), some (.int a5), some (.ref 72), some (.ref 74)], [.int (r_X8_hasRun S 74 a4 a5)], st S hs, 0, 0)
              refine hX _ ?_
              clear hP hX hk P' X cal
              refine Wp.stepsG 1 (fun cal X P' hk hX hP => ?_)
              show (¬ (r_X8_hasRun S 74 a4 a5) = 0 → X (89, [some (.ref 7), some (.int a1), some (.int a2), some (.int a3), some (.int a4), some (.int a5), some (.ref 72), some (.ref 74)], [], st S hs, 0, 0)) ∧ ((r_X8_hasRun S 74 a4 a5) = 0 → X (86, [some (.ref 7), some (.int a1), some (.int a2), some (.int a3), some (.int a4), some (.int a5), some (.ref 72), some (.ref 74)], [], st S hs, 0, 0))
              refine ⟨fun hc => hX _ ?_, fun hc => hX _ ?_⟩
              · clear hP hX hk P' X cal
                rw [if_neg hc] at hr
                refine Wp.stepsG 8 (fun cal X P' hk hX hP => ?_)
                show (¬ a2 < 0 ∧ ¬ a4 < 0 ∧ ¬ a5 < 0 ∧ a2.toNatClampNeg + a5.toNatClampNeg ≤ 60 ∧ a4.toNatClampNeg + a5.toNatClampNeg ≤ 60) ∧ X (107, [some (.ref 7), some (.int a1), some (.int a2), some (.int a3), some (.int a4), some (.int a5), some (.ref 72), some (.ref 74)], [], st (sG S 75 (va_cpy (S.2.1 73) (S.2.1 75) a2.toNatClampNeg a4.toNatClampNeg a5.toNatClampNeg)) hs, 0, 0)
                obtain ⟨hg, hr⟩ := gd_some hr
                refine ⟨hg, hX _ ?_⟩
                clear hP hX hk P' X cal
                have hr := Option.some.inj hr
                subst hr
                refine Wp.stepsG 2 (fun cal X P' hk hX hP => ?_)
                exact hP _ _ h
              · clear hP hX hk P' X cal
                rw [if_pos hc] at hr
                have hr := Option.some.inj hr
                subst hr
                refine Wp.stepsG 2 (fun cal X P' hk hX hP => ?_)
                exact hP _ _ h
          · clear hP hX hk P' X cal
            rw [if_neg hc] at hr
            have hr := Option.some.inj hr
            subst hr
            refine Wp.stepsG 2 (fun cal X P' hk hX hP => ?_)
            exact hP _ _ h
        · clear hP hX hk P' X cal
          rw [if_pos hc] at hr
          have hr := Option.some.inj hr
          subst hr
          refine Wp.stepsG 2 (fun cal X P' hk hX hP => ?_)
          exact hP _ _ h
  · rw [hz10]
    rw [oN_is hz10] at hr
    refine Wp.stepsG 4 (fun cal X P' hk hX hP => ?_)
    show kcall cal ix_X11_tapeAt [.ref 7, .int a3] (st S hs) [] 0 0 (0, 0) (fun v σ' c' m' => X (12, [some (.ref 7), some (.int a1), some (.int a2), some (.int a3), some (.int a4), some (.int a5), some (.ref 74), none], v.toList ++ [], σ', c', m'))
    obtain ⟨q9, hq9, hr⟩ := bd_some hr
    refine kcall0 rfl (hk _ _ _ _ _ _ (e_X11_tapeAt (d + 0) S hs a3 q9 hq9 _ ?_))
    show X (12, [some (.ref 7), some (.int a1), some (.int a2), some (.int a3), some (.int a4), some (.int a5), some (.ref 74), none], [va_rf q9], st S hs, 0, 0)
    refine hX _ ?_
    clear hP hX hk P' X cal
    rcases c_X11_tapeAt hq9 with hz17 | hz17 | hz17 | hz17 | hz17 | hz17 | hz17
    · rw [hz17]
      rw [oN_no hz17] at hr
      have hr := Option.some.inj hr
      subst hr
      refine Wp.stepsG 7 (fun cal X P' hk hX hP => ?_)
      exact hP _ _ h
    · rw [hz17]
      rw [oN_is hz17] at hr
      refine Wp.stepsG 9 (fun cal X P' hk hX hP => ?_)
      show ((S.1 74 1) = (-1) → X (44, [some (.ref 7), some (.int a1), some (.int a2), some (.int a3), some (.int a4), some (.int a5), some (.ref 74), some (.ref 64)], [], st S hs, 0, 0)) ∧ (¬ (S.1 74 1) = (-1) → X (35, [some (.ref 7), some (.int a1), some (.int a2), some (.int a3), some (.int a4), some (.int a5), some (.ref 74), some (.ref 64)], [], st S hs, 0, 0))
      refine ⟨fun hc => hX _ ?_, fun hc => hX _ ?_⟩
      · clear hP hX hk P' X cal
        rw [if_pos hc] at hr
        have hr := Option.some.inj hr
        subst hr
        refine Wp.stepsG 2 (fun cal X P' hk hX hP => ?_)
        exact hP _ _ h
      · clear hP hX hk P' X cal
        rw [if_neg hc] at hr
        refine Wp.stepsG 4 (fun cal X P' hk hX hP => ?_)
        show (¬ (S.1 64 1) = (-1) → X (47, [some (.ref 7), some (.int a1), some (.int a2), some (.int a3), some (.int a4), some (.int a5), some (.ref 74), some (.ref 64)], [], st S hs, 0, 0)) ∧ ((S.1 64 1) = (-1) → X (44, [some (.ref 7), some (.int a1), some (.int a2), some (.int a3), some (.int a4), some (.int a5), some (.ref 74), some (.ref 64)], [], st S hs, 0, 0))
        refine ⟨fun hc => hX _ ?_, fun hc => hX _ ?_⟩
        · clear hP hX hk P' X cal
          rw [if_neg hc] at hr
          refine Wp.stepsG 5 (fun cal X P' hk hX hP => ?_)
          show ((S.1 74 1) = (S.1 64 1) → X (63, [some (.ref 7), some (.int a1), some (.int a2), some (.int a3), some (.int a4), some (.int a5), some (.ref 74), some (.ref 64)], [], st S hs, 0, 0)) ∧ (¬ (S.1 74 1) = (S.1 64 1) → X (60, [some (.ref 7), some (.int a1), some (.int a2), some (.int a3), some (.int a4), some (.int a5), some (.ref 74), some (.ref 64)], [], st S hs, 0, 0))
          refine ⟨fun hc => hX _ ?_, fun hc => hX _ ?_⟩
          · clear hP hX hk P' X cal
            rw [if_pos hc] at hr
            refine Wp.stepsG 4 (fun cal X P' hk hX hP => ?_)
            show kcall cal ix_X8_hasRun [.ref 74, .int a2, .int a5] (st S hs) [] 0 0 (0, 0) (fun v σ' c' m' => X (71, [some (.ref 7), some (.int a1), some (.int a2), some (.int a3), some (.int a4), some (.int a5), some (.ref 74), some (.ref 64)], v.toList ++ [], σ', c', m'))
            refine kcall0 rfl (hk _ _ _ _ _ _ (e_X8_hasRun_74 (d + 1) S hs a2 a5 _ ?_))
            show X (71, [some (.ref 7), some (.int a1), some (.int a2), some (.int a3), some (.int a4), some (.int a5), some (.ref 74), some (.ref 64)], [.int (r_X8_hasRun S 74 a2 a5)], st S hs, 0, 0)
            refine hX _ ?_
            clear hP hX hk P' X cal
            refine Wp.stepsG 1 (fun cal X P' hk hX hP => ?_)
            show ((r_X8_hasRun S 74 a2 a5) = 0 → X (86, [some (.ref 7), some (.int a1), some (.int a2), some (.int a3), some (.int a4), some (.int a5), some (.ref 74), some (.ref 64)], [], st S hs, 0, 0)) ∧ (¬ (r_X8_hasRun S 74 a2 a5) = 0 → X (74, [some (.ref 7), some (.int a1), some (.int a2), some (.int a3), some (.int a4), some (.int a5), some (.ref 74), some (.ref 64)], [], st S hs, 0, 0))
            refine ⟨fun hc => hX _ ?_, fun hc => hX _ ?_⟩
            · clear hP hX hk P' X cal
              rw [if_pos hc] at hr
              have hr := Option.some.inj hr
              subst hr
              refine Wp.stepsG 2 (fun cal X P' hk hX hP => ?_)
              exact hP _ _ h
            · clear hP hX hk P' X cal
              rw [if_neg hc] at hr
              refine Wp.stepsG 4 (fun cal X P' hk hX hP => ?_)
              show kcall cal ix_X8_hasRun [.ref 64, .int a4, .int a5] (st S hs) [] 0 0 (0, 0) (fun v σ' c' m' => X (83, [some (.ref 7), some (.int a1), some (.int a2), some (.int a3), some (.int a4), some (.int a5), some (.ref 74), some (.ref 64)], v.toList ++ [], σ', c', m'))
              refine kcall0 rfl (hk _ _ _ _ _ _ (e_X8_hasRun_64 (d + 1) S hs a4 a5 _ ?_))
              show X (83, [some (.ref 7), some (.int a1), some (.int a2), some (.int a3), some (.int a4), some (.int a5), some (.ref 74), some (.ref 64)], [.int (r_X8_hasRun S 64 a4 a5)], st S hs, 0, 0)
              refine hX _ ?_
              clear hP hX hk P' X cal
              refine Wp.stepsG 1 (fun cal X P' hk hX hP => ?_)
              show (¬ (r_X8_hasRun S 64 a4 a5) = 0 → X (89, [some (.ref 7), some (.int a1), some (.int a2), some (.int a3), some (.int a4), some (.int a5), some (.ref 74), some (.ref 64)], [], st S hs, 0, 0)) ∧ ((r_X8_hasRun S 64 a4 a5) = 0 → X (86, [some (.ref 7), some (.int a1), some (.int a2), some (.int a3), some (.int a4), some (.int a5), some (.ref 74), some (.ref 64)], [], st S hs, 0, 0))
              refine ⟨fun hc => hX _ ?_, fun hc => hX _ ?_⟩
              · clear hP hX hk P' X cal
                rw [if_neg hc] at hr
                refine Wp.stepsG 8 (fun cal X P' hk hX hP => ?_)
                show (¬ a2 < 0 ∧ ¬ a4 < 0 ∧ ¬ a5 < 0 ∧ a2.toNatClampNeg + a5.toNatClampNeg ≤ 60 ∧ a4.toNatClampNeg + a5.toNatClampNeg ≤ 60) ∧ X (107, [some (.ref 7), some (.int a1), some (.int a2), some (.int a3), some (.int a4), some (.int a5), some (.ref 74), some (.ref 64)], [], st (sG S 65 (va_cpy (S.2.1 75) (S.2.1 65) a2.toNatClampNeg a4.toNatClampNeg a5.toNatClampNeg)) hs, 0, 0)
                obtain ⟨hg, hr⟩ := gd_some hr
                refine ⟨hg, hX _ ?_⟩
                clear hP hX hk P' X cal
                have hr := Option.some.inj hr
                subst hr
                refine Wp.stepsG 2 (fun cal X P' hk hX hP => ?_)
                exact hP _ _ h
              · clear hP hX hk P' X cal
                rw [if_pos hc] at hr
                have hr := Option.some.inj hr
                subst hr
                refine Wp.stepsG 2 (fun cal X P' hk hX hP => ?_)
                exact hP _ _ h
          · clear hP hX hk P' X cal
            rw [if_neg hc] at hr
            have hr := Option.some.inj hr
            subst hr
            refine Wp.stepsG 2 (fun cal X P' hk hX hP => ?_)
            exact hP _ _ h
        · clear hP hX hk P' X cal
          rw [if_pos hc] at hr
          have hr := Option.some.inj hr
          subst hr
          refine Wp.stepsG 2 (fun cal X P' hk hX hP => ?_)
          exact hP _ _ h
    · rw [hz17]
      rw [oN_is hz17] at hr
      refine Wp.stepsG 9 (fun cal X P' hk hX hP => ?_)
      show ((S.1 74 1) = (-1) → X (44, [some (.ref 7), some (.int a1), some (.int a2), some (.int a3), some (.int a4), some (.int a5), some (.ref 74), some (.ref 66)], [], st S hs, 0, 0)) ∧ (¬ (S.1 74 1) = (-1) → X (35, [some (.ref 7), some (.int a1), some (.int a2), some (.int a3), some (.int a4), some (.int a5), some (.ref 74), some (.ref 66)], [], st S hs, 0, 0))
      refine ⟨fun hc => hX _ ?_, fun hc => hX _ ?_⟩
      · clear hP hX hk P' X cal
        rw [if_pos hc] at hr
        have hr := Option.some.inj hr
        subst hr
        refine Wp.stepsG 2 (fun cal X P' hk hX hP => ?_)
        exact hP _ _ h
      · clear hP hX hk P' X cal
        rw [if_neg hc] at hr
        refine Wp.stepsG 4 (fun cal X P' hk hX hP => ?_)
        show (¬ (S.1 66 1) = (-1) → X (47, [some (.ref 7), some (.int a1), some (.int a2), some (.int a3), some (.int a4), some (.int a5), some (.ref 74), some (.ref 66)], [], st S hs, 0, 0)) ∧ ((S.1 66 1) = (-1) → X (44, [some (.ref 7), some (.int a1), some (.int a2), some (.int a3), some (.int a4), some (.int a5), some (.ref 74), some (.ref 66)], [], st S hs, 0, 0))
        refine ⟨fun hc => hX _ ?_, fun hc => hX _ ?_⟩
        · clear hP hX hk P' X cal
          rw [if_neg hc] at hr
          refine Wp.stepsG 5 (fun cal X P' hk hX hP => ?_)
          show ((S.1 74 1) = (S.1 66 1) → X (63, [some (.ref 7), some (.int a1), some (.int a2), some (.int a3), some (.int a4), some (.int a5), some (.ref 74), some (.ref 66)], [], st S hs, 0, 0)) ∧ (¬ (S.1 74 1) = (S.1 66 1) → X (60, [some (.ref 7), some (.int a1), some (.int a2), some (.int a3), some (.int a4), some (.int a5), some (.ref 74), some (.ref 66)], [], st S hs, 0, 0))
          refine ⟨fun hc => hX _ ?_, fun hc => hX _ ?_⟩
          · clear hP hX hk P' X cal
            rw [if_pos hc] at hr
            refine Wp.stepsG 4 (fun cal X P' hk hX hP => ?_)
            show kcall cal ix_X8_hasRun [.ref 74, .int a2, .int a5] (st S hs) [] 0 0 (0, 0) (fun v σ' c' m' => X (71, [some (.ref 7), some (.int a1), some (.int a2), some (.int a3), some (.int a4), some (.int a5), some (.ref 74), some (.ref 66)], v.toList ++ [], σ', c', m'))
            refine kcall0 rfl (hk _ _ _ _ _ _ (e_X8_hasRun_74 (d + 1) S hs a2 a5 _ ?_))
            show X (71, [some (.ref 7), some (.int a1), some (.int a2), some (.int a3), some (.int a4), some (.int a5), some (.ref 74), some (.ref 66)], [.int (r_X8_hasRun S 74 a2 a5)], st S hs, 0, 0)
            refine hX _ ?_
            clear hP hX hk P' X cal
            refine Wp.stepsG 1 (fun cal X P' hk hX hP => ?_)
            show ((r_X8_hasRun S 74 a2 a5) = 0 → X (86, [some (.ref 7), some (.int a1), some (.int a2), some (.int a3), some (.int a4), some (.int a5), some (.ref 74), some (.ref 66)], [], st S hs, 0, 0)) ∧ (¬ (r_X8_hasRun S 74 a2 a5) = 0 → X (74, [some (.ref 7), some (.int a1), some (.int a2), some (.int a3), some (.int a4), some (.int a5), some (.ref 74), some (.ref 66)], [], st S hs, 0, 0))
            refine ⟨fun hc => hX _ ?_, fun hc => hX _ ?_⟩
            · clear hP hX hk P' X cal
              rw [if_pos hc] at hr
              have hr := Option.some.inj hr
              subst hr
              refine Wp.stepsG 2 (fun cal X P' hk hX hP => ?_)
              exact hP _ _ h
            · clear hP hX hk P' X cal
              rw [if_neg hc] at hr
              refine Wp.stepsG 4 (fun cal X P' hk hX hP => ?_)
              show kcall cal ix_X8_hasRun [.ref 66, .int a4, .int a5] (st S hs) [] 0 0 (0, 0) (fun v σ' c' m' => X (83, [some (.ref 7), some (.int a1), some (.int a2), some (.int a3), some (.int a4), some (.int a5), some (.ref 74), some (.ref 66)], v.toList ++ [], σ', c', m'))
              refine kcall0 rfl (hk _ _ _ _ _ _ (e_X8_hasRun_66 (d + 1) S hs a4 a5 _ ?_))
              show X (83, [some (.ref 7), some (.int a1), some (.int a2), some (.int a3), some (.int a4), some (.int a5), some (.ref 74), some (.ref 66)], [.int (r_X8_hasRun S 66 a4 a5)], st S hs, 0, 0)
              refine hX _ ?_
              clear hP hX hk P' X cal
              refine Wp.stepsG 1 (fun cal X P' hk hX hP => ?_)
              show (¬ (r_X8_hasRun S 66 a4 a5) = 0 → X (89, [some (.ref 7), some (.int a1), some (.int a2), some (.int a3), some (.int a4), some (.int a5), some (.ref 74), some (.ref 66)], [], st S hs, 0, 0)) ∧ ((r_X8_hasRun S 66 a4 a5) = 0 → X (86, [some (.ref 7), some (.int a1), some (.int a2), some (.int a3), some (.int a4), some (.int a5), some (.ref 74), some (.ref 66)], [], st S hs, 0, 0))
              refine ⟨fun hc => hX _ ?_, fun hc => hX _ ?_⟩
              · clear hP hX hk P' X cal
                rw [if_neg hc] at hr
                refine Wp.stepsG 8 (fun cal X P' hk hX hP => ?_)
                show (¬ a2 < 0 ∧ ¬ a4 < 0 ∧ ¬ a5 < 0 ∧ a2.toNatClampNeg + a5.toNatClampNeg ≤ 60 ∧ a4.toNatClampNeg + a5.toNatClampNeg ≤ 60) ∧ X (107, [some (.ref 7), some (.int a1), some (.int a2), some (.int a3), some (.int a4), some (.int a5), some (.ref 74), some (.ref 66)], [], st (sG S 67 (va_cpy (S.2.1 75) (S.2.1 67) a2.toNatClampNeg a4.toNatClampNeg a5.toNatClampNeg)) hs, 0, 0)
                obtain ⟨hg, hr⟩ := gd_some hr
                refine ⟨hg, hX _ ?_⟩
                clear hP hX hk P' X cal
                have hr := Option.some.inj hr
                subst hr
                refine Wp.stepsG 2 (fun cal X P' hk hX hP => ?_)
                exact hP _ _ h
              · clear hP hX hk P' X cal
                rw [if_pos hc] at hr
                have hr := Option.some.inj hr
                subst hr
                refine Wp.stepsG 2 (fun cal X P' hk hX hP => ?_)
                exact hP _ _ h
          · clear hP hX hk P' X cal
            rw [if_neg hc] at hr
            have hr := Option.some.inj hr
            subst hr
            refine Wp.stepsG 2 (fun cal X P' hk hX hP => ?_)
            exact hP _ _ h
        · clear hP hX hk P' X cal
          rw [if_pos hc] at hr
          have hr := Option.some.inj hr
          subst hr
          refine Wp.stepsG 2 (fun cal X P' hk hX hP => ?_)
          exact hP _ _ h
    · rw [hz17]
      rw [oN_is hz17] at hr
      refine Wp.stepsG 9 (fun cal X P' hk hX hP => ?_)
      show ((S.1 74 1) = (-1) → X (44, [some (.ref 7), some (.int a1), some (.int a2), some (.int a3), some (.int a4), some (.int a5), some (.ref 74), some (.ref 68)], [], st S hs, 0, 0)) ∧ (¬ (S.1 74 1) = (-1) → X (35, [some (.ref 7), some (.int a1), some (.int a2), some (.int a3), some (.int a4), some (.int a5), some (.ref 74), some (.ref 68)], [], st S hs, 0, 0))
      refine ⟨fun hc => hX _ ?_, fun hc => hX _ ?_⟩
      · clear hP hX hk P' X cal
        rw [if_pos hc] at hr
        have hr := Option.some.inj hr
        subst hr
        refine Wp.stepsG 2 (fun cal X P' hk hX hP => ?_)
        exact hP _ _ h
      · clear hP hX hk P' X cal
        rw [if_neg hc] at hr
        refine Wp.stepsG 4 (fun cal X P' hk hX hP => ?_)
        show (¬ (S.1 68 1) = (-1) → X (47, [some (.ref 7), some (.int a1), some (.int a2), some (.int a3), some (.int a4), some (.int a5), some (.ref 74), some (.ref 68)], [], st S hs, 0, 0)) ∧ ((S.1 68 1) = (-1) → X (44, [some (.ref 7), some (.int a1), some (.int a2), some (.int a3), some (.int a4), some (.int a5), some (.ref 74), some (.ref 68)], [], st S hs, 0, 0))
        refine ⟨fun hc => hX _ ?_, fun hc => hX _ ?_⟩
        · clear hP hX hk P' X cal
          rw [if_neg hc] at hr
          refine Wp.stepsG 5 (fun cal X P' hk hX hP => ?_)
          show ((S.1 74 1) = (S.1 68 1) → X (63, [some (.ref 7), some (.int a1), some (.int a2), some (.int a3), some (.int a4), some (.int a5), some (.ref 74), some (.ref 68)], [], st S hs, 0, 0)) ∧ (¬ (S.1 74 1) = (S.1 68 1) → X (60, [some (.ref 7), some (.int a1), some (.int a2), some (.int a3), some (.int a4), some (.int a5), some (.ref 74), some (.ref 68)], [], st S hs, 0, 0))
          refine ⟨fun hc => hX _ ?_, fun hc => hX _ ?_⟩
          · clear hP hX hk P' X cal
            rw [if_pos hc] at hr
            refine Wp.stepsG 4 (fun cal X P' hk hX hP => ?_)
            show kcall cal ix_X8_hasRun [.ref 74, .int a2, .int a5] (st S hs) [] 0 0 (0, 0) (fun v σ' c' m' => X (71, [some (.ref 7), some (.int a1), some (.int a2), some (.int a3), some (.int a4), some (.int a5), some (.ref 74), some (.ref 68)], v.toList ++ [], σ', c', m'))
            refine kcall0 rfl (hk _ _ _ _ _ _ (e_X8_hasRun_74 (d + 1) S hs a2 a5 _ ?_))
            show X (71, [some (.ref 7), some (.int a1), some (.int a2), some (.int a3), some (.int a4), some (.int a5), some (.ref 74), some (.ref 68)], [.int (r_X8_hasRun S 74 a2 a5)], st S hs, 0, 0)
            refine hX _ ?_
            clear hP hX hk P' X cal
            refine Wp.stepsG 1 (fun cal X P' hk hX hP => ?_)
            show ((r_X8_hasRun S 74 a2 a5) = 0 → X (86, [some (.ref 7), some (.int a1), some (.int a2), some (.int a3), some (.int a4), some (.int a5), some (.ref 74), some (.ref 68)], [], st S hs, 0, 0)) ∧ (¬ (r_X8_hasRun S 74 a2 a5) = 0 → X (74, [some (.ref 7), some (.int a1), some (.int a2), some (.int a3), some (.int a4), some (.int a5), some (.ref 74), some (.ref 68)], [], st S hs, 0, 0))
            refine ⟨fun hc => hX _ ?_, fun hc => hX _ ?_⟩
            · clear hP hX hk P' X cal
              rw [if_pos hc] at hr
              have hr := Option.some.inj hr
              subst hr
              refine Wp.stepsG 2 (fun cal X P' hk hX hP => ?_)
              exact hP _ _ h
            · clear hP hX hk P' X cal
              rw [if_neg hc] at hr
              refine Wp.stepsG 4 (fun cal X P' hk hX hP => ?_)
              show kcall cal ix_X8_hasRun [.ref 68, .int a4, .int a5] (st S hs) [] 0 0 (0, 0) (fun v σ' c' m' => X (83, [some (.ref 7), some (.int a1), some (.int a2), some (.int a3), some (.int a4), some (.int a5), some (.ref 74), some (.ref 68)], v.toList ++ [], σ', c', m'))
              refine kcall0 rfl (hk _ _ _ _ _ _ (e_X8_hasRun_68 (d + 1) S hs a4 a5 _ ?_))
              show X (83, [some (.ref 7), some (.int a1), some (.int a2), some (.int a3), some (.int a4), some (.int a5), some (.ref 74), some (.ref 68)], [.int (r_X8_hasRun S 68 a4 a5)], st S hs, 0, 0)
              refine hX _ ?_
              clear hP hX hk P' X cal
              refine Wp.stepsG 1 (fun cal X P' hk hX hP => ?_)
              show (¬ (r_X8_hasRun S 68 a4 a5) = 0 → X (89, [some (.ref 7), some (.int a1), some (.int a2), some (.int a3), some (.int a4), some (.int a5), some (.ref 74), some (.ref 68)], [], st S hs, 0, 0)) ∧ ((r_X8_hasRun S 68 a4 a5) = 0 → X (86, [some (.ref 7), some (.int a1), some (.int a2), some (.int a3), some (.int a4), some (.int a5), some (.ref 74), some (.ref 68)], [], st S hs, 0, 0))
              refine ⟨fun hc => hX _ ?_, fun hc => hX _ ?_⟩
              · clear hP hX hk P' X cal
                rw [if_neg hc] at hr
                refine Wp.stepsG 8 (fun cal X P' hk hX hP => ?_)
                show (¬ a2 < 0 ∧ ¬ a4 < 0 ∧ ¬ a5 < 0 ∧ a2.toNatClampNeg + a5.toNatClampNeg ≤ 60 ∧ a4.toNatClampNeg + a5.toNatClampNeg ≤ 60) ∧ X (107, [some (.ref 7), some (.int a1), some (.int a2), some (.int a3), some (.int a4), some (.int a5), some (.ref 74), some (.ref 68)], [], st (sG S 69 (va_cpy (S.2.1 75) (S.2.1 69) a2.toNatClampNeg a4.toNatClampNeg a5.toNatClampNeg)) hs, 0, 0)
                obtain ⟨hg, hr⟩ := gd_some hr
                refine ⟨hg, hX _ ?_⟩
                clear hP hX hk P' X cal
                have hr := Option.some.inj hr
                subst hr
                refine Wp.stepsG 2 (fun cal X P' hk hX hP => ?_)
                exact hP _ _ h
              · clear hP hX hk P' X cal
                rw [if_pos hc] at hr
                have hr := Option.some.inj hr
                subst hr
                refine Wp.stepsG 2 (fun cal X P' hk hX hP => ?_)
                exact hP _ _ h
          · clear hP hX hk P' X cal
            rw [if_neg hc] at hr
            have hr := Option.some.inj hr
            subst hr
            refine Wp.stepsG 2 (fun cal X P' hk hX hP => ?_)
            exact hP _ _ h
        · clear hP hX hk P' X cal
          rw [if_pos hc] at hr
          have hr := Option.some.inj hr
          subst hr
          refine Wp.stepsG 2 (fun cal X P' hk hX hP => ?_)
          exact hP _ _ h
    · rw [hz17]
      rw [oN_is hz17] at hr
      refine Wp.stepsG 9 (fun cal X P' hk hX hP => ?_)
      show ((S.1 74 1) = (-1) → X (44, [some (.ref 7), some (.int a1), some (.int a2), some (.int a3), some (.int a4), some (.int a5), some (.ref 74), some (.ref 70)], [], st S hs, 0, 0)) ∧ (¬ (S.1 74 1) = (-1) → X (35, [some (.ref 7), some (.int a1), some (.int a2), some (.int a3), some (.int a4), some (.int a5), some (.ref 74), some (.ref 70)], [], st S hs, 0, 0))
      refine ⟨fun hc => hX _ ?_, fun hc => hX _ ?_⟩
      · clear hP hX hk P' X cal
        rw [if_pos hc] at hr
        have hr := Option.some.inj hr
        subst hr
        refine Wp.stepsG 2 (fun cal X P' hk hX hP => ?_)
        exact hP _ _ h
      · clear hP hX hk P' X cal
        rw [if_neg hc] at hr
        refine Wp.stepsG 4 (fun cal X P' hk hX hP => ?_)
        show (¬ (S.1 70 1) = (-1) → X (47, [some (.ref 7), some (.int a1), some (.int a2), some (.int a3), some (.int a4), some (.int a5), some (.ref 74), some (.ref 70)], [], st S hs, 0, 0)) ∧ ((S.1 70 1) = (-1) → X (44, [some (.ref 7), some (.int a1), some (.int a2), some (.int a3), some (.int a4), some (.int a5), some (.ref 74), some (.ref 70)], [], st S hs, 0, 0))
        refine ⟨fun hc => hX _ ?_, fun hc => hX _ ?_⟩
        · clear hP hX hk P' X cal
          rw [if_neg hc] at hr
          refine Wp.stepsG 5 (fun cal X P' hk hX hP => ?_)
          show ((S.1 74 1) = (S.1 70 1) → X (63, [some (.ref 7), some (.int a1), some (.int a2), some (.int a3), some (.int a4), some (.int a5), some (.ref 74), some (.ref 70)], [], st S hs, 0, 0)) ∧ (¬ (S.1 74 1) = (S.1 70 1) → X (60, [some (.ref 7), some (.int a1), some (.int a2), some (.int a3), some (.int a4), some (.int a5), some (.ref 74), some (.ref 70)], [], st S hs, 0, 0))
          refine ⟨fun hc => hX _ ?_, fun hc => hX _ ?_⟩
          · clear hP hX hk P' X cal
            rw [if_pos hc] at hr
            refine Wp.stepsG 4 (fun cal X P' hk hX hP => ?_)
            show kcall cal ix_X8_hasRun [.ref 74, .int a2, .int a5] (st S hs) [] 0 0 (0, 0) (fun v σ' c' m' => X (71, [some (.ref 7), some (.int a1), some (.int a2), some (.int a3), some (.int a4), some (.int a5), some (.ref 74), some (.ref 70)], v.toList ++ [], σ', c', m'))
            refine kcall0 rfl (hk _ _ _ _ _ _ (e_X8_hasRun_74 (d + 1) S hs a2 a5 _ ?_))
            show X (71, [some (.ref 7), some (.int a1), some (.int a2), some (.int a3), some (.int a4), some (.int a5), some (.ref 74), some (.ref 70)], [.int (r_X8_hasRun S 74 a2 a5)], st S hs, 0, 0)
            refine hX _ ?_
            clear hP hX hk P' X cal
            refine Wp.stepsG 1 (fun cal X P' hk hX hP => ?_)
            show ((r_X8_hasRun S 74 a2 a5) = 0 → X (86, [some (.ref 7), some (.int a1), some (.int a2), some (.int a3), some (.int a4), some (.int a5), some (.ref 74), some (.ref 70)], [], st S hs, 0, 0)) ∧ (¬ (r_X8_hasRun S 74 a2 a5) = 0 → X (74, [some (.ref 7), some (.int a1), some (.int a2), some (.int a3), some (.int a4), some (.int a5), some (.ref 74), some (.ref 70)], [], st S hs, 0, 0))
            refine ⟨fun hc => hX _ ?_, fun hc => hX _ ?_⟩
            · clear hP hX hk P' X cal
              rw [if_pos hc] at hr
              have hr := Option.some.inj hr
              subst hr
              refine Wp.stepsG 2 (fun cal X P' hk hX hP => ?_)
              exact hP _ _ h
            · clear hP hX hk P' X cal
              rw [if_neg hc] at hr
              refine Wp.stepsG 4 (fun cal X P' hk hX hP => ?_)
              show kcall cal ix_X8_hasRun [.ref 70, .int a4, .int a5] (st S hs) [] 0 0 (0, 0) (fun v σ' c' m' => X (83, [some (.ref 7), some (.int a1), some (.int a2), some (.int a3), some (.int a4), some (.int a5), some (.ref 74), some (.ref 70)], v.toList ++ [], σ', c', m'))
              refine kcall0 rfl (hk _ _ _ _ _ _ (e_X8_hasRun_70 (d + 1) S hs a4 a5 _ ?_))
              show X (83, [some (.ref 7), some (.int a1), some (.int a2), some (.int a3), some (.int a4), some (.int a5), some (.ref 74), some (.ref 70)], [.int (r_X8_hasRun S 70 a4 a5)], st S hs, 0, 0)
              refine hX _ ?_
              clear hP hX hk P' X cal
              refine Wp.stepsG 1 (fun cal X P' hk hX hP => ?_)
              show (¬ (r_X8_hasRun S 70 a4 a5) = 0 → X (89, [some (.ref 7), some (.int a1), some (.int a2), some (.int a3), some (.int a4), some (.int a5), some (.ref 74), some (.ref 70)], [], st S hs, 0, 0)) ∧ ((r_X8_hasRun S 70 a4 a5) = 0 → X (86, [some (.ref 7), some (.int a1), some (.int a2), some (.int a3), some (.int a4), some (.int a5), some (.ref 74), some (.ref 70)], [], st S hs, 0, 0))
              refine ⟨fun hc => hX _ ?_, fun hc => hX _ ?_⟩
              · clear hP hX hk P' X cal
                rw [if_neg hc] at hr
                refine Wp.stepsG 8 (fun cal X P' hk hX hP => ?_)
                show (¬ a2 < 0 ∧ ¬ a4 < 0 ∧ ¬ a5 < 0 ∧ a2.toNatClampNeg + a5.toNatClampNeg ≤ 60 ∧ a4.toNatClampNeg + a5.toNatClampNeg ≤ 60) ∧ X (107, [some (.ref 7), some (.int a1), some (.int a2), some (.int a3), some (.int a4), some (.int a5), some (.ref 74), some (.ref 70)], [], st (sG S 71 (va_cpy (S.2.1 75) (S.2.1 71) a2.toNatClampNeg a4.toNatClampNeg a5.toNatClampNeg)) hs, 0, 0)
                obtain ⟨hg, hr⟩ := gd_some hr
                refine ⟨hg, hX _ ?_⟩
                clear hP hX hk P' X cal
                have hr := Option.some.inj hr
                subst hr
                refine Wp.stepsG 2 (fun cal X P' hk hX hP => ?_)
                exact hP _ _ h
              · clear hP hX hk P' X cal
                rw [if_pos hc] at hr
                have hr := Option.some.inj hr
                subst hr
                refine Wp.stepsG 2 (fun cal X P' hk hX hP => ?_)
                exact hP _ _ h
          · clear hP hX hk P' X cal
            rw [if_neg hc] at hr
            have hr := Option.some.inj hr
            subst hr
            refine Wp.stepsG 2 (fun cal X P' hk hX hP => ?_)
            exact hP _ _ h
        · clear hP hX hk P' X cal
          rw [if_pos hc] at hr
          have hr := Option.some.inj hr
          subst hr
          refine Wp.stepsG 2 (fun cal X P' hk hX hP => ?_)
          exact hP _ _ h
    · rw [hz17]
      rw [oN_is hz17] at hr
      refine Wp.stepsG 9 (fun cal X P' hk hX hP => ?_)
      show ((S.1 74 1) = (-1) → X (44, [some (.ref 7), some (.int a1), some (.int a2), some (.int a3), some (.int a4), some (.int a5), some (.ref 74), some (.ref 72)], [], st S hs, 0, 0)) ∧ (¬ (S.1 74 1) = (-1) → X (35, [some (.ref 7), some (.int a1), some (.int a2), some (.int a3), some (.int a4), some (.int a5), some (.ref 74), some (.ref 72)], [], st S hs, 0, 0))
      refine ⟨fun hc => hX _ ?_, fun hc => hX _ ?_⟩
      · clear hP hX hk P' X cal
        rw [if_pos hc] at hr
        have hr := Option.some.inj hr
        subst hr
        refine Wp.stepsG 2 (fun cal X P' hk hX hP => ?_)
        exact hP _ _ h
      · clear hP hX hk P' X cal
        rw [if_neg hc] at hr
        refine Wp.stepsG 4 (fun cal X P' hk hX hP => ?_)
        show (¬ (S.1 72 1) = (-1) → X (47, [some (.ref 7), some (.int a1), some (.int a2), some (.int a3), some (.int a4), some (.int a5), some (.ref 74), some (.ref 72)], [], st S hs, 0, 0)) ∧ ((S.1 72 1) = (-1) → X (44, [some (.ref 7), some (.int a1), some (.int a2), some (.int a3), some (.int a4), some (.int a5), some (.ref 74), some (.ref 72)], [], st S hs, 0, 0))
        refine ⟨fun hc => hX _ ?_, fun hc => hX _ ?_⟩
        · clear hP hX hk P' X cal
          rw [if_neg hc] at hr
          refine Wp.stepsG 5 (fun cal X P' hk hX hP => ?_)
          show ((S.1 74 1) = (S.1 72 1) → X (63, [some (.ref 7), some (.int a1), some (.int a2), some (.int a3), some (.int a4), some (.int a5), some (.ref 74), some (.ref 72)], [], st S hs, 0, 0)) ∧ (¬ (S.1 74 1) = (S.1 72 1) → X (60, [some (.ref 7), some (.int a1), some (.int a2), some (.int a3), some (.int a4), some (.int a5), some (.ref 74), some (.ref 72)], [], st S hs, 0, 0))
          refine ⟨fun hc => hX _ ?_, fun hc => hX _ ?_⟩
          · clear hP hX hk P' X cal
            rw [if_pos hc] at hr
            refine Wp.stepsG 4 (fun cal X P' hk hX hP => ?_)
            show kcall cal ix_X8_hasRun [.ref 74, .int a2, .int a5] (st S hs) [] 0 0 (0, 0) (fun v σ' c' m' => X (71, [some (.ref 7), some (.int a1), some (.int a2), some (.int a3), some (.int a4), some (.int a5), some (.ref 74), some (.ref 72)], v.toList ++ [], σ', c', m'))
            refine kcall0 rfl (hk _ _ _ _ _ _ (e_X8_hasRun_74 (d + 1) S hs a2 a5 _ ?_))
            show X (71, [some (.ref 7), some (.int a1), some (.int a2), some (.int a3), some (.int a4), some (.int a5), some (.ref 74), some (.ref 72)], [.int (r_X8_hasRun S 74 a2 a5)], st S hs, 0, 0)
            refine hX _ ?_
            clear hP hX hk P' X cal
            refine Wp.stepsG 1 (fun cal X P' hk hX hP => ?_)
            show ((r_X8_hasRun S 74 a2 a5) = 0 → X (86, [some (.ref 7), some (.int a1), some (.int a2), some (.int a3), some (.int a4), some (.int a5), some (.ref 74), some (.ref 72)], [], st S hs, 0, 0)) ∧ (¬ (r_X8_hasRun S 74 a2 a5) = 0 → X (74, [some (.ref 7), some (.int a1), some (.int a2), some (.int a3), some (.int a4), some (.int a5), some (.ref 74), some (.ref 72)], [], st S hs, 0, 0))
            refine ⟨fun hc => hX _ ?_, fun hc => hX _ ?_⟩
            · clear hP hX hk P' X cal
              rw [if_pos hc] at hr
              have hr := Option.some.inj hr
              subst hr
              refine Wp.stepsG 2 (fun cal X P' hk hX hP => ?_)
              exact hP _ _ h
            · clear hP hX hk P' X cal
              rw [if_neg hc] at hr
              refine Wp.stepsG 4 (fun cal X P' hk hX hP => ?_)
              show kcall cal ix_X8_hasRun [.ref 72, .int a4, .int a5] (st S hs) [] 0 0 (0, 0) (fun v σ' c' m' => X (83, [some (.ref 7), some (.int a1), some (.int a2), some (.int a3), some (.int a4), some (.int a5), some (.ref 74), some (.ref 72)], v.toList ++ [], σ', c', m'))
              refine kcall0 rfl (hk _ _ _ _ _ _ (e_X8_hasRun_72 (d + 1) S hs a4 a5 _ ?_))
              show X (83, [some (.ref 7), some (.int a1), some (.int a2), some (.int a3), some (.int a4), some (.int a5), some (.ref 74), some (.ref 72)], [.int (r_X8_hasRun S 72 a4 a5)], st S hs, 0, 0)
              refine hX _ ?_
              clear hP hX hk P' X cal
              refine Wp.stepsG 1 (fun cal X P' hk hX hP => ?_)
              show (¬ (r_X8_hasRun S 72 a4 a5) = 0 → X (89, [some (.ref 7), some (.int a1), some (.int a2), some (.int a3), some (.int a4), some (.int a5), some (.ref 74), some (.ref 72)], [], st S hs, 0, 0)) ∧ ((r_X8_hasRun S 72 a4 a5) = 0 → X (86, [some (.ref 7), some (.int a1), some (.int a2), some (.int a3), some (.int a4), some (.int a5), some (.ref 74), some (.ref 72)], [], st S hs, 0, 0))
              refine ⟨fun hc => hX _ ?_, fun hc => hX _ ?_⟩
              · clear hP hX hk P' X cal
                rw [if_neg hc] at hr
                refine Wp.stepsG 8 (fun cal X P' hk hX hP => ?_)
                show (¬ a2 < 0 ∧ ¬ a4 < 0 ∧ ¬ a5 < 0 ∧ a2.toNatClampNeg + a5.toNatClampNeg ≤ 60 ∧ a4.toNatClampNeg + a5.toNatClampNeg ≤ 60) ∧ X (107, [some (.ref 7), some (.int a1), some (.int a2), some (.int a3), some (.int a4), some (.int a5), some (.ref 74), some (.ref 72)], [], st (sG S 73 (va_cpy (S.2.1 75) (S.2.1 73) a2.toNatClampNeg a4.toNatClampNeg a5.toNatClampNeg)) hs, 0, 0)
                obtain ⟨hg, hr⟩ := gd_some hr
                refine ⟨hg, hX _ ?_⟩
                clear hP hX hk P' X cal
                have hr := Option.some.inj hr
                subst hr
                refine Wp.stepsG 2 (fun cal X P' hk hX hP => ?_)
                exact hP _ _ h
              · clear hP hX hk P' X cal
                rw [if_pos hc] at hr
                have hr := Option.some.inj hr
                subst hr
                refine Wp.stepsG 2 (fun cal X P' hk hX hP => ?_)
                exact hP _ _ h
          · clear hP hX hk P' X cal
            rw [if_neg hc] at hr
            have hr := Option.some.inj hr
            subst hr
            refine Wp.stepsG 2 (fun cal X P' hk hX hP => ?_)
            exact hP _ _ h
        · clear hP hX hk P' X cal
          rw [if_pos hc] at hr
          have hr := Option.some.inj hr
          subst hr
          refine Wp.stepsG 2 (fun cal X P' hk hX hP => ?_)
          exact hP _ _ h
    · rw [hz17]
      rw [oN_is hz17] at hr
      refine Wp.stepsG 9 (fun cal X P' hk hX hP => ?_)
      show ((S.1 74 1) = (-1) → X (44, [some (.ref 7), some (.int a1), some (.int a2), some (.int a3), some (.int a4), some (.int a5), some (.ref 74), some (.ref 74)], [], st S hs, 0, 0)) ∧ (¬ (S.1 74 1) = (-1) → X (35, [some (.ref 7), some (.int a1), some (.int a2), some (.int a3), some (.int a4), some (.int a5), some (.ref 74), some (.ref 74)], [], st S hs, 0, 0))
      refine ⟨fun hc => hX _ ?_, fun hc => hX _ ?_⟩
      · clear hP hX hk P' X cal
        rw [if_pos hc] at hr
        have hr := Option.some.inj hr
        subst hr
        refine Wp.stepsG 2 (fun cal X P' hk hX hP => ?_)
        exact hP _ _ h
      · clear hP hX hk P' X cal
        rw [if_neg hc] at hr
        refine Wp.stepsG 4 (fun cal X P' hk hX hP => ?_)
        show (¬ (S.1 74 1) = (-1) → X (47, [some (.ref 7), some (.int a1), some (.int a2), some (.int a3), some (.int a4), some (.int a5), some (.ref 74), some (.ref 74)], [], st S hs, 0, 0)) ∧ ((S.1 74 1) = (-1) → X (44, [some (.ref 7), some (.int a1), some (.int a2), some (.int a3), some (.int a4), some (.int a5), some (.ref 74), some (.ref 74)], [], st S hs, 0, 0))
        refine ⟨fun hc => hX _ ?_, fun hc => hX _ ?_⟩
        · clear hP hX hk P' X cal
          rw [if_neg hc] at hr
          refine Wp.stepsG 5 (fun cal X P' hk hX hP => ?_)
          show ((S.1 74 1) = (S.1 74 1) → X (63, [some (.ref 7), some (.int a1), some (.int a2), some (.int a3), some (.int a4), some (.int a5), some (.ref 74), some (.ref 74)], [], st S hs, 0, 0)) ∧ (¬ (S.1 74 1) = (S.1 74 1) → X (60, [some (.ref 7), some (.int a1), some (.int a2), some (.int a3), some (.int a4), some (.int a5), some (.ref 74), some (.ref 74)], [], st S hs, 0, 0))
          refine ⟨fun hc => hX _ ?_, fun hc => hX _ ?_⟩
          · clear hP hX hk P' X cal
            rw [if_pos hc] at hr
            refine Wp.stepsG 4 (fun cal X P' hk hX hP => ?_)
            show kcall cal ix_X8_hasRun [.ref 74, .int a2, .int a5] (st S hs) [] 0 0 (0, 0) (fun v σ' c' m' => X (71, [some (.ref 7), some (.int a1), some (.int a2), some (.int a3), some (.int a4), some (.int a5), some (.ref 74), some (.ref 74)], v.toList ++ [], σ', c', m'))
            refine kcall0 rfl (hk _ _ _ _ _ _ (e_X8_hasRun_74 (d + 1) S hs a2 a5 _ ?_))
            show X (71, [some (.ref 7), some (.int a1), some (.int a2), some (.int a3), some (.int a4), some (.int a5), some (.ref 74), some (.ref 74)], [.int (r_X8_hasRun S 74 a2 a5)], st S hs, 0, 0)
            refine hX _ ?_
            clear hP hX hk P' X cal
            refine Wp.stepsG 1 (fun cal X P' hk hX hP => ?_)
            show ((r_X8_hasRun S 74 a2 a5) = 0 → X (86, [some (.ref 7), some (.int a1), some (.int a2), some (.int a3), some (.int a4), some (.int a5), some (.ref 74), some (.ref 74)], [], st S hs, 0, 0)) ∧ (¬ (r_X8_hasRun S 74 a2 a5) = 0 → X (74, [some (.ref 7), some (.int a1), some (.int a2), some (.int a3), some (.int a4), some (.int a5), some (.ref 74), some (.ref 74)], [], st S hs, 0, 0))
            refine ⟨fun hc => hX _ ?_, fun hc => hX _ ?_⟩
            · clear hP hX hk P' X cal
              rw [if_pos hc] at hr
              have hr := Option.some.inj hr
              subst hr
              refine Wp.stepsG 2 (fun cal X P' hk hX hP => ?_)
              exact hP _ _ h
            · clear hP hX hk P' X cal
              rw [if_neg hc] at hr
              refine Wp.stepsG 4 (fun cal X P' hk hX hP => ?_)
              show kcall cal ix_X8_hasRun [.ref 74, .int a4, .int a5] (st S hs) [] 0 0 (0, 0) (fun v σ' c' m' => X (83, [some (.ref 7), some (.int a1), some (.int a2), some (.int a3), some (.int a4), some (.int a5), some (.ref 74), some (.ref 74)], v.toList ++ [], σ', c', m'))
              refine kcall0 rfl (hk _ _ _ _ _ _ (e_X8_hasRun_74 (d + 1) S hs a4 a5 _ ?_))
              show X (83, [some (.ref 7), some (.int a1), some (.int a2), some (.int a3), some (.int a4), some (.int a5), some (.ref 74), some (.ref 74)], [.int (r_X8_hasRun S 74 a4 a5)], st S hs, 0, 0)
              refine hX _ ?_
              clear hP hX hk P' X cal
              refine Wp.stepsG 1 (fun cal X P' hk hX hP => ?_)
              show (¬ (r_X8_hasRun S 74 a4 a5) = 0 → X (89, [some (.ref 7), some (.int a1), some (.int a2), some (.int a3), some (.int a4), some (.int a5), some (.ref 74), some (.ref 74)], [], st S hs, 0, 0)) ∧ ((r_X8_hasRun S 74 a4 a5) = 0 → X (86, [some (.ref 7), some (.int a1), some (.int a2), some (.int a3), some (.int a4), some (.int a5), some (.ref 74), some (.ref 74)], [], st S hs, 0, 0))
              refine ⟨fun hc => hX _ ?_, fun hc => hX _ ?_⟩
              · clear hP hX hk P' X cal
                rw [if_neg hc] at hr
                refine Wp.stepsG 8 (fun cal X P' hk hX hP => ?_)
                show (¬ a2 < 0 ∧ ¬ a4 < 0 ∧ ¬ a5 < 0 ∧ a2.toNatClampNeg + a5.toNatClampNeg ≤ 60 ∧ a4.toNatClampNeg + a5.toNatClampNeg ≤ 60) ∧ X (107, [some (.ref 7), some (.int a1), some (.int a2), some (.int a3), some (.int a4), some (.int a5), some (.ref 74), some (.ref 74)], [], st (sG S 75 (va_cpy (S.2.1 75) (S.2.1 75) a2.toNatClampNeg a4.toNatClampNeg a5.toNatClampNeg)) hs, 0, 0)
                obtain ⟨hg, hr⟩ := gd_some hr
                refine ⟨hg, hX _ ?_⟩
                clear hP hX hk P' X cal
                have hr := Option.some.inj hr
                subst hr
                refine Wp.stepsG 2 (fun cal X P' hk hX hP => ?_)
                exact hP _ _ h
              · clear hP hX hk P' X cal
                rw [if_pos hc] at hr
                have hr := Option.some.inj hr
                subst hr
                refine Wp.stepsG 2 (fun cal X P' hk hX hP => ?_)
                exact hP _ _ h
          · clear hP hX hk P' X cal
            rw [if_neg hc] at hr
            have hr := Option.some.inj hr
            subst hr
            refine Wp.stepsG 2 (fun cal X P' hk hX hP => ?_)
            exact hP _ _ h
        · clear hP hX hk P' X cal
          rw [if_pos hc] at hr
          have hr := Option.some.inj hr
          subst hr
          refine Wp.stepsG 2 (fun cal X P' hk hX hP => ?_)
          exact hP _ _ h
