def r_X11_copy_22_12 (S : St) : Option (Int32 × St) :=
  (lp_X11_copy_22_12_2 4000 0 S).bind fun q1 =>
    some (0, q1)
set_option maxRecDepth 20000 in
set_option maxHeartbeats 4000000 in
theorem e_X11_copy_22_12 (d : Nat) (S : St) (hs : List Hr) (v : Int32 × St) (hr : r_X11_copy_22_12 S = some v) (P : Option Value → Hp → Prop) (h : P none (st v.2 hs)) : Ev (d + 1) ix_X11_copy 0 0 [.ref 22, .ref 12] (st S hs) P := by
  refine Ev.intro (M := mi_X11_copy) rfl (Nat.le_of_ble_eq_true rfl) ?_
  unfold r_X11_copy_22_12 at hr
  refine Wp.stepsG 2 (fun cal X P' hk hX hP => ?_)
  show X (2, [some (.ref 22), some (.ref 12), some (.int 0)], [], st S hs, 0, 0)
  refine hX _ ?_
  clear hP hX hk P' X cal
  obtain ⟨q1, hq1, hr⟩ := bd_some hr
  refine (e_lp_X11_copy_22_12_2 d hs P _ 0 S q1 hq1 ?_)
  have hr := Option.some.inj hr
  subst hr
  refine Wp.stepsG 1 (fun cal X P' hk hX hP => ?_)
  exact hP _ _ h
def lp_X11_copy_23_13_2 : Nat → Int32 → St → Option (St)
  | 0, _, _ => none
  | n + 1, v2, S =>
    if 48 ≤ v2 then
      some S
    else
      if 48 ≤ v2 then
        some S
      else
        gd (¬ (v2 < 0 ∨ 48 ≤ v2.toNatClampNeg)) (
          gd (¬ (v2 < 0 ∨ 48 ≤ v2.toNatClampNeg)) (
            lp_X11_copy_23_13_2 n (v2 + 1) (sA S 13 (upd (S.1 13) v2.toNatClampNeg ((S.1 23) v2.toNatClampNeg)))))
set_option maxRecDepth 20000 in
set_option maxHeartbeats 4000000 in
theorem e_lp_X11_copy_23_13_2 (d : Nat) (hs : List Hr) (P : Option Value → Hp → Prop) : ∀ (n : Nat) (v2 : Int32) (S : St) (q : St), lp_X11_copy_23_13_2 n v2 S = some q → (WM mi_X11_copy (d + 0) P 26 [some (.ref 23), some (.ref 13), none] [] (st q hs)) → WM mi_X11_copy (d + 0) P 2 [some (.ref 23), some (.ref 13), some (.int v2)] [] (st S hs) := by
  intro n
  induction n with
  | zero =>
    intro v2 S q hl
    cases hl
  | succ n ih =>
    intro v2 S q hl ct
    rw [lp_X11_copy_23_13_2] at hl
    refine Wp.stepsG 4 (fun cal X P' hk hX hP => ?_)
    show (48 ≤ v2 → X (26, [some (.ref 23), some (.ref 13), some (.int v2)], [], st S hs, 0, 0)) ∧ (¬ 48 ≤ v2 → X (8, [some (.ref 23), some (.ref 13), some (.int v2)], [], st S hs, 0, 0))
    refine ⟨fun hc => hX _ ?_, fun hc => hX _ ?_⟩
    · clear hP hX hk P' X cal
      rw [if_pos hc] at hl
      have hl := Option.some.inj hl
      subst hl
      exact Wp.weak (leL.k (leL.k (leL.n leL.z))) (ct)
    · clear hP hX hk P' X cal
      rw [if_neg hc] at hl
      refine Wp.stepsG 4 (fun cal X P' hk hX hP => ?_)
      show (48 ≤ v2 → X (26, [some (.ref 23), some (.ref 13), some (.int v2)], [], st S hs, 0, 0)) ∧ (¬ 48 ≤ v2 → X (14, [some (.ref 23), some (.ref 13), some (.int v2)], [], st S hs, 0, 0))
      refine ⟨fun hc => hX _ ?_, fun hc => hX _ ?_⟩
      · clear hP hX hk P' X cal
        rw [if_pos hc] at hl
        have hl := Option.some.inj hl
        subst hl
        exact Wp.weak (leL.k (leL.k (leL.n leL.z))) (ct)
      · clear hP hX hk P' X cal
        rw [if_neg hc] at hl
        refine Wp.stepsG 5 (fun cal X P' hk hX hP => ?_)
        show vp_in v2 48 ∧ X (19, [some (.ref 23), some (.ref 13), some (.int v2)], [.int ((S.1 23) v2.toNatClampNeg), .int v2, .ref 13], st S hs, 0, 0)
        obtain ⟨hg, hl⟩ := gd_some hl
        refine ⟨hg, hX _ ?_⟩
        clear hP hX hk P' X cal
        refine Wp.stepsG 1 (fun cal X P' hk hX hP => ?_)
        show vp_in v2 48 ∧ X (20, [some (.ref 23), some (.ref 13), some (.int v2)], [], st (sA S 13 (upd (S.1 13) v2.toNatClampNeg ((S.1 23) v2.toNatClampNeg))) hs, 0, 0)
        obtain ⟨hg, hl⟩ := gd_some hl
        refine ⟨hg, hX _ ?_⟩
        clear hP hX hk P' X cal
        refine Wp.stepsG 2 (fun cal X P' hk hX hP => ?_)
        show X (2, [some (.ref 23), some (.ref 13), some (.int (v2 + 1))], [], st (sA S 13 (upd (S.1 13) v2.toNatClampNeg ((S.1 23) v2.toNatClampNeg))) hs, 0, 0)
        refine hX _ ?_
        exact (ih (v2 + 1) (sA S 13 (upd (S.1 13) v2.toNatClampNeg ((S.1 23) v2.toNatClampNeg))) q hl ct)
def r_X11_copy_23_13 (S : St) : Option (Int32 × St) :=
  (lp_X11_copy_23_13_2 4000 0 S).bind fun q1 =>
    some (0, q1)
set_option maxRecDepth 20000 in
set_option maxHeartbeats 4000000 in
theorem e_X11_copy_23_13 (d : Nat) (S : St) (hs : List Hr) (v : Int32 × St) (hr : r_X11_copy_23_13 S = some v) (P : Option Value → Hp → Prop) (h : P none (st v.2 hs)) : Ev (d + 1) ix_X11_copy 0 0 [.ref 23, .ref 13] (st S hs) P := by
  refine Ev.intro (M := mi_X11_copy) rfl (Nat.le_of_ble_eq_true rfl) ?_
  unfold r_X11_copy_23_13 at hr
  refine Wp.stepsG 2 (fun cal X P' hk hX hP => ?_)
  show X (2, [some (.ref 23), some (.ref 13), some (.int 0)], [], st S hs, 0, 0)
  refine hX _ ?_
  clear hP hX hk P' X cal
  obtain ⟨q1, hq1, hr⟩ := bd_some hr
  refine (e_lp_X11_copy_23_13_2 d hs P _ 0 S q1 hq1 ?_)
  have hr := Option.some.inj hr
  subst hr
  refine Wp.stepsG 1 (fun cal X P' hk hX hP => ?_)
  exact hP _ _ h
def lp_X11_copy_24_14_2 : Nat → Int32 → St → Option (St)
  | 0, _, _ => none
  | n + 1, v2, S =>
    if 24 ≤ v2 then
      some S
    else
      if 24 ≤ v2 then
        some S
      else
        gd (¬ (v2 < 0 ∨ 24 ≤ v2.toNatClampNeg)) (
          gd (¬ (v2 < 0 ∨ 24 ≤ v2.toNatClampNeg)) (
            lp_X11_copy_24_14_2 n (v2 + 1) (sA S 14 (upd (S.1 14) v2.toNatClampNeg ((S.1 24) v2.toNatClampNeg)))))
set_option maxRecDepth 20000 in
set_option maxHeartbeats 4000000 in
theorem e_lp_X11_copy_24_14_2 (d : Nat) (hs : List Hr) (P : Option Value → Hp → Prop) : ∀ (n : Nat) (v2 : Int32) (S : St) (q : St), lp_X11_copy_24_14_2 n v2 S = some q → (WM mi_X11_copy (d + 0) P 26 [some (.ref 24), some (.ref 14), none] [] (st q hs)) → WM mi_X11_copy (d + 0) P 2 [some (.ref 24), some (.ref 14), some (.int v2)] [] (st S hs) := by
  intro n
  induction n with
  | zero =>
    intro v2 S q hl
    cases hl
  | succ n ih =>
    intro v2 S q hl ct
    rw [lp_X11_copy_24_14_2] at hl
    refine Wp.stepsG 4 (fun cal X P' hk hX hP => ?_)
    show (24 ≤ v2 → X (26, [some (.ref 24), some (.ref 14), some (.int v2)], [], st S hs, 0, 0)) ∧ (¬ 24 ≤ v2 → X (8, [some (.ref 24), some (.ref 14), some (.int v2)], [], st S hs, 0, 0))
    refine ⟨fun hc => hX _ ?_, fun hc => hX _ ?_⟩
    · clear hP hX hk P' X cal
      rw [if_pos hc] at hl
      have hl := Option.some.inj hl
      subst hl
      exact Wp.weak (leL.k (leL.k (leL.n leL.z))) (ct)
    · clear hP hX hk P' X cal
      rw [if_neg hc] at hl
      refine Wp.stepsG 4 (fun cal X P' hk hX hP => ?_)
      show (24 ≤ v2 → X (26, [some (.ref 24), some (.ref 14), some (.int v2)], [], st S hs, 0, 0)) ∧ (¬ 24 ≤ v2 → X (14, [some (.ref 24), some (.ref 14), some (.int v2)], [], st S hs, 0, 0))
      refine ⟨fun hc => hX _ ?_, fun hc => hX _ ?_⟩
      · clear hP hX hk P' X cal
        rw [if_pos hc] at hl
        have hl := Option.some.inj hl
        subst hl
        exact Wp.weak (leL.k (leL.k (leL.n leL.z))) (ct)
      · clear hP hX hk P' X cal
        rw [if_neg hc] at hl
        refine Wp.stepsG 5 (fun cal X P' hk hX hP => ?_)
        show vp_in v2 24 ∧ X (19, [some (.ref 24), some (.ref 14), some (.int v2)], [.int ((S.1 24) v2.toNatClampNeg), .int v2, .ref 14], st S hs, 0, 0)
        obtain ⟨hg, hl⟩ := gd_some hl
        refine ⟨hg, hX _ ?_⟩
        clear hP hX hk P' X cal
        refine Wp.stepsG 1 (fun cal X P' hk hX hP => ?_)
        show vp_in v2 24 ∧ X (20, [some (.ref 24), some (.ref 14), some (.int v2)], [], st (sA S 14 (upd (S.1 14) v2.toNatClampNeg ((S.1 24) v2.toNatClampNeg))) hs, 0, 0)
        obtain ⟨hg, hl⟩ := gd_some hl
        refine ⟨hg, hX _ ?_⟩
        clear hP hX hk P' X cal
        refine Wp.stepsG 2 (fun cal X P' hk hX hP => ?_)
        show X (2, [some (.ref 24), some (.ref 14), some (.int (v2 + 1))], [], st (sA S 14 (upd (S.1 14) v2.toNatClampNeg ((S.1 24) v2.toNatClampNeg))) hs, 0, 0)
        refine hX _ ?_
        exact (ih (v2 + 1) (sA S 14 (upd (S.1 14) v2.toNatClampNeg ((S.1 24) v2.toNatClampNeg))) q hl ct)
def r_X11_copy_24_14 (S : St) : Option (Int32 × St) :=
  (lp_X11_copy_24_14_2 4000 0 S).bind fun q1 =>
    some (0, q1)
set_option maxRecDepth 20000 in
set_option maxHeartbeats 4000000 in
theorem e_X11_copy_24_14 (d : Nat) (S : St) (hs : List Hr) (v : Int32 × St) (hr : r_X11_copy_24_14 S = some v) (P : Option Value → Hp → Prop) (h : P none (st v.2 hs)) : Ev (d + 1) ix_X11_copy 0 0 [.ref 24, .ref 14] (st S hs) P := by
  refine Ev.intro (M := mi_X11_copy) rfl (Nat.le_of_ble_eq_true rfl) ?_
  unfold r_X11_copy_24_14 at hr
  refine Wp.stepsG 2 (fun cal X P' hk hX hP => ?_)
  show X (2, [some (.ref 24), some (.ref 14), some (.int 0)], [], st S hs, 0, 0)
  refine hX _ ?_
  clear hP hX hk P' X cal
  obtain ⟨q1, hq1, hr⟩ := bd_some hr
  refine (e_lp_X11_copy_24_14_2 d hs P _ 0 S q1 hq1 ?_)
  have hr := Option.some.inj hr
  subst hr
  refine Wp.stepsG 1 (fun cal X P' hk hX hP => ?_)
  exact hP _ _ h
def lp_X11_copy_25_15_2 : Nat → Int32 → St → Option (St)
  | 0, _, _ => none
  | n + 1, v2, S =>
    if 6 ≤ v2 then
      some S
    else
      if 6 ≤ v2 then
        some S
      else
        gd (¬ (v2 < 0 ∨ 6 ≤ v2.toNatClampNeg)) (
          gd (¬ (v2 < 0 ∨ 6 ≤ v2.toNatClampNeg)) (
            lp_X11_copy_25_15_2 n (v2 + 1) (sA S 15 (upd (S.1 15) v2.toNatClampNeg ((S.1 25) v2.toNatClampNeg)))))
set_option maxRecDepth 20000 in
set_option maxHeartbeats 4000000 in
theorem e_lp_X11_copy_25_15_2 (d : Nat) (hs : List Hr) (P : Option Value → Hp → Prop) : ∀ (n : Nat) (v2 : Int32) (S : St) (q : St), lp_X11_copy_25_15_2 n v2 S = some q → (WM mi_X11_copy (d + 0) P 26 [some (.ref 25), some (.ref 15), none] [] (st q hs)) → WM mi_X11_copy (d + 0) P 2 [some (.ref 25), some (.ref 15), some (.int v2)] [] (st S hs) := by
  intro n
  induction n with
  | zero =>
    intro v2 S q hl
    cases hl
  | succ n ih =>
    intro v2 S q hl ct
    rw [lp_X11_copy_25_15_2] at hl
    refine Wp.stepsG 4 (fun cal X P' hk hX hP => ?_)
    show (6 ≤ v2 → X (26, [some (.ref 25), some (.ref 15), some (.int v2)], [], st S hs, 0, 0)) ∧ (¬ 6 ≤ v2 → X (8, [some (.ref 25), some (.ref 15), some (.int v2)], [], st S hs, 0, 0))
    refine ⟨fun hc => hX _ ?_, fun hc => hX _ ?_⟩
    · clear hP hX hk P' X cal
      rw [if_pos hc] at hl
      have hl := Option.some.inj hl
      subst hl
      exact Wp.weak (leL.k (leL.k (leL.n leL.z))) (ct)
    · clear hP hX hk P' X cal
      rw [if_neg hc] at hl
      refine Wp.stepsG 4 (fun cal X P' hk hX hP => ?_)
      show (6 ≤ v2 → X (26, [some (.ref 25), some (.ref 15), some (.int v2)], [], st S hs, 0, 0)) ∧ (¬ 6 ≤ v2 → X (14, [some (.ref 25), some (.ref 15), some (.int v2)], [], st S hs, 0, 0))
      refine ⟨fun hc => hX _ ?_, fun hc => hX _ ?_⟩
      · clear hP hX hk P' X cal
        rw [if_pos hc] at hl
        have hl := Option.some.inj hl
        subst hl
        exact Wp.weak (leL.k (leL.k (leL.n leL.z))) (ct)
      · clear hP hX hk P' X cal
        rw [if_neg hc] at hl
        refine Wp.stepsG 5 (fun cal X P' hk hX hP => ?_)
        show vp_in v2 6 ∧ X (19, [some (.ref 25), some (.ref 15), some (.int v2)], [.int ((S.1 25) v2.toNatClampNeg), .int v2, .ref 15], st S hs, 0, 0)
        obtain ⟨hg, hl⟩ := gd_some hl
        refine ⟨hg, hX _ ?_⟩
        clear hP hX hk P' X cal
        refine Wp.stepsG 1 (fun cal X P' hk hX hP => ?_)
        show vp_in v2 6 ∧ X (20, [some (.ref 25), some (.ref 15), some (.int v2)], [], st (sA S 15 (upd (S.1 15) v2.toNatClampNeg ((S.1 25) v2.toNatClampNeg))) hs, 0, 0)
        obtain ⟨hg, hl⟩ := gd_some hl
        refine ⟨hg, hX _ ?_⟩
        clear hP hX hk P' X cal
        refine Wp.stepsG 2 (fun cal X P' hk hX hP => ?_)
        show X (2, [some (.ref 25), some (.ref 15), some (.int (v2 + 1))], [], st (sA S 15 (upd (S.1 15) v2.toNatClampNeg ((S.1 25) v2.toNatClampNeg))) hs, 0, 0)
        refine hX _ ?_
        exact (ih (v2 + 1) (sA S 15 (upd (S.1 15) v2.toNatClampNeg ((S.1 25) v2.toNatClampNeg))) q hl ct)
def r_X11_copy_25_15 (S : St) : Option (Int32 × St) :=
  (lp_X11_copy_25_15_2 4000 0 S).bind fun q1 =>
    some (0, q1)
set_option maxRecDepth 20000 in
set_option maxHeartbeats 4000000 in
theorem e_X11_copy_25_15 (d : Nat) (S : St) (hs : List Hr) (v : Int32 × St) (hr : r_X11_copy_25_15 S = some v) (P : Option Value → Hp → Prop) (h : P none (st v.2 hs)) : Ev (d + 1) ix_X11_copy 0 0 [.ref 25, .ref 15] (st S hs) P := by
  refine Ev.intro (M := mi_X11_copy) rfl (Nat.le_of_ble_eq_true rfl) ?_
  unfold r_X11_copy_25_15 at hr
  refine Wp.stepsG 2 (fun cal X P' hk hX hP => ?_)
  show X (2, [some (.ref 25), some (.ref 15), some (.int 0)], [], st S hs, 0, 0)
  refine hX _ ?_
  clear hP hX hk P' X cal
  obtain ⟨q1, hq1, hr⟩ := bd_some hr
  refine (e_lp_X11_copy_25_15_2 d hs P _ 0 S q1 hq1 ?_)
  have hr := Option.some.inj hr
  subst hr
  refine Wp.stepsG 1 (fun cal X P' hk hX hP => ?_)
  exact hP _ _ h
def lp_X11_copy_26_16_2 : Nat → Int32 → St → Option (St)
  | 0, _, _ => none
  | n + 1, v2, S =>
    if 6 ≤ v2 then
      some S
    else
      if 6 ≤ v2 then
        some S
      else
        gd (¬ (v2 < 0 ∨ 6 ≤ v2.toNatClampNeg)) (
          gd (¬ (v2 < 0 ∨ 6 ≤ v2.toNatClampNeg)) (
            lp_X11_copy_26_16_2 n (v2 + 1) (sA S 16 (upd (S.1 16) v2.toNatClampNeg ((S.1 26) v2.toNatClampNeg)))))
set_option maxRecDepth 20000 in
set_option maxHeartbeats 4000000 in
theorem e_lp_X11_copy_26_16_2 (d : Nat) (hs : List Hr) (P : Option Value → Hp → Prop) : ∀ (n : Nat) (v2 : Int32) (S : St) (q : St), lp_X11_copy_26_16_2 n v2 S = some q → (WM mi_X11_copy (d + 0) P 26 [some (.ref 26), some (.ref 16), none] [] (st q hs)) → WM mi_X11_copy (d + 0) P 2 [some (.ref 26), some (.ref 16), some (.int v2)] [] (st S hs) := by
  intro n
  induction n with
  | zero =>
    intro v2 S q hl
    cases hl
  | succ n ih =>
    intro v2 S q hl ct
    rw [lp_X11_copy_26_16_2] at hl
    refine Wp.stepsG 4 (fun cal X P' hk hX hP => ?_)
    show (6 ≤ v2 → X (26, [some (.ref 26), some (.ref 16), some (.int v2)], [], st S hs, 0, 0)) ∧ (¬ 6 ≤ v2 → X (8, [some (.ref 26), some (.ref 16), some (.int v2)], [], st S hs, 0, 0))
    refine ⟨fun hc => hX _ ?_, fun hc => hX _ ?_⟩
    · clear hP hX hk P' X cal
      rw [if_pos hc] at hl
      have hl := Option.some.inj hl
      subst hl
      exact Wp.weak (leL.k (leL.k (leL.n leL.z))) (ct)
    · clear hP hX hk P' X cal
      rw [if_neg hc] at hl
      refine Wp.stepsG 4 (fun cal X P' hk hX hP => ?_)
      show (6 ≤ v2 → X (26, [some (.ref 26), some (.ref 16), some (.int v2)], [], st S hs, 0, 0)) ∧ (¬ 6 ≤ v2 → X (14, [some (.ref 26), some (.ref 16), some (.int v2)], [], st S hs, 0, 0))
      refine ⟨fun hc => hX _ ?_, fun hc => hX _ ?_⟩
      · clear hP hX hk P' X cal
        rw [if_pos hc] at hl
        have hl := Option.some.inj hl
        subst hl
        exact Wp.weak (leL.k (leL.k (leL.n leL.z))) (ct)
      · clear hP hX hk P' X cal
        rw [if_neg hc] at hl
        refine Wp.stepsG 5 (fun cal X P' hk hX hP => ?_)
        show vp_in v2 6 ∧ X (19, [some (.ref 26), some (.ref 16), some (.int v2)], [.int ((S.1 26) v2.toNatClampNeg), .int v2, .ref 16], st S hs, 0, 0)
        obtain ⟨hg, hl⟩ := gd_some hl
        refine ⟨hg, hX _ ?_⟩
        clear hP hX hk P' X cal
        refine Wp.stepsG 1 (fun cal X P' hk hX hP => ?_)
        show vp_in v2 6 ∧ X (20, [some (.ref 26), some (.ref 16), some (.int v2)], [], st (sA S 16 (upd (S.1 16) v2.toNatClampNeg ((S.1 26) v2.toNatClampNeg))) hs, 0, 0)
        obtain ⟨hg, hl⟩ := gd_some hl
        refine ⟨hg, hX _ ?_⟩
        clear hP hX hk P' X cal
        refine Wp.stepsG 2 (fun cal X P' hk hX hP => ?_)
        show X (2, [some (.ref 26), some (.ref 16), some (.int (v2 + 1))], [], st (sA S 16 (upd (S.1 16) v2.toNatClampNeg ((S.1 26) v2.toNatClampNeg))) hs, 0, 0)
        refine hX _ ?_
        exact (ih (v2 + 1) (sA S 16 (upd (S.1 16) v2.toNatClampNeg ((S.1 26) v2.toNatClampNeg))) q hl ct)
def r_X11_copy_26_16 (S : St) : Option (Int32 × St) :=
  (lp_X11_copy_26_16_2 4000 0 S).bind fun q1 =>
    some (0, q1)
set_option maxRecDepth 20000 in
set_option maxHeartbeats 4000000 in
theorem e_X11_copy_26_16 (d : Nat) (S : St) (hs : List Hr) (v : Int32 × St) (hr : r_X11_copy_26_16 S = some v) (P : Option Value → Hp → Prop) (h : P none (st v.2 hs)) : Ev (d + 1) ix_X11_copy 0 0 [.ref 26, .ref 16] (st S hs) P := by
  refine Ev.intro (M := mi_X11_copy) rfl (Nat.le_of_ble_eq_true rfl) ?_
  unfold r_X11_copy_26_16 at hr
  refine Wp.stepsG 2 (fun cal X P' hk hX hP => ?_)
  show X (2, [some (.ref 26), some (.ref 16), some (.int 0)], [], st S hs, 0, 0)
  refine hX _ ?_
  clear hP hX hk P' X cal
  obtain ⟨q1, hq1, hr⟩ := bd_some hr
  refine (e_lp_X11_copy_26_16_2 d hs P _ 0 S q1 hq1 ?_)
  have hr := Option.some.inj hr
  subst hr
  refine Wp.stepsG 1 (fun cal X P' hk hX hP => ?_)
  exact hP _ _ h
def lp_X11_copy_27_17_2 : Nat → Int32 → St → Option (St)
  | 0, _, _ => none
  | n + 1, v2, S =>
    if 10 ≤ v2 then
      some S
    else
      if 10 ≤ v2 then
        some S
      else
        gd (¬ (v2 < 0 ∨ 10 ≤ v2.toNatClampNeg)) (
          gd (¬ (v2 < 0 ∨ 10 ≤ v2.toNatClampNeg)) (
            lp_X11_copy_27_17_2 n (v2 + 1) (sA S 17 (upd (S.1 17) v2.toNatClampNeg ((S.1 27) v2.toNatClampNeg)))))
set_option maxRecDepth 20000 in
set_option maxHeartbeats 4000000 in
theorem e_lp_X11_copy_27_17_2 (d : Nat) (hs : List Hr) (P : Option Value → Hp → Prop) : ∀ (n : Nat) (v2 : Int32) (S : St) (q : St), lp_X11_copy_27_17_2 n v2 S = some q → (WM mi_X11_copy (d + 0) P 26 [some (.ref 27), some (.ref 17), none] [] (st q hs)) → WM mi_X11_copy (d + 0) P 2 [some (.ref 27), some (.ref 17), some (.int v2)] [] (st S hs) := by
  intro n
  induction n with
  | zero =>
    intro v2 S q hl
    cases hl
  | succ n ih =>
    intro v2 S q hl ct
    rw [lp_X11_copy_27_17_2] at hl
    refine Wp.stepsG 4 (fun cal X P' hk hX hP => ?_)
    show (10 ≤ v2 → X (26, [some (.ref 27), some (.ref 17), some (.int v2)], [], st S hs, 0, 0)) ∧ (¬ 10 ≤ v2 → X (8, [some (.ref 27), some (.ref 17), some (.int v2)], [], st S hs, 0, 0))
    refine ⟨fun hc => hX _ ?_, fun hc => hX _ ?_⟩
    · clear hP hX hk P' X cal
      rw [if_pos hc] at hl
      have hl := Option.some.inj hl
      subst hl
      exact Wp.weak (leL.k (leL.k (leL.n leL.z))) (ct)
    · clear hP hX hk P' X cal
      rw [if_neg hc] at hl
      refine Wp.stepsG 4 (fun cal X P' hk hX hP => ?_)
      show (10 ≤ v2 → X (26, [some (.ref 27), some (.ref 17), some (.int v2)], [], st S hs, 0, 0)) ∧ (¬ 10 ≤ v2 → X (14, [some (.ref 27), some (.ref 17), some (.int v2)], [], st S hs, 0, 0))
      refine ⟨fun hc => hX _ ?_, fun hc => hX _ ?_⟩
      · clear hP hX hk P' X cal
        rw [if_pos hc] at hl
        have hl := Option.some.inj hl
        subst hl
        exact Wp.weak (leL.k (leL.k (leL.n leL.z))) (ct)
      · clear hP hX hk P' X cal
        rw [if_neg hc] at hl
        refine Wp.stepsG 5 (fun cal X P' hk hX hP => ?_)
        show vp_in v2 10 ∧ X (19, [some (.ref 27), some (.ref 17), some (.int v2)], [.int ((S.1 27) v2.toNatClampNeg), .int v2, .ref 17], st S hs, 0, 0)
        obtain ⟨hg, hl⟩ := gd_some hl
        refine ⟨hg, hX _ ?_⟩
        clear hP hX hk P' X cal
        refine Wp.stepsG 1 (fun cal X P' hk hX hP => ?_)
        show vp_in v2 10 ∧ X (20, [some (.ref 27), some (.ref 17), some (.int v2)], [], st (sA S 17 (upd (S.1 17) v2.toNatClampNeg ((S.1 27) v2.toNatClampNeg))) hs, 0, 0)
        obtain ⟨hg, hl⟩ := gd_some hl
        refine ⟨hg, hX _ ?_⟩
        clear hP hX hk P' X cal
        refine Wp.stepsG 2 (fun cal X P' hk hX hP => ?_)
        show X (2, [some (.ref 27), some (.ref 17), some (.int (v2 + 1))], [], st (sA S 17 (upd (S.1 17) v2.toNatClampNeg ((S.1 27) v2.toNatClampNeg))) hs, 0, 0)
        refine hX _ ?_
        exact (ih (v2 + 1) (sA S 17 (upd (S.1 17) v2.toNatClampNeg ((S.1 27) v2.toNatClampNeg))) q hl ct)
def r_X11_copy_27_17 (S : St) : Option (Int32 × St) :=
  (lp_X11_copy_27_17_2 4000 0 S).bind fun q1 =>
    some (0, q1)
set_option maxRecDepth 20000 in
set_option maxHeartbeats 4000000 in
theorem e_X11_copy_27_17 (d : Nat) (S : St) (hs : List Hr) (v : Int32 × St) (hr : r_X11_copy_27_17 S = some v) (P : Option Value → Hp → Prop) (h : P none (st v.2 hs)) : Ev (d + 1) ix_X11_copy 0 0 [.ref 27, .ref 17] (st S hs) P := by
  refine Ev.intro (M := mi_X11_copy) rfl (Nat.le_of_ble_eq_true rfl) ?_
  unfold r_X11_copy_27_17 at hr
  refine Wp.stepsG 2 (fun cal X P' hk hX hP => ?_)
  show X (2, [some (.ref 27), some (.ref 17), some (.int 0)], [], st S hs, 0, 0)
  refine hX _ ?_
  clear hP hX hk P' X cal
  obtain ⟨q1, hq1, hr⟩ := bd_some hr
  refine (e_lp_X11_copy_27_17_2 d hs P _ 0 S q1 hq1 ?_)
  have hr := Option.some.inj hr
  subst hr
  refine Wp.stepsG 1 (fun cal X P' hk hX hP => ?_)
  exact hP _ _ h
def lp_X7_become_8_18_72 (hs : List Hr) : Nat → Int32 → St → Option (St)
  | 0, _, _ => none
  | n + 1, v2, S =>
    if 6 ≤ v2 then
      some S
    else
      if 6 ≤ v2 then
        some S
      else
        gd (¬ (v2 < 0 ∨ 6 ≤ v2.toNatClampNeg)) (
          oH hs (S.2.2 21 v2.toNatClampNeg) (
            gd (¬ (v2 < 0 ∨ 6 ≤ v2.toNatClampNeg)) (
              lp_X7_become_8_18_72 hs n (v2 + 1) (sQ S 11 (va_up (S.2.2 11) v2.toNatClampNeg none)))) (fun zb3 =>
            gd (¬ (v2 < 0 ∨ 6 ≤ v2.toNatClampNeg)) (
              lp_X7_become_8_18_72 hs n (v2 + 1) (sQ S 11 (va_up (S.2.2 11) v2.toNatClampNeg (S.2.2 21 v2.toNatClampNeg))))))
set_option maxRecDepth 20000 in
set_option maxHeartbeats 4000000 in
theorem e_lp_X7_become_8_18_72 (d : Nat) (hs : List Hr) (P : Option Value → Hp → Prop) : ∀ (n : Nat) (v2 : Int32) (S : St) (q : St), lp_X7_become_8_18_72 hs n v2 S = some q → (WM mi_X7_become (d + 1) P 108 [some (.ref 8), some (.ref 18), none] [] (st q hs)) → WM mi_X7_become (d + 1) P 72 [some (.ref 8), some (.ref 18), some (.int v2)] [] (st S hs) := by
  intro n
  induction n with
  | zero =>
    intro v2 S q hl
    cases hl
  | succ n ih =>
    intro v2 S q hl ct
    rw [lp_X7_become_8_18_72] at hl
    refine Wp.stepsG 5 (fun cal X P' hk hX hP => ?_)
    show (6 ≤ v2 → X (108, [some (.ref 8), some (.ref 18), some (.int v2)], [], st S hs, 0, 0)) ∧ (¬ 6 ≤ v2 → X (81, [some (.ref 8), some (.ref 18), some (.int v2)], [], st S hs, 0, 0))
    refine ⟨fun hc => hX _ ?_, fun hc => hX _ ?_⟩
    · clear hP hX hk P' X cal
      rw [if_pos hc] at hl
      have hl := Option.some.inj hl
      subst hl
      exact Wp.weak (leL.k (leL.k (leL.n leL.z))) (ct)
    · clear hP hX hk P' X cal
      rw [if_neg hc] at hl
      refine Wp.stepsG 5 (fun cal X P' hk hX hP => ?_)
      show (6 ≤ v2 → X (108, [some (.ref 8), some (.ref 18), some (.int v2)], [], st S hs, 0, 0)) ∧ (¬ 6 ≤ v2 → X (90, [some (.ref 8), some (.ref 18), some (.int v2)], [], st S hs, 0, 0))
      refine ⟨fun hc => hX _ ?_, fun hc => hX _ ?_⟩
      · clear hP hX hk P' X cal
        rw [if_pos hc] at hl
        have hl := Option.some.inj hl
        subst hl
        exact Wp.weak (leL.k (leL.k (leL.n leL.z))) (ct)
      · clear hP hX hk P' X cal
        rw [if_neg hc] at hl
        refine Wp.stepsG 7 (fun cal X P' hk hX hP => ?_)
        show vp_in v2 6 ∧ X (101, [some (.ref 8), some (.ref 18), some (.int v2)], [va_rf (S.2.2 21 v2.toNatClampNeg), .int v2, .ref 11], st S hs, 0, 0)
        obtain ⟨hg, hl⟩ := gd_some hl
        refine ⟨hg, hX _ ?_⟩
        clear hP hX hk P' X cal
        rcases oH_some hl with ⟨hz, hl⟩ | ⟨b3, zb3, hz, hb3, fb3, hl⟩
        · rw [hz]
          refine Wp.stepsG 1 (fun cal X P' hk hX hP => ?_)
          show vp_in v2 6 ∧ X (102, [some (.ref 8), some (.ref 18), some (.int v2)], [], st (sQ S 11 (va_up (S.2.2 11) v2.toNatClampNeg none)) hs, 0, 0)
          obtain ⟨hg, hl⟩ := gd_some hl
          refine ⟨hg, hX _ ?_⟩
          clear hP hX hk P' X cal
          refine Wp.stepsG 2 (fun cal X P' hk hX hP => ?_)
          show X (72, [some (.ref 8), some (.ref 18), some (.int (v2 + 1))], [], st (sQ S 11 (va_up (S.2.2 11) v2.toNatClampNeg none)) hs, 0, 0)
          refine hX _ ?_
          exact (ih (v2 + 1) (sQ S 11 (va_up (S.2.2 11) v2.toNatClampNeg none)) q hl ct)
        · rw [hz]
          refine Wp.stepsG 1 (fun cal X P' hk hX hP => ?_)
          obtain ⟨hg, hl⟩ := gd_some hl
          refine ⟨hg, kObj_at (hb3 _) (kB_at (aok11 fb3) ?_)⟩
          show X (102, [some (.ref 8), some (.ref 18), some (.int v2)], [], st (sQ S 11 (va_up (S.2.2 11) v2.toNatClampNeg (some b3))) hs, 0, 0)
          rw [← hz]
          refine hX _ ?_
          clear hP hX hk P' X cal
          refine Wp.stepsG 2 (fun cal X P' hk hX hP => ?_)
          show X (72, [some (.ref 8), some (.ref 18), some (.int (v2 + 1))], [], st (sQ S 11 (va_up (S.2.2 11) v2.toNatClampNeg (S.2.2 21 v2.toNatClampNeg))) hs, 0, 0)
          refine hX _ ?_
          exact (ih (v2 + 1) (sQ S 11 (va_up (S.2.2 11) v2.toNatClampNeg (S.2.2 21 v2.toNatClampNeg))) q hl ct)
def r_X7_become_8_18 (S : St) (hs : List Hr) : Option (Int32 × St) :=
  (r_X11_copy_19_9 (sI (sI (sI (sI (sI (sI S 8 0 (S.1 18 0)) 8 1 (S.1 18 1)) 8 2 (S.1 18 2)) 8 3 (S.1 18 3)) 8 4 (S.1 18 4)) 8 5 (S.1 18 5))).bind fun q1 =>
  (r_X11_copy_20_10 q1.2).bind fun q2 =>
  (lp_X7_become_8_18_72 hs 4000 0 q2.2).bind fun q4 =>
    (r_X11_copy_22_12 q4).bind fun q5 =>
    (r_X11_copy_23_13 q5.2).bind fun q6 =>
    (r_X11_copy_24_14 q6.2).bind fun q7 =>
    (r_X11_copy_25_15 q7.2).bind fun q8 =>
    (r_X11_copy_26_16 q8.2).bind fun q9 =>
    (r_X11_copy_27_17 q9.2).bind fun q10 =>
    some (0, q10.2)
set_option maxRecDepth 20000 in
set_option maxHeartbeats 4000000 in
theorem e_X7_become_8_18 (d : Nat) (S : St) (hs : List Hr) (v : Int32 × St) (hr : r_X7_become_8_18 S hs = some v) (P : Option Value → Hp → Prop) (h : P none (st v.2 hs)) : Ev (d + 2) ix_X7_become 0 0 [.ref 8, .ref 18] (st S hs) P := by
  refine Ev.intro (M := mi_X7_become) rfl (Nat.le_of_ble_eq_true rfl) ?_
  unfold r_X7_become_8_18 at hr
  refine Wp.stepsG 29 (fun cal X P' hk hX hP => ?_)
  show kcall cal ix_X11_copy [.ref 19, .ref 9] (st (sI (sI (sI (sI (sI (sI S 8 0 (S.1 18 0)) 8 1 (S.1 18 1)) 8 2 (S.1 18 2)) 8 3 (S.1 18 3)) 8 4 (S.1 18 4)) 8 5 (S.1 18 5)) hs) [] 0 0 (0, 0) (fun v σ' c' m' => X (59, [some (.ref 8), some (.ref 18), none], v.toList ++ [], σ', c', m'))
  obtain ⟨q1, hq1, hr⟩ := bd_some hr
  refine kcall0 rfl (hk _ _ _ _ _ _ (e_X11_copy_19_9 (d + 0) (sI (sI (sI (sI (sI (sI S 8 0 (S.1 18 0)) 8 1 (S.1 18 1)) 8 2 (S.1 18 2)) 8 3 (S.1 18 3)) 8 4 (S.1 18 4)) 8 5 (S.1 18 5)) hs q1 hq1 _ ?_))
  show X (59, [some (.ref 8), some (.ref 18), none], [], st q1.2 hs, 0, 0)
  refine hX _ ?_
  clear hP hX hk P' X cal
  refine Wp.stepsG 5 (fun cal X P' hk hX hP => ?_)
  show kcall cal ix_X11_copy [.ref 20, .ref 10] (st q1.2 hs) [] 0 0 (0, 0) (fun v σ' c' m' => X (70, [some (.ref 8), some (.ref 18), none], v.toList ++ [], σ', c', m'))
  obtain ⟨q2, hq2, hr⟩ := bd_some hr
  refine kcall0 rfl (hk _ _ _ _ _ _ (e_X11_copy_20_10 (d + 0) q1.2 hs q2 hq2 _ ?_))
  show X (70, [some (.ref 8), some (.ref 18), none], [], st q2.2 hs, 0, 0)
  refine hX _ ?_
  clear hP hX hk P' X cal
  refine Wp.stepsG 2 (fun cal X P' hk hX hP => ?_)
  show X (72, [some (.ref 8), some (.ref 18), some (.int 0)], [], st q2.2 hs, 0, 0)
  refine hX _ ?_
  clear hP hX hk P' X cal
  obtain ⟨q4, hq4, hr⟩ := bd_some hr
  refine (e_lp_X7_become_8_18_72 d hs P _ 0 q2.2 q4 hq4 ?_)
  refine Wp.stepsG 5 (fun cal X P' hk hX hP => ?_)
  show kcall cal ix_X11_copy [.ref 22, .ref 12] (st q4 hs) [] 0 0 (0, 0) (fun v σ' c' m' => X (119, [some (.ref 8), some (.ref 18), none], v.toList ++ [], σ', c', m'))
  obtain ⟨q5, hq5, hr⟩ := bd_some hr
  refine kcall0 rfl (hk _ _ _ _ _ _ (e_X11_copy_22_12 (d + 0) q4 hs q5 hq5 _ ?_))
  show X (119, [some (.ref 8), some (.ref 18), none], [], st q5.2 hs, 0, 0)
  refine hX _ ?_
  clear hP hX hk P' X cal
  refine Wp.stepsG 5 (fun cal X P' hk hX hP => ?_)
  show kcall cal ix_X11_copy [.ref 23, .ref 13] (st q5.2 hs) [] 0 0 (0, 0) (fun v σ' c' m' => X (130, [some (.ref 8), some (.ref 18), none], v.toList ++ [], σ', c', m'))
  obtain ⟨q6, hq6, hr⟩ := bd_some hr
  refine kcall0 rfl (hk _ _ _ _ _ _ (e_X11_copy_23_13 (d + 0) q5.2 hs q6 hq6 _ ?_))
  show X (130, [some (.ref 8), some (.ref 18), none], [], st q6.2 hs, 0, 0)
  refine hX _ ?_
  clear hP hX hk P' X cal
  refine Wp.stepsG 5 (fun cal X P' hk hX hP => ?_)
  show kcall cal ix_X11_copy [.ref 24, .ref 14] (st q6.2 hs) [] 0 0 (0, 0) (fun v σ' c' m' => X (141, [some (.ref 8), some (.ref 18), none], v.toList ++ [], σ', c', m'))
  obtain ⟨q7, hq7, hr⟩ := bd_some hr
  refine kcall0 rfl (hk _ _ _ _ _ _ (e_X11_copy_24_14 (d + 0) q6.2 hs q7 hq7 _ ?_))
  show X (141, [some (.ref 8), some (.ref 18), none], [], st q7.2 hs, 0, 0)
  refine hX _ ?_
  clear hP hX hk P' X cal
  refine Wp.stepsG 5 (fun cal X P' hk hX hP => ?_)
  show kcall cal ix_X11_copy [.ref 25, .ref 15] (st q7.2 hs) [] 0 0 (0, 0) (fun v σ' c' m' => X (152, [some (.ref 8), some (.ref 18), none], v.toList ++ [], σ', c', m'))
  obtain ⟨q8, hq8, hr⟩ := bd_some hr
  refine kcall0 rfl (hk _ _ _ _ _ _ (e_X11_copy_25_15 (d + 0) q7.2 hs q8 hq8 _ ?_))
  show X (152, [some (.ref 8), some (.ref 18), none], [], st q8.2 hs, 0, 0)
  refine hX _ ?_
  clear hP hX hk P' X cal
  refine Wp.stepsG 5 (fun cal X P' hk hX hP => ?_)
  show kcall cal ix_X11_copy [.ref 26, .ref 16] (st q8.2 hs) [] 0 0 (0, 0) (fun v σ' c' m' => X (163, [some (.ref 8), some (.ref 18), none], v.toList ++ [], σ', c', m'))
  obtain ⟨q9, hq9, hr⟩ := bd_some hr
  refine kcall0 rfl (hk _ _ _ _ _ _ (e_X11_copy_26_16 (d + 0) q8.2 hs q9 hq9 _ ?_))
  show X (163, [some (.ref 8), some (.ref 18), none], [], st q9.2 hs, 0, 0)
  refine hX _ ?_
  clear hP hX hk P' X cal
  refine Wp.stepsG 5 (fun cal X P' hk hX hP => ?_)
  show kcall cal ix_X11_copy [.ref 27, .ref 17] (st q9.2 hs) [] 0 0 (0, 0) (fun v σ' c' m' => X (174, [some (.ref 8), some (.ref 18), none], v.toList ++ [], σ', c', m'))
  obtain ⟨q10, hq10, hr⟩ := bd_some hr
  refine kcall0 rfl (hk _ _ _ _ _ _ (e_X11_copy_27_17 (d + 0) q9.2 hs q10 hq10 _ ?_))
  show X (174, [some (.ref 8), some (.ref 18), none], [], st q10.2 hs, 0, 0)
  refine hX _ ?_
  clear hP hX hk P' X cal
  have hr := Option.some.inj hr
  subst hr
  refine Wp.stepsG 1 (fun cal X P' hk hX hP => ?_)
  exact hP _ _ h
def r_X11_undo (S : St) (hs : List Hr) : Option (Int32 × St) :=
  if (S.1 7 2) = 0 then
    some ((-3), S)
  else
    (r_X7_become_8_18 S hs).bind fun q1 =>
    some (q1.2.1 8 3, q1.2)
set_option maxRecDepth 20000 in
set_option maxHeartbeats 4000000 in
theorem e_X11_undo (d : Nat) (S : St) (hs : List Hr) (v : Int32 × St) (hr : r_X11_undo S hs = some v) (P : Option Value → Hp → Prop) (h : P (some (.int v.1)) (st v.2 hs)) : Ev (d + 3) ix_X11_undo 0 0 [.ref 7] (st S hs) P := by
  refine Ev.intro (M := mi_X11_undo) rfl (Nat.le_of_ble_eq_true rfl) ?_
  unfold r_X11_undo at hr
  refine Wp.stepsG 3 (fun cal X P' hk hX hP => ?_)
  show (¬ (S.1 7 2) = 0 → X (10, [some (.ref 7)], [], st S hs, 0, 0)) ∧ ((S.1 7 2) = 0 → X (7, [some (.ref 7)], [], st S hs, 0, 0))
  refine ⟨fun hc => hX _ ?_, fun hc => hX _ ?_⟩
  · clear hP hX hk P' X cal
    rw [if_neg hc] at hr
    refine Wp.stepsG 5 (fun cal X P' hk hX hP => ?_)
    show kcall cal ix_X7_become [.ref 8, .ref 18] (st S hs) [] 0 0 (0, 0) (fun v σ' c' m' => X (21, [some (.ref 7)], v.toList ++ [], σ', c', m'))
    obtain ⟨q1, hq1, hr⟩ := bd_some hr
    refine kcall0 rfl (hk _ _ _ _ _ _ (e_X7_become_8_18 (d + 0) S hs q1 hq1 _ ?_))
    show X (21, [some (.ref 7)], [], st q1.2 hs, 0, 0)
    refine hX _ ?_
    clear hP hX hk P' X cal
    have hr := Option.some.inj hr
    subst hr
    refine Wp.stepsG 4 (fun cal X P' hk hX hP => ?_)
    exact hP _ _ h
  · clear hP hX hk P' X cal
    rw [if_pos hc] at hr
    have hr := Option.some.inj hr
    subst hr
    refine Wp.stepsG 2 (fun cal X P' hk hX hP => ?_)
    exact hP _ _ h
def r_X11_act (S : St) (hs : List Hr) (a1 : Int32) (a2 : Int32) (a3 : Int32) : Option (Int32 × St) :=
  (r_X10_clear_30 S).bind fun q1 =>
  (r_X11_hearerAt q1.2 a1).bind fun q2 =>
  oH hs (q2) (
    some (0, q1.2)) (fun zb3 =>
    if a2 = 0 then
      (r_sel_hears q1.2 zb3 a3).bind fun q4 =>
      some (q4.1, q4.2)
    else
    if a2 = 1 then
      (r_sel_laughs q1.2 zb3 a3).bind fun q5 =>
      some (q5.1, q5.2)
    else
    if a2 = 2 then
      (r_sel_tells q1.2 zb3 a3).bind fun q6 =>
      some (q6.1, q6.2)
    else
      some (0, q1.2))
set_option maxRecDepth 20000 in
set_option maxHeartbeats 4000000 in
theorem e_X11_act (d : Nat) (S : St) (hs : List Hr) (a1 : Int32) (a2 : Int32) (a3 : Int32) (v : Int32 × St) (hr : r_X11_act S hs a1 a2 a3 = some v) (P : Option Value → Hp → Prop) (h : P (some (.int v.1)) (st v.2 hs)) : Ev (d + 8) ix_X11_act 0 0 [.ref 7, .int a1, .int a2, .int a3] (st S hs) P := by
  refine Ev.intro (M := mi_X11_act) rfl (Nat.le_of_ble_eq_true rfl) ?_
  unfold r_X11_act at hr
  refine Wp.stepsG 3 (fun cal X P' hk hX hP => ?_)
  show kcall cal ix_X10_clear [.ref 30] (st S hs) [] 0 0 (0, 0) (fun v σ' c' m' => X (7, [some (.ref 7), some (.int a1), some (.int a2), some (.int a3), none], v.toList ++ [], σ', c', m'))
  obtain ⟨q1, hq1, hr⟩ := bd_some hr
  refine kcall0 rfl (hk _ _ _ _ _ _ (e_X10_clear_30 (d + 6) S hs q1 hq1 _ ?_))
  show X (7, [some (.ref 7), some (.int a1), some (.int a2), some (.int a3), none], [], st q1.2 hs, 0, 0)
  refine hX _ ?_
  clear hP hX hk P' X cal
  refine Wp.stepsG 3 (fun cal X P' hk hX hP => ?_)
  show kcall cal ix_X11_hearerAt [.ref 7, .int a1] (st q1.2 hs) [] 0 0 (0, 0) (fun v σ' c' m' => X (12, [some (.ref 7), some (.int a1), some (.int a2), some (.int a3), none], v.toList ++ [], σ', c', m'))
  obtain ⟨q2, hq2, hr⟩ := bd_some hr
  refine kcall0 rfl (hk _ _ _ _ _ _ (e_X11_hearerAt (d + 5) q1.2 hs a1 q2 hq2 _ ?_))
  show X (12, [some (.ref 7), some (.int a1), some (.int a2), some (.int a3), none], [va_rf q2], st q1.2 hs, 0, 0)
  refine hX _ ?_
  clear hP hX hk P' X cal
  rcases oH_some hr with ⟨hz, hr⟩ | ⟨b3, zb3, hz, hb3, fb3, hr⟩
  · rw [hz]
    have hr := Option.some.inj hr
    subst hr
    refine Wp.stepsG 5 (fun cal X P' hk hX hP => ?_)
    exact hP _ _ h
  · rw [hz]
    refine Wp.stepsG 5 (fun cal X P' hk hX hP => ?_)
    show (a2 = 0 → X (48, [some (.ref 7), some (.int a1), some (.int a2), some (.int a3), some (.ref b3)], [], st q1.2 hs, 0, 0)) ∧ (¬ a2 = 0 → (a2 = 1 → X (55, [some (.ref 7), some (.int a1), some (.int a2), some (.int a3), some (.ref b3)], [], st q1.2 hs, 0, 0)) ∧ (¬ a2 = 1 → (a2 = 2 → X (62, [some (.ref 7), some (.int a1), some (.int a2), some (.int a3), some (.ref b3)], [], st q1.2 hs, 0, 0)) ∧ (¬ a2 = 2 → X (69, [some (.ref 7), some (.int a1), some (.int a2), some (.int a3), some (.ref b3)], [], st q1.2 hs, 0, 0))))
    refine ⟨fun hc => hX _ ?_, fun hc => ?_⟩
    · clear hP hX hk P' X cal
      rw [if_pos hc] at hr
      refine Wp.stepsG 3 (fun cal X P' hk hX hP => ?_)
      obtain ⟨q4, hq4, hr⟩ := bd_some hr
      refine kObj_at (hb3 _) (disp_at hk rfl (e_sel_hears (d + 4) q1.2 hs b3 zb3 hb3 a3 q4 hq4 _ ?_))
      show X (54, [some (.ref 7), some (.int a1), some (.int a2), some (.int a3), some (.ref b3)], [.int q4.1], st q4.2 hs, 0, 0)
      refine hX _ ?_
      clear hP hX hk P' X cal
      have hr := Option.some.inj hr
      subst hr
      refine Wp.stepsG 1 (fun cal X P' hk hX hP => ?_)
      exact hP _ _ h
    · rw [if_neg hc] at hr
      refine ⟨fun hc => hX _ ?_, fun hc => ?_⟩
      · clear hP hX hk P' X cal
        rw [if_pos hc] at hr
        refine Wp.stepsG 3 (fun cal X P' hk hX hP => ?_)
        obtain ⟨q5, hq5, hr⟩ := bd_some hr
        refine kObj_at (hb3 _) (disp_at hk rfl (e_sel_laughs (d + 1) q1.2 hs b3 zb3 hb3 a3 q5 hq5 _ ?_))
        show X (61, [some (.ref 7), some (.int a1), some (.int a2), some (.int a3), some (.ref b3)], [.int q5.1], st q5.2 hs, 0, 0)
        refine hX _ ?_
        clear hP hX hk P' X cal
        have hr := Option.some.inj hr
        subst hr
        refine Wp.stepsG 1 (fun cal X P' hk hX hP => ?_)
        exact hP _ _ h
      · rw [if_neg hc] at hr
        refine ⟨fun hc => hX _ ?_, fun hc => hX _ ?_⟩
        · clear hP hX hk P' X cal
          rw [if_pos hc] at hr
          refine Wp.stepsG 3 (fun cal X P' hk hX hP => ?_)
          obtain ⟨q6, hq6, hr⟩ := bd_some hr
          refine kObj_at (hb3 _) (disp_at hk rfl (e_sel_tells (d + 0) q1.2 hs b3 zb3 hb3 a3 q6 hq6 _ ?_))
          show X (68, [some (.ref 7), some (.int a1), some (.int a2), some (.int a3), some (.ref b3)], [.int q6.1], st q6.2 hs, 0, 0)
          refine hX _ ?_
          clear hP hX hk P' X cal
          have hr := Option.some.inj hr
          subst hr
          refine Wp.stepsG 1 (fun cal X P' hk hX hP => ?_)
          exact hP _ _ h
        · rw [if_neg hc] at hr
          clear hP hX hk P' X cal
          have hr := Option.some.inj hr
          subst hr
          refine Wp.stepsG 2 (fun cal X P' hk hX hP => ?_)
          exact hP _ _ h
def r_X11_isOfKind (q : Hr) (a2 : Int32) : Int32 :=
  if a2 = 1 then
    bif instB 6 q.1 then (1 : Int32) else 0
  else
  if a2 = 2 then
    bif instB 0 q.1 then (1 : Int32) else 0
  else
  if a2 = 3 then
    bif instB 2 q.1 then (1 : Int32) else 0
  else
  if a2 = 4 then
    bif instB 4 q.1 then (1 : Int32) else 0
  else
  if a2 = 5 then
    bif instB 1 q.1 then (1 : Int32) else 0
  else
  if a2 = 6 then
    bif instB 9 q.1 then (1 : Int32) else 0
  else
    1
theorem b_X11_isOfKind (q : Hr) (a2 : Int32) : r_X11_isOfKind q a2 = 0 ∨ r_X11_isOfKind q a2 = 1 := by
  unfold r_X11_isOfKind
  (repeat' split) <;> first | exact Or.inl rfl | exact Or.inr rfl | exact bif_bool _ | exact bif_bool _ | exact bif_bool _ | exact bif_bool _ | exact bif_bool _ | exact bif_bool _
set_option maxRecDepth 20000 in
set_option maxHeartbeats 4000000 in
theorem e_X11_isOfKind (d : Nat) (S : St) (hs : List Hr) (a : Nat) (q : Hr) (ha : ∀ S, gH (st S hs) a = some (hrC q)) (fa : isFam q.1 = true) (a2 : Int32) (P : Option Value → Hp → Prop) (h : P (some (.int (r_X11_isOfKind q a2))) (st S hs)) : Ev (d + 1) ix_X11_isOfKind 0 0 [.ref a, .int a2] (st S hs) P := by
  refine Ev.intro (M := mi_X11_isOfKind) rfl (Nat.le_of_ble_eq_true rfl) ?_
  unfold r_X11_isOfKind at h
  refine Wp.stepsG 2 (fun cal X P' hk hX hP => ?_)
  show (a2 = 1 → X (40, [some (.ref a), some (.int a2)], [], st S hs, 0, 0)) ∧ (¬ a2 = 1 → (a2 = 2 → X (45, [some (.ref a), some (.int a2)], [], st S hs, 0, 0)) ∧ (¬ a2 = 2 → (a2 = 3 → X (50, [some (.ref a), some (.int a2)], [], st S hs, 0, 0)) ∧ (¬ a2 = 3 → (a2 = 4 → X (55, [some (.ref a), some (.int a2)], [], st S hs, 0, 0)) ∧ (¬ a2 = 4 → (a2 = 5 → X (60, [some (.ref a), some (.int a2)], [], st S hs, 0, 0)) ∧ (¬ a2 = 5 → (a2 = 6 → X (65, [some (.ref a), some (.int a2)], [], st S hs, 0, 0)) ∧ (¬ a2 = 6 → X (70, [some (.ref a), some (.int a2)], [], st S hs, 0, 0)))))))
  refine ⟨fun hc => hX _ ?_, fun hc => ?_⟩
  · clear hP hX hk P' X cal
    rw [if_pos hc] at h
    refine Wp.stepsG 2 (fun cal X P' hk hX hP => ?_)
    refine kObj_at (ha _) (kB_at fa ?_)
    show X (44, [some (.ref a), some (.int a2)], [.int (bif instB 6 q.1 then (1 : Int32) else 0)], st S hs, 0, 0)
    refine hX _ ?_
    clear hP hX hk P' X cal
    refine Wp.stepsG 1 (fun cal X P' hk hX hP => ?_)
    exact ⟨bif_bool _, hP _ _ h⟩
  · rw [if_neg hc] at h
    refine ⟨fun hc => hX _ ?_, fun hc => ?_⟩
    · clear hP hX hk P' X cal
      rw [if_pos hc] at h
      refine Wp.stepsG 2 (fun cal X P' hk hX hP => ?_)
      refine kObj_at (ha _) (kB_at fa ?_)
      show X (49, [some (.ref a), some (.int a2)], [.int (bif instB 0 q.1 then (1 : Int32) else 0)], st S hs, 0, 0)
      refine hX _ ?_
      clear hP hX hk P' X cal
      refine Wp.stepsG 1 (fun cal X P' hk hX hP => ?_)
      exact ⟨bif_bool _, hP _ _ h⟩
    · rw [if_neg hc] at h
      refine ⟨fun hc => hX _ ?_, fun hc => ?_⟩
      · clear hP hX hk P' X cal
        rw [if_pos hc] at h
        refine Wp.stepsG 2 (fun cal X P' hk hX hP => ?_)
        refine kObj_at (ha _) (kB_at fa ?_)
        show X (54, [some (.ref a), some (.int a2)], [.int (bif instB 2 q.1 then (1 : Int32) else 0)], st S hs, 0, 0)
        refine hX _ ?_
        clear hP hX hk P' X cal
        refine Wp.stepsG 1 (fun cal X P' hk hX hP => ?_)
        exact ⟨bif_bool _, hP _ _ h⟩
      · rw [if_neg hc] at h
        refine ⟨fun hc => hX _ ?_, fun hc => ?_⟩
        · clear hP hX hk P' X cal
          rw [if_pos hc] at h
          refine Wp.stepsG 2 (fun cal X P' hk hX hP => ?_)
          refine kObj_at (ha _) (kB_at fa ?_)
          show X (59, [some (.ref a), some (.int a2)], [.int (bif instB 4 q.1 then (1 : Int32) else 0)], st S hs, 0, 0)
          refine hX _ ?_
          clear hP hX hk P' X cal
          refine Wp.stepsG 1 (fun cal X P' hk hX hP => ?_)
          exact ⟨bif_bool _, hP _ _ h⟩
        · rw [if_neg hc] at h
          refine ⟨fun hc => hX _ ?_, fun hc => ?_⟩
          · clear hP hX hk P' X cal
            rw [if_pos hc] at h
            refine Wp.stepsG 2 (fun cal X P' hk hX hP => ?_)
            refine kObj_at (ha _) (kB_at fa ?_)
            show X (64, [some (.ref a), some (.int a2)], [.int (bif instB 1 q.1 then (1 : Int32) else 0)], st S hs, 0, 0)
            refine hX _ ?_
            clear hP hX hk P' X cal
            refine Wp.stepsG 1 (fun cal X P' hk hX hP => ?_)
            exact ⟨bif_bool _, hP _ _ h⟩
          · rw [if_neg hc] at h
            refine ⟨fun hc => hX _ ?_, fun hc => hX _ ?_⟩
            · clear hP hX hk P' X cal
              rw [if_pos hc] at h
              refine Wp.stepsG 2 (fun cal X P' hk hX hP => ?_)
              refine kObj_at (ha _) (kB_at fa ?_)
              show X (69, [some (.ref a), some (.int a2)], [.int (bif instB 9 q.1 then (1 : Int32) else 0)], st S hs, 0, 0)
              refine hX _ ?_
              clear hP hX hk P' X cal
              refine Wp.stepsG 1 (fun cal X P' hk hX hP => ?_)
              exact ⟨bif_bool _, hP _ _ h⟩
            · rw [if_neg hc] at h
              clear hP hX hk P' X cal
              refine Wp.stepsG 2 (fun cal X P' hk hX hP => ?_)
              exact ⟨Or.inr rfl, hP _ _ h⟩
def r_X11_taken (S : St) (hs : List Hr) (a1 : Int32) (a2 : Int32) : Option Int32 :=
  if (r_X11_within a2 0 6) = 0 then
    some (-2)
  else
    (r_X11_hearerAt S a1).bind fun q1 =>
    oH hs (q1) (
      some (-11)) (fun zb2 =>
      if (r_X11_isOfKind zb2 a2) = 0 then
        some (-12)
      else
        some zb2.2.1)
set_option maxRecDepth 20000 in
set_option maxHeartbeats 4000000 in
theorem e_X11_taken (d : Nat) (S : St) (hs : List Hr) (a1 : Int32) (a2 : Int32) (v : Int32) (hr : r_X11_taken S hs a1 a2 = some v) (P : Option Value → Hp → Prop) (h : P (some (.int v)) (st S hs)) : Ev (d + 3) ix_X11_taken 0 0 [.ref 7, .int a1, .int a2] (st S hs) P := by
  refine Ev.intro (M := mi_X11_taken) rfl (Nat.le_of_ble_eq_true rfl) ?_
  unfold r_X11_taken at hr
  refine Wp.stepsG 4 (fun cal X P' hk hX hP => ?_)
  show kcall cal ix_X11_within [.int a2, .int 0, .int 6] (st S hs) [] 0 0 (0, 0) (fun v σ' c' m' => X (7, [some (.ref 7), some (.int a1), some (.int a2), none], v.toList ++ [], σ', c', m'))
  refine kcall0 rfl (hk _ _ _ _ _ _ (e_X11_within (d + 1) S hs a2 0 6 _ ?_))
  show X (7, [some (.ref 7), some (.int a1), some (.int a2), none], [.int (r_X11_within a2 0 6)], st S hs, 0, 0)
  refine hX _ ?_
  clear hP hX hk P' X cal
  refine Wp.stepsG 1 (fun cal X P' hk hX hP => ?_)
  show (¬ (r_X11_within a2 0 6) = 0 → X (13, [some (.ref 7), some (.int a1), some (.int a2), none], [], st S hs, 0, 0)) ∧ ((r_X11_within a2 0 6) = 0 → X (10, [some (.ref 7), some (.int a1), some (.int a2), none], [], st S hs, 0, 0))
  refine ⟨fun hc => hX _ ?_, fun hc => hX _ ?_⟩
  · clear hP hX hk P' X cal
    rw [if_neg hc] at hr
    refine Wp.stepsG 3 (fun cal X P' hk hX hP => ?_)
    show kcall cal ix_X11_hearerAt [.ref 7, .int a1] (st S hs) [] 0 0 (0, 0) (fun v σ' c' m' => X (18, [some (.ref 7), some (.int a1), some (.int a2), none], v.toList ++ [], σ', c', m'))
    obtain ⟨q1, hq1, hr⟩ := bd_some hr
    refine kcall0 rfl (hk _ _ _ _ _ _ (e_X11_hearerAt (d + 0) S hs a1 q1 hq1 _ ?_))
    show X (18, [some (.ref 7), some (.int a1), some (.int a2), none], [va_rf q1], st S hs, 0, 0)
    refine hX _ ?_
    clear hP hX hk P' X cal
    rcases oH_some hr with ⟨hz, hr⟩ | ⟨b2, zb2, hz, hb2, fb2, hr⟩
    · rw [hz]
      have hr := Option.some.inj hr
      subst hr
      refine Wp.stepsG 5 (fun cal X P' hk hX hP => ?_)
      exact hP _ _ h
    · rw [hz]
      refine Wp.stepsG 6 (fun cal X P' hk hX hP => ?_)
      show kcall cal ix_X11_isOfKind [.ref b2, .int a2] (st S hs) [] 0 0 (0, 0) (fun v σ' c' m' => X (31, [some (.ref 7), some (.int a1), some (.int a2), some (.ref b2)], v.toList ++ [], σ', c', m'))
      refine kcall0 rfl (hk _ _ _ _ _ _ (e_X11_isOfKind (d + 1) S hs b2 zb2 hb2 fb2 a2 _ ?_))
      show X (31, [some (.ref 7), some (.int a1), some (.int a2), some (.ref b2)], [.int (r_X11_isOfKind zb2 a2)], st S hs, 0, 0)
      refine hX _ ?_
      clear hP hX hk P' X cal
      refine Wp.stepsG 1 (fun cal X P' hk hX hP => ?_)
      show ((r_X11_isOfKind zb2 a2) = 0 → X (41, [some (.ref 7), some (.int a1), some (.int a2), some (.ref b2)], [], st S hs, 0, 0)) ∧ (¬ (r_X11_isOfKind zb2 a2) = 0 → X (34, [some (.ref 7), some (.int a1), some (.int a2), some (.ref b2)], [], st S hs, 0, 0))
      refine ⟨fun hc => hX _ ?_, fun hc => hX _ ?_⟩
      · clear hP hX hk P' X cal
        rw [if_pos hc] at hr
        have hr := Option.some.inj hr
        subst hr
        refine Wp.stepsG 2 (fun cal X P' hk hX hP => ?_)
        exact hP _ _ h
      · clear hP hX hk P' X cal
        rw [if_neg hc] at hr
        refine Wp.stepsG 2 (fun cal X P' hk hX hP => ?_)
        refine kObj_at (hb2 _) (kB_at (fam3 fb2) ?_)
        show X (38, [some (.ref 7), some (.int a1), some (.int a2), some (.ref b2)], [.int zb2.2.1], st S hs, 0, 0)
        refine hX _ ?_
        clear hP hX hk P' X cal
        have hr := Option.some.inj hr
        subst hr
        refine Wp.stepsG 2 (fun cal X P' hk hX hP => ?_)
        exact hP _ _ h
  · clear hP hX hk P' X cal
    rw [if_pos hc] at hr
    have hr := Option.some.inj hr
    subst hr
    refine Wp.stepsG 2 (fun cal X P' hk hX hP => ?_)
    exact hP _ _ h
