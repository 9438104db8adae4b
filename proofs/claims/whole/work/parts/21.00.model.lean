theorem leL.z : leL [] [] := True.intro
theorem leL.k {o : Option Value} {r r2 : Lc} (h : leL r r2) : leL (o :: r) (o :: r2) := ⟨Or.inr rfl, h⟩
theorem leL.n {o : Option Value} {r r2 : Lc} (h : leL r r2) : leL (none :: r) (o :: r2) := ⟨Or.inl rfl, h⟩
theorem Ev.intro {d mi mc ms : Nat} {as : List Value} {σ : Hp} {P : Option Value → Hp → Prop} {M : MI} (hM : gM mths mi = some M) (hl : (lg_sl as).length ≤ M.2.2.1) (h : Wp M (Ev d) none (mc, ms) P (0, entL as M.2.2.1, [], σ, 0, 0)) : Ev (d + 1) mi mc ms as σ P := by
  show kO (gM mths mi) _
  rw [hM]
  exact ⟨hl, h⟩
abbrev WM (M : MI) (d : Nat) (P : Option Value → Hp → Prop) (pc : Nat) (L : Lc) (st : List Value) (σ : Hp) : Prop := Wp M (Ev d) none (0, 0) P (pc, L, st, σ, 0, 0)
theorem kcall0 {cal : Cal} {mi : Nat} {as : List Value} {σ : Hp} {rest : List Value} {K : Option Value → Hp → Nat → Nat → Prop} (h0 : Nat.ble (rest.map fun v => v.category).sum 8 = true) (h : cal mi 0 0 as σ (fun v σ' => K v σ' 0 0)) : kcall cal mi as σ rest 0 0 (0, 0) K := by
  unfold kcall
  rw [h0]
  exact ⟨0, 0, ⟨Nat.le_refl _, Nat.le_refl _⟩, h⟩
theorem Wp.stepsG {M : MI} {d : Nat} {scr : Option (Nat × (Nat → Int32))} {bd : Nat × Nat} {P : Option Value → Hp → Prop} (n : Nat) {q : Cf} (h : ∀ (cal : Cal) (X : Cf → Prop) (P' : Option Value → Hp → Prop), (∀ mi mc ms as σ K, Ev d mi mc ms as σ K → cal mi mc ms as σ K) → (∀ q, Wp M (Ev d) scr bd P q → X q) → (∀ v σ, P v σ → P' v σ) → stepN M cal scr bd X P' n q) : Wp M (Ev d) scr bd P q :=
  Wp.steps n (h (Ev d) (Wp M (Ev d) scr bd P) P (fun _ _ _ _ _ _ z => z) (fun _ z => z) (fun _ _ z => z))
def oN {β : Type} (e : Option Nat) (a : β) (f : Nat → β) : β := match e with
  | none => a
  | some o => f o
theorem oN_no {β : Type} {e : Option Nat} {a : β} {f : Nat → β} (h : e = none) : oN e a f = a := by
  rw [h]
  rfl
theorem oN_is {β : Type} {e : Option Nat} {o : Nat} {a : β} {f : Nat → β} (h : e = some o) : oN e a f = f o := by
  rw [h]
  rfl
theorem kR_rf {e : Option Nat} {F : Prop} (h : F) : kR (va_rf e) F := by
  cases e <;> exact h
theorem hsF_cases : ∀ n, hsF n = none ∨ hsF n = some 40 ∨ hsF n = some 44 ∨ hsF n = some 48 ∨ hsF n = some 52 ∨ hsF n = some 56 ∨ hsF n = some 60
  | 0 => Or.inr (Or.inl rfl)
  | 1 => Or.inr (Or.inr (Or.inl rfl))
  | 2 => Or.inr (Or.inr (Or.inr (Or.inl rfl)))
  | 3 => Or.inr (Or.inr (Or.inr (Or.inr (Or.inl rfl))))
  | 4 => Or.inr (Or.inr (Or.inr (Or.inr (Or.inr (Or.inl rfl)))))
  | 5 => Or.inr (Or.inr (Or.inr (Or.inr (Or.inr (Or.inr rfl)))))
  | _ + 6 => Or.inl rfl
theorem tpF_cases : ∀ n, tpF n = none ∨ tpF n = some 64 ∨ tpF n = some 66 ∨ tpF n = some 68 ∨ tpF n = some 70 ∨ tpF n = some 72 ∨ tpF n = some 74
  | 0 => Or.inr (Or.inl rfl)
  | 1 => Or.inr (Or.inr (Or.inl rfl))
  | 2 => Or.inr (Or.inr (Or.inr (Or.inl rfl)))
  | 3 => Or.inr (Or.inr (Or.inr (Or.inr (Or.inl rfl))))
  | 4 => Or.inr (Or.inr (Or.inr (Or.inr (Or.inr (Or.inl rfl)))))
  | 5 => Or.inr (Or.inr (Or.inr (Or.inr (Or.inr (Or.inr rfl)))))
  | _ + 6 => Or.inl rfl
/-- a heap that is named -/
def wS {α : Type} (e : St) (f : St → Option α) : Option α := f e
theorem wS_some {α : Type} {e : St} {f : St → Option α} {v : α} (h : wS e f = some v) : ∃ S, e = S ∧ f S = some v := ⟨e, rfl, h⟩
/-- a guard -/
def gd {α : Type} (c : Prop) [Decidable c] (k : Option α) : Option α := if c then k else none
theorem gd_some {α : Type} {c : Prop} [Decidable c] {k : Option α} {v : α} (h : gd c k = some v) : c ∧ k = some v := by
  unfold gd at h
  split at h
  · exact ⟨by assumption, h⟩
  · cases h
theorem gd_pos {α : Type} {c : Prop} [Decidable c] {k : Option α} (h : c) : gd c k = k := if_pos h
theorem bd_some {α β : Type} {x : Option α} {f : α → Option β} {v : β} (h : x.bind f = some v) : ∃ q, x = some q ∧ f q = some v := by
  cases x with
  | none => cases h
  | some q => exact ⟨q, rfl, h⟩

def r_X12_in (a1 : Int32) (a2 : Int32) (a3 : Int32) : Int32 :=
  if a1 < a2 then
    0
  else
    if a3 < a1 then
      0
    else
      1
theorem b_X12_in (a1 : Int32) (a2 : Int32) (a3 : Int32) : r_X12_in a1 a2 a3 = 0 ∨ r_X12_in a1 a2 a3 = 1 := by
  unfold r_X12_in
  (repeat' split) <;> first | exact Or.inl rfl | exact Or.inr rfl
set_option maxRecDepth 20000 in
set_option maxHeartbeats 4000000 in
theorem e_X12_in (d : Nat) (S : St) (hs : List Hr) (a1 : Int32) (a2 : Int32) (a3 : Int32) (P : Option Value → Hp → Prop) (h : P (some (.int (r_X12_in a1 a2 a3))) (st S hs)) : Ev (d + 1) ix_X12_in 0 0 [.ref 76, .int a1, .int a2, .int a3] (st S hs) P := by
  refine Ev.intro (M := mi_X12_in) rfl (Nat.le_of_ble_eq_true rfl) ?_
  unfold r_X12_in at h
  refine Wp.stepsG 3 (fun cal X P' hk hX hP => ?_)
  show (a1 < a2 → X (14, [some (.ref 76), some (.int a1), some (.int a2), some (.int a3)], [], st S hs, 0, 0)) ∧ (¬ a1 < a2 → X (5, [some (.ref 76), some (.int a1), some (.int a2), some (.int a3)], [], st S hs, 0, 0))
  refine ⟨fun hc => hX _ ?_, fun hc => hX _ ?_⟩
  · clear hP hX hk P' X cal
    rw [if_pos hc] at h
    refine Wp.stepsG 2 (fun cal X P' hk hX hP => ?_)
    exact ⟨Or.inl rfl, hP _ _ h⟩
  · clear hP hX hk P' X cal
    rw [if_neg hc] at h
    refine Wp.stepsG 3 (fun cal X P' hk hX hP => ?_)
    show (a3 < a1 → X (14, [some (.ref 76), some (.int a1), some (.int a2), some (.int a3)], [], st S hs, 0, 0)) ∧ (¬ a3 < a1 → X (10, [some (.ref 76), some (.int a1), some (.int a2), some (.int a3)], [], st S hs, 0, 0))
    refine ⟨fun hc => hX _ ?_, fun hc => hX _ ?_⟩
    · clear hP hX hk P' X cal
      rw [if_pos hc] at h
      refine Wp.stepsG 2 (fun cal X P' hk hX hP => ?_)
      exact ⟨Or.inl rfl, hP _ _ h⟩
    · clear hP hX hk P' X cal
      rw [if_neg hc] at h
      refine Wp.stepsG 3 (fun cal X P' hk hX hP => ?_)
      exact ⟨Or.inr rfl, hP _ _ h⟩
def r_X12_has (a1 : Int32) (a2 : Int32) : Int32 :=
  if ((a1 >>> (a2 &&& 31)) &&& 1) = 1 then
    1
  else
    0
theorem b_X12_has (a1 : Int32) (a2 : Int32) : r_X12_has a1 a2 = 0 ∨ r_X12_has a1 a2 = 1 := by
  unfold r_X12_has
  (repeat' split) <;> first | exact Or.inl rfl | exact Or.inr rfl
set_option maxRecDepth 20000 in
set_option maxHeartbeats 4000000 in
theorem e_X12_has (d : Nat) (S : St) (hs : List Hr) (a1 : Int32) (a2 : Int32) (P : Option Value → Hp → Prop) (h : P (some (.int (r_X12_has a1 a2))) (st S hs)) : Ev (d + 1) ix_X12_has 0 0 [.ref 76, .int a1, .int a2] (st S hs) P := by
  refine Ev.intro (M := mi_X12_has) rfl (Nat.le_of_ble_eq_true rfl) ?_
  unfold r_X12_has at h
  refine Wp.stepsG 7 (fun cal X P' hk hX hP => ?_)
  show (¬ ((a1 >>> (a2 &&& 31)) &&& 1) = 1 → X (13, [some (.ref 76), some (.int a1), some (.int a2)], [], st S hs, 0, 0)) ∧ (((a1 >>> (a2 &&& 31)) &&& 1) = 1 → X (9, [some (.ref 76), some (.int a1), some (.int a2)], [], st S hs, 0, 0))
  refine ⟨fun hc => hX _ ?_, fun hc => hX _ ?_⟩
  · clear hP hX hk P' X cal
    rw [if_neg hc] at h
    refine Wp.stepsG 2 (fun cal X P' hk hX hP => ?_)
    exact ⟨Or.inl rfl, hP _ _ h⟩
  · clear hP hX hk P' X cal
    rw [if_pos hc] at h
    refine Wp.stepsG 3 (fun cal X P' hk hX hP => ?_)
    exact ⟨Or.inr rfl, hP _ _ h⟩
def lp_X12_ones_4 : Nat → Int32 → Int32 → Option (Int32)
  | 0, _, _ => none
  | n + 1, v2, v3 =>
    if v3 = 0 then
      some v2
    else
      lp_X12_ones_4 n (v2 + 1) (v3 &&& (v3 - 1))
set_option maxRecDepth 20000 in
set_option maxHeartbeats 4000000 in
theorem e_lp_X12_ones_4 (d : Nat) (hs : List Hr) (P : Option Value → Hp → Prop) (S : St) : ∀ (n : Nat) (v2 : Int32) (v3 : Int32) (q : Int32), lp_X12_ones_4 n v2 v3 = some q → (WM mi_X12_ones (d + 0) P 20 [none, none, some (.int q), none] [] (st S hs)) → WM mi_X12_ones (d + 0) P 4 [none, none, some (.int v2), some (.int v3)] [] (st S hs) := by
  intro n
  induction n with
  | zero =>
    intro v2 v3 q hl
    cases hl
  | succ n ih =>
    intro v2 v3 q hl ct
    rw [lp_X12_ones_4] at hl
    refine Wp.stepsG 2 (fun cal X P' hk hX hP => ?_)
    show (v3 = 0 → X (20, [none, none, some (.int v2), some (.int v3)], [], st S hs, 0, 0)) ∧ (¬ v3 = 0 → X (8, [none, none, some (.int v2), some (.int v3)], [], st S hs, 0, 0))
    refine ⟨fun hc => hX _ ?_, fun hc => hX _ ?_⟩
    · clear hP hX hk P' X cal
      rw [if_pos hc] at hl
      have hl := Option.some.inj hl
      subst hl
      exact Wp.weak (leL.k (leL.k (leL.k (leL.n leL.z)))) (ct)
    · clear hP hX hk P' X cal
      rw [if_neg hc] at hl
      refine Wp.stepsG 8 (fun cal X P' hk hX hP => ?_)
      show X (4, [none, none, some (.int (v2 + 1)), some (.int (v3 &&& (v3 - 1)))], [], st S hs, 0, 0)
      refine hX _ ?_
      exact (ih (v2 + 1) (v3 &&& (v3 - 1)) q hl ct)
def r_X12_ones (a1 : Int32) : Option Int32 :=
  (lp_X12_ones_4 4000 0 a1).bind fun q1 =>
    some q1
set_option maxRecDepth 20000 in
set_option maxHeartbeats 4000000 in
theorem e_X12_ones (d : Nat) (S : St) (hs : List Hr) (a1 : Int32) (v : Int32) (hr : r_X12_ones a1 = some v) (P : Option Value → Hp → Prop) (h : P (some (.int v)) (st S hs)) : Ev (d + 1) ix_X12_ones 0 0 [.ref 76, .int a1] (st S hs) P := by
  refine Ev.intro (M := mi_X12_ones) rfl (Nat.le_of_ble_eq_true rfl) ?_
  unfold r_X12_ones at hr
  refine Wp.stepsG 4 (fun cal X P' hk hX hP => ?_)
  show X (4, [some (.ref 76), some (.int a1), some (.int 0), some (.int a1)], [], st S hs, 0, 0)
  refine hX _ ?_
  clear hP hX hk P' X cal
  obtain ⟨q1, hq1, hr⟩ := bd_some hr
  refine Wp.weak (leL.n (leL.n (leL.k (leL.k leL.z)))) (e_lp_X12_ones_4 d hs P S _ 0 a1 q1 hq1 ?_)
  have hr := Option.some.inj hr
  subst hr
  refine Wp.stepsG 2 (fun cal X P' hk hX hP => ?_)
  exact hP _ _ h
def r_X12_isStory (S : St) (a1 : Int32) : Int32 :=
  r_X12_in a1 0 ((S.1 76 0) - 1)
theorem b_X12_isStory (S : St) (a1 : Int32) : r_X12_isStory S a1 = 0 ∨ r_X12_isStory S a1 = 1 := by
  unfold r_X12_isStory
  (repeat' split) <;> first | exact Or.inl rfl | exact Or.inr rfl | exact b_X12_in a1 0 ((S.1 76 0) - 1)
set_option maxRecDepth 20000 in
set_option maxHeartbeats 4000000 in
theorem e_X12_isStory (d : Nat) (S : St) (hs : List Hr) (a1 : Int32) (P : Option Value → Hp → Prop) (h : P (some (.int (r_X12_isStory S a1))) (st S hs)) : Ev (d + 2) ix_X12_isStory 0 0 [.ref 76, .int a1] (st S hs) P := by
  refine Ev.intro (M := mi_X12_isStory) rfl (Nat.le_of_ble_eq_true rfl) ?_
  unfold r_X12_isStory at h
  refine Wp.stepsG 8 (fun cal X P' hk hX hP => ?_)
  show kcall cal ix_X12_in [.ref 76, .int a1, .int 0, .int ((S.1 76 0) - 1)] (st S hs) [] 0 0 (0, 0) (fun v σ' c' m' => X (12, [some (.ref 76), some (.int a1)], v.toList ++ [], σ', c', m'))
  refine kcall0 rfl (hk _ _ _ _ _ _ (e_X12_in (d + 0) S hs a1 0 ((S.1 76 0) - 1) _ ?_))
  show X (12, [some (.ref 76), some (.int a1)], [.int (r_X12_in a1 0 ((S.1 76 0) - 1))], st S hs, 0, 0)
  refine hX _ ?_
  clear hP hX hk P' X cal
  refine Wp.stepsG 1 (fun cal X P' hk hX hP => ?_)
  exact ⟨b_X12_in a1 0 ((S.1 76 0) - 1), hP _ _ h⟩
def r_X12_isHearer (S : St) (a1 : Int32) : Int32 :=
  r_X12_in a1 0 ((S.1 76 1) - 1)
theorem b_X12_isHearer (S : St) (a1 : Int32) : r_X12_isHearer S a1 = 0 ∨ r_X12_isHearer S a1 = 1 := by
  unfold r_X12_isHearer
  (repeat' split) <;> first | exact Or.inl rfl | exact Or.inr rfl | exact b_X12_in a1 0 ((S.1 76 1) - 1)
set_option maxRecDepth 20000 in
set_option maxHeartbeats 4000000 in
theorem e_X12_isHearer (d : Nat) (S : St) (hs : List Hr) (a1 : Int32) (P : Option Value → Hp → Prop) (h : P (some (.int (r_X12_isHearer S a1))) (st S hs)) : Ev (d + 2) ix_X12_isHearer 0 0 [.ref 76, .int a1] (st S hs) P := by
  refine Ev.intro (M := mi_X12_isHearer) rfl (Nat.le_of_ble_eq_true rfl) ?_
  unfold r_X12_isHearer at h
  refine Wp.stepsG 8 (fun cal X P' hk hX hP => ?_)
  show kcall cal ix_X12_in [.ref 76, .int a1, .int 0, .int ((S.1 76 1) - 1)] (st S hs) [] 0 0 (0, 0) (fun v σ' c' m' => X (12, [some (.ref 76), some (.int a1)], v.toList ++ [], σ', c', m'))
  refine kcall0 rfl (hk _ _ _ _ _ _ (e_X12_in (d + 0) S hs a1 0 ((S.1 76 1) - 1) _ ?_))
  show X (12, [some (.ref 76), some (.int a1)], [.int (r_X12_in a1 0 ((S.1 76 1) - 1))], st S hs, 0, 0)
  refine hX _ ?_
  clear hP hX hk P' X cal
  refine Wp.stepsG 1 (fun cal X P' hk hX hP => ?_)
  exact ⟨b_X12_in a1 0 ((S.1 76 1) - 1), hP _ _ h⟩
def r_X12_isTable (S : St) (a1 : Int32) : Int32 :=
  r_X12_in a1 0 (((1 : Int32) <<< ((S.1 76 1) &&& 31)) - 1)
theorem b_X12_isTable (S : St) (a1 : Int32) : r_X12_isTable S a1 = 0 ∨ r_X12_isTable S a1 = 1 := by
  unfold r_X12_isTable
  (repeat' split) <;> first | exact Or.inl rfl | exact Or.inr rfl | exact b_X12_in a1 0 (((1 : Int32) <<< ((S.1 76 1) &&& 31)) - 1)
set_option maxRecDepth 20000 in
set_option maxHeartbeats 4000000 in
theorem e_X12_isTable (d : Nat) (S : St) (hs : List Hr) (a1 : Int32) (P : Option Value → Hp → Prop) (h : P (some (.int (r_X12_isTable S a1))) (st S hs)) : Ev (d + 2) ix_X12_isTable 0 0 [.ref 76, .int a1] (st S hs) P := by
  refine Ev.intro (M := mi_X12_isTable) rfl (Nat.le_of_ble_eq_true rfl) ?_
  unfold r_X12_isTable at h
  refine Wp.stepsG 10 (fun cal X P' hk hX hP => ?_)
  show kcall cal ix_X12_in [.ref 76, .int a1, .int 0, .int (((1 : Int32) <<< ((S.1 76 1) &&& 31)) - 1)] (st S hs) [] 0 0 (0, 0) (fun v σ' c' m' => X (14, [some (.ref 76), some (.int a1)], v.toList ++ [], σ', c', m'))
  refine kcall0 rfl (hk _ _ _ _ _ _ (e_X12_in (d + 0) S hs a1 0 (((1 : Int32) <<< ((S.1 76 1) &&& 31)) - 1) _ ?_))
  show X (14, [some (.ref 76), some (.int a1)], [.int (r_X12_in a1 0 (((1 : Int32) <<< ((S.1 76 1) &&& 31)) - 1))], st S hs, 0, 0)
  refine hX _ ?_
  clear hP hX hk P' X cal
  refine Wp.stepsG 1 (fun cal X P' hk hX hP => ?_)
  exact ⟨b_X12_in a1 0 (((1 : Int32) <<< ((S.1 76 1) &&& 31)) - 1), hP _ _ h⟩
def lp_X12_story_59 : Nat → Int32 → St → Option (St)
  | 0, _, _ => none
  | n + 1, v3, S =>
    if 6 ≤ v3 then
      some S
    else
      gd (¬ ((((8 : Int32) * v3) + (S.1 76 0)) < 0 ∨ 48 ≤ (((8 : Int32) * v3) + (S.1 76 0)).toNatClampNeg)) (
        lp_X12_story_59 n (v3 + 1) (sA S 82 (upd (S.1 82) (((8 : Int32) * v3) + (S.1 76 0)).toNatClampNeg 0)))
set_option maxRecDepth 20000 in
set_option maxHeartbeats 4000000 in
theorem e_lp_X12_story_59 (d : Nat) (hs : List Hr) (P : Option Value → Hp → Prop) : ∀ (n : Nat) (v3 : Int32) (S : St) (q : St), lp_X12_story_59 n v3 S = some q → (WM mi_X12_story (d + 1) P 86 [some (.ref 76), none, none, none] [] (st q hs)) → WM mi_X12_story (d + 1) P 59 [some (.ref 76), none, none, some (.int v3)] [] (st S hs) := by
  intro n
  induction n with
  | zero =>
    intro v3 S q hl
    cases hl
  | succ n ih =>
    intro v3 S q hl ct
    rw [lp_X12_story_59] at hl
    refine Wp.stepsG 3 (fun cal X P' hk hX hP => ?_)
    show (6 ≤ v3 → X (86, [some (.ref 76), none, none, some (.int v3)], [], st S hs, 0, 0)) ∧ (¬ 6 ≤ v3 → X (65, [some (.ref 76), none, none, some (.int v3)], [], st S hs, 0, 0))
    refine ⟨fun hc => hX _ ?_, fun hc => hX _ ?_⟩
    · clear hP hX hk P' X cal
      rw [if_pos hc] at hl
      have hl := Option.some.inj hl
      subst hl
      exact Wp.weak (leL.k (leL.k (leL.k (leL.n leL.z)))) (ct)
    · clear hP hX hk P' X cal
      rw [if_neg hc] at hl
      refine Wp.stepsG 10 (fun cal X P' hk hX hP => ?_)
      show vp_in (((8 : Int32) * v3) + (S.1 76 0)) 48 ∧ X (80, [some (.ref 76), none, none, some (.int v3)], [], st (sA S 82 (upd (S.1 82) (((8 : Int32) * v3) + (S.1 76 0)).toNatClampNeg 0)) hs, 0, 0)
      obtain ⟨hg, hl⟩ := gd_some hl
      refine ⟨hg, hX _ ?_⟩
      clear hP hX hk P' X cal
      refine Wp.stepsG 2 (fun cal X P' hk hX hP => ?_)
      show X (59, [some (.ref 76), none, none, some (.int (v3 + 1))], [], st (sA S 82 (upd (S.1 82) (((8 : Int32) * v3) + (S.1 76 0)).toNatClampNeg 0)) hs, 0, 0)
      refine hX _ ?_
      exact (ih (v3 + 1) (sA S 82 (upd (S.1 82) (((8 : Int32) * v3) + (S.1 76 0)).toNatClampNeg 0)) q hl ct)
def r_X12_story (S : St) (a1 : Int32) (a2 : Int32) : Option (Int32 × St) :=
  if (r_X12_in a1 1 30) = 0 then
    some ((-2), S)
  else
    if (r_X12_in a2 1 9) = 0 then
      some ((-2), S)
    else
      if (S.1 76 0) = 8 then
        some ((-4), S)
      else
        gd (¬ ((S.1 76 0) < 0 ∨ 8 ≤ (S.1 76 0).toNatClampNeg)) (
          gd (¬ ((S.1 76 0) < 0 ∨ 8 ≤ (S.1 76 0).toNatClampNeg)) (
            (lp_X12_story_59 4000 0 (sA (sA S 77 (upd (S.1 77) (S.1 76 0).toNatClampNeg a1)) 78 (upd (S.1 78) (S.1 76 0).toNatClampNeg a2))).bind fun q1 =>
              some (((q1.1 76 0) + 1) - 1, sI q1 76 0 ((q1.1 76 0) + 1))))
set_option maxRecDepth 20000 in
set_option maxHeartbeats 4000000 in
theorem e_X12_story (d : Nat) (S : St) (hs : List Hr) (a1 : Int32) (a2 : Int32) (v : Int32 × St) (hr : r_X12_story S a1 a2 = some v) (P : Option Value → Hp → Prop) (h : P (some (.int v.1)) (st v.2 hs)) : Ev (d + 2) ix_X12_story 0 0 [.ref 76, .int a1, .int a2] (st S hs) P := by
  refine Ev.intro (M := mi_X12_story) rfl (Nat.le_of_ble_eq_true rfl) ?_
  unfold r_X12_story at hr
  refine Wp.stepsG 5 (fun cal X P' hk hX hP => ?_)
  show kcall cal ix_X12_in [.ref 76, .int a1, .int 1, .int 30] (st S hs) [] 0 0 (0, 0) (fun v σ' c' m' => X (8, [some (.ref 76), some (.int a1), some (.int a2), none], v.toList ++ [], σ', c', m'))
  refine kcall0 rfl (hk _ _ _ _ _ _ (e_X12_in (d + 0) S hs a1 1 30 _ ?_))
  show X (8, [some (.ref 76), some (.int a1), some (.int a2), none], [.int (r_X12_in a1 1 30)], st S hs, 0, 0)
  refine hX _ ?_
  clear hP hX hk P' X cal
  refine Wp.stepsG 1 (fun cal X P' hk hX hP => ?_)
  show ((r_X12_in a1 1 30) = 0 → X (22, [some (.ref 76), some (.int a1), some (.int a2), none], [], st S hs, 0, 0)) ∧ (¬ (r_X12_in a1 1 30) = 0 → X (11, [some (.ref 76), some (.int a1), some (.int a2), none], [], st S hs, 0, 0))
  refine ⟨fun hc => hX _ ?_, fun hc => hX _ ?_⟩
  · clear hP hX hk P' X cal
    rw [if_pos hc] at hr
    have hr := Option.some.inj hr
    subst hr
    refine Wp.stepsG 2 (fun cal X P' hk hX hP => ?_)
    exact hP _ _ h
  · clear hP hX hk P' X cal
    rw [if_neg hc] at hr
    refine Wp.stepsG 5 (fun cal X P' hk hX hP => ?_)
    show kcall cal ix_X12_in [.ref 76, .int a2, .int 1, .int 9] (st S hs) [] 0 0 (0, 0) (fun v σ' c' m' => X (19, [some (.ref 76), some (.int a1), some (.int a2), none], v.toList ++ [], σ', c', m'))
    refine kcall0 rfl (hk _ _ _ _ _ _ (e_X12_in (d + 0) S hs a2 1 9 _ ?_))
    show X (19, [some (.ref 76), some (.int a1), some (.int a2), none], [.int (r_X12_in a2 1 9)], st S hs, 0, 0)
    refine hX _ ?_
    clear hP hX hk P' X cal
    refine Wp.stepsG 1 (fun cal X P' hk hX hP => ?_)
    show (¬ (r_X12_in a2 1 9) = 0 → X (25, [some (.ref 76), some (.int a1), some (.int a2), none], [], st S hs, 0, 0)) ∧ ((r_X12_in a2 1 9) = 0 → X (22, [some (.ref 76), some (.int a1), some (.int a2), none], [], st S hs, 0, 0))
    refine ⟨fun hc => hX _ ?_, fun hc => hX _ ?_⟩
    · clear hP hX hk P' X cal
      rw [if_neg hc] at hr
      refine Wp.stepsG 4 (fun cal X P' hk hX hP => ?_)
      show (¬ (S.1 76 0) = 8 → X (37, [some (.ref 76), some (.int a1), some (.int a2), none], [], st S hs, 0, 0)) ∧ ((S.1 76 0) = 8 → X (34, [some (.ref 76), some (.int a1), some (.int a2), none], [], st S hs, 0, 0))
      refine ⟨fun hc => hX _ ?_, fun hc => hX _ ?_⟩
      · clear hP hX hk P' X cal
        rw [if_neg hc] at hr
        refine Wp.stepsG 6 (fun cal X P' hk hX hP => ?_)
        show vp_in (S.1 76 0) 8 ∧ X (47, [some (.ref 76), some (.int a1), some (.int a2), none], [], st (sA S 77 (upd (S.1 77) (S.1 76 0).toNatClampNeg a1)) hs, 0, 0)
        obtain ⟨hg, hr⟩ := gd_some hr
        refine ⟨hg, hX _ ?_⟩
        clear hP hX hk P' X cal
        refine Wp.stepsG 6 (fun cal X P' hk hX hP => ?_)
        show vp_in (S.1 76 0) 8 ∧ X (57, [some (.ref 76), some (.int a1), some (.int a2), none], [], st (sA (sA S 77 (upd (S.1 77) (S.1 76 0).toNatClampNeg a1)) 78 (upd (S.1 78) (S.1 76 0).toNatClampNeg a2)) hs, 0, 0)
        obtain ⟨hg, hr⟩ := gd_some hr
        refine ⟨hg, hX _ ?_⟩
        clear hP hX hk P' X cal
        refine Wp.stepsG 2 (fun cal X P' hk hX hP => ?_)
        show X (59, [some (.ref 76), some (.int a1), some (.int a2), some (.int 0)], [], st (sA (sA S 77 (upd (S.1 77) (S.1 76 0).toNatClampNeg a1)) 78 (upd (S.1 78) (S.1 76 0).toNatClampNeg a2)) hs, 0, 0)
        refine hX _ ?_
        clear hP hX hk P' X cal
        obtain ⟨q1, hq1, hr⟩ := bd_some hr
        refine Wp.weak (leL.k (leL.n (leL.n (leL.k leL.z)))) (e_lp_X12_story_59 d hs P _ 0 (sA (sA S 77 (upd (S.1 77) (S.1 76 0).toNatClampNeg a1)) 78 (upd (S.1 78) (S.1 76 0).toNatClampNeg a2)) q1 hq1 ?_)
        have hr := Option.some.inj hr
        subst hr
        refine Wp.stepsG 11 (fun cal X P' hk hX hP => ?_)
        exact hP _ _ h
      · clear hP hX hk P' X cal
        rw [if_pos hc] at hr
        have hr := Option.some.inj hr
        subst hr
        refine Wp.stepsG 2 (fun cal X P' hk hX hP => ?_)
        exact hP _ _ h
    · clear hP hX hk P' X cal
      rw [if_pos hc] at hr
      have hr := Option.some.inj hr
      subst hr
      refine Wp.stepsG 2 (fun cal X P' hk hX hP => ?_)
      exact hP _ _ h
def lp_X12_hearer_61 : Nat → Int32 → St → Option (St)
  | 0, _, _ => none
  | n + 1, v3, S =>
    if 4 ≤ v3 then
      some S
    else
      gd (¬ ((((4 : Int32) * (S.1 76 1)) + v3) < 0 ∨ 24 ≤ (((4 : Int32) * (S.1 76 1)) + v3).toNatClampNeg)) (
        lp_X12_hearer_61 n (v3 + 1) (sA S 81 (upd (S.1 81) (((4 : Int32) * (S.1 76 1)) + v3).toNatClampNeg 1)))
set_option maxRecDepth 20000 in
set_option maxHeartbeats 4000000 in
theorem e_lp_X12_hearer_61 (d : Nat) (hs : List Hr) (P : Option Value → Hp → Prop) : ∀ (n : Nat) (v3 : Int32) (S : St) (q : St), lp_X12_hearer_61 n v3 S = some q → (WM mi_X12_hearer (d + 1) P 86 [some (.ref 76), none, none, none] [] (st q hs)) → WM mi_X12_hearer (d + 1) P 61 [some (.ref 76), none, none, some (.int v3)] [] (st S hs) := by
  intro n
  induction n with
  | zero =>
    intro v3 S q hl
    cases hl
  | succ n ih =>
    intro v3 S q hl ct
    rw [lp_X12_hearer_61] at hl
    refine Wp.stepsG 3 (fun cal X P' hk hX hP => ?_)
    show (4 ≤ v3 → X (86, [some (.ref 76), none, none, some (.int v3)], [], st S hs, 0, 0)) ∧ (¬ 4 ≤ v3 → X (66, [some (.ref 76), none, none, some (.int v3)], [], st S hs, 0, 0))
    refine ⟨fun hc => hX _ ?_, fun hc => hX _ ?_⟩
    · clear hP hX hk P' X cal
      rw [if_pos hc] at hl
      have hl := Option.some.inj hl
      subst hl
      exact Wp.weak (leL.k (leL.k (leL.k (leL.n leL.z)))) (ct)
    · clear hP hX hk P' X cal
      rw [if_neg hc] at hl
      refine Wp.stepsG 10 (fun cal X P' hk hX hP => ?_)
      show vp_in (((4 : Int32) * (S.1 76 1)) + v3) 24 ∧ X (80, [some (.ref 76), none, none, some (.int v3)], [], st (sA S 81 (upd (S.1 81) (((4 : Int32) * (S.1 76 1)) + v3).toNatClampNeg 1)) hs, 0, 0)
      obtain ⟨hg, hl⟩ := gd_some hl
      refine ⟨hg, hX _ ?_⟩
      clear hP hX hk P' X cal
      refine Wp.stepsG 2 (fun cal X P' hk hX hP => ?_)
      show X (61, [some (.ref 76), none, none, some (.int (v3 + 1))], [], st (sA S 81 (upd (S.1 81) (((4 : Int32) * (S.1 76 1)) + v3).toNatClampNeg 1)) hs, 0, 0)
      refine hX _ ?_
      exact (ih (v3 + 1) (sA S 81 (upd (S.1 81) (((4 : Int32) * (S.1 76 1)) + v3).toNatClampNeg 1)) q hl ct)
def lp_X12_hearer_88 : Nat → Int32 → St → Option (St)
  | 0, _, _ => none
  | n + 1, v3, S =>
    if 8 ≤ v3 then
      some S
    else
      gd (¬ ((((8 : Int32) * (S.1 76 1)) + v3) < 0 ∨ 48 ≤ (((8 : Int32) * (S.1 76 1)) + v3).toNatClampNeg)) (
        lp_X12_hearer_88 n (v3 + 1) (sA S 82 (upd (S.1 82) (((8 : Int32) * (S.1 76 1)) + v3).toNatClampNeg 0)))
set_option maxRecDepth 20000 in
set_option maxHeartbeats 4000000 in
theorem e_lp_X12_hearer_88 (d : Nat) (hs : List Hr) (P : Option Value → Hp → Prop) : ∀ (n : Nat) (v3 : Int32) (S : St) (q : St), lp_X12_hearer_88 n v3 S = some q → (WM mi_X12_hearer (d + 1) P 115 [some (.ref 76), none, none, none] [] (st q hs)) → WM mi_X12_hearer (d + 1) P 88 [some (.ref 76), none, none, some (.int v3)] [] (st S hs) := by
  intro n
  induction n with
  | zero =>
    intro v3 S q hl
    cases hl
  | succ n ih =>
    intro v3 S q hl ct
    rw [lp_X12_hearer_88] at hl
    refine Wp.stepsG 3 (fun cal X P' hk hX hP => ?_)
    show (8 ≤ v3 → X (115, [some (.ref 76), none, none, some (.int v3)], [], st S hs, 0, 0)) ∧ (¬ 8 ≤ v3 → X (94, [some (.ref 76), none, none, some (.int v3)], [], st S hs, 0, 0))
    refine ⟨fun hc => hX _ ?_, fun hc => hX _ ?_⟩
    · clear hP hX hk P' X cal
      rw [if_pos hc] at hl
      have hl := Option.some.inj hl
      subst hl
      exact Wp.weak (leL.k (leL.k (leL.k (leL.n leL.z)))) (ct)
    · clear hP hX hk P' X cal
      rw [if_neg hc] at hl
      refine Wp.stepsG 10 (fun cal X P' hk hX hP => ?_)
      show vp_in (((8 : Int32) * (S.1 76 1)) + v3) 48 ∧ X (109, [some (.ref 76), none, none, some (.int v3)], [], st (sA S 82 (upd (S.1 82) (((8 : Int32) * (S.1 76 1)) + v3).toNatClampNeg 0)) hs, 0, 0)
      obtain ⟨hg, hl⟩ := gd_some hl
      refine ⟨hg, hX _ ?_⟩
      clear hP hX hk P' X cal
      refine Wp.stepsG 2 (fun cal X P' hk hX hP => ?_)
      show X (88, [some (.ref 76), none, none, some (.int (v3 + 1))], [], st (sA S 82 (upd (S.1 82) (((8 : Int32) * (S.1 76 1)) + v3).toNatClampNeg 0)) hs, 0, 0)
      refine hX _ ?_
      exact (ih (v3 + 1) (sA S 82 (upd (S.1 82) (((8 : Int32) * (S.1 76 1)) + v3).toNatClampNeg 0)) q hl ct)
def r_X12_hearer (S : St) (a1 : Int32) (a2 : Int32) : Option (Int32 × St) :=
  if (r_X12_in a1 0 6) = 0 then
    some ((-1), S)
  else
    if (r_X12_in a2 0 9) = 0 then
      some ((-2), S)
    else
      if (S.1 76 1) = 6 then
        some ((-4), S)
      else
        gd (¬ ((S.1 76 1) < 0 ∨ 6 ≤ (S.1 76 1).toNatClampNeg)) (
          gd (¬ ((S.1 76 1) < 0 ∨ 6 ≤ (S.1 76 1).toNatClampNeg)) (
            (lp_X12_hearer_61 4000 0 (sA (sA S 79 (upd (S.1 79) (S.1 76 1).toNatClampNeg a1)) 80 (upd (S.1 80) (S.1 76 1).toNatClampNeg a2))).bind fun q1 =>
              (lp_X12_hearer_88 4000 0 q1).bind fun q2 =>
                some (((q2.1 76 1) + 1) - 1, sI q2 76 1 ((q2.1 76 1) + 1))))
set_option maxRecDepth 20000 in
set_option maxHeartbeats 4000000 in
theorem e_X12_hearer (d : Nat) (S : St) (hs : List Hr) (a1 : Int32) (a2 : Int32) (v : Int32 × St) (hr : r_X12_hearer S a1 a2 = some v) (P : Option Value → Hp → Prop) (h : P (some (.int v.1)) (st v.2 hs)) : Ev (d + 2) ix_X12_hearer 0 0 [.ref 76, .int a1, .int a2] (st S hs) P := by
  refine Ev.intro (M := mi_X12_hearer) rfl (Nat.le_of_ble_eq_true rfl) ?_
  unfold r_X12_hearer at hr
  refine Wp.stepsG 5 (fun cal X P' hk hX hP => ?_)
  show kcall cal ix_X12_in [.ref 76, .int a1, .int 0, .int 6] (st S hs) [] 0 0 (0, 0) (fun v σ' c' m' => X (8, [some (.ref 76), some (.int a1), some (.int a2), none], v.toList ++ [], σ', c', m'))
  refine kcall0 rfl (hk _ _ _ _ _ _ (e_X12_in (d + 0) S hs a1 0 6 _ ?_))
  show X (8, [some (.ref 76), some (.int a1), some (.int a2), none], [.int (r_X12_in a1 0 6)], st S hs, 0, 0)
  refine hX _ ?_
  clear hP hX hk P' X cal
  refine Wp.stepsG 1 (fun cal X P' hk hX hP => ?_)
  show (¬ (r_X12_in a1 0 6) = 0 → X (13, [some (.ref 76), some (.int a1), some (.int a2), none], [], st S hs, 0, 0)) ∧ ((r_X12_in a1 0 6) = 0 → X (11, [some (.ref 76), some (.int a1), some (.int a2), none], [], st S hs, 0, 0))
  refine ⟨fun hc => hX _ ?_, fun hc => hX _ ?_⟩
  · clear hP hX hk P' X cal
    rw [if_neg hc] at hr
    refine Wp.stepsG 5 (fun cal X P' hk hX hP => ?_)
    show kcall cal ix_X12_in [.ref 76, .int a2, .int 0, .int 9] (st S hs) [] 0 0 (0, 0) (fun v σ' c' m' => X (21, [some (.ref 76), some (.int a1), some (.int a2), none], v.toList ++ [], σ', c', m'))
    refine kcall0 rfl (hk _ _ _ _ _ _ (e_X12_in (d + 0) S hs a2 0 9 _ ?_))
    show X (21, [some (.ref 76), some (.int a1), some (.int a2), none], [.int (r_X12_in a2 0 9)], st S hs, 0, 0)
    refine hX _ ?_
    clear hP hX hk P' X cal
    refine Wp.stepsG 1 (fun cal X P' hk hX hP => ?_)
    show (¬ (r_X12_in a2 0 9) = 0 → X (27, [some (.ref 76), some (.int a1), some (.int a2), none], [], st S hs, 0, 0)) ∧ ((r_X12_in a2 0 9) = 0 → X (24, [some (.ref 76), some (.int a1), some (.int a2), none], [], st S hs, 0, 0))
    refine ⟨fun hc => hX _ ?_, fun hc => hX _ ?_⟩
    · clear hP hX hk P' X cal
      rw [if_neg hc] at hr
      refine Wp.stepsG 4 (fun cal X P' hk hX hP => ?_)
      show (¬ (S.1 76 1) = 6 → X (39, [some (.ref 76), some (.int a1), some (.int a2), none], [], st S hs, 0, 0)) ∧ ((S.1 76 1) = 6 → X (36, [some (.ref 76), some (.int a1), some (.int a2), none], [], st S hs, 0, 0))
      refine ⟨fun hc => hX _ ?_, fun hc => hX _ ?_⟩
      · clear hP hX hk P' X cal
        rw [if_neg hc] at hr
        refine Wp.stepsG 6 (fun cal X P' hk hX hP => ?_)
        show vp_in (S.1 76 1) 6 ∧ X (49, [some (.ref 76), some (.int a1), some (.int a2), none], [], st (sA S 79 (upd (S.1 79) (S.1 76 1).toNatClampNeg a1)) hs, 0, 0)
        obtain ⟨hg, hr⟩ := gd_some hr
        refine ⟨hg, hX _ ?_⟩
        clear hP hX hk P' X cal
        refine Wp.stepsG 6 (fun cal X P' hk hX hP => ?_)
        show vp_in (S.1 76 1) 6 ∧ X (59, [some (.ref 76), some (.int a1), some (.int a2), none], [], st (sA (sA S 79 (upd (S.1 79) (S.1 76 1).toNatClampNeg a1)) 80 (upd (S.1 80) (S.1 76 1).toNatClampNeg a2)) hs, 0, 0)
        obtain ⟨hg, hr⟩ := gd_some hr
        refine ⟨hg, hX _ ?_⟩
        clear hP hX hk P' X cal
        refine Wp.stepsG 2 (fun cal X P' hk hX hP => ?_)
        show X (61, [some (.ref 76), some (.int a1), some (.int a2), some (.int 0)], [], st (sA (sA S 79 (upd (S.1 79) (S.1 76 1).toNatClampNeg a1)) 80 (upd (S.1 80) (S.1 76 1).toNatClampNeg a2)) hs, 0, 0)
        refine hX _ ?_
        clear hP hX hk P' X cal
        obtain ⟨q1, hq1, hr⟩ := bd_some hr
        refine Wp.weak (leL.k (leL.n (leL.n (leL.k leL.z)))) (e_lp_X12_hearer_61 d hs P _ 0 (sA (sA S 79 (upd (S.1 79) (S.1 76 1).toNatClampNeg a1)) 80 (upd (S.1 80) (S.1 76 1).toNatClampNeg a2)) q1 hq1 ?_)
        refine Wp.stepsG 2 (fun cal X P' hk hX hP => ?_)
        show X (88, [some (.ref 76), none, none, some (.int 0)], [], st q1 hs, 0, 0)
        refine hX _ ?_
        clear hP hX hk P' X cal
        obtain ⟨q2, hq2, hr⟩ := bd_some hr
        refine (e_lp_X12_hearer_88 d hs P _ 0 q1 q2 hq2 ?_)
        have hr := Option.some.inj hr
        subst hr
        refine Wp.stepsG 11 (fun cal X P' hk hX hP => ?_)
        exact hP _ _ h
      · clear hP hX hk P' X cal
        rw [if_pos hc] at hr
        have hr := Option.some.inj hr
        subst hr
        refine Wp.stepsG 2 (fun cal X P' hk hX hP => ?_)
        exact hP _ _ h
    · clear hP hX hk P' X cal
      rw [if_pos hc] at hr
      have hr := Option.some.inj hr
      subst hr
      refine Wp.stepsG 2 (fun cal X P' hk hX hP => ?_)
      exact hP _ _ h
  · clear hP hX hk P' X cal
    rw [if_pos hc] at hr
    have hr := Option.some.inj hr
    subst hr
    refine Wp.stepsG 2 (fun cal X P' hk hX hP => ?_)
    exact hP _ _ h
