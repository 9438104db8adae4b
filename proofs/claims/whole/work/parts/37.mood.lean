/-! MOOD: both sides compute the same sum over a HOUSE's clauses -/
def fcT (kd gd' tm day : Int32) (h s : Nat) : Nat → Int32
  | 0 => nI h
  | 1 => kd
  | 2 => nI s
  | 3 => gd'
  | 4 => if 99 < tm then 99 else tm
  | _ => day - day / 7 * 7
def tst (f : Nat → Int32) (t : Nat) : Bool := if t / 100 % 10 = 0 then decide (f (t / 1000) < nI (t % 100)) else if t / 100 % 10 = 1 then decide (f (t / 1000) = nI (t % 100)) else decide (nI (t % 100) < f (t / 1000))
def evS (f : Nat → Int32) (t : Int32) (st : List Bool) : List Bool := if t = -33 then (match st with
  | b :: r => (!b) :: r
  | [] => []) else if t = -38 then (match st with
  | b :: a :: r => (a && b) :: r
  | r => r) else if t = -124 then (match st with
  | b :: a :: r => (a || b) :: r
  | r => r) else tst f t.toNatClampNeg :: st
def evE (f : Nat → Int32) : List Int32 → List Bool → List Bool
  | [], st => st
  | t :: r, st => evE f r (evS f t st)
theorem tok_m33 {t : Int32} (h : tokOk t) : ¬ t = -33 ∧ ¬ t = -38 ∧ ¬ t = -124 ∧ 0 ≤ t := by
  obtain ⟨f, s, d, h1, h2, h3, rfl⟩ := h
  have h0 : 0 ≤ nI (1000 * f + 100 * s + d) := nI_pos' (by omega)
  have key : ∀ x : Int32, x < 0 → ¬ nI (1000 * f + 100 * s + d) = x := by
    intro x hx e
    rw [e] at h0
    exact absurd hx (Int32.not_lt.mpr h0)
  exact ⟨key _ (by decide), key _ (by decide), key _ (by decide), h0⟩
theorem codeOk_ev {f : Nat → Int32} : ∀ {E : List Int32} {st : List Bool}, codeOk E st.length → ∃ b, evE f E st = [b]
  | [], st, h => by
    match st, h with
    | [b], _ => exact ⟨b, rfl⟩
  | t :: r, st, h => by
    rcases h with ⟨h1, h2, h3⟩ | ⟨h1, h2, h3⟩ | ⟨h1, h2, h3⟩
    · match st, h2, h3 with
      | b :: q, _, h3 =>
        show ∃ b', evE f r (evS f t (b :: q)) = [b']
        refine codeOk_ev ?_
        unfold evS
        rw [if_pos h1]
        exact h3
    · match st, h2, h3 with
      | b :: a :: q, _, h3 =>
        show ∃ b', evE f r (evS f t (b :: a :: q)) = [b']
        refine codeOk_ev ?_
        unfold evS
        rcases h1 with h1 | h1
        · rw [if_neg (by rw [h1]; decide), if_pos h1]
          exact h3
        · rw [if_neg (by rw [h1]; decide), if_neg (by rw [h1]; decide), if_pos h1]
          exact h3
      | [b], h2, _ => exact absurd h2 (show ¬ 2 ≤ 1 from by decide)
    · obtain ⟨e1, e2, e3, -⟩ := tok_m33 h1
      show ∃ b', evE f r (evS f t st) = [b']
      refine codeOk_ev ?_
      unfold evS
      rw [if_neg e1, if_neg e2, if_neg e3]
      exact h3
/-! the model's pile -/
def Pile (g : Nat → Int32) : List Bool → Prop
  | [] => True
  | b :: r => g r.length = (if b then 1 else 0) ∧ Pile g r
theorem Pile.upd {g : Nat → Int32} : ∀ {r : List Bool} {k : Nat} {x : Int32}, Pile g r → r.length ≤ k → Pile (upd g k x) r
  | [], _, _, _, _ => True.intro
  | b :: r, k, x, h, hk => ⟨by rw [upd_ne (by rw [List.length_cons] at hk; omega)]; exact h.1, Pile.upd h.2 (by rw [List.length_cons] at hk; omega)⟩
theorem Pile.put {g : Nat → Int32} {r : List Bool} (h : Pile g r) (b : Bool) : Pile (Pilot.CToldMeThatLaw_law_r7777_b4954f.upd g r.length (if b then 1 else 0)) (b :: r) := ⟨upd_at _ _ _, h.upd (Nat.le_refl _)⟩
theorem nI_m1 (n : Nat) : nI (n + 1) + (-1) = nI n := by
  rw [nI_succ, Int32.add_assoc]
  show nI n + ((1 : Int32) + (-1)) = nI n
  rw [show (1 : Int32) + (-1) = 0 from by decide, Int32.add_zero]
theorem bz {b : Bool} : ((if b then (1 : Int32) else 0) = 0) ↔ b = false := by
  cases b <;> simp
theorem T_div {l q d : Nat} (hq : q ≤ 2) (hd : d ≤ 99) : (1000 * l + 100 * q + d) / 1000 = l ∧ (1000 * l + 100 * q + d) / 100 % 10 = q ∧ (1000 * l + 100 * q + d) % 100 = d := by
  refine ⟨by omega, by omega, by omega⟩
theorem lp_hold {f : Nat → Int32} {c h s b : Nat} (hc : c < 60) (hb : b ≤ 600) : ∀ (E : List Int32) (st : List Bool) (S : St) (n pos : Nat), S.1 89 c = nI b → (∀ l, l ≤ 5 → r_X12_factOf S (nI l) (nI h) (nI s) = some (f l)) → codeOk E st.length → st.length ≤ 20 → pos + E.length = b → (∀ i x, E[i]? = some x → S.1 90 (pos + i) = x) → Pile (S.1 93) st → E.length < n → ∃ g, lp_X12_holds_11 (nI c) (nI h) (nI s) n (nI st.length) (nI pos) S = some (sA S 93 g) ∧ Pile g (evE f E st) := by
  intro E
  induction E with
  | nil =>
    intro st S n pos e89 hf hcode hst hpos hE hP hn
    cases n with
    | zero => exact absurd hn (Nat.not_lt_zero _)
    | succ n =>
      refine ⟨S.1 93, ?_, hP⟩
      unfold lp_X12_holds_11
      rw [gdN hc (by decide), nI_clamp (by omega), e89, if_pos (nI_le (by rw [List.length_nil] at hpos; omega) (by rw [List.length_nil] at hpos; omega)), sA_self]
  | cons t r ih =>
    intro st S n pos e89 hf hcode hst hpos hE hP hn
    rw [List.length_cons] at hpos hn
    cases n with
    | zero => exact absurd hn (Nat.not_lt_zero _)
    | succ n =>
      have et : S.1 90 pos = t := hE 0 t rfl
      have hE' : ∀ (g : Nat → Int32) i x, r[i]? = some x → (sA S 93 g).1 90 (pos + 1 + i) = x := fun g i x hx => by
        have := hE (i + 1) x hx
        rw [show pos + 1 + i = pos + (i + 1) by omega]
        exact this
      have step : ∀ (st' : List Bool) (g : Nat → Int32), codeOk r st'.length → st'.length ≤ 20 → Pile g st' → ∃ g', lp_X12_holds_11 (nI c) (nI h) (nI s) n (nI st'.length) (nI (pos + 1)) (sA S 93 g) = some (sA S 93 g') ∧ Pile g' (evE f r st') := by
        intro st' g h1 h0 h2
        obtain ⟨g', q1, q2⟩ := ih st' (sA S 93 g) n (pos + 1) e89 hf h1 h0 (by omega) (hE' g) h2 (by omega)
        exact ⟨g', by rw [q1, sA_sA], q2⟩
      unfold lp_X12_holds_11
      rw [gdN hc (by decide), nI_clamp (show c < 2 ^ 31 by omega), e89, if_neg (nI_ge (by omega) (by omega)), gdN (show pos < 600 by omega) (by decide), nI_clamp (show pos < 2 ^ 31 by omega), et, nI_1]
      show ∃ g, _ = some (sA S 93 g) ∧ Pile g (evE f r (evS f t st))
      rcases hcode with ⟨h1, h2, h3⟩ | ⟨h1, h2, h3⟩ | ⟨h1, h2, h3⟩
      · match st, h2, h3, hP, hst with
        | b' :: q, _, h3, hP, hst =>
          have hq20 : q.length < 40 := by
            simp only [List.length_cons] at hst
            omega
          rw [if_pos h1, List.length_cons, nI_pred, gdN (show q.length < 100 by omega) (by decide), gdN (show q.length < 100 by omega) (by decide), nI_clamp (show q.length < 2 ^ 31 by omega), hP.1]
          have ev : evS f t (b' :: q) = (!b') :: q := by unfold evS; rw [if_pos h1]
          rw [ev]
          cases b'
          · rw [if_pos (bz.mpr rfl)]
            exact step ((!false) :: q) _ h3 hst (hP.2.put true)
          · rw [if_neg (by decide), gdM (show q.length < 100 by omega) (by omega)]
            exact step ((!true) :: q) _ h3 hst (hP.2.put false)
      · match st, h2, h3, hP, hst with
        | [b'], h2, _, _, _ => exact absurd h2 (show ¬ 2 ≤ 1 from by decide)
        | b' :: a :: q, _, h3, hP, hst =>
          have hq20 : q.length < 40 := by
            simp only [List.length_cons] at hst
            omega
          have ea : (nI (b' :: a :: q).length + -1 - 1) = nI q.length := by
            rw [List.length_cons, List.length_cons, nI_m1, nI_pred]
          have eb : (nI (b' :: a :: q).length + -1) = nI (q.length + 1) := by
            rw [List.length_cons, List.length_cons, nI_m1]
          have hPb : S.1 93 (q.length + 1) = (if b' then 1 else 0) := hP.1
          have hPa : S.1 93 q.length = (if a then 1 else 0) := hP.2.1
          have el : codeOk r (q.length + 1) := h3
          have hs1 : q.length + 1 ≤ 20 := by
            simp only [List.length_cons] at hst
            omega
          rcases h1 with h1 | h1
          · have ev : evS f t (b' :: a :: q) = (a && b') :: q := by unfold evS; rw [if_neg (by rw [h1]; decide), if_pos h1]
            rw [ev, if_neg (show ¬ t = -33 by rw [h1]; decide), if_neg (show ¬ 0 ≤ t by rw [h1]; decide), if_pos h1, ea, eb, gdN (show q.length < 100 by omega) (by decide), gdN (show q.length < 100 by omega) (by decide), gdN (show q.length + 1 < 100 by omega) (by decide), gdN (show q.length < 100 by omega) (by decide), nI_clamp (show q.length < 2 ^ 31 by omega), nI_clamp (show q.length + 1 < 2 ^ 31 by omega), hPa, hPb]
            cases a
            · rw [if_pos (bz.mpr rfl)]
              exact step ((false && b') :: q) _ el hs1 (hP.2.2.put false)
            · rw [if_neg (by decide)]
              cases b'
              · rw [if_pos (bz.mpr rfl)]
                exact step ((true && false) :: q) _ el hs1 (hP.2.2.put false)
              · rw [if_neg (by decide)]
                exact step ((true && true) :: q) _ el hs1 (hP.2.2.put true)
          · have ev : evS f t (b' :: a :: q) = (a || b') :: q := by unfold evS; rw [if_neg (by rw [h1]; decide), if_neg (by rw [h1]; decide), if_pos h1]
            rw [ev, if_neg (show ¬ t = -33 by rw [h1]; decide), if_neg (show ¬ 0 ≤ t by rw [h1]; decide), if_neg (show ¬ t = -38 by rw [h1]; decide), ea, eb, gdN (show q.length < 100 by omega) (by decide), gdN (show q.length + 1 < 100 by omega) (by decide), gdN (show q.length < 100 by omega) (by decide), gdN (show q.length < 100 by omega) (by decide), nI_clamp (show q.length < 2 ^ 31 by omega), nI_clamp (show q.length + 1 < 2 ^ 31 by omega), hPa, hPb]
            cases a
            · rw [if_pos (bz.mpr rfl)]
              cases b'
              · rw [if_pos (bz.mpr rfl)]
                exact step ((false || false) :: q) _ el hs1 (hP.2.2.put false)
              · rw [if_neg (by decide)]
                exact step ((false || true) :: q) _ el hs1 (hP.2.2.put true)
            · rw [if_neg (by decide)]
              exact step ((true || b') :: q) _ el hs1 (hP.2.2.put true)
      · obtain ⟨e1, e2, e3, e4⟩ := tok_m33 h1
        obtain ⟨l, q, d, hl, hq, hd, rfl⟩ := h1
        obtain ⟨T1, T2, T3⟩ := T_div (l := l) hq hd
        have ev : evS f (nI (1000 * l + 100 * q + d)) st = tst f (1000 * l + 100 * q + d) :: st := by
          unfold evS
          rw [if_neg e1, if_neg e2, if_neg e3, nI_clamp (by omega)]
        have d1 : nI (1000 * l + 100 * q + d) / 1000 = nI l := by
          rw [show (1000 : Int32) = nI 1000 from rfl, nI_div (by omega) (by decide) (by decide), T1]
        have d2 : (nI (1000 * l + 100 * q + d) / 100) - (nI (1000 * l + 100 * q + d) / 100) / 10 * 10 = nI q := by
          rw [show (100 : Int32) = nI 100 from rfl, nI_div (by omega) (by decide) (by decide), show (10 : Int32) = nI 10 from rfl, nI_rem (by omega) (by decide) (by decide), T2]
        have d3 : nI (1000 * l + 100 * q + d) - nI (1000 * l + 100 * q + d) / 100 * 100 = nI d := by
          rw [show (100 : Int32) = nI 100 from rfl, nI_rem (by omega) (by decide) (by decide), T3]
        have ts : tst f (1000 * l + 100 * q + d) = (if q = 0 then decide (f l < nI d) else if q = 1 then decide (f l = nI d) else decide (nI d < f l)) := by
          unfold tst
          rw [T1, T2, T3]
        have fin : ∀ b'' : Bool, b'' = tst f (1000 * l + 100 * q + d) → ∃ g, lp_X12_holds_11 (nI c) (nI h) (nI s) n (nI (st.length + 1)) (nI (pos + 1)) (sA S 93 (upd (S.1 93) st.length (vp_nar .boolean (if b'' then 1 else 0)))) = some (sA S 93 g) ∧ Pile g (evE f r (tst f (1000 * l + 100 * q + d) :: st)) := by
          intro b'' hb
          rw [← hb]
          have z : vp_nar .boolean (if b'' then 1 else 0) = (if b'' then 1 else 0) := by cases b'' <;> rfl
          rw [z]
          exact step (b'' :: st) _ h3 (by rw [List.length_cons]; omega) (hP.put b'')
        rw [ev, if_neg e1, if_pos e4, d1, d2, d3, hf l hl]
        show ∃ g, (if nI q = 0 then (if nI d ≤ f l then _ else _) else if nI q = 1 then _ else _) = some (sA S 93 g) ∧ _
        simp only [gdN (show st.length < 100 by omega) (by decide)]
        rw [nI_clamp (show st.length < 2 ^ 31 by omega), nI_1]
        by_cases q0 : q = 0
        · subst q0
          rw [if_pos nI_0]
          rw [if_pos rfl] at ts
          by_cases w : nI d ≤ f l
          · rw [if_pos w]
            exact fin false (by rw [ts, decide_eq_false (Int32.not_lt.mpr w)])
          · rw [if_neg w]
            exact fin true (by rw [ts, decide_eq_true (Int32.not_le.mp w)])
        · rw [if_neg q0] at ts
          rw [if_neg (nI_ne0 (by omega) (by omega))]
          by_cases q1 : q = 1
          · subst q1
            rw [if_pos rfl] at ts
            rw [if_pos (show nI 1 = 1 from rfl)]
            by_cases w : f l = nI d
            · rw [if_pos w]
              exact fin true (by rw [ts, decide_eq_true w])
            · rw [if_neg w]
              exact fin false (by rw [ts, decide_eq_false w])
          · rw [if_neg q1] at ts
            rw [if_neg (ne_l (k := 1) q1 (by omega) (by decide))]
            by_cases w : f l ≤ nI d
            · rw [if_pos w]
              exact fin false (by rw [ts, decide_eq_false (Int32.not_lt.mpr w)])
            · rw [if_neg w]
              exact fin true (by rw [ts, decide_eq_true (Int32.not_le.mp w)])
