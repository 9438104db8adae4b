/-! HOUSE: the class learns a text -/
def fcl (acc : List PC) : Nat → PC := fun c => acc.getD c (0, 0, [])
theorem allSteps_cong {f g : Nat → PC} : ∀ n, (∀ c, c < n → f c = g c) → allSteps f n = allSteps g n
  | 0, _ => rfl
  | n + 1, h => by
    show allSteps f n ++ clSteps (f n).1 (f n).2.1 (f n).2.2 = allSteps g n ++ clSteps (g n).1 (g n).2.1 (g n).2.2
    rw [allSteps_cong n (fun c hc => h c (by omega)), h n (by omega)]
theorem lastW_cong {f g : Nat → PC} {w x : Nat} : ∀ n, (∀ c, c < n → f c = g c) → lastW f w x n = lastW g w x n
  | 0, _ => rfl
  | n + 1, h => by
    show (if (f n).1 = w then (f n).2.1 else lastW f w x n) = (if (g n).1 = w then (g n).2.1 else lastW g w x n)
    rw [lastW_cong n (fun c hc => h c (by omega)), h n (by omega)]
theorem fcl_lt {acc : List PC} {x : PC} {c : Nat} (h : c < acc.length) : fcl (acc ++ [x]) c = fcl acc c := by
  unfold fcl
  rw [List.getD_eq_getElem?_getD, List.getD_eq_getElem?_getD, List.getElem?_append_left h]
theorem fcl_at {acc : List PC} {x : PC} : fcl (acc ++ [x]) acc.length = x := by
  unfold fcl
  rw [List.getD_eq_getElem?_getD, List.getElem?_append_right (Nat.le_refl _), Nat.sub_self]
  rfl
theorem allSteps_app (acc : List PC) (x : PC) : allSteps (fcl (acc ++ [x])) (acc ++ [x]).length = allSteps (fcl acc) acc.length ++ clSteps x.1 x.2.1 x.2.2 := by
  rw [List.length_append]
  show allSteps (fcl (acc ++ [x])) acc.length ++ clSteps (fcl (acc ++ [x]) acc.length).1 (fcl (acc ++ [x]) acc.length).2.1 (fcl (acc ++ [x]) acc.length).2.2 = _
  rw [fcl_at, allSteps_cong acc.length (fun c hc => fcl_lt hc)]
theorem lastW_app (acc : List PC) (x : PC) (w y : Nat) : lastW (fcl (acc ++ [x])) w y (acc ++ [x]).length = if x.1 = w then x.2.1 else lastW (fcl acc) w y acc.length := by
  rw [List.length_append]
  show (if (fcl (acc ++ [x]) acc.length).1 = w then (fcl (acc ++ [x]) acc.length).2.1 else lastW (fcl (acc ++ [x])) w y acc.length) = _
  rw [fcl_at, lastW_cong acc.length (fun c hc => fcl_lt hc)]
theorem ps_e_ok {N w n p : Nat} {k : Nat → Nat} (hT : PK N k) (hp : p ≤ N) : p ≤ (ps_e k w n p).2.1 ∧ (ps_e k w n p).2.1 ≤ N ∧ (ps_e k w n p).2.2.1 = w ∧ (ps_e k w n p).2.2.2.1 = n := by
  unfold ps_e
  by_cases c2 : 2 ≤ w
  · rw [if_pos c2]
    exact ⟨Nat.le_refl _, hp, rfl, rfl⟩
  rw [if_neg c2]
  by_cases c : k p = 32
  · rw [if_pos c]
    obtain ⟨g1, g2, g3⟩ := ps_E_ok hT (ps_p_ok hT 4) (p + 1) (hT.lt c (by decide))
    exact ⟨by show p ≤ (ps_E k (ps_p k 4) (p + 1)).2.1; omega, g2, rfl, rfl⟩
  · rw [if_neg c]
    exact ⟨Nat.le_refl _, hp, rfl, rfl⟩
theorem ps_c_ok {N p : Nat} {k : Nat → Nat} (hT : PK N k) (hp : p ≤ N) : p ≤ (ps_c k p).2.1 ∧ (ps_c k p).2.1 ≤ N ∧ ((ps_c k p).1 = true → p < (ps_c k p).2.1 ∧ (ps_c k p).2.2.1 ≤ 3 ∧ (ps_c k p).2.2.2.1 ≤ 99) := by
  obtain ⟨g1, g2, g3⟩ := ps_w_ok hT hp
  cases e : (ps_w k p).1 with
  | none =>
    rw [ps_c_no e]
    exact ⟨g1, g2, fun z => by cases z⟩
  | some w =>
    rw [ps_c_so e]
    obtain ⟨w3, g4⟩ := g3 w e
    generalize (ps_w k p).2 = p2 at g1 g2 g4
    by_cases c : k p2 = 32
    · have hp1 : p2 < N := hT.lt c (by decide)
      obtain ⟨m1, m2, m3⟩ := ps_n_ok hT (p := p2 + 1) hp1
      cases e2 : (ps_n k (p2 + 1)).1 with
      | none =>
        rw [ps_k_no c e2]
        exact ⟨by show p ≤ (ps_n k (p2 + 1)).2; omega, m2, fun z => by cases z⟩
      | some n =>
        rw [ps_k_so c e2]
        obtain ⟨m4, m5⟩ := m3 n e2
        obtain ⟨x1, x2, x3, x4⟩ := ps_e_ok (w := w) (n := n) hT m2
        exact ⟨by omega, x2, fun _ => ⟨by omega, by omega, by omega⟩⟩
    · rw [ps_k_n c]
      exact ⟨by show p ≤ p2; omega, g2, fun z => by cases z⟩
theorem ps_x_s (k : Nat → Nat) (N n p : Nat) (acc : List PC) : ps_x k N (n + 1) p acc = if (ps_c k p).1 = true then (if (ps_c k p).2.1 = N then (true, N, acc ++ [(ps_c k p).2.2]) else if n = 0 then (false, (ps_c k p).2.1, acc) else if k (ps_c k p).2.1 = 59 then ps_x k N n ((ps_c k p).2.1 + 1) (acc ++ [(ps_c k p).2.2]) else (false, (ps_c k p).2.1, acc)) else (false, (ps_c k p).2.1, acc) := rfl
def tx_R (S0 : St) (o N : Nat) (S' : St) (tag : Nat) (r : Bool × Nat × List PC) : Prop := (r.1 = true ∧ tag = 0 ∧ r.2.1 = N ∧ r.2.2.length ≤ 10 ∧ hs_C S0 o N (nI (lastW (fcl r.2.2) 2 20 r.2.2.length)) (nI (lastW (fcl r.2.2) 3 5 r.2.2.length)) S' N (allSteps (fcl r.2.2) r.2.2.length) ∧ (allSteps (fcl r.2.2) r.2.2.length).length ≤ N) ∨ (r.1 = false ∧ ¬ tag = 0 ∧ r.2.1 ≤ N ∧ ∃ dv fv L, hs_C S0 o N dv fv S' r.2.1 L)
theorem text_c {S0 : St} {o N : Nat} {k : Nat → Nat} (hT : hs_T S0 N k) (ho : 40 ≤ o) : ∀ m n v3 p (acc : List PC) (S : St), m + v3 = 10 → m < n → acc.length = v3 → hs_C S0 o N (nI (lastW (fcl acc) 2 20 acc.length)) (nI (lastW (fcl acc) 3 5 acc.length)) S p (allSteps (fcl acc) acc.length) → p ≤ N → (allSteps (fcl acc) acc.length).length ≤ p → ∃ tag S', lp_X5_learn_28_38 o n (nI (v3 + 1)) S = some (tag, S') ∧ tx_R S0 o N S' tag (ps_x k N m p acc) ∨ (m = 0) := by
  have hN := hT.2.1
  intro m
  induction m with
  | zero =>
    intro n v3 p acc S _ _ _ _ _ _
    exact ⟨0, S, Or.inr rfl⟩
  | succ m ih =>
    intro n v3 p acc S h1 h2 hacc h3 hp hL
    obtain ⟨n, rfl⟩ : ∃ n', n = n' + 1 := ⟨n - 1, by omega⟩
    obtain ⟨S1, t1, dv, fv, L1, t2, t3⟩ := clause_c hT ho h3 hp hL
    obtain ⟨g1, g2, g3⟩ := ps_c_ok hT.1 hp
    rw [ps_x_s, lp_X5_learn_28_38, if_neg (show ¬ (10 : Int32) < nI (v3 + 1) from nI_nlt (a := 10) (b := v3 + 1) (by omega) (by decide))]
    cases c : (ps_c k p).1 with
    | false =>
      rw [c] at t1
      rw [if_neg (by decide)]
      exact ⟨2, S1, Or.inl ⟨ob_step t1 (if_pos rfl), Or.inr ⟨rfl, by decide, g2, dv, fv, L1, t2⟩⟩⟩
    | true =>
      rw [c] at t1
      obtain ⟨t4, t5, t6, t7⟩ := t3 c
      obtain ⟨g4, g5, g6⟩ := g3 c
      have hA : hs_C S0 o N (nI (lastW (fcl (acc ++ [(ps_c k p).2.2])) 2 20 (acc ++ [(ps_c k p).2.2]).length)) (nI (lastW (fcl (acc ++ [(ps_c k p).2.2])) 3 5 (acc ++ [(ps_c k p).2.2]).length)) S1 (ps_c k p).2.1 (allSteps (fcl (acc ++ [(ps_c k p).2.2])) (acc ++ [(ps_c k p).2.2]).length) := by
        rw [allSteps_app, lastW_app, lastW_app, ← t4]
        have e1 : nI (if (ps_c k p).2.2.1 = 2 then (ps_c k p).2.2.2.1 else lastW (fcl acc) 2 20 acc.length) = dv := by
          rw [t6]
          split <;> rfl
        have e2 : nI (if (ps_c k p).2.2.1 = 3 then (ps_c k p).2.2.2.1 else lastW (fcl acc) 3 5 acc.length) = fv := by
          rw [t7]
          split <;> rfl
        rw [e1, e2]
        exact t2
      have hAl : (allSteps (fcl (acc ++ [(ps_c k p).2.2])) (acc ++ [(ps_c k p).2.2]).length).length ≤ (ps_c k p).2.1 := by
        rw [allSteps_app, ← t4]
        exact t5
      have hlen : (acc ++ [(ps_c k p).2.2]).length = v3 + 1 := by
        rw [List.length_append, hacc]
        rfl
      rw [if_pos rfl]
      generalize (ps_c k p).2.2 = x at hA hAl hlen
      have e7 : S1.1 o 7 = nI (ps_c k p).2.1 := t2.1
      have e6 : S1.1 o 6 = nI N := t2.2.1
      by_cases d : (ps_c k p).2.1 = N
      · rw [if_pos d]
        rw [d] at hA hAl
        refine ⟨0, S1, Or.inl ⟨ob_step t1 ((if_neg nzt).trans ?_), Or.inl ⟨rfl, rfl, rfl, by show (acc ++ [x]).length ≤ 10; omega, hA, hAl⟩⟩⟩
        show (if S1.1 o 7 = S1.1 o 6 then some (0, S1) else _) = _
        rw [if_pos (by rw [e7, e6, d])]
      rw [if_neg d]
      have hstep : ∀ (y : Option (Nat × St)), (if nI (v3 + 1) = 10 then some (1, S1) else (r_X5_goBy S1 o 59).bind fun q2 => if q2.1 = 0 then some (1, q2.2) else lp_X5_learn_28_38 o n (nI (v3 + 1) + 1) q2.2) = y → ((r_X5_learnClause S o).bind fun q1 => if q1.1 = 0 then some (2, q1.2) else if (q1.2.1 o 7) = (q1.2.1 o 6) then some (0, q1.2) else if nI (v3 + 1) = 10 then some (1, q1.2) else (r_X5_goBy q1.2 o 59).bind fun q2 => if q2.1 = 0 then some (1, q2.2) else lp_X5_learn_28_38 o n (nI (v3 + 1) + 1) q2.2) = y := by
        intro y hy
        refine ob_step t1 ((if_neg nzt).trans ?_)
        show (if S1.1 o 7 = S1.1 o 6 then some (0, S1) else _) = _
        rw [if_neg (by rw [e7, e6]; exact fun z => d ((nI_eq (by omega) (by omega)).mp z))]
        exact hy
      by_cases f : m = 0
      · rw [if_pos f]
        refine ⟨1, S1, Or.inl ⟨hstep _ ?_, Or.inr ⟨rfl, by decide, g2, dv, fv, L1, t2⟩⟩⟩
        rw [if_pos (show nI (v3 + 1) = 10 by rw [show v3 + 1 = 10 by omega]; rfl)]
      rw [if_neg f]
      have hb := goBy_c hT ho hA g2 (a := 59) (by decide)
      have h10 : ¬ nI (v3 + 1) = 10 := ne_l (k := 10) (by omega) (by omega) (by decide)
      by_cases e : k (ps_c k p).2.1 = 59
      · rw [if_pos e] at hb ⊢
        have hp1 : (ps_c k p).2.1 < N := hT.1.lt e (by decide)
        obtain ⟨tag, S2, u⟩ := ih n (v3 + 1) ((ps_c k p).2.1 + 1) (acc ++ [x]) (sI S1 o 7 (nI ((ps_c k p).2.1 + 1))) (by omega) (by omega) hlen (hA.mv _) hp1 (by omega)
        rcases u with ⟨u1, u2⟩ | u
        · refine ⟨tag, S2, Or.inl ⟨hstep _ ?_, u2⟩⟩
          rw [if_neg h10]
          refine ob_step hb ((if_neg nz1).trans ?_)
          rw [nI_1]
          exact u1
        · exact absurd u f
      · rw [if_neg e] at hb ⊢
        refine ⟨1, S1, Or.inl ⟨hstep _ ?_, Or.inr ⟨rfl, by decide, g2, dv, fv, L1, t2⟩⟩⟩
        rw [if_neg h10]
        exact ob_step hb (if_pos rfl)
theorem sR_at {S : St} {k j : Nat} {v : Option Nat} : (sR S k j v).2.2 k j = v := by
  show u2 S.2.2 k j v k j = v
  unfold u2
  rw [show Nat.beq k k = true from Nat.beq_refl k]
  show (match Nat.beq j j with | true => v | false => S.2.2 k j) = v
  rw [show Nat.beq j j = true from Nat.beq_refl j]
theorem sR_ne {S : St} {k j a : Nat} {v : Option Nat} (h : a ≠ k) : (sR S k j v).2.2 a = S.2.2 a := by
  show u2 S.2.2 k j v a = S.2.2 a
  unfold u2
  rw [show Nat.beq a k = false from by cases q : Nat.beq a k with | false => rfl | true => exact absurd (Nat.eq_of_beq_eq_true q) h]
/-- the class reads the text: the FAULT, or -1 -/
theorem learn_c {S : St} {o N : Nat} {k : Nat → Nat} (hT : hs_T S N k) (ho : 40 ≤ o) : ∃ tag S', r_X5_learn_28 S o (nI N) = some (if (ps_x k N 10 0 []).1 = true then -1 else nI (ps_x k N 10 0 []).2.1, S') ∧ tx_R S o N S' tag (ps_x k N 10 0 []) := by
  have hN := hT.2.1
  have h0 : hs_C S o N (nI (lastW (fcl []) 2 20 ([] : List PC).length)) (nI (lastW (fcl []) 3 5 ([] : List PC).length)) (sI (sI (sI (sI (sI (sR S o 5 (some 28)) o 6 (nI N)) o 7 0) o 2 0) o 3 20) o 4 5) 0 (allSteps (fcl []) ([] : List PC).length) := by
    refine ⟨?_, ?_, sR_at, ?_, (fun i x hx => by cases hx), ?_, sI_at, fun j a b c => ?_, rfl, fun j a => sR_ne a⟩
    · rw [sI_sl (by decide), sI_sl (by decide), sI_sl (by decide), sI_at]
      rfl
    · rw [sI_sl (by decide), sI_sl (by decide), sI_sl (by decide), sI_sl (by decide), sI_at]
    · rw [sI_sl (by decide), sI_sl (by decide), sI_at]
      rfl
    · rw [sI_sl (by decide), sI_at]
      rfl
    · rw [sI_ne a, sI_ne a, sI_ne a, sI_ne a, sI_ne a]
      rfl
  obtain ⟨tag, S', h1 | h1⟩ := text_c hT ho 10 4000 0 0 [] _ rfl (by decide) rfl h0 (Nat.zero_le _) (Nat.le_refl _)
  · obtain ⟨h1, h2⟩ := h1
    refine ⟨tag, S', ?_, h2⟩
    unfold r_X5_learn_28
    have e : (if (100 : Int32) < nI N then (100 : Int32) else nI N) = nI N := if_neg (nI_nlt (a := 100) (b := N) hN (by omega))
    rw [e]
    refine ob_step h1 ?_
    rcases h2 with ⟨a1, a2, a3, a4, a5, a6⟩ | ⟨a1, a2, a3, dv, fv, L, a4⟩
    · rw [if_pos a2, a1, if_pos rfl]
    · rw [if_neg a2, a1]
      show (if tag = 1 then some (S'.1 o 7, S') else some (S'.1 o 7, S')) = some (nI (ps_x k N 10 0 []).2.1, S')
      rw [a4.1]
      split <;> rfl
  · exact absurd h1 (by decide)
