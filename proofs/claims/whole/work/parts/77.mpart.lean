/-! HOUSE: the model's parts, and a whole expression -/
section
variable {S0 : St} {t c N q : Nat} {k : Nat → Nat}
theorem me_end (ht : t < 6) (hc : c < 60) (hT : ms_T S0 N k) {n p : Nat} {S : St} {M' M1 : List Int32} {W' W : List Nat} (h : ms_M S0 t c N S p M' W') (hp : p ≤ N) (h1 : k p ≠ 38) (h2 : k p ≠ 124) (hl : M'.length + W'.length ≤ 100) (he : se true M' W' = (M1, W)) : ∃ S4, ms_M S0 t c N S4 p M1 W ∧ S4.1 89 c = nI (100 * t + M1.length) ∧ lp_X12_takesE_22 (nI c) (n + 1) 0 S = (if nI W.length = 0 then some (2, S4) else if sg N k p = 41 then (r_X12_whole (sI (sI (sI S4 76 24 (nI W.length - 1)) 76 25 (nI (opn W) - 1)) 76 13 (nI (p + 1)))).bind fun q4 => lp_X12_takesE_22 (nI c) n 0 q4.2 else some (3, S4)) := by
  have n38 : ¬ sg N k p = 38 := fun z => h1 ((sg_eq hT.1 (a := 38) (by decide)).mp z)
  have n124 : ¬ sg N k p = 124 := fun z => h2 ((sg_eq hT.1 (a := 124) (by decide)).mp z)
  obtain ⟨S1, a1, a2⟩ := settle_m ht (f1 := 124) (b := true) ⟨fun z => absurd z (by decide), fun z => by cases z⟩ W' 4000 S M' h (by omega) hl
  rw [he] at a2
  have a2' : ms_M S0 t c N S1 p M1 W := a2
  refine ⟨sA S1 89 (upd (S1.1 89) c (nI (100 * t + M1.length))), a2'.to _, upd_at _ _ _, ?_⟩
  rw [lp_X12_takesE_22]
  refine ob_step (sign_m hT h hp) ?_
  rw [if_pos rfl, if_neg n38, if_neg n124]
  refine ob_step (a := (0, S1)) (ob_step a1 rfl) ?_
  rw [gdN hc (by decide), nI_clamp (by omega)]
  show (if S1.1 76 24 = 0 then some (2, sA S1 89 (upd (S1.1 89) c (S1.1 76 23))) else if sg N k p = 41 then (r_X12_whole (sI (sI (sI (sA S1 89 (upd (S1.1 89) c (S1.1 76 23))) 76 24 (S1.1 76 24 - 1)) 76 25 (S1.1 76 25 - 1)) 76 13 (S1.1 76 13 + 1))).bind fun q4 => lp_X12_takesE_22 (nI c) n 0 q4.2 else some (3, sA S1 89 (upd (S1.1 89) c (S1.1 76 23)))) = _
  rw [a2'.2.2.1, a2'.2.2.2.1, a2'.2.2.2.2.1, a2'.1, nI_1]
theorem me_push (hT : ms_T S0 N k) {n p : Nat} {S : St} {M : List Int32} {W : List Nat} (h : ms_M S0 t c N S p M W) (hp : p ≤ N) {x : Nat} (hx : x = 33 ∨ x = 40) (hk : k p = x) (ho : opn W < 4) (hl : W.length ≤ 100) : ∃ S1, lp_X12_takesE_22 (nI c) (n + 1) 1 S = lp_X12_takesE_22 (nI c) n 1 S1 ∧ ms_M S0 t c N S1 (p + 1) M (x :: W) := by
  have hx7 : x ≤ 127 := by omega
  refine ⟨_, ?_, h.ps x hx7⟩
  have es : sg N k p = nI x := (sg_eq hT.1 hx7).mpr hk
  have e25 : S.1 76 25 = nI (opn W) := h.2.2.2.2.1
  have n4 : ¬ nI (opn W) = 4 := ne_l (k := 4) (by omega) (by omega) (by decide)
  have eo : opn (x :: W) = opn W + 1 := by
    show opn W + (if x = 38 ∨ x = 124 then 0 else 1) = _
    rw [if_neg (by omega)]
  rw [lp_X12_takesE_22]
  refine ob_step (sign_m hT h hp) ?_
  rw [if_neg nz1, es, e25, h.2.2.2.1, h.1, gdN (show W.length < 101 by omega) (by decide), nI_clamp (by omega), nI_1, nI_1, nI_1, eo]
  rcases hx with rfl | rfl
  · refine (if_pos (show nI 33 = 33 from rfl)).trans ?_
    rw [if_neg n4]
  · refine (if_neg (show ¬ nI 40 = 33 by decide)).trans ((if_pos (show nI 40 = 40 from rfl)).trans ?_)
    rw [if_neg n4]
theorem me_test (ht : t < 6) (hT : ms_T S0 N k) {n p : Nat} {S : St} {M : List Int32} {W : List Nat} (h : ms_M S0 t c N S p M W) (hp : p ≤ N) (hl : M.length + W.length ≤ p) (h1 : k p ≠ 33) (h2 : k p ≠ 40) : ((ps_t k p).1 = true → ∃ S', lp_X12_takesE_22 (nI c) (n + 1) 1 S = lp_X12_takesE_22 (nI c) n 0 S' ∧ ms_M S0 t c N S' (ps_t k p).2.1 (wh (M ++ (ps_t k p).2.2) W).1 (wh (M ++ (ps_t k p).2.2) W).2 ∧ (M ++ (ps_t k p).2.2).length + W.length ≤ (ps_t k p).2.1) ∧ ((ps_t k p).1 = false → me_F S0 t c N (n + 1) 1 S (ps_t k p).2.1) := by
  have n33 : ¬ sg N k p = 33 := fun z => h1 ((sg_eq hT.1 (a := 33) (by decide)).mp z)
  have n40 : ¬ sg N k p = 40 := fun z => h2 ((sg_eq hT.1 (a := 40) (by decide)).mp z)
  obtain ⟨S', a1, a2, a3⟩ := test_m ht hT h hp hl
  have pre : lp_X12_takesE_22 (nI c) (n + 1) 1 S = if (if (ps_t k p).1 = true then (1 : Int32) else 0) = 0 then some (1, S') else lp_X12_takesE_22 (nI c) n 0 S' := by
    rw [lp_X12_takesE_22]
    refine ob_step (sign_m hT h hp) ?_
    rw [if_neg nz1, if_neg n33, if_neg n40]
    exact ob_step a1 rfl
  refine ⟨fun z => ?_, fun z => ?_⟩
  · obtain ⟨b1, b2⟩ := a2 z
    refine ⟨S', ?_, b1, b2⟩
    rw [pre, z, if_neg nzt]
  · refine ⟨1, S', M, W, ?_, by decide, a3 z⟩
    rw [pre, z]
    exact if_pos rfl
theorem part_m (ht : t < 6) (hc : c < 60) (hT : ms_T S0 N k) : ∀ d q, d + q = 4 → me_P S0 t c N (ps_p k d) q
  | 0, q, hd => by
    intro W n S p M h hp hl hq hn
    have hN := hT.2.1
    obtain ⟨n, rfl⟩ : ∃ n', n = n' + 1 := ⟨n - 1, by omega⟩
    have e : ps_p k 0 p = if k p = 33 then (false, p, []) else if k p = 40 then (false, p, []) else ps_t k p := rfl
    have e25 : S.1 76 25 = 4 := by
      rw [h.2.2.2.2.1, hq, show q = 4 by omega]
      rfl
    have i33 := @sg_eq N k hT.1 p 33 (by decide)
    have i40 := @sg_eq N k hT.1 p 40 (by decide)
    rw [e]
    by_cases a : k p = 33
    · rw [if_pos a]
      refine ⟨fun z => by (cases z), fun _ => ⟨0, S, M, W, ?_, by decide, h⟩⟩
      rw [lp_X12_takesE_22]
      refine ob_step (sign_m hT h hp) ?_
      rw [if_neg nz1, e25]
      exact (if_pos (i33.mpr a)).trans (if_pos rfl)
    rw [if_neg a]
    by_cases b : k p = 40
    · rw [if_pos b]
      refine ⟨fun z => by (cases z), fun _ => ⟨0, S, M, W, ?_, by decide, h⟩⟩
      rw [lp_X12_takesE_22]
      refine ob_step (sign_m hT h hp) ?_
      rw [if_neg nz1, e25]
      exact (if_neg (fun z => a (i33.mp z))).trans ((if_pos (i40.mpr b)).trans (if_pos rfl))
    rw [if_neg b]
    obtain ⟨t1, t2⟩ := me_test ht hT (n := n) h hp hl a b
    have tok := ps_t_ok hT.1 p hp
    refine ⟨fun z => ?_, t2⟩
    obtain ⟨S', u1, u2, u3⟩ := t1 z
    have := tok.2.2 z
    exact ⟨n, S', u1, u2, by omega, u3⟩
  | d + 1, q, hd => by
    intro W n S p M h hp hl hq hn
    have hN := hT.2.1
    obtain ⟨n, rfl⟩ : ∃ n', n = n' + 1 := ⟨n - 1, by omega⟩
    have ih := part_m ht hc hT d (q + 1) (by omega)
    have e : ps_p k (d + 1) p = if k p = 33 then ((ps_p k d (p + 1)).1, (ps_p k d (p + 1)).2.1, (ps_p k d (p + 1)).2.2 ++ [-33]) else if k p = 40 then ps_q k (ps_E k (ps_p k d) (p + 1)) else ps_t k p := rfl
    rw [e]
    by_cases a : k p = 33
    · rw [if_pos a]
      have hp1 : p < N := hT.1.lt a (by decide)
      obtain ⟨S1, a1, a2⟩ := me_push (n := n) hT h hp (Or.inl rfl) a (by omega) (by omega)
      obtain ⟨b1, b2⟩ := ih (33 :: W) n S1 (p + 1) M a2 hp1 (by show M.length + (W.length + 1) ≤ p + 1; omega) (by
        show opn W + (if (33 : Nat) = 38 ∨ (33 : Nat) = 124 then 0 else 1) = q + 1
        rw [if_neg (by decide)]
        omega) (by omega)
      refine ⟨fun z => ?_, fun z => ?_⟩
      · obtain ⟨n', S', c1, c2, c3, c4⟩ := b1 z
        have ew : wh (M ++ (ps_p k d (p + 1)).2.2) (33 :: W) = wh (M ++ ((ps_p k d (p + 1)).2.2 ++ [-33])) W := by
          rw [← List.append_assoc]
          exact if_pos rfl
        rw [ew] at c2
        refine ⟨n', S', a1.trans c1, c2, by show n + 1 + p ≤ n' + (ps_p k d (p + 1)).2.1; omega, ?_⟩
        show (M ++ ((ps_p k d (p + 1)).2.2 ++ [-33])).length + W.length ≤ (ps_p k d (p + 1)).2.1
        rw [← List.append_assoc, List.length_append]
        have c4' : (M ++ (ps_p k d (p + 1)).2.2).length + (W.length + 1) ≤ (ps_p k d (p + 1)).2.1 := c4
        show (M ++ (ps_p k d (p + 1)).2.2).length + 1 + W.length ≤ _
        omega
      · obtain ⟨tag, S', M', W', c1, c2, c3⟩ := b2 z
        exact ⟨tag, S', M', W', a1.trans c1, c2, c3⟩
    rw [if_neg a]
    by_cases b : k p = 40
    · rw [if_pos b]
      have hp1 : p < N := hT.1.lt b (by decide)
      obtain ⟨S1, a1, a2⟩ := me_push (n := n) hT h hp (Or.inr rfl) b (by omega) (by omega)
      have hg := ps_p_ok hT.1 d
      obtain ⟨g1, g2, g3⟩ := ps_E_ok hT.1 hg (p + 1) hp1
      obtain ⟨b1, b2⟩ := either_m ht hT hg ih (40 :: W) n S1 (p + 1) M (by show (40 : Nat) ≠ 33 ∧ (40 : Nat) ≠ 38 ∧ (40 : Nat) ≠ 124; decide) a2 hp1 (by show M.length + (W.length + 1) ≤ p + 1; omega) (by
        show opn W + (if (40 : Nat) = 38 ∨ (40 : Nat) = 124 then 0 else 1) = q + 1
        rw [if_neg (by decide)]
        omega) (by omega)
      cases d1 : (ps_E k (ps_p k d) (p + 1)).1 with
      | false =>
        rw [ps_q_f d1]
        refine ⟨fun z => by (cases z), fun _ => ?_⟩
        obtain ⟨tag, S', M', W', c1, c2, c3⟩ := b2 d1
        exact ⟨tag, S', M', W', a1.trans c1, c2, c3⟩
      | true =>
        obtain ⟨n', S', M', W', c1, c2, c3, c4, c5⟩ := b1 d1
        obtain ⟨e1, e2⟩ := ps_E_end hT.1 hN hg hp1 d1
        obtain ⟨n', rfl⟩ : ∃ n2, n' = n2 + 1 := ⟨n' - 1, by omega⟩
        obtain ⟨S4, f1, f2, f3⟩ := me_end (n := n') ht hc hT c2 g2 e1 e2 (by omega) c3
        have hlen := se_len true W' M'
        rw [c3] at hlen
        have hlen' : (M ++ (ps_E k (ps_p k d) (p + 1)).2.2).length + (W.length + 1) = M'.length + W'.length := hlen
        rw [if_neg (show ¬ nI (40 :: W).length = 0 from nI_ne0 (show 0 < W.length + 1 by omega) (show W.length + 1 < 2 ^ 31 by omega))] at f3
        by_cases d2 : k (ps_E k (ps_p k d) (p + 1)).2.1 = 41
        · rw [ps_q_y d1 d2]
          have hp2 := hT.1.lt d2 (by decide)
          have s41 : sg N k (ps_E k (ps_p k d) (p + 1)).2.1 = 41 := (sg_eq hT.1 (a := 41) (by decide)).mpr d2
          rw [if_pos s41] at f3
          have f1' := f1.po.mv ((ps_E k (ps_p k d) (p + 1)).2.1 + 1)
          obtain ⟨S5, y1, y2⟩ := whole_m ht W 4000 _ _ f1' (by omega) (by omega)
          have eo : nI (opn (40 :: W)) - 1 = nI (opn W) := by
            show nI (opn W + (if (40 : Nat) = 38 ∨ (40 : Nat) = 124 then 0 else 1)) - 1 = _
            rw [if_neg (by decide), nI_pred]
          have el : nI (40 :: W).length - 1 = nI W.length := nI_pred W.length
          rw [eo, el] at f3
          refine ⟨fun _ => ⟨n', S5, a1.trans (c1.trans (f3.trans ?_)), y2, ?_, ?_⟩, fun z => by (cases z)⟩
          · have hw : r_X12_whole (sI (sI (sI S4 76 24 (nI W.length)) 76 25 (nI (opn W))) 76 13 (nI ((ps_E k (ps_p k d) (p + 1)).2.1 + 1))) = some (0, S5) := ob_step y1 rfl
            exact ob_step hw rfl
          · show n + 1 + p ≤ n' + ((ps_E k (ps_p k d) (p + 1)).2.1 + 1)
            omega
          · show (M ++ (ps_E k (ps_p k d) (p + 1)).2.2).length + W.length ≤ (ps_E k (ps_p k d) (p + 1)).2.1 + 1
            omega
        · rw [ps_q_n d2]
          have s41 : ¬ sg N k (ps_E k (ps_p k d) (p + 1)).2.1 = 41 := fun z => d2 ((sg_eq hT.1 (a := 41) (by decide)).mp z)
          rw [if_neg s41] at f3
          exact ⟨fun z => by (cases z), fun _ => ⟨3, S4, _, _, a1.trans (c1.trans f3), by decide, f1⟩⟩
    rw [if_neg b]
    obtain ⟨t1, t2⟩ := me_test ht hT (n := n) h hp hl a b
    have tok := ps_t_ok hT.1 p hp
    refine ⟨fun z => ?_, t2⟩
    obtain ⟨S', u1, u2, u3⟩ := t1 z
    have := tok.2.2 z
    exact ⟨n, S', u1, u2, by omega, u3⟩
end
/-- what the model's state is before an expression is read -/
def me_S (S : St) (c : Nat) : St := sA (sI (sI S 76 24 0) 76 25 0) 88 (upd (S.1 88) c (S.1 76 23))
