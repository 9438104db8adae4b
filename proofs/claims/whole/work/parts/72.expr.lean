/-! HOUSE: the class's expressions, from the deepest up; written by gen72.py -/
theorem gd01 {α : Type} (b : Bool) (x : Option α) : gd ((if b = true then (1 : Int32) else 0) = 0 ∨ (if b = true then (1 : Int32) else 0) = 1) x = x := by
  cases b
  · exact gd_pos (Or.inl rfl)
  · exact gd_pos (Or.inr rfl)
theorem step_33 : stepOf (-33) = (18, 0) := by decide
theorem step_38 : stepOf (-38) = (19, 0) := by decide
theorem step_124 : stepOf (-124) = (20, 0) := by decide
theorem ps_q_y {k : Nat → Nat} {r : PR} (a : r.1 = true) (b : k r.2.1 = 41) : ps_q k r = (true, r.2.1 + 1, r.2.2) := if_pos ⟨a, b⟩
theorem ps_q_f {k : Nat → Nat} {r : PR} (a : r.1 = false) : ps_q k r = (false, r.2.1, r.2.2) := if_neg fun z => by
  rw [a] at z
  cases z.1
theorem ps_q_n {k : Nat → Nat} {r : PR} (b : ¬ k r.2.1 = 41) : ps_q k r = (false, r.2.1, r.2.2) := if_neg fun z => b z.2
theorem nzt : ¬ (if true = true then (1 : Int32) else 0) = 0 := by decide
def ps_W (k : Nat → Nat) (g : Nat → PR) (p : Nat) : PR := ps_r k g 124 (-124) 100 (g p)
section
variable {S0 : St} {o N : Nat} {dv fv : Int32} {k : Nat → Nat}
theorem part_c4 (hT : hs_T S0 N k) (ho : 40 ≤ o) : SimC S0 o N dv fv (fun S => r_X5_learnPart_d4 S o) (ps_p k 0) := by
  intro S p L h hp hL
  have hN := hT.2.1
  show ∃ S' L', r_X5_learnPart_d4 S o = _ ∧ _
  unfold r_X5_learnPart_d4
  have hs := sign_c hT ho h (i := p) (by omega)
  have e : ps_p k 0 p = if k p = 33 then (false, p, []) else if k p = 40 then (false, p, []) else ps_t k p := rfl
  have i33 := @sg_eq N k hT.1 p 33 (by decide)
  have i40 := @sg_eq N k hT.1 p 40 (by decide)
  rw [e, h.1]
  by_cases a : k p = 33
  · rw [if_pos a]
    refine ⟨S, L, ob_step hs ?_, h, by show L.length + p ≤ p + L.length; omega, fun z => by cases z⟩
    exact if_pos (i33.mpr a)
  rw [if_neg a]
  by_cases b : k p = 40
  · rw [if_pos b]
    refine ⟨S, L, ob_step hs ?_, h, by show L.length + p ≤ p + L.length; omega, fun z => by cases z⟩
    exact (if_neg (fun z => a (i33.mp z))).trans (if_pos (i40.mpr b))
  rw [if_neg b]
  obtain ⟨S', L', t1, t2, t3, t4⟩ := test_c hT ho S p L h hp hL
  have t1' : ct_test S o = _ := t1
  unfold ct_test at t1'
  refine ⟨S', L', ob_step hs ?_, t2, t3, t4⟩
  exact (if_neg (fun z => a (i33.mp z))).trans ((if_neg (fun z => b (i40.mp z))).trans t1')
theorem lpB_c4 (hT : hs_T S0 N k) (ho : 40 ≤ o) {g : Nat → PR} (hF : SimC S0 o N dv fv (fun S => r_X5_learnPart_d4 S o) g) (hg : PG N g) {L : List (Int32 × Int32)} {p0 : Nat} (hL : L.length ≤ p0) : ∀ m n v3 (r : PR) (S : St) (Lr : List (Int32 × Int32)), m + v3 = 100 → m < n → hs_C S0 o N dv fv S r.2.1 Lr → p0 ≤ r.2.1 → r.2.1 ≤ N → Lr.length + p0 ≤ r.2.1 + L.length → (r.1 = true → Lr = L ++ r.2.2.map stepOf) → ∃ S' L', lp_X5_learnBoth_d4_8 o n (if r.1 = true then 1 else 0) (nI v3) S = some (if (ps_r k g 38 (-38) m r).1 = true then 1 else 0, S') ∧ hs_C S0 o N dv fv S' (ps_r k g 38 (-38) m r).2.1 L' ∧ L'.length + p0 ≤ (ps_r k g 38 (-38) m r).2.1 + L.length ∧ ((ps_r k g 38 (-38) m r).1 = true → L' = L ++ (ps_r k g 38 (-38) m r).2.2.map stepOf) := by
  have hN := hT.2.1
  intro m
  induction m with
  | zero =>
    intro n v3 r S Lr h1 h2 h3 h4 h5 h6 h7
    obtain ⟨n, rfl⟩ : ∃ n', n = n' + 1 := ⟨n - 1, by omega⟩
    obtain rfl : v3 = 100 := by omega
    refine ⟨S, Lr, ?_, h3, h6, h7⟩
    rw [lp_X5_learnBoth_d4_8]
    exact if_pos (by decide)
  | succ m ih =>
    intro n v3 r S Lr h1 h2 h3 h4 h5 h6 h7
    obtain ⟨n, rfl⟩ : ∃ n', n = n' + 1 := ⟨n - 1, by omega⟩
    obtain ⟨b, q, E⟩ := r
    have e : ps_r k g 38 (-38) (m + 1) (b, q, E) = if b = true ∧ k q = 38 then ps_r k g 38 (-38) m ((g (q + 1)).1, (g (q + 1)).2.1, E ++ (g (q + 1)).2.2 ++ [-38]) else (b, q, E) := rfl
    rw [lp_X5_learnBoth_d4_8, if_neg (nle_l (k := 100) (show v3 < 100 by omega) (by decide))]
    cases b with
    | false =>
      rw [if_neg (fun z => by cases z.1)] at e
      rw [e]
      exact ⟨S, Lr, if_pos rfl, h3, h6, fun z => by cases z⟩
    | true =>
      have hb := goBy_c hT ho h3 h5 (a := 38) (by decide)
      rw [if_neg nzt]
      by_cases c : k q = 38
      · rw [if_pos c] at hb
        rw [if_pos ⟨rfl, c⟩] at e
        rw [e]
        have hq : q < N := hT.1.lt c (by decide)
        have h6' : Lr.length + p0 ≤ q + L.length := h6
        have h4' : p0 ≤ q := h4
        obtain ⟨S2, L2, t1, t2, t3, t4⟩ := hF (sI S o 7 (nI (q + 1))) (q + 1) Lr (h3.mv (q + 1)) hq (by omega)
        have hgq := hg (q + 1) hq
        obtain ⟨g1, g2, g3⟩ := hgq
        cases c2 : (g (q + 1)).1 with
        | false =>
          rw [c2] at t1
          obtain ⟨S', L', u1, u2, u3, u4⟩ := ih n (v3 + 1) (false, (g (q + 1)).2.1, E ++ (g (q + 1)).2.2 ++ [-38]) S2 L2 (by omega) (by omega) t2 (by show p0 ≤ (g (q + 1)).2.1; omega) g2 (by show L2.length + p0 ≤ (g (q + 1)).2.1 + L.length; omega) (fun z => by cases z)
          refine ⟨S', L', ob_step hb ?_, u2, u3, u4⟩
          refine (if_neg nz1).trans (ob_step t1 ?_)
          refine (if_pos rfl).trans ?_
          rw [nI_1]
          exact u1
        | true =>
          rw [c2] at t1
          have e2 := t4 c2
          obtain ⟨S3, a1, a2⟩ := t2.ad (by omega) 19 0
          obtain ⟨S', L', u1, u2, u3, u4⟩ := ih n (v3 + 1) (true, (g (q + 1)).2.1, E ++ (g (q + 1)).2.2 ++ [-38]) S3 (L2 ++ [(19, 0)]) (by omega) (by omega) a2 (by show p0 ≤ (g (q + 1)).2.1; omega) g2 (by
            show (L2 ++ [_]).length + p0 ≤ (g (q + 1)).2.1 + L.length
            rw [List.length_append]
            show L2.length + 1 + p0 ≤ _
            omega) (fun _ => by
            show L2 ++ [(19, 0)] = L ++ (E ++ (g (q + 1)).2.2 ++ [-38]).map stepOf
            rw [e2, h7 rfl, List.map_append, List.map_append, List.append_assoc, List.append_assoc, List.append_assoc]
            show _ = L ++ (E.map stepOf ++ ((g (q + 1)).2.2.map stepOf ++ [stepOf (-38)]))
            rw [step_38])
          refine ⟨S', L', ob_step hb ?_, u2, u3, u4⟩
          refine (if_neg nz1).trans (ob_step t1 ?_)
          refine (if_neg nzt).trans (ob_step a1 ?_)
          refine (if_neg nz1).trans ?_
          rw [nI_1]
          exact u1
      · rw [if_neg c] at hb
        rw [if_neg (fun z => c z.2)] at e
        rw [e]
        refine ⟨S, Lr, ob_step hb ?_, h3, h6, h7⟩
        exact if_pos rfl
theorem wB_c4 (hT : hs_T S0 N k) (ho : 40 ≤ o) {g : Nat → PR} (hF : SimC S0 o N dv fv (fun S => r_X5_learnPart_d4 S o) g) (hg : PG N g) : SimC S0 o N dv fv (fun S => r_X5_learnBoth_d4 S o) (ps_B k g) := by
  intro S p L h hp hL
  obtain ⟨S1, L1, t1, t2, t3, t4⟩ := hF S p L h hp hL
  obtain ⟨g1, g2, g3⟩ := hg p hp
  obtain ⟨S2, L2, u1, u2, u3, u4⟩ := lpB_c4 hT ho hF hg hL 100 4000 0 (g p) S1 L1 (by omega) (by omega) t2 g1 g2 t3 t4
  refine ⟨S2, L2, ?_, u2, u3, u4⟩
  show r_X5_learnBoth_d4 S o = _
  unfold r_X5_learnBoth_d4
  exact ob_step t1 (ob_step u1 (gd01 _ _))
theorem lpE_c4 (hT : hs_T S0 N k) (ho : 40 ≤ o) {g : Nat → PR} (hF : SimC S0 o N dv fv (fun S => r_X5_learnBoth_d4 S o) g) (hg : PG N g) {L : List (Int32 × Int32)} {p0 : Nat} (hL : L.length ≤ p0) : ∀ m n v3 (r : PR) (S : St) (Lr : List (Int32 × Int32)), m + v3 = 100 → m < n → hs_C S0 o N dv fv S r.2.1 Lr → p0 ≤ r.2.1 → r.2.1 ≤ N → Lr.length + p0 ≤ r.2.1 + L.length → (r.1 = true → Lr = L ++ r.2.2.map stepOf) → ∃ S' L', lp_X5_learnEither_d4_8 o n (if r.1 = true then 1 else 0) (nI v3) S = some (if (ps_r k g 124 (-124) m r).1 = true then 1 else 0, S') ∧ hs_C S0 o N dv fv S' (ps_r k g 124 (-124) m r).2.1 L' ∧ L'.length + p0 ≤ (ps_r k g 124 (-124) m r).2.1 + L.length ∧ ((ps_r k g 124 (-124) m r).1 = true → L' = L ++ (ps_r k g 124 (-124) m r).2.2.map stepOf) := by
  have hN := hT.2.1
  intro m
  induction m with
  | zero =>
    intro n v3 r S Lr h1 h2 h3 h4 h5 h6 h7
    obtain ⟨n, rfl⟩ : ∃ n', n = n' + 1 := ⟨n - 1, by omega⟩
    obtain rfl : v3 = 100 := by omega
    refine ⟨S, Lr, ?_, h3, h6, h7⟩
    rw [lp_X5_learnEither_d4_8]
    exact if_pos (by decide)
  | succ m ih =>
    intro n v3 r S Lr h1 h2 h3 h4 h5 h6 h7
    obtain ⟨n, rfl⟩ : ∃ n', n = n' + 1 := ⟨n - 1, by omega⟩
    obtain ⟨b, q, E⟩ := r
    have e : ps_r k g 124 (-124) (m + 1) (b, q, E) = if b = true ∧ k q = 124 then ps_r k g 124 (-124) m ((g (q + 1)).1, (g (q + 1)).2.1, E ++ (g (q + 1)).2.2 ++ [-124]) else (b, q, E) := rfl
    rw [lp_X5_learnEither_d4_8, if_neg (nle_l (k := 100) (show v3 < 100 by omega) (by decide))]
    cases b with
    | false =>
      rw [if_neg (fun z => by cases z.1)] at e
      rw [e]
      exact ⟨S, Lr, if_pos rfl, h3, h6, fun z => by cases z⟩
    | true =>
      have hb := goBy_c hT ho h3 h5 (a := 124) (by decide)
      rw [if_neg nzt]
      by_cases c : k q = 124
      · rw [if_pos c] at hb
        rw [if_pos ⟨rfl, c⟩] at e
        rw [e]
        have hq : q < N := hT.1.lt c (by decide)
        have h6' : Lr.length + p0 ≤ q + L.length := h6
        have h4' : p0 ≤ q := h4
        obtain ⟨S2, L2, t1, t2, t3, t4⟩ := hF (sI S o 7 (nI (q + 1))) (q + 1) Lr (h3.mv (q + 1)) hq (by omega)
        have hgq := hg (q + 1) hq
        obtain ⟨g1, g2, g3⟩ := hgq
        cases c2 : (g (q + 1)).1 with
        | false =>
          rw [c2] at t1
          obtain ⟨S', L', u1, u2, u3, u4⟩ := ih n (v3 + 1) (false, (g (q + 1)).2.1, E ++ (g (q + 1)).2.2 ++ [-124]) S2 L2 (by omega) (by omega) t2 (by show p0 ≤ (g (q + 1)).2.1; omega) g2 (by show L2.length + p0 ≤ (g (q + 1)).2.1 + L.length; omega) (fun z => by cases z)
          refine ⟨S', L', ob_step hb ?_, u2, u3, u4⟩
          refine (if_neg nz1).trans (ob_step t1 ?_)
          refine (if_pos rfl).trans ?_
          rw [nI_1]
          exact u1
        | true =>
          rw [c2] at t1
          have e2 := t4 c2
          obtain ⟨S3, a1, a2⟩ := t2.ad (by omega) 20 0
          obtain ⟨S', L', u1, u2, u3, u4⟩ := ih n (v3 + 1) (true, (g (q + 1)).2.1, E ++ (g (q + 1)).2.2 ++ [-124]) S3 (L2 ++ [(20, 0)]) (by omega) (by omega) a2 (by show p0 ≤ (g (q + 1)).2.1; omega) g2 (by
            show (L2 ++ [_]).length + p0 ≤ (g (q + 1)).2.1 + L.length
            rw [List.length_append]
            show L2.length + 1 + p0 ≤ _
            omega) (fun _ => by
            show L2 ++ [(20, 0)] = L ++ (E ++ (g (q + 1)).2.2 ++ [-124]).map stepOf
            rw [e2, h7 rfl, List.map_append, List.map_append, List.append_assoc, List.append_assoc, List.append_assoc]
            show _ = L ++ (E.map stepOf ++ ((g (q + 1)).2.2.map stepOf ++ [stepOf (-124)]))
            rw [step_124])
          refine ⟨S', L', ob_step hb ?_, u2, u3, u4⟩
          refine (if_neg nz1).trans (ob_step t1 ?_)
          refine (if_neg nzt).trans (ob_step a1 ?_)
          refine (if_neg nz1).trans ?_
          rw [nI_1]
          exact u1
      · rw [if_neg c] at hb
        rw [if_neg (fun z => c z.2)] at e
        rw [e]
        refine ⟨S, Lr, ob_step hb ?_, h3, h6, h7⟩
        exact if_pos rfl
theorem wE_c4 (hT : hs_T S0 N k) (ho : 40 ≤ o) {g : Nat → PR} (hF : SimC S0 o N dv fv (fun S => r_X5_learnBoth_d4 S o) g) (hg : PG N g) : SimC S0 o N dv fv (fun S => r_X5_learnEither_d4 S o) (ps_W k g) := by
  intro S p L h hp hL
  obtain ⟨S1, L1, t1, t2, t3, t4⟩ := hF S p L h hp hL
  obtain ⟨g1, g2, g3⟩ := hg p hp
  obtain ⟨S2, L2, u1, u2, u3, u4⟩ := lpE_c4 hT ho hF hg hL 100 4000 0 (g p) S1 L1 (by omega) (by omega) t2 g1 g2 t3 t4
  refine ⟨S2, L2, ?_, u2, u3, u4⟩
  show r_X5_learnEither_d4 S o = _
  unfold r_X5_learnEither_d4
  exact ob_step t1 (ob_step u1 (gd01 _ _))
theorem either_c4 (hT : hs_T S0 N k) (ho : 40 ≤ o) : SimC S0 o N dv fv (fun S => r_X5_learnEither_d4 S o) (ps_E k (ps_p k 0)) :=
  wE_c4 hT ho (wB_c4 hT ho (part_c4 hT ho) (ps_p_ok hT.1 0)) (ps_B_ok hT.1 (ps_p_ok hT.1 0))
theorem part_c3 (hT : hs_T S0 N k) (ho : 40 ≤ o) : SimC S0 o N dv fv (fun S => r_X5_learnPart_d3 S o) (ps_p k 1) := by
  intro S p L h hp hL
  have hN := hT.2.1
  show ∃ S' L', r_X5_learnPart_d3 S o = _ ∧ _
  unfold r_X5_learnPart_d3
  have hs := sign_c hT ho h (i := p) (by omega)
  have e : ps_p k 1 p = if k p = 33 then ((ps_p k 0 (p + 1)).1, (ps_p k 0 (p + 1)).2.1, (ps_p k 0 (p + 1)).2.2 ++ [-33]) else if k p = 40 then ps_q k (ps_E k (ps_p k 0) (p + 1)) else ps_t k p := rfl
  have i33 := @sg_eq N k hT.1 p 33 (by decide)
  have i40 := @sg_eq N k hT.1 p 40 (by decide)
  rw [e, h.1, nI_1]
  by_cases a : k p = 33
  · rw [if_pos a]
    have hp1 : p < N := hT.1.lt a (by decide)
    obtain ⟨S1, L1, t1, t2, t3, t4⟩ := part_c4 hT ho (sI S o 7 (nI (p + 1))) (p + 1) L (h.mv (p + 1)) hp1 (by omega)
    obtain ⟨g1, g2, g3⟩ := ps_p_ok hT.1 0 (p + 1) hp1
    cases c : (ps_p k 0 (p + 1)).1 with
    | false =>
      rw [c] at t1
      refine ⟨S1, L1, ob_step hs ?_, t2, by show L1.length + p ≤ (ps_p k 0 (p + 1)).2.1 + L.length; omega, fun z => by cases z⟩
      refine (if_pos (i33.mpr a)).trans ((if_pos (i33.mpr a)).trans (ob_step t1 ?_))
      exact if_pos rfl
    | true =>
      rw [c] at t1
      obtain ⟨S2, a1, a2⟩ := t2.ad (by omega) 18 0
      refine ⟨S2, _, ob_step hs ?_, a2, ?_, fun _ => ?_⟩
      · refine (if_pos (i33.mpr a)).trans ((if_pos (i33.mpr a)).trans (ob_step t1 ?_))
        refine (if_neg nzt).trans (ob_step a1 ?_)
        exact if_neg nz1
      · show (L1 ++ [_]).length + p ≤ (ps_p k 0 (p + 1)).2.1 + L.length
        rw [List.length_append]
        show L1.length + 1 + p ≤ _
        omega
      · show L1 ++ [(18, 0)] = L ++ ((ps_p k 0 (p + 1)).2.2 ++ [-33]).map stepOf
        rw [t4 c, List.map_append, List.append_assoc]
        show _ = L ++ ((ps_p k 0 (p + 1)).2.2.map stepOf ++ [stepOf (-33)])
        rw [step_33]
  rw [if_neg a]
  have n33 : ¬ sg N k p = 33 := fun z => a (i33.mp z)
  by_cases b : k p = 40
  · rw [if_pos b]
    have hp1 : p < N := hT.1.lt b (by decide)
    obtain ⟨S1, L1, t1, t2, t3, t4⟩ := either_c4 hT ho (sI S o 7 (nI (p + 1))) (p + 1) L (h.mv (p + 1)) hp1 (by omega)
    obtain ⟨g1, g2, g3⟩ := ps_E_ok hT.1 (ps_p_ok hT.1 0) (p + 1) hp1
    cases c : (ps_E k (ps_p k 0) (p + 1)).1 with
    | false =>
      rw [c] at t1
      rw [ps_q_f c]
      refine ⟨S1, L1, ob_step hs ?_, t2, by show L1.length + p ≤ (ps_E k (ps_p k 0) (p + 1)).2.1 + L.length; omega, fun z => by cases z⟩
      refine (if_neg n33).trans ((if_pos (i40.mpr b)).trans ((if_neg n33).trans (ob_step t1 ?_)))
      exact if_pos rfl
    | true =>
      rw [c] at t1
      have hb := goBy_c hT ho t2 g2 (a := 41) (by decide)
      by_cases f : k (ps_E k (ps_p k 0) (p + 1)).2.1 = 41
      · rw [if_pos f] at hb
        rw [ps_q_y c f]
        refine ⟨_, L1, ob_step hs ?_, t2.mv _, by show L1.length + p ≤ (ps_E k (ps_p k 0) (p + 1)).2.1 + 1 + L.length; omega, fun _ => t4 c⟩
        refine (if_neg n33).trans ((if_pos (i40.mpr b)).trans ((if_neg n33).trans (ob_step t1 ?_)))
        refine (if_neg nzt).trans (ob_step hb ?_)
        exact if_neg nz1
      · rw [if_neg f] at hb
        rw [ps_q_n f]
        refine ⟨_, L1, ob_step hs ?_, t2, by show L1.length + p ≤ (ps_E k (ps_p k 0) (p + 1)).2.1 + L.length; omega, fun z => by cases z⟩
        refine (if_neg n33).trans ((if_pos (i40.mpr b)).trans ((if_neg n33).trans (ob_step t1 ?_)))
        refine (if_neg nzt).trans (ob_step hb ?_)
        exact if_pos rfl
  rw [if_neg b]
  obtain ⟨S', L', t1, t2, t3, t4⟩ := test_c hT ho S p L h hp hL
  have t1' : ct_test S o = _ := t1
  unfold ct_test at t1'
  refine ⟨S', L', ob_step hs ?_, t2, t3, t4⟩
  exact (if_neg n33).trans ((if_neg (fun z => b (i40.mp z))).trans t1')
theorem lpB_c3 (hT : hs_T S0 N k) (ho : 40 ≤ o) {g : Nat → PR} (hF : SimC S0 o N dv fv (fun S => r_X5_learnPart_d3 S o) g) (hg : PG N g) {L : List (Int32 × Int32)} {p0 : Nat} (hL : L.length ≤ p0) : ∀ m n v3 (r : PR) (S : St) (Lr : List (Int32 × Int32)), m + v3 = 100 → m < n → hs_C S0 o N dv fv S r.2.1 Lr → p0 ≤ r.2.1 → r.2.1 ≤ N → Lr.length + p0 ≤ r.2.1 + L.length → (r.1 = true → Lr = L ++ r.2.2.map stepOf) → ∃ S' L', lp_X5_learnBoth_d3_8 o n (if r.1 = true then 1 else 0) (nI v3) S = some (if (ps_r k g 38 (-38) m r).1 = true then 1 else 0, S') ∧ hs_C S0 o N dv fv S' (ps_r k g 38 (-38) m r).2.1 L' ∧ L'.length + p0 ≤ (ps_r k g 38 (-38) m r).2.1 + L.length ∧ ((ps_r k g 38 (-38) m r).1 = true → L' = L ++ (ps_r k g 38 (-38) m r).2.2.map stepOf) := by
  have hN := hT.2.1
  intro m
  induction m with
  | zero =>
    intro n v3 r S Lr h1 h2 h3 h4 h5 h6 h7
    obtain ⟨n, rfl⟩ : ∃ n', n = n' + 1 := ⟨n - 1, by omega⟩
    obtain rfl : v3 = 100 := by omega
    refine ⟨S, Lr, ?_, h3, h6, h7⟩
    rw [lp_X5_learnBoth_d3_8]
    exact if_pos (by decide)
  | succ m ih =>
    intro n v3 r S Lr h1 h2 h3 h4 h5 h6 h7
    obtain ⟨n, rfl⟩ : ∃ n', n = n' + 1 := ⟨n - 1, by omega⟩
    obtain ⟨b, q, E⟩ := r
    have e : ps_r k g 38 (-38) (m + 1) (b, q, E) = if b = true ∧ k q = 38 then ps_r k g 38 (-38) m ((g (q + 1)).1, (g (q + 1)).2.1, E ++ (g (q + 1)).2.2 ++ [-38]) else (b, q, E) := rfl
    rw [lp_X5_learnBoth_d3_8, if_neg (nle_l (k := 100) (show v3 < 100 by omega) (by decide))]
    cases b with
    | false =>
      rw [if_neg (fun z => by cases z.1)] at e
      rw [e]
      exact ⟨S, Lr, if_pos rfl, h3, h6, fun z => by cases z⟩
    | true =>
      have hb := goBy_c hT ho h3 h5 (a := 38) (by decide)
      rw [if_neg nzt]
      by_cases c : k q = 38
      · rw [if_pos c] at hb
        rw [if_pos ⟨rfl, c⟩] at e
        rw [e]
        have hq : q < N := hT.1.lt c (by decide)
        have h6' : Lr.length + p0 ≤ q + L.length := h6
        have h4' : p0 ≤ q := h4
        obtain ⟨S2, L2, t1, t2, t3, t4⟩ := hF (sI S o 7 (nI (q + 1))) (q + 1) Lr (h3.mv (q + 1)) hq (by omega)
        have hgq := hg (q + 1) hq
        obtain ⟨g1, g2, g3⟩ := hgq
        cases c2 : (g (q + 1)).1 with
        | false =>
          rw [c2] at t1
          obtain ⟨S', L', u1, u2, u3, u4⟩ := ih n (v3 + 1) (false, (g (q + 1)).2.1, E ++ (g (q + 1)).2.2 ++ [-38]) S2 L2 (by omega) (by omega) t2 (by show p0 ≤ (g (q + 1)).2.1; omega) g2 (by show L2.length + p0 ≤ (g (q + 1)).2.1 + L.length; omega) (fun z => by cases z)
          refine ⟨S', L', ob_step hb ?_, u2, u3, u4⟩
          refine (if_neg nz1).trans (ob_step t1 ?_)
          refine (if_pos rfl).trans ?_
          rw [nI_1]
          exact u1
        | true =>
          rw [c2] at t1
          have e2 := t4 c2
          obtain ⟨S3, a1, a2⟩ := t2.ad (by omega) 19 0
          obtain ⟨S', L', u1, u2, u3, u4⟩ := ih n (v3 + 1) (true, (g (q + 1)).2.1, E ++ (g (q + 1)).2.2 ++ [-38]) S3 (L2 ++ [(19, 0)]) (by omega) (by omega) a2 (by show p0 ≤ (g (q + 1)).2.1; omega) g2 (by
            show (L2 ++ [_]).length + p0 ≤ (g (q + 1)).2.1 + L.length
            rw [List.length_append]
            show L2.length + 1 + p0 ≤ _
            omega) (fun _ => by
            show L2 ++ [(19, 0)] = L ++ (E ++ (g (q + 1)).2.2 ++ [-38]).map stepOf
            rw [e2, h7 rfl, List.map_append, List.map_append, List.append_assoc, List.append_assoc, List.append_assoc]
            show _ = L ++ (E.map stepOf ++ ((g (q + 1)).2.2.map stepOf ++ [stepOf (-38)]))
            rw [step_38])
          refine ⟨S', L', ob_step hb ?_, u2, u3, u4⟩
          refine (if_neg nz1).trans (ob_step t1 ?_)
          refine (if_neg nzt).trans (ob_step a1 ?_)
          refine (if_neg nz1).trans ?_
          rw [nI_1]
          exact u1
      · rw [if_neg c] at hb
        rw [if_neg (fun z => c z.2)] at e
        rw [e]
        refine ⟨S, Lr, ob_step hb ?_, h3, h6, h7⟩
        exact if_pos rfl
theorem wB_c3 (hT : hs_T S0 N k) (ho : 40 ≤ o) {g : Nat → PR} (hF : SimC S0 o N dv fv (fun S => r_X5_learnPart_d3 S o) g) (hg : PG N g) : SimC S0 o N dv fv (fun S => r_X5_learnBoth_d3 S o) (ps_B k g) := by
  intro S p L h hp hL
  obtain ⟨S1, L1, t1, t2, t3, t4⟩ := hF S p L h hp hL
  obtain ⟨g1, g2, g3⟩ := hg p hp
  obtain ⟨S2, L2, u1, u2, u3, u4⟩ := lpB_c3 hT ho hF hg hL 100 4000 0 (g p) S1 L1 (by omega) (by omega) t2 g1 g2 t3 t4
  refine ⟨S2, L2, ?_, u2, u3, u4⟩
  show r_X5_learnBoth_d3 S o = _
  unfold r_X5_learnBoth_d3
  exact ob_step t1 (ob_step u1 (gd01 _ _))
theorem lpE_c3 (hT : hs_T S0 N k) (ho : 40 ≤ o) {g : Nat → PR} (hF : SimC S0 o N dv fv (fun S => r_X5_learnBoth_d3 S o) g) (hg : PG N g) {L : List (Int32 × Int32)} {p0 : Nat} (hL : L.length ≤ p0) : ∀ m n v3 (r : PR) (S : St) (Lr : List (Int32 × Int32)), m + v3 = 100 → m < n → hs_C S0 o N dv fv S r.2.1 Lr → p0 ≤ r.2.1 → r.2.1 ≤ N → Lr.length + p0 ≤ r.2.1 + L.length → (r.1 = true → Lr = L ++ r.2.2.map stepOf) → ∃ S' L', lp_X5_learnEither_d3_8 o n (if r.1 = true then 1 else 0) (nI v3) S = some (if (ps_r k g 124 (-124) m r).1 = true then 1 else 0, S') ∧ hs_C S0 o N dv fv S' (ps_r k g 124 (-124) m r).2.1 L' ∧ L'.length + p0 ≤ (ps_r k g 124 (-124) m r).2.1 + L.length ∧ ((ps_r k g 124 (-124) m r).1 = true → L' = L ++ (ps_r k g 124 (-124) m r).2.2.map stepOf) := by
  have hN := hT.2.1
  intro m
  induction m with
  | zero =>
    intro n v3 r S Lr h1 h2 h3 h4 h5 h6 h7
    obtain ⟨n, rfl⟩ : ∃ n', n = n' + 1 := ⟨n - 1, by omega⟩
    obtain rfl : v3 = 100 := by omega
    refine ⟨S, Lr, ?_, h3, h6, h7⟩
    rw [lp_X5_learnEither_d3_8]
    exact if_pos (by decide)
  | succ m ih =>
    intro n v3 r S Lr h1 h2 h3 h4 h5 h6 h7
    obtain ⟨n, rfl⟩ : ∃ n', n = n' + 1 := ⟨n - 1, by omega⟩
    obtain ⟨b, q, E⟩ := r
    have e : ps_r k g 124 (-124) (m + 1) (b, q, E) = if b = true ∧ k q = 124 then ps_r k g 124 (-124) m ((g (q + 1)).1, (g (q + 1)).2.1, E ++ (g (q + 1)).2.2 ++ [-124]) else (b, q, E) := rfl
    rw [lp_X5_learnEither_d3_8, if_neg (nle_l (k := 100) (show v3 < 100 by omega) (by decide))]
    cases b with
    | false =>
      rw [if_neg (fun z => by cases z.1)] at e
      rw [e]
      exact ⟨S, Lr, if_pos rfl, h3, h6, fun z => by cases z⟩
    | true =>
      have hb := goBy_c hT ho h3 h5 (a := 124) (by decide)
      rw [if_neg nzt]
      by_cases c : k q = 124
      · rw [if_pos c] at hb
        rw [if_pos ⟨rfl, c⟩] at e
        rw [e]
        have hq : q < N := hT.1.lt c (by decide)
        have h6' : Lr.length + p0 ≤ q + L.length := h6
        have h4' : p0 ≤ q := h4
        obtain ⟨S2, L2, t1, t2, t3, t4⟩ := hF (sI S o 7 (nI (q + 1))) (q + 1) Lr (h3.mv (q + 1)) hq (by omega)
        have hgq := hg (q + 1) hq
        obtain ⟨g1, g2, g3⟩ := hgq
        cases c2 : (g (q + 1)).1 with
        | false =>
          rw [c2] at t1
          obtain ⟨S', L', u1, u2, u3, u4⟩ := ih n (v3 + 1) (false, (g (q + 1)).2.1, E ++ (g (q + 1)).2.2 ++ [-124]) S2 L2 (by omega) (by omega) t2 (by show p0 ≤ (g (q + 1)).2.1; omega) g2 (by show L2.length + p0 ≤ (g (q + 1)).2.1 + L.length; omega) (fun z => by cases z)
          refine ⟨S', L', ob_step hb ?_, u2, u3, u4⟩
          refine (if_neg nz1).trans (ob_step t1 ?_)
          refine (if_pos rfl).trans ?_
          rw [nI_1]
          exact u1
        | true =>
          rw [c2] at t1
          have e2 := t4 c2
          obtain ⟨S3, a1, a2⟩ := t2.ad (by omega) 20 0
          obtain ⟨S', L', u1, u2, u3, u4⟩ := ih n (v3 + 1) (true, (g (q + 1)).2.1, E ++ (g (q + 1)).2.2 ++ [-124]) S3 (L2 ++ [(20, 0)]) (by omega) (by omega) a2 (by show p0 ≤ (g (q + 1)).2.1; omega) g2 (by
            show (L2 ++ [_]).length + p0 ≤ (g (q + 1)).2.1 + L.length
            rw [List.length_append]
            show L2.length + 1 + p0 ≤ _
            omega) (fun _ => by
            show L2 ++ [(20, 0)] = L ++ (E ++ (g (q + 1)).2.2 ++ [-124]).map stepOf
            rw [e2, h7 rfl, List.map_append, List.map_append, List.append_assoc, List.append_assoc, List.append_assoc]
            show _ = L ++ (E.map stepOf ++ ((g (q + 1)).2.2.map stepOf ++ [stepOf (-124)]))
            rw [step_124])
          refine ⟨S', L', ob_step hb ?_, u2, u3, u4⟩
          refine (if_neg nz1).trans (ob_step t1 ?_)
          refine (if_neg nzt).trans (ob_step a1 ?_)
          refine (if_neg nz1).trans ?_
          rw [nI_1]
          exact u1
      · rw [if_neg c] at hb
        rw [if_neg (fun z => c z.2)] at e
        rw [e]
        refine ⟨S, Lr, ob_step hb ?_, h3, h6, h7⟩
        exact if_pos rfl
theorem wE_c3 (hT : hs_T S0 N k) (ho : 40 ≤ o) {g : Nat → PR} (hF : SimC S0 o N dv fv (fun S => r_X5_learnBoth_d3 S o) g) (hg : PG N g) : SimC S0 o N dv fv (fun S => r_X5_learnEither_d3 S o) (ps_W k g) := by
  intro S p L h hp hL
  obtain ⟨S1, L1, t1, t2, t3, t4⟩ := hF S p L h hp hL
  obtain ⟨g1, g2, g3⟩ := hg p hp
  obtain ⟨S2, L2, u1, u2, u3, u4⟩ := lpE_c3 hT ho hF hg hL 100 4000 0 (g p) S1 L1 (by omega) (by omega) t2 g1 g2 t3 t4
  refine ⟨S2, L2, ?_, u2, u3, u4⟩
  show r_X5_learnEither_d3 S o = _
  unfold r_X5_learnEither_d3
  exact ob_step t1 (ob_step u1 (gd01 _ _))
theorem either_c3 (hT : hs_T S0 N k) (ho : 40 ≤ o) : SimC S0 o N dv fv (fun S => r_X5_learnEither_d3 S o) (ps_E k (ps_p k 1)) :=
  wE_c3 hT ho (wB_c3 hT ho (part_c3 hT ho) (ps_p_ok hT.1 1)) (ps_B_ok hT.1 (ps_p_ok hT.1 1))
theorem part_c2 (hT : hs_T S0 N k) (ho : 40 ≤ o) : SimC S0 o N dv fv (fun S => r_X5_learnPart_d2 S o) (ps_p k 2) := by
  intro S p L h hp hL
  have hN := hT.2.1
  show ∃ S' L', r_X5_learnPart_d2 S o = _ ∧ _
  unfold r_X5_learnPart_d2
  have hs := sign_c hT ho h (i := p) (by omega)
  have e : ps_p k 2 p = if k p = 33 then ((ps_p k 1 (p + 1)).1, (ps_p k 1 (p + 1)).2.1, (ps_p k 1 (p + 1)).2.2 ++ [-33]) else if k p = 40 then ps_q k (ps_E k (ps_p k 1) (p + 1)) else ps_t k p := rfl
  have i33 := @sg_eq N k hT.1 p 33 (by decide)
  have i40 := @sg_eq N k hT.1 p 40 (by decide)
  rw [e, h.1, nI_1]
  by_cases a : k p = 33
  · rw [if_pos a]
    have hp1 : p < N := hT.1.lt a (by decide)
    obtain ⟨S1, L1, t1, t2, t3, t4⟩ := part_c3 hT ho (sI S o 7 (nI (p + 1))) (p + 1) L (h.mv (p + 1)) hp1 (by omega)
    obtain ⟨g1, g2, g3⟩ := ps_p_ok hT.1 1 (p + 1) hp1
    cases c : (ps_p k 1 (p + 1)).1 with
    | false =>
      rw [c] at t1
      refine ⟨S1, L1, ob_step hs ?_, t2, by show L1.length + p ≤ (ps_p k 1 (p + 1)).2.1 + L.length; omega, fun z => by cases z⟩
      refine (if_pos (i33.mpr a)).trans ((if_pos (i33.mpr a)).trans (ob_step t1 ?_))
      exact if_pos rfl
    | true =>
      rw [c] at t1
      obtain ⟨S2, a1, a2⟩ := t2.ad (by omega) 18 0
      refine ⟨S2, _, ob_step hs ?_, a2, ?_, fun _ => ?_⟩
      · refine (if_pos (i33.mpr a)).trans ((if_pos (i33.mpr a)).trans (ob_step t1 ?_))
        refine (if_neg nzt).trans (ob_step a1 ?_)
        exact if_neg nz1
      · show (L1 ++ [_]).length + p ≤ (ps_p k 1 (p + 1)).2.1 + L.length
        rw [List.length_append]
        show L1.length + 1 + p ≤ _
        omega
      · show L1 ++ [(18, 0)] = L ++ ((ps_p k 1 (p + 1)).2.2 ++ [-33]).map stepOf
        rw [t4 c, List.map_append, List.append_assoc]
        show _ = L ++ ((ps_p k 1 (p + 1)).2.2.map stepOf ++ [stepOf (-33)])
        rw [step_33]
  rw [if_neg a]
  have n33 : ¬ sg N k p = 33 := fun z => a (i33.mp z)
  by_cases b : k p = 40
  · rw [if_pos b]
    have hp1 : p < N := hT.1.lt b (by decide)
    obtain ⟨S1, L1, t1, t2, t3, t4⟩ := either_c3 hT ho (sI S o 7 (nI (p + 1))) (p + 1) L (h.mv (p + 1)) hp1 (by omega)
    obtain ⟨g1, g2, g3⟩ := ps_E_ok hT.1 (ps_p_ok hT.1 1) (p + 1) hp1
    cases c : (ps_E k (ps_p k 1) (p + 1)).1 with
    | false =>
      rw [c] at t1
      rw [ps_q_f c]
      refine ⟨S1, L1, ob_step hs ?_, t2, by show L1.length + p ≤ (ps_E k (ps_p k 1) (p + 1)).2.1 + L.length; omega, fun z => by cases z⟩
      refine (if_neg n33).trans ((if_pos (i40.mpr b)).trans ((if_neg n33).trans (ob_step t1 ?_)))
      exact if_pos rfl
    | true =>
      rw [c] at t1
      have hb := goBy_c hT ho t2 g2 (a := 41) (by decide)
      by_cases f : k (ps_E k (ps_p k 1) (p + 1)).2.1 = 41
      · rw [if_pos f] at hb
        rw [ps_q_y c f]
        refine ⟨_, L1, ob_step hs ?_, t2.mv _, by show L1.length + p ≤ (ps_E k (ps_p k 1) (p + 1)).2.1 + 1 + L.length; omega, fun _ => t4 c⟩
        refine (if_neg n33).trans ((if_pos (i40.mpr b)).trans ((if_neg n33).trans (ob_step t1 ?_)))
        refine (if_neg nzt).trans (ob_step hb ?_)
        exact if_neg nz1
      · rw [if_neg f] at hb
        rw [ps_q_n f]
        refine ⟨_, L1, ob_step hs ?_, t2, by show L1.length + p ≤ (ps_E k (ps_p k 1) (p + 1)).2.1 + L.length; omega, fun z => by cases z⟩
        refine (if_neg n33).trans ((if_pos (i40.mpr b)).trans ((if_neg n33).trans (ob_step t1 ?_)))
        refine (if_neg nzt).trans (ob_step hb ?_)
        exact if_pos rfl
  rw [if_neg b]
  obtain ⟨S', L', t1, t2, t3, t4⟩ := test_c hT ho S p L h hp hL
  have t1' : ct_test S o = _ := t1
  unfold ct_test at t1'
  refine ⟨S', L', ob_step hs ?_, t2, t3, t4⟩
  exact (if_neg n33).trans ((if_neg (fun z => b (i40.mp z))).trans t1')
theorem lpB_c2 (hT : hs_T S0 N k) (ho : 40 ≤ o) {g : Nat → PR} (hF : SimC S0 o N dv fv (fun S => r_X5_learnPart_d2 S o) g) (hg : PG N g) {L : List (Int32 × Int32)} {p0 : Nat} (hL : L.length ≤ p0) : ∀ m n v3 (r : PR) (S : St) (Lr : List (Int32 × Int32)), m + v3 = 100 → m < n → hs_C S0 o N dv fv S r.2.1 Lr → p0 ≤ r.2.1 → r.2.1 ≤ N → Lr.length + p0 ≤ r.2.1 + L.length → (r.1 = true → Lr = L ++ r.2.2.map stepOf) → ∃ S' L', lp_X5_learnBoth_d2_8 o n (if r.1 = true then 1 else 0) (nI v3) S = some (if (ps_r k g 38 (-38) m r).1 = true then 1 else 0, S') ∧ hs_C S0 o N dv fv S' (ps_r k g 38 (-38) m r).2.1 L' ∧ L'.length + p0 ≤ (ps_r k g 38 (-38) m r).2.1 + L.length ∧ ((ps_r k g 38 (-38) m r).1 = true → L' = L ++ (ps_r k g 38 (-38) m r).2.2.map stepOf) := by
  have hN := hT.2.1
  intro m
  induction m with
  | zero =>
    intro n v3 r S Lr h1 h2 h3 h4 h5 h6 h7
    obtain ⟨n, rfl⟩ : ∃ n', n = n' + 1 := ⟨n - 1, by omega⟩
    obtain rfl : v3 = 100 := by omega
    refine ⟨S, Lr, ?_, h3, h6, h7⟩
    rw [lp_X5_learnBoth_d2_8]
    exact if_pos (by decide)
  | succ m ih =>
    intro n v3 r S Lr h1 h2 h3 h4 h5 h6 h7
    obtain ⟨n, rfl⟩ : ∃ n', n = n' + 1 := ⟨n - 1, by omega⟩
    obtain ⟨b, q, E⟩ := r
    have e : ps_r k g 38 (-38) (m + 1) (b, q, E) = if b = true ∧ k q = 38 then ps_r k g 38 (-38) m ((g (q + 1)).1, (g (q + 1)).2.1, E ++ (g (q + 1)).2.2 ++ [-38]) else (b, q, E) := rfl
    rw [lp_X5_learnBoth_d2_8, if_neg (nle_l (k := 100) (show v3 < 100 by omega) (by decide))]
    cases b with
    | false =>
      rw [if_neg (fun z => by cases z.1)] at e
      rw [e]
      exact ⟨S, Lr, if_pos rfl, h3, h6, fun z => by cases z⟩
    | true =>
      have hb := goBy_c hT ho h3 h5 (a := 38) (by decide)
      rw [if_neg nzt]
      by_cases c : k q = 38
      · rw [if_pos c] at hb
        rw [if_pos ⟨rfl, c⟩] at e
        rw [e]
        have hq : q < N := hT.1.lt c (by decide)
        have h6' : Lr.length + p0 ≤ q + L.length := h6
        have h4' : p0 ≤ q := h4
        obtain ⟨S2, L2, t1, t2, t3, t4⟩ := hF (sI S o 7 (nI (q + 1))) (q + 1) Lr (h3.mv (q + 1)) hq (by omega)
        have hgq := hg (q + 1) hq
        obtain ⟨g1, g2, g3⟩ := hgq
        cases c2 : (g (q + 1)).1 with
        | false =>
          rw [c2] at t1
          obtain ⟨S', L', u1, u2, u3, u4⟩ := ih n (v3 + 1) (false, (g (q + 1)).2.1, E ++ (g (q + 1)).2.2 ++ [-38]) S2 L2 (by omega) (by omega) t2 (by show p0 ≤ (g (q + 1)).2.1; omega) g2 (by show L2.length + p0 ≤ (g (q + 1)).2.1 + L.length; omega) (fun z => by cases z)
          refine ⟨S', L', ob_step hb ?_, u2, u3, u4⟩
          refine (if_neg nz1).trans (ob_step t1 ?_)
          refine (if_pos rfl).trans ?_
          rw [nI_1]
          exact u1
        | true =>
          rw [c2] at t1
          have e2 := t4 c2
          obtain ⟨S3, a1, a2⟩ := t2.ad (by omega) 19 0
          obtain ⟨S', L', u1, u2, u3, u4⟩ := ih n (v3 + 1) (true, (g (q + 1)).2.1, E ++ (g (q + 1)).2.2 ++ [-38]) S3 (L2 ++ [(19, 0)]) (by omega) (by omega) a2 (by show p0 ≤ (g (q + 1)).2.1; omega) g2 (by
            show (L2 ++ [_]).length + p0 ≤ (g (q + 1)).2.1 + L.length
            rw [List.length_append]
            show L2.length + 1 + p0 ≤ _
            omega) (fun _ => by
            show L2 ++ [(19, 0)] = L ++ (E ++ (g (q + 1)).2.2 ++ [-38]).map stepOf
            rw [e2, h7 rfl, List.map_append, List.map_append, List.append_assoc, List.append_assoc, List.append_assoc]
            show _ = L ++ (E.map stepOf ++ ((g (q + 1)).2.2.map stepOf ++ [stepOf (-38)]))
            rw [step_38])
          refine ⟨S', L', ob_step hb ?_, u2, u3, u4⟩
          refine (if_neg nz1).trans (ob_step t1 ?_)
          refine (if_neg nzt).trans (ob_step a1 ?_)
          refine (if_neg nz1).trans ?_
          rw [nI_1]
          exact u1
      · rw [if_neg c] at hb
        rw [if_neg (fun z => c z.2)] at e
        rw [e]
        refine ⟨S, Lr, ob_step hb ?_, h3, h6, h7⟩
        exact if_pos rfl
theorem wB_c2 (hT : hs_T S0 N k) (ho : 40 ≤ o) {g : Nat → PR} (hF : SimC S0 o N dv fv (fun S => r_X5_learnPart_d2 S o) g) (hg : PG N g) : SimC S0 o N dv fv (fun S => r_X5_learnBoth_d2 S o) (ps_B k g) := by
  intro S p L h hp hL
  obtain ⟨S1, L1, t1, t2, t3, t4⟩ := hF S p L h hp hL
  obtain ⟨g1, g2, g3⟩ := hg p hp
  obtain ⟨S2, L2, u1, u2, u3, u4⟩ := lpB_c2 hT ho hF hg hL 100 4000 0 (g p) S1 L1 (by omega) (by omega) t2 g1 g2 t3 t4
  refine ⟨S2, L2, ?_, u2, u3, u4⟩
  show r_X5_learnBoth_d2 S o = _
  unfold r_X5_learnBoth_d2
  exact ob_step t1 (ob_step u1 (gd01 _ _))
theorem lpE_c2 (hT : hs_T S0 N k) (ho : 40 ≤ o) {g : Nat → PR} (hF : SimC S0 o N dv fv (fun S => r_X5_learnBoth_d2 S o) g) (hg : PG N g) {L : List (Int32 × Int32)} {p0 : Nat} (hL : L.length ≤ p0) : ∀ m n v3 (r : PR) (S : St) (Lr : List (Int32 × Int32)), m + v3 = 100 → m < n → hs_C S0 o N dv fv S r.2.1 Lr → p0 ≤ r.2.1 → r.2.1 ≤ N → Lr.length + p0 ≤ r.2.1 + L.length → (r.1 = true → Lr = L ++ r.2.2.map stepOf) → ∃ S' L', lp_X5_learnEither_d2_8 o n (if r.1 = true then 1 else 0) (nI v3) S = some (if (ps_r k g 124 (-124) m r).1 = true then 1 else 0, S') ∧ hs_C S0 o N dv fv S' (ps_r k g 124 (-124) m r).2.1 L' ∧ L'.length + p0 ≤ (ps_r k g 124 (-124) m r).2.1 + L.length ∧ ((ps_r k g 124 (-124) m r).1 = true → L' = L ++ (ps_r k g 124 (-124) m r).2.2.map stepOf) := by
  have hN := hT.2.1
  intro m
  induction m with
  | zero =>
    intro n v3 r S Lr h1 h2 h3 h4 h5 h6 h7
    obtain ⟨n, rfl⟩ : ∃ n', n = n' + 1 := ⟨n - 1, by omega⟩
    obtain rfl : v3 = 100 := by omega
    refine ⟨S, Lr, ?_, h3, h6, h7⟩
    rw [lp_X5_learnEither_d2_8]
    exact if_pos (by decide)
  | succ m ih =>
    intro n v3 r S Lr h1 h2 h3 h4 h5 h6 h7
    obtain ⟨n, rfl⟩ : ∃ n', n = n' + 1 := ⟨n - 1, by omega⟩
    obtain ⟨b, q, E⟩ := r
    have e : ps_r k g 124 (-124) (m + 1) (b, q, E) = if b = true ∧ k q = 124 then ps_r k g 124 (-124) m ((g (q + 1)).1, (g (q + 1)).2.1, E ++ (g (q + 1)).2.2 ++ [-124]) else (b, q, E) := rfl
    rw [lp_X5_learnEither_d2_8, if_neg (nle_l (k := 100) (show v3 < 100 by omega) (by decide))]
    cases b with
    | false =>
      rw [if_neg (fun z => by cases z.1)] at e
      rw [e]
      exact ⟨S, Lr, if_pos rfl, h3, h6, fun z => by cases z⟩
    | true =>
      have hb := goBy_c hT ho h3 h5 (a := 124) (by decide)
      rw [if_neg nzt]
      by_cases c : k q = 124
      · rw [if_pos c] at hb
        rw [if_pos ⟨rfl, c⟩] at e
        rw [e]
        have hq : q < N := hT.1.lt c (by decide)
        have h6' : Lr.length + p0 ≤ q + L.length := h6
        have h4' : p0 ≤ q := h4
        obtain ⟨S2, L2, t1, t2, t3, t4⟩ := hF (sI S o 7 (nI (q + 1))) (q + 1) Lr (h3.mv (q + 1)) hq (by omega)
        have hgq := hg (q + 1) hq
        obtain ⟨g1, g2, g3⟩ := hgq
        cases c2 : (g (q + 1)).1 with
        | false =>
          rw [c2] at t1
          obtain ⟨S', L', u1, u2, u3, u4⟩ := ih n (v3 + 1) (false, (g (q + 1)).2.1, E ++ (g (q + 1)).2.2 ++ [-124]) S2 L2 (by omega) (by omega) t2 (by show p0 ≤ (g (q + 1)).2.1; omega) g2 (by show L2.length + p0 ≤ (g (q + 1)).2.1 + L.length; omega) (fun z => by cases z)
          refine ⟨S', L', ob_step hb ?_, u2, u3, u4⟩
          refine (if_neg nz1).trans (ob_step t1 ?_)
          refine (if_pos rfl).trans ?_
          rw [nI_1]
          exact u1
        | true =>
          rw [c2] at t1
          have e2 := t4 c2
          obtain ⟨S3, a1, a2⟩ := t2.ad (by omega) 20 0
          obtain ⟨S', L', u1, u2, u3, u4⟩ := ih n (v3 + 1) (true, (g (q + 1)).2.1, E ++ (g (q + 1)).2.2 ++ [-124]) S3 (L2 ++ [(20, 0)]) (by omega) (by omega) a2 (by show p0 ≤ (g (q + 1)).2.1; omega) g2 (by
            show (L2 ++ [_]).length + p0 ≤ (g (q + 1)).2.1 + L.length
            rw [List.length_append]
            show L2.length + 1 + p0 ≤ _
            omega) (fun _ => by
            show L2 ++ [(20, 0)] = L ++ (E ++ (g (q + 1)).2.2 ++ [-124]).map stepOf
            rw [e2, h7 rfl, List.map_append, List.map_append, List.append_assoc, List.append_assoc, List.append_assoc]
            show _ = L ++ (E.map stepOf ++ ((g (q + 1)).2.2.map stepOf ++ [stepOf (-124)]))
            rw [step_124])
          refine ⟨S', L', ob_step hb ?_, u2, u3, u4⟩
          refine (if_neg nz1).trans (ob_step t1 ?_)
          refine (if_neg nzt).trans (ob_step a1 ?_)
          refine (if_neg nz1).trans ?_
          rw [nI_1]
          exact u1
      · rw [if_neg c] at hb
        rw [if_neg (fun z => c z.2)] at e
        rw [e]
        refine ⟨S, Lr, ob_step hb ?_, h3, h6, h7⟩
        exact if_pos rfl
theorem wE_c2 (hT : hs_T S0 N k) (ho : 40 ≤ o) {g : Nat → PR} (hF : SimC S0 o N dv fv (fun S => r_X5_learnBoth_d2 S o) g) (hg : PG N g) : SimC S0 o N dv fv (fun S => r_X5_learnEither_d2 S o) (ps_W k g) := by
  intro S p L h hp hL
  obtain ⟨S1, L1, t1, t2, t3, t4⟩ := hF S p L h hp hL
  obtain ⟨g1, g2, g3⟩ := hg p hp
  obtain ⟨S2, L2, u1, u2, u3, u4⟩ := lpE_c2 hT ho hF hg hL 100 4000 0 (g p) S1 L1 (by omega) (by omega) t2 g1 g2 t3 t4
  refine ⟨S2, L2, ?_, u2, u3, u4⟩
  show r_X5_learnEither_d2 S o = _
  unfold r_X5_learnEither_d2
  exact ob_step t1 (ob_step u1 (gd01 _ _))
theorem either_c2 (hT : hs_T S0 N k) (ho : 40 ≤ o) : SimC S0 o N dv fv (fun S => r_X5_learnEither_d2 S o) (ps_E k (ps_p k 2)) :=
  wE_c2 hT ho (wB_c2 hT ho (part_c2 hT ho) (ps_p_ok hT.1 2)) (ps_B_ok hT.1 (ps_p_ok hT.1 2))
theorem part_c1 (hT : hs_T S0 N k) (ho : 40 ≤ o) : SimC S0 o N dv fv (fun S => r_X5_learnPart_d1 S o) (ps_p k 3) := by
  intro S p L h hp hL
  have hN := hT.2.1
  show ∃ S' L', r_X5_learnPart_d1 S o = _ ∧ _
  unfold r_X5_learnPart_d1
  have hs := sign_c hT ho h (i := p) (by omega)
  have e : ps_p k 3 p = if k p = 33 then ((ps_p k 2 (p + 1)).1, (ps_p k 2 (p + 1)).2.1, (ps_p k 2 (p + 1)).2.2 ++ [-33]) else if k p = 40 then ps_q k (ps_E k (ps_p k 2) (p + 1)) else ps_t k p := rfl
  have i33 := @sg_eq N k hT.1 p 33 (by decide)
  have i40 := @sg_eq N k hT.1 p 40 (by decide)
  rw [e, h.1, nI_1]
  by_cases a : k p = 33
  · rw [if_pos a]
    have hp1 : p < N := hT.1.lt a (by decide)
    obtain ⟨S1, L1, t1, t2, t3, t4⟩ := part_c2 hT ho (sI S o 7 (nI (p + 1))) (p + 1) L (h.mv (p + 1)) hp1 (by omega)
    obtain ⟨g1, g2, g3⟩ := ps_p_ok hT.1 2 (p + 1) hp1
    cases c : (ps_p k 2 (p + 1)).1 with
    | false =>
      rw [c] at t1
      refine ⟨S1, L1, ob_step hs ?_, t2, by show L1.length + p ≤ (ps_p k 2 (p + 1)).2.1 + L.length; omega, fun z => by cases z⟩
      refine (if_pos (i33.mpr a)).trans ((if_pos (i33.mpr a)).trans (ob_step t1 ?_))
      exact if_pos rfl
    | true =>
      rw [c] at t1
      obtain ⟨S2, a1, a2⟩ := t2.ad (by omega) 18 0
      refine ⟨S2, _, ob_step hs ?_, a2, ?_, fun _ => ?_⟩
      · refine (if_pos (i33.mpr a)).trans ((if_pos (i33.mpr a)).trans (ob_step t1 ?_))
        refine (if_neg nzt).trans (ob_step a1 ?_)
        exact if_neg nz1
      · show (L1 ++ [_]).length + p ≤ (ps_p k 2 (p + 1)).2.1 + L.length
        rw [List.length_append]
        show L1.length + 1 + p ≤ _
        omega
      · show L1 ++ [(18, 0)] = L ++ ((ps_p k 2 (p + 1)).2.2 ++ [-33]).map stepOf
        rw [t4 c, List.map_append, List.append_assoc]
        show _ = L ++ ((ps_p k 2 (p + 1)).2.2.map stepOf ++ [stepOf (-33)])
        rw [step_33]
  rw [if_neg a]
  have n33 : ¬ sg N k p = 33 := fun z => a (i33.mp z)
  by_cases b : k p = 40
  · rw [if_pos b]
    have hp1 : p < N := hT.1.lt b (by decide)
    obtain ⟨S1, L1, t1, t2, t3, t4⟩ := either_c2 hT ho (sI S o 7 (nI (p + 1))) (p + 1) L (h.mv (p + 1)) hp1 (by omega)
    obtain ⟨g1, g2, g3⟩ := ps_E_ok hT.1 (ps_p_ok hT.1 2) (p + 1) hp1
    cases c : (ps_E k (ps_p k 2) (p + 1)).1 with
    | false =>
      rw [c] at t1
      rw [ps_q_f c]
      refine ⟨S1, L1, ob_step hs ?_, t2, by show L1.length + p ≤ (ps_E k (ps_p k 2) (p + 1)).2.1 + L.length; omega, fun z => by cases z⟩
      refine (if_neg n33).trans ((if_pos (i40.mpr b)).trans ((if_neg n33).trans (ob_step t1 ?_)))
      exact if_pos rfl
    | true =>
      rw [c] at t1
      have hb := goBy_c hT ho t2 g2 (a := 41) (by decide)
      by_cases f : k (ps_E k (ps_p k 2) (p + 1)).2.1 = 41
      · rw [if_pos f] at hb
        rw [ps_q_y c f]
        refine ⟨_, L1, ob_step hs ?_, t2.mv _, by show L1.length + p ≤ (ps_E k (ps_p k 2) (p + 1)).2.1 + 1 + L.length; omega, fun _ => t4 c⟩
        refine (if_neg n33).trans ((if_pos (i40.mpr b)).trans ((if_neg n33).trans (ob_step t1 ?_)))
        refine (if_neg nzt).trans (ob_step hb ?_)
        exact if_neg nz1
      · rw [if_neg f] at hb
        rw [ps_q_n f]
        refine ⟨_, L1, ob_step hs ?_, t2, by show L1.length + p ≤ (ps_E k (ps_p k 2) (p + 1)).2.1 + L.length; omega, fun z => by cases z⟩
        refine (if_neg n33).trans ((if_pos (i40.mpr b)).trans ((if_neg n33).trans (ob_step t1 ?_)))
        refine (if_neg nzt).trans (ob_step hb ?_)
        exact if_pos rfl
  rw [if_neg b]
  obtain ⟨S', L', t1, t2, t3, t4⟩ := test_c hT ho S p L h hp hL
  have t1' : ct_test S o = _ := t1
  unfold ct_test at t1'
  refine ⟨S', L', ob_step hs ?_, t2, t3, t4⟩
  exact (if_neg n33).trans ((if_neg (fun z => b (i40.mp z))).trans t1')
theorem lpB_c1 (hT : hs_T S0 N k) (ho : 40 ≤ o) {g : Nat → PR} (hF : SimC S0 o N dv fv (fun S => r_X5_learnPart_d1 S o) g) (hg : PG N g) {L : List (Int32 × Int32)} {p0 : Nat} (hL : L.length ≤ p0) : ∀ m n v3 (r : PR) (S : St) (Lr : List (Int32 × Int32)), m + v3 = 100 → m < n → hs_C S0 o N dv fv S r.2.1 Lr → p0 ≤ r.2.1 → r.2.1 ≤ N → Lr.length + p0 ≤ r.2.1 + L.length → (r.1 = true → Lr = L ++ r.2.2.map stepOf) → ∃ S' L', lp_X5_learnBoth_d1_8 o n (if r.1 = true then 1 else 0) (nI v3) S = some (if (ps_r k g 38 (-38) m r).1 = true then 1 else 0, S') ∧ hs_C S0 o N dv fv S' (ps_r k g 38 (-38) m r).2.1 L' ∧ L'.length + p0 ≤ (ps_r k g 38 (-38) m r).2.1 + L.length ∧ ((ps_r k g 38 (-38) m r).1 = true → L' = L ++ (ps_r k g 38 (-38) m r).2.2.map stepOf) := by
  have hN := hT.2.1
  intro m
  induction m with
  | zero =>
    intro n v3 r S Lr h1 h2 h3 h4 h5 h6 h7
    obtain ⟨n, rfl⟩ : ∃ n', n = n' + 1 := ⟨n - 1, by omega⟩
    obtain rfl : v3 = 100 := by omega
    refine ⟨S, Lr, ?_, h3, h6, h7⟩
    rw [lp_X5_learnBoth_d1_8]
    exact if_pos (by decide)
  | succ m ih =>
    intro n v3 r S Lr h1 h2 h3 h4 h5 h6 h7
    obtain ⟨n, rfl⟩ : ∃ n', n = n' + 1 := ⟨n - 1, by omega⟩
    obtain ⟨b, q, E⟩ := r
    have e : ps_r k g 38 (-38) (m + 1) (b, q, E) = if b = true ∧ k q = 38 then ps_r k g 38 (-38) m ((g (q + 1)).1, (g (q + 1)).2.1, E ++ (g (q + 1)).2.2 ++ [-38]) else (b, q, E) := rfl
    rw [lp_X5_learnBoth_d1_8, if_neg (nle_l (k := 100) (show v3 < 100 by omega) (by decide))]
    cases b with
    | false =>
      rw [if_neg (fun z => by cases z.1)] at e
      rw [e]
      exact ⟨S, Lr, if_pos rfl, h3, h6, fun z => by cases z⟩
    | true =>
      have hb := goBy_c hT ho h3 h5 (a := 38) (by decide)
      rw [if_neg nzt]
      by_cases c : k q = 38
      · rw [if_pos c] at hb
        rw [if_pos ⟨rfl, c⟩] at e
        rw [e]
        have hq : q < N := hT.1.lt c (by decide)
        have h6' : Lr.length + p0 ≤ q + L.length := h6
        have h4' : p0 ≤ q := h4
        obtain ⟨S2, L2, t1, t2, t3, t4⟩ := hF (sI S o 7 (nI (q + 1))) (q + 1) Lr (h3.mv (q + 1)) hq (by omega)
        have hgq := hg (q + 1) hq
        obtain ⟨g1, g2, g3⟩ := hgq
        cases c2 : (g (q + 1)).1 with
        | false =>
          rw [c2] at t1
          obtain ⟨S', L', u1, u2, u3, u4⟩ := ih n (v3 + 1) (false, (g (q + 1)).2.1, E ++ (g (q + 1)).2.2 ++ [-38]) S2 L2 (by omega) (by omega) t2 (by show p0 ≤ (g (q + 1)).2.1; omega) g2 (by show L2.length + p0 ≤ (g (q + 1)).2.1 + L.length; omega) (fun z => by cases z)
          refine ⟨S', L', ob_step hb ?_, u2, u3, u4⟩
          refine (if_neg nz1).trans (ob_step t1 ?_)
          refine (if_pos rfl).trans ?_
          rw [nI_1]
          exact u1
        | true =>
          rw [c2] at t1
          have e2 := t4 c2
          obtain ⟨S3, a1, a2⟩ := t2.ad (by omega) 19 0
          obtain ⟨S', L', u1, u2, u3, u4⟩ := ih n (v3 + 1) (true, (g (q + 1)).2.1, E ++ (g (q + 1)).2.2 ++ [-38]) S3 (L2 ++ [(19, 0)]) (by omega) (by omega) a2 (by show p0 ≤ (g (q + 1)).2.1; omega) g2 (by
            show (L2 ++ [_]).length + p0 ≤ (g (q + 1)).2.1 + L.length
            rw [List.length_append]
            show L2.length + 1 + p0 ≤ _
            omega) (fun _ => by
            show L2 ++ [(19, 0)] = L ++ (E ++ (g (q + 1)).2.2 ++ [-38]).map stepOf
            rw [e2, h7 rfl, List.map_append, List.map_append, List.append_assoc, List.append_assoc, List.append_assoc]
            show _ = L ++ (E.map stepOf ++ ((g (q + 1)).2.2.map stepOf ++ [stepOf (-38)]))
            rw [step_38])
          refine ⟨S', L', ob_step hb ?_, u2, u3, u4⟩
          refine (if_neg nz1).trans (ob_step t1 ?_)
          refine (if_neg nzt).trans (ob_step a1 ?_)
          refine (if_neg nz1).trans ?_
          rw [nI_1]
          exact u1
      · rw [if_neg c] at hb
        rw [if_neg (fun z => c z.2)] at e
        rw [e]
        refine ⟨S, Lr, ob_step hb ?_, h3, h6, h7⟩
        exact if_pos rfl
theorem wB_c1 (hT : hs_T S0 N k) (ho : 40 ≤ o) {g : Nat → PR} (hF : SimC S0 o N dv fv (fun S => r_X5_learnPart_d1 S o) g) (hg : PG N g) : SimC S0 o N dv fv (fun S => r_X5_learnBoth_d1 S o) (ps_B k g) := by
  intro S p L h hp hL
  obtain ⟨S1, L1, t1, t2, t3, t4⟩ := hF S p L h hp hL
  obtain ⟨g1, g2, g3⟩ := hg p hp
  obtain ⟨S2, L2, u1, u2, u3, u4⟩ := lpB_c1 hT ho hF hg hL 100 4000 0 (g p) S1 L1 (by omega) (by omega) t2 g1 g2 t3 t4
  refine ⟨S2, L2, ?_, u2, u3, u4⟩
  show r_X5_learnBoth_d1 S o = _
  unfold r_X5_learnBoth_d1
  exact ob_step t1 (ob_step u1 (gd01 _ _))
theorem lpE_c1 (hT : hs_T S0 N k) (ho : 40 ≤ o) {g : Nat → PR} (hF : SimC S0 o N dv fv (fun S => r_X5_learnBoth_d1 S o) g) (hg : PG N g) {L : List (Int32 × Int32)} {p0 : Nat} (hL : L.length ≤ p0) : ∀ m n v3 (r : PR) (S : St) (Lr : List (Int32 × Int32)), m + v3 = 100 → m < n → hs_C S0 o N dv fv S r.2.1 Lr → p0 ≤ r.2.1 → r.2.1 ≤ N → Lr.length + p0 ≤ r.2.1 + L.length → (r.1 = true → Lr = L ++ r.2.2.map stepOf) → ∃ S' L', lp_X5_learnEither_d1_8 o n (if r.1 = true then 1 else 0) (nI v3) S = some (if (ps_r k g 124 (-124) m r).1 = true then 1 else 0, S') ∧ hs_C S0 o N dv fv S' (ps_r k g 124 (-124) m r).2.1 L' ∧ L'.length + p0 ≤ (ps_r k g 124 (-124) m r).2.1 + L.length ∧ ((ps_r k g 124 (-124) m r).1 = true → L' = L ++ (ps_r k g 124 (-124) m r).2.2.map stepOf) := by
  have hN := hT.2.1
  intro m
  induction m with
  | zero =>
    intro n v3 r S Lr h1 h2 h3 h4 h5 h6 h7
    obtain ⟨n, rfl⟩ : ∃ n', n = n' + 1 := ⟨n - 1, by omega⟩
    obtain rfl : v3 = 100 := by omega
    refine ⟨S, Lr, ?_, h3, h6, h7⟩
    rw [lp_X5_learnEither_d1_8]
    exact if_pos (by decide)
  | succ m ih =>
    intro n v3 r S Lr h1 h2 h3 h4 h5 h6 h7
    obtain ⟨n, rfl⟩ : ∃ n', n = n' + 1 := ⟨n - 1, by omega⟩
    obtain ⟨b, q, E⟩ := r
    have e : ps_r k g 124 (-124) (m + 1) (b, q, E) = if b = true ∧ k q = 124 then ps_r k g 124 (-124) m ((g (q + 1)).1, (g (q + 1)).2.1, E ++ (g (q + 1)).2.2 ++ [-124]) else (b, q, E) := rfl
    rw [lp_X5_learnEither_d1_8, if_neg (nle_l (k := 100) (show v3 < 100 by omega) (by decide))]
    cases b with
    | false =>
      rw [if_neg (fun z => by cases z.1)] at e
      rw [e]
      exact ⟨S, Lr, if_pos rfl, h3, h6, fun z => by cases z⟩
    | true =>
      have hb := goBy_c hT ho h3 h5 (a := 124) (by decide)
      rw [if_neg nzt]
      by_cases c : k q = 124
      · rw [if_pos c] at hb
        rw [if_pos ⟨rfl, c⟩] at e
        rw [e]
        have hq : q < N := hT.1.lt c (by decide)
        have h6' : Lr.length + p0 ≤ q + L.length := h6
        have h4' : p0 ≤ q := h4
        obtain ⟨S2, L2, t1, t2, t3, t4⟩ := hF (sI S o 7 (nI (q + 1))) (q + 1) Lr (h3.mv (q + 1)) hq (by omega)
        have hgq := hg (q + 1) hq
        obtain ⟨g1, g2, g3⟩ := hgq
        cases c2 : (g (q + 1)).1 with
        | false =>
          rw [c2] at t1
          obtain ⟨S', L', u1, u2, u3, u4⟩ := ih n (v3 + 1) (false, (g (q + 1)).2.1, E ++ (g (q + 1)).2.2 ++ [-124]) S2 L2 (by omega) (by omega) t2 (by show p0 ≤ (g (q + 1)).2.1; omega) g2 (by show L2.length + p0 ≤ (g (q + 1)).2.1 + L.length; omega) (fun z => by cases z)
          refine ⟨S', L', ob_step hb ?_, u2, u3, u4⟩
          refine (if_neg nz1).trans (ob_step t1 ?_)
          refine (if_pos rfl).trans ?_
          rw [nI_1]
          exact u1
        | true =>
          rw [c2] at t1
          have e2 := t4 c2
          obtain ⟨S3, a1, a2⟩ := t2.ad (by omega) 20 0
          obtain ⟨S', L', u1, u2, u3, u4⟩ := ih n (v3 + 1) (true, (g (q + 1)).2.1, E ++ (g (q + 1)).2.2 ++ [-124]) S3 (L2 ++ [(20, 0)]) (by omega) (by omega) a2 (by show p0 ≤ (g (q + 1)).2.1; omega) g2 (by
            show (L2 ++ [_]).length + p0 ≤ (g (q + 1)).2.1 + L.length
            rw [List.length_append]
            show L2.length + 1 + p0 ≤ _
            omega) (fun _ => by
            show L2 ++ [(20, 0)] = L ++ (E ++ (g (q + 1)).2.2 ++ [-124]).map stepOf
            rw [e2, h7 rfl, List.map_append, List.map_append, List.append_assoc, List.append_assoc, List.append_assoc]
            show _ = L ++ (E.map stepOf ++ ((g (q + 1)).2.2.map stepOf ++ [stepOf (-124)]))
            rw [step_124])
          refine ⟨S', L', ob_step hb ?_, u2, u3, u4⟩
          refine (if_neg nz1).trans (ob_step t1 ?_)
          refine (if_neg nzt).trans (ob_step a1 ?_)
          refine (if_neg nz1).trans ?_
          rw [nI_1]
          exact u1
      · rw [if_neg c] at hb
        rw [if_neg (fun z => c z.2)] at e
        rw [e]
        refine ⟨S, Lr, ob_step hb ?_, h3, h6, h7⟩
        exact if_pos rfl
theorem wE_c1 (hT : hs_T S0 N k) (ho : 40 ≤ o) {g : Nat → PR} (hF : SimC S0 o N dv fv (fun S => r_X5_learnBoth_d1 S o) g) (hg : PG N g) : SimC S0 o N dv fv (fun S => r_X5_learnEither_d1 S o) (ps_W k g) := by
  intro S p L h hp hL
  obtain ⟨S1, L1, t1, t2, t3, t4⟩ := hF S p L h hp hL
  obtain ⟨g1, g2, g3⟩ := hg p hp
  obtain ⟨S2, L2, u1, u2, u3, u4⟩ := lpE_c1 hT ho hF hg hL 100 4000 0 (g p) S1 L1 (by omega) (by omega) t2 g1 g2 t3 t4
  refine ⟨S2, L2, ?_, u2, u3, u4⟩
  show r_X5_learnEither_d1 S o = _
  unfold r_X5_learnEither_d1
  exact ob_step t1 (ob_step u1 (gd01 _ _))
theorem either_c1 (hT : hs_T S0 N k) (ho : 40 ≤ o) : SimC S0 o N dv fv (fun S => r_X5_learnEither_d1 S o) (ps_E k (ps_p k 3)) :=
  wE_c1 hT ho (wB_c1 hT ho (part_c1 hT ho) (ps_p_ok hT.1 3)) (ps_B_ok hT.1 (ps_p_ok hT.1 3))
theorem part_c0 (hT : hs_T S0 N k) (ho : 40 ≤ o) : SimC S0 o N dv fv (fun S => r_X5_learnPart_d0 S o) (ps_p k 4) := by
  intro S p L h hp hL
  have hN := hT.2.1
  show ∃ S' L', r_X5_learnPart_d0 S o = _ ∧ _
  unfold r_X5_learnPart_d0
  have hs := sign_c hT ho h (i := p) (by omega)
  have e : ps_p k 4 p = if k p = 33 then ((ps_p k 3 (p + 1)).1, (ps_p k 3 (p + 1)).2.1, (ps_p k 3 (p + 1)).2.2 ++ [-33]) else if k p = 40 then ps_q k (ps_E k (ps_p k 3) (p + 1)) else ps_t k p := rfl
  have i33 := @sg_eq N k hT.1 p 33 (by decide)
  have i40 := @sg_eq N k hT.1 p 40 (by decide)
  rw [e, h.1, nI_1]
  by_cases a : k p = 33
  · rw [if_pos a]
    have hp1 : p < N := hT.1.lt a (by decide)
    obtain ⟨S1, L1, t1, t2, t3, t4⟩ := part_c1 hT ho (sI S o 7 (nI (p + 1))) (p + 1) L (h.mv (p + 1)) hp1 (by omega)
    obtain ⟨g1, g2, g3⟩ := ps_p_ok hT.1 3 (p + 1) hp1
    cases c : (ps_p k 3 (p + 1)).1 with
    | false =>
      rw [c] at t1
      refine ⟨S1, L1, ob_step hs ?_, t2, by show L1.length + p ≤ (ps_p k 3 (p + 1)).2.1 + L.length; omega, fun z => by cases z⟩
      refine (if_pos (i33.mpr a)).trans ((if_pos (i33.mpr a)).trans (ob_step t1 ?_))
      exact if_pos rfl
    | true =>
      rw [c] at t1
      obtain ⟨S2, a1, a2⟩ := t2.ad (by omega) 18 0
      refine ⟨S2, _, ob_step hs ?_, a2, ?_, fun _ => ?_⟩
      · refine (if_pos (i33.mpr a)).trans ((if_pos (i33.mpr a)).trans (ob_step t1 ?_))
        refine (if_neg nzt).trans (ob_step a1 ?_)
        exact if_neg nz1
      · show (L1 ++ [_]).length + p ≤ (ps_p k 3 (p + 1)).2.1 + L.length
        rw [List.length_append]
        show L1.length + 1 + p ≤ _
        omega
      · show L1 ++ [(18, 0)] = L ++ ((ps_p k 3 (p + 1)).2.2 ++ [-33]).map stepOf
        rw [t4 c, List.map_append, List.append_assoc]
        show _ = L ++ ((ps_p k 3 (p + 1)).2.2.map stepOf ++ [stepOf (-33)])
        rw [step_33]
  rw [if_neg a]
  have n33 : ¬ sg N k p = 33 := fun z => a (i33.mp z)
  by_cases b : k p = 40
  · rw [if_pos b]
    have hp1 : p < N := hT.1.lt b (by decide)
    obtain ⟨S1, L1, t1, t2, t3, t4⟩ := either_c1 hT ho (sI S o 7 (nI (p + 1))) (p + 1) L (h.mv (p + 1)) hp1 (by omega)
    obtain ⟨g1, g2, g3⟩ := ps_E_ok hT.1 (ps_p_ok hT.1 3) (p + 1) hp1
    cases c : (ps_E k (ps_p k 3) (p + 1)).1 with
    | false =>
      rw [c] at t1
      rw [ps_q_f c]
      refine ⟨S1, L1, ob_step hs ?_, t2, by show L1.length + p ≤ (ps_E k (ps_p k 3) (p + 1)).2.1 + L.length; omega, fun z => by cases z⟩
      refine (if_neg n33).trans ((if_pos (i40.mpr b)).trans ((if_neg n33).trans (ob_step t1 ?_)))
      exact if_pos rfl
    | true =>
      rw [c] at t1
      have hb := goBy_c hT ho t2 g2 (a := 41) (by decide)
      by_cases f : k (ps_E k (ps_p k 3) (p + 1)).2.1 = 41
      · rw [if_pos f] at hb
        rw [ps_q_y c f]
        refine ⟨_, L1, ob_step hs ?_, t2.mv _, by show L1.length + p ≤ (ps_E k (ps_p k 3) (p + 1)).2.1 + 1 + L.length; omega, fun _ => t4 c⟩
        refine (if_neg n33).trans ((if_pos (i40.mpr b)).trans ((if_neg n33).trans (ob_step t1 ?_)))
        refine (if_neg nzt).trans (ob_step hb ?_)
        exact if_neg nz1
      · rw [if_neg f] at hb
        rw [ps_q_n f]
        refine ⟨_, L1, ob_step hs ?_, t2, by show L1.length + p ≤ (ps_E k (ps_p k 3) (p + 1)).2.1 + L.length; omega, fun z => by cases z⟩
        refine (if_neg n33).trans ((if_pos (i40.mpr b)).trans ((if_neg n33).trans (ob_step t1 ?_)))
        refine (if_neg nzt).trans (ob_step hb ?_)
        exact if_pos rfl
  rw [if_neg b]
  obtain ⟨S', L', t1, t2, t3, t4⟩ := test_c hT ho S p L h hp hL
  have t1' : ct_test S o = _ := t1
  unfold ct_test at t1'
  refine ⟨S', L', ob_step hs ?_, t2, t3, t4⟩
  exact (if_neg n33).trans ((if_neg (fun z => b (i40.mp z))).trans t1')
theorem lpB_c0 (hT : hs_T S0 N k) (ho : 40 ≤ o) {g : Nat → PR} (hF : SimC S0 o N dv fv (fun S => r_X5_learnPart_d0 S o) g) (hg : PG N g) {L : List (Int32 × Int32)} {p0 : Nat} (hL : L.length ≤ p0) : ∀ m n v3 (r : PR) (S : St) (Lr : List (Int32 × Int32)), m + v3 = 100 → m < n → hs_C S0 o N dv fv S r.2.1 Lr → p0 ≤ r.2.1 → r.2.1 ≤ N → Lr.length + p0 ≤ r.2.1 + L.length → (r.1 = true → Lr = L ++ r.2.2.map stepOf) → ∃ S' L', lp_X5_learnBoth_d0_8 o n (if r.1 = true then 1 else 0) (nI v3) S = some (if (ps_r k g 38 (-38) m r).1 = true then 1 else 0, S') ∧ hs_C S0 o N dv fv S' (ps_r k g 38 (-38) m r).2.1 L' ∧ L'.length + p0 ≤ (ps_r k g 38 (-38) m r).2.1 + L.length ∧ ((ps_r k g 38 (-38) m r).1 = true → L' = L ++ (ps_r k g 38 (-38) m r).2.2.map stepOf) := by
  have hN := hT.2.1
  intro m
  induction m with
  | zero =>
    intro n v3 r S Lr h1 h2 h3 h4 h5 h6 h7
    obtain ⟨n, rfl⟩ : ∃ n', n = n' + 1 := ⟨n - 1, by omega⟩
    obtain rfl : v3 = 100 := by omega
    refine ⟨S, Lr, ?_, h3, h6, h7⟩
    rw [lp_X5_learnBoth_d0_8]
    exact if_pos (by decide)
  | succ m ih =>
    intro n v3 r S Lr h1 h2 h3 h4 h5 h6 h7
    obtain ⟨n, rfl⟩ : ∃ n', n = n' + 1 := ⟨n - 1, by omega⟩
    obtain ⟨b, q, E⟩ := r
    have e : ps_r k g 38 (-38) (m + 1) (b, q, E) = if b = true ∧ k q = 38 then ps_r k g 38 (-38) m ((g (q + 1)).1, (g (q + 1)).2.1, E ++ (g (q + 1)).2.2 ++ [-38]) else (b, q, E) := rfl
    rw [lp_X5_learnBoth_d0_8, if_neg (nle_l (k := 100) (show v3 < 100 by omega) (by decide))]
    cases b with
    | false =>
      rw [if_neg (fun z => by cases z.1)] at e
      rw [e]
      exact ⟨S, Lr, if_pos rfl, h3, h6, fun z => by cases z⟩
    | true =>
      have hb := goBy_c hT ho h3 h5 (a := 38) (by decide)
      rw [if_neg nzt]
      by_cases c : k q = 38
      · rw [if_pos c] at hb
        rw [if_pos ⟨rfl, c⟩] at e
        rw [e]
        have hq : q < N := hT.1.lt c (by decide)
        have h6' : Lr.length + p0 ≤ q + L.length := h6
        have h4' : p0 ≤ q := h4
        obtain ⟨S2, L2, t1, t2, t3, t4⟩ := hF (sI S o 7 (nI (q + 1))) (q + 1) Lr (h3.mv (q + 1)) hq (by omega)
        have hgq := hg (q + 1) hq
        obtain ⟨g1, g2, g3⟩ := hgq
        cases c2 : (g (q + 1)).1 with
        | false =>
          rw [c2] at t1
          obtain ⟨S', L', u1, u2, u3, u4⟩ := ih n (v3 + 1) (false, (g (q + 1)).2.1, E ++ (g (q + 1)).2.2 ++ [-38]) S2 L2 (by omega) (by omega) t2 (by show p0 ≤ (g (q + 1)).2.1; omega) g2 (by show L2.length + p0 ≤ (g (q + 1)).2.1 + L.length; omega) (fun z => by cases z)
          refine ⟨S', L', ob_step hb ?_, u2, u3, u4⟩
          refine (if_neg nz1).trans (ob_step t1 ?_)
          refine (if_pos rfl).trans ?_
          rw [nI_1]
          exact u1
        | true =>
          rw [c2] at t1
          have e2 := t4 c2
          obtain ⟨S3, a1, a2⟩ := t2.ad (by omega) 19 0
          obtain ⟨S', L', u1, u2, u3, u4⟩ := ih n (v3 + 1) (true, (g (q + 1)).2.1, E ++ (g (q + 1)).2.2 ++ [-38]) S3 (L2 ++ [(19, 0)]) (by omega) (by omega) a2 (by show p0 ≤ (g (q + 1)).2.1; omega) g2 (by
            show (L2 ++ [_]).length + p0 ≤ (g (q + 1)).2.1 + L.length
            rw [List.length_append]
            show L2.length + 1 + p0 ≤ _
            omega) (fun _ => by
            show L2 ++ [(19, 0)] = L ++ (E ++ (g (q + 1)).2.2 ++ [-38]).map stepOf
            rw [e2, h7 rfl, List.map_append, List.map_append, List.append_assoc, List.append_assoc, List.append_assoc]
            show _ = L ++ (E.map stepOf ++ ((g (q + 1)).2.2.map stepOf ++ [stepOf (-38)]))
            rw [step_38])
          refine ⟨S', L', ob_step hb ?_, u2, u3, u4⟩
          refine (if_neg nz1).trans (ob_step t1 ?_)
          refine (if_neg nzt).trans (ob_step a1 ?_)
          refine (if_neg nz1).trans ?_
          rw [nI_1]
          exact u1
      · rw [if_neg c] at hb
        rw [if_neg (fun z => c z.2)] at e
        rw [e]
        refine ⟨S, Lr, ob_step hb ?_, h3, h6, h7⟩
        exact if_pos rfl
theorem wB_c0 (hT : hs_T S0 N k) (ho : 40 ≤ o) {g : Nat → PR} (hF : SimC S0 o N dv fv (fun S => r_X5_learnPart_d0 S o) g) (hg : PG N g) : SimC S0 o N dv fv (fun S => r_X5_learnBoth_d0 S o) (ps_B k g) := by
  intro S p L h hp hL
  obtain ⟨S1, L1, t1, t2, t3, t4⟩ := hF S p L h hp hL
  obtain ⟨g1, g2, g3⟩ := hg p hp
  obtain ⟨S2, L2, u1, u2, u3, u4⟩ := lpB_c0 hT ho hF hg hL 100 4000 0 (g p) S1 L1 (by omega) (by omega) t2 g1 g2 t3 t4
  refine ⟨S2, L2, ?_, u2, u3, u4⟩
  show r_X5_learnBoth_d0 S o = _
  unfold r_X5_learnBoth_d0
  exact ob_step t1 (ob_step u1 (gd01 _ _))
theorem lpE_c0 (hT : hs_T S0 N k) (ho : 40 ≤ o) {g : Nat → PR} (hF : SimC S0 o N dv fv (fun S => r_X5_learnBoth_d0 S o) g) (hg : PG N g) {L : List (Int32 × Int32)} {p0 : Nat} (hL : L.length ≤ p0) : ∀ m n v3 (r : PR) (S : St) (Lr : List (Int32 × Int32)), m + v3 = 100 → m < n → hs_C S0 o N dv fv S r.2.1 Lr → p0 ≤ r.2.1 → r.2.1 ≤ N → Lr.length + p0 ≤ r.2.1 + L.length → (r.1 = true → Lr = L ++ r.2.2.map stepOf) → ∃ S' L', lp_X5_learnEither_d0_8 o n (if r.1 = true then 1 else 0) (nI v3) S = some (if (ps_r k g 124 (-124) m r).1 = true then 1 else 0, S') ∧ hs_C S0 o N dv fv S' (ps_r k g 124 (-124) m r).2.1 L' ∧ L'.length + p0 ≤ (ps_r k g 124 (-124) m r).2.1 + L.length ∧ ((ps_r k g 124 (-124) m r).1 = true → L' = L ++ (ps_r k g 124 (-124) m r).2.2.map stepOf) := by
  have hN := hT.2.1
  intro m
  induction m with
  | zero =>
    intro n v3 r S Lr h1 h2 h3 h4 h5 h6 h7
    obtain ⟨n, rfl⟩ : ∃ n', n = n' + 1 := ⟨n - 1, by omega⟩
    obtain rfl : v3 = 100 := by omega
    refine ⟨S, Lr, ?_, h3, h6, h7⟩
    rw [lp_X5_learnEither_d0_8]
    exact if_pos (by decide)
  | succ m ih =>
    intro n v3 r S Lr h1 h2 h3 h4 h5 h6 h7
    obtain ⟨n, rfl⟩ : ∃ n', n = n' + 1 := ⟨n - 1, by omega⟩
    obtain ⟨b, q, E⟩ := r
    have e : ps_r k g 124 (-124) (m + 1) (b, q, E) = if b = true ∧ k q = 124 then ps_r k g 124 (-124) m ((g (q + 1)).1, (g (q + 1)).2.1, E ++ (g (q + 1)).2.2 ++ [-124]) else (b, q, E) := rfl
    rw [lp_X5_learnEither_d0_8, if_neg (nle_l (k := 100) (show v3 < 100 by omega) (by decide))]
    cases b with
    | false =>
      rw [if_neg (fun z => by cases z.1)] at e
      rw [e]
      exact ⟨S, Lr, if_pos rfl, h3, h6, fun z => by cases z⟩
    | true =>
      have hb := goBy_c hT ho h3 h5 (a := 124) (by decide)
      rw [if_neg nzt]
      by_cases c : k q = 124
      · rw [if_pos c] at hb
        rw [if_pos ⟨rfl, c⟩] at e
        rw [e]
        have hq : q < N := hT.1.lt c (by decide)
        have h6' : Lr.length + p0 ≤ q + L.length := h6
        have h4' : p0 ≤ q := h4
        obtain ⟨S2, L2, t1, t2, t3, t4⟩ := hF (sI S o 7 (nI (q + 1))) (q + 1) Lr (h3.mv (q + 1)) hq (by omega)
        have hgq := hg (q + 1) hq
        obtain ⟨g1, g2, g3⟩ := hgq
        cases c2 : (g (q + 1)).1 with
        | false =>
          rw [c2] at t1
          obtain ⟨S', L', u1, u2, u3, u4⟩ := ih n (v3 + 1) (false, (g (q + 1)).2.1, E ++ (g (q + 1)).2.2 ++ [-124]) S2 L2 (by omega) (by omega) t2 (by show p0 ≤ (g (q + 1)).2.1; omega) g2 (by show L2.length + p0 ≤ (g (q + 1)).2.1 + L.length; omega) (fun z => by cases z)
          refine ⟨S', L', ob_step hb ?_, u2, u3, u4⟩
          refine (if_neg nz1).trans (ob_step t1 ?_)
          refine (if_pos rfl).trans ?_
          rw [nI_1]
          exact u1
        | true =>
          rw [c2] at t1
          have e2 := t4 c2
          obtain ⟨S3, a1, a2⟩ := t2.ad (by omega) 20 0
          obtain ⟨S', L', u1, u2, u3, u4⟩ := ih n (v3 + 1) (true, (g (q + 1)).2.1, E ++ (g (q + 1)).2.2 ++ [-124]) S3 (L2 ++ [(20, 0)]) (by omega) (by omega) a2 (by show p0 ≤ (g (q + 1)).2.1; omega) g2 (by
            show (L2 ++ [_]).length + p0 ≤ (g (q + 1)).2.1 + L.length
            rw [List.length_append]
            show L2.length + 1 + p0 ≤ _
            omega) (fun _ => by
            show L2 ++ [(20, 0)] = L ++ (E ++ (g (q + 1)).2.2 ++ [-124]).map stepOf
            rw [e2, h7 rfl, List.map_append, List.map_append, List.append_assoc, List.append_assoc, List.append_assoc]
            show _ = L ++ (E.map stepOf ++ ((g (q + 1)).2.2.map stepOf ++ [stepOf (-124)]))
            rw [step_124])
          refine ⟨S', L', ob_step hb ?_, u2, u3, u4⟩
          refine (if_neg nz1).trans (ob_step t1 ?_)
          refine (if_neg nzt).trans (ob_step a1 ?_)
          refine (if_neg nz1).trans ?_
          rw [nI_1]
          exact u1
      · rw [if_neg c] at hb
        rw [if_neg (fun z => c z.2)] at e
        rw [e]
        refine ⟨S, Lr, ob_step hb ?_, h3, h6, h7⟩
        exact if_pos rfl
theorem wE_c0 (hT : hs_T S0 N k) (ho : 40 ≤ o) {g : Nat → PR} (hF : SimC S0 o N dv fv (fun S => r_X5_learnBoth_d0 S o) g) (hg : PG N g) : SimC S0 o N dv fv (fun S => r_X5_learnEither_d0 S o) (ps_W k g) := by
  intro S p L h hp hL
  obtain ⟨S1, L1, t1, t2, t3, t4⟩ := hF S p L h hp hL
  obtain ⟨g1, g2, g3⟩ := hg p hp
  obtain ⟨S2, L2, u1, u2, u3, u4⟩ := lpE_c0 hT ho hF hg hL 100 4000 0 (g p) S1 L1 (by omega) (by omega) t2 g1 g2 t3 t4
  refine ⟨S2, L2, ?_, u2, u3, u4⟩
  show r_X5_learnEither_d0 S o = _
  unfold r_X5_learnEither_d0
  exact ob_step t1 (ob_step u1 (gd01 _ _))
theorem either_c0 (hT : hs_T S0 N k) (ho : 40 ≤ o) : SimC S0 o N dv fv (fun S => r_X5_learnEither_d0 S o) (ps_E k (ps_p k 4)) :=
  wE_c0 hT ho (wB_c0 hT ho (part_c0 hT ho) (ps_p_ok hT.1 4)) (ps_B_ok hT.1 (ps_p_ok hT.1 4))
end
