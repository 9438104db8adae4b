/-! HOUSE: the model's clauses, and its whole reading -/
def mt_S (t N : Nat) (S : St) (p : Nat) (M : List Int32) : Prop := S.1 76 13 = nI p ∧ S.1 76 12 = nI N ∧ S.1 76 23 = nI (100 * t + M.length) ∧ ∀ i x, M[i]? = some x → S.1 90 (100 * t + i) = x
theorem mt_S.n {t N p : Nat} {S : St} {M : List Int32} (h : mt_S t N S p M) (c : Nat) : ms_N S t c N S p M := ⟨h.1, h.2.1, h.2.2.1, h.2.2.2, fun _ _ => rfl, fun _ _ _ _ _ => rfl, fun _ _ => rfl, fun _ _ _ _ _ _ => rfl, rfl⟩
theorem ms_N.s {t c N p : Nat} {S0 S : St} {M : List Int32} (h : ms_N S0 t c N S p M) : mt_S t N S p M := ⟨h.1, h.2.1, h.2.2.1, h.2.2.2.1⟩
theorem expr_m {S : St} {t c N p : Nat} {k : Nat → Nat} {M : List Int32} (ht : t < 6) (hc : c < 60) (hT : ms_T S N k) (h : mt_S t N S p M) (hp : p ≤ N) (hl : M.length ≤ p) : ∃ S', r_X12_takesE S (nI c) = some (if (ps_E k (ps_p k 4) p).1 = true then 1 else 0, S') ∧ ((ps_E k (ps_p k 4) p).1 = true → ms_M (me_S S c) t c N S' (ps_E k (ps_p k 4) p).2.1 (M ++ (ps_E k (ps_p k 4) p).2.2) [] ∧ S'.1 89 c = nI (100 * t + (M ++ (ps_E k (ps_p k 4) p).2.2).length) ∧ (M ++ (ps_E k (ps_p k 4) p).2.2).length ≤ (ps_E k (ps_p k 4) p).2.1) ∧ ((ps_E k (ps_p k 4) p).1 = false → ∃ M' W', ms_M (me_S S c) t c N S' (ps_E k (ps_p k 4) p).2.1 M' W') := by
  have hN := hT.2.1
  obtain ⟨h1, h2, h3, h6⟩ := h
  have hT' : ms_T (me_S S c) N k := ⟨hT.1, hT.2.1, hT.2.2⟩
  have h0 : ms_M (me_S S c) t c N (me_S S c) p M [] := ⟨h1, h2, h3, rfl, rfl, h6, True.intro, fun _ _ => rfl, fun _ _ _ _ _ => rfl, fun _ _ => rfl, fun _ _ _ _ _ _ => rfl, rfl⟩
  have hg := ps_p_ok hT.1 4
  obtain ⟨g1, g2, g3⟩ := ps_E_ok hT.1 hg p hp
  obtain ⟨b1, b2⟩ := either_m ht hT' hg (part_m ht hc hT' 4 0 rfl) [] 4000 (me_S S c) p M True.intro h0 hp (by show M.length + 0 ≤ p; omega) rfl (by omega)
  have pre : ∀ tag S', lp_X12_takesE_22 (nI c) 4000 1 (me_S S c) = some (tag, S') → r_X12_takesE S (nI c) = some (if tag = 2 then 1 else 0, S') := by
    intro tag S' hlp
    unfold r_X12_takesE
    rw [gdN hc (by decide), nI_clamp (by omega)]
    refine ob_step hlp ?_
    show (if tag = 0 then some ((0 : Int32), S') else if tag = 1 then some (0, S') else if tag = 2 then some (1, S') else some (0, S')) = _
    by_cases y0 : tag = 0
    · subst y0
      rfl
    rw [if_neg y0]
    by_cases y1 : tag = 1
    · subst y1
      rfl
    rw [if_neg y1]
    split <;> rfl
  cases d1 : (ps_E k (ps_p k 4) p).1 with
  | false =>
    obtain ⟨tag, S', M', W', c1, c2, c3⟩ := b2 d1
    refine ⟨S', ?_, fun z => by (cases z), fun _ => ⟨M', W', c3⟩⟩
    rw [pre _ _ c1, if_neg c2]
    rfl
  | true =>
    obtain ⟨n', S', M', W', c1, c2, c3, c4, c5⟩ := b1 d1
    obtain ⟨e1, e2⟩ := ps_E_end hT.1 hN hg hp d1
    obtain ⟨n', rfl⟩ : ∃ n2, n' = n2 + 1 := ⟨n' - 1, by omega⟩
    obtain ⟨S4, f1, f2, f3⟩ := me_end (n := n') ht hc hT' c2 g2 e1 e2 (by omega) c3
    have hlen := se_len true W' M'
    rw [c3] at hlen
    have hlen' : (M ++ (ps_E k (ps_p k 4) p).2.2).length + 0 = M'.length + W'.length := hlen
    rw [if_pos (show nI ([] : List Nat).length = 0 from rfl)] at f3
    refine ⟨S4, ?_, fun _ => ⟨f1, f2, by omega⟩, fun z => by (cases z)⟩
    rw [pre _ _ (c1.trans f3)]
    rfl
/-- all but this clause's is as it was -/
def mt_F (t cc : Nat) (S S' : St) : Prop := (∀ j, j < 85 ∨ 91 < j → j ≠ 76 → S'.1 j = S.1 j) ∧ S'.1 85 = S.1 85 ∧ (∀ i, i < 10 * t + cc → S'.1 86 i = S.1 86 i ∧ S'.1 87 i = S.1 87 i ∧ S'.1 88 i = S.1 88 i ∧ S'.1 89 i = S.1 89 i) ∧ (∀ i, i < 100 * t → S'.1 90 i = S.1 90 i) ∧ (∀ j, j ≠ 13 → j ≠ 14 → j ≠ 23 → j ≠ 24 → j ≠ 25 → S'.1 76 j = S.1 76 j) ∧ S'.2 = S.2
section
variable {S S' S2 : St} {t cc c N p : Nat} {k : Nat → Nat} {M : List Int32}
theorem mt_F.tr (h : mt_F t cc S S') (h2 : mt_F t cc S' S2) : mt_F t cc S S2 := by
  obtain ⟨a1, a2, a3, a4, a5, a6⟩ := h
  obtain ⟨b1, b2, b3, b4, b5, b6⟩ := h2
  refine ⟨fun j x y => (b1 j x y).trans (a1 j x y), b2.trans a2, fun i hi => ?_, fun i hi => (b4 i hi).trans (a4 i hi), fun j x1 x2 x3 x4 x5 => (b5 j x1 x2 x3 x4 x5).trans (a5 j x1 x2 x3 x4 x5), b6.trans a6⟩
  obtain ⟨u1, u2, u3, u4⟩ := a3 i hi
  obtain ⟨w1, w2, w3, w4⟩ := b3 i hi
  exact ⟨w1.trans u1, w2.trans u2, w3.trans u3, w4.trans u4⟩
theorem ms_N.f (h : ms_N S t c N S' p M) (hc : 10 * t + cc ≤ c) : mt_F t cc S S' := by
  obtain ⟨h1, h2, h3, h6, h8, h9, h10, h11, h12⟩ := h
  refine ⟨fun j x y => h9 j y (by omega) (by omega) (by omega), h9 85 (by decide) (by decide) (by decide) (by decide), fun i hi => ⟨?_, ?_, ?_, h10 i (by omega)⟩, h8, h11, h12⟩
  · rw [h9 86 (by decide) (by decide) (by decide) (by decide)]
  · rw [h9 87 (by decide) (by decide) (by decide) (by decide)]
  · rw [h9 88 (by decide) (by decide) (by decide) (by decide)]
theorem mt_F_86 (hc : 10 * t + cc ≤ c) (v : Int32) : mt_F t cc S (mh_B S c v) := by
  refine ⟨fun j x y => sA_ne (by omega), rfl, fun i hi => ⟨upd_ne (by omega), rfl, rfl, rfl⟩, fun _ _ => rfl, fun _ _ _ _ _ _ => rfl, rfl⟩
theorem mt_F_87 (hc : 10 * t + cc ≤ c) (v : Int32) : mt_F t cc S (sA S 87 (upd (S.1 87) c v)) := by
  refine ⟨fun j x y => sA_ne (by omega), rfl, fun i hi => ⟨rfl, upd_ne (by omega), rfl, rfl⟩, fun _ _ => rfl, fun _ _ _ _ _ _ => rfl, rfl⟩
theorem mt_F_13 (v : Int32) : mt_F t cc S (sI S 76 13 v) := by
  refine ⟨fun j x y => sI_ne y, rfl, fun i hi => ⟨rfl, rfl, rfl, rfl⟩, fun _ _ => rfl, fun j a _ _ _ _ => sI_sl a, rfl⟩
theorem mt_F_me (hc : 10 * t + cc ≤ c) : mt_F t cc S (me_S S c) := by
  refine ⟨fun j x y => ?_, rfl, fun i hi => ⟨rfl, rfl, upd_ne (by omega), rfl⟩, fun _ _ => rfl, fun j a b d e f => ?_, rfl⟩
  · show (sA (sI (sI S 76 24 0) 76 25 0) 88 (upd (S.1 88) c (S.1 76 23))).1 j = _
    rw [sA_ne (by omega), sI_ne y, sI_ne y]
  · show (sA (sI (sI S 76 24 0) 76 25 0) 88 (upd (S.1 88) c (S.1 76 23))).1 76 j = _
    rw [sA_ne (by decide), sI_sl f, sI_sl e]
end
def mc_R (S : St) (t cc N : Nat) (M : List Int32) (S' : St) (r : Bool × Nat × PC) : Prop := mt_F t cc S S' ∧ S'.1 76 13 = nI r.2.1 ∧ (r.1 = true → mt_S t N S' r.2.1 (M ++ r.2.2.2.2) ∧ (M ++ r.2.2.2.2).length ≤ r.2.1 ∧ S'.1 86 (10 * t + cc) = nI r.2.2.1 ∧ S'.1 87 (10 * t + cc) = nI r.2.2.2.1 ∧ (r.2.2.1 < 2 → S'.1 88 (10 * t + cc) = nI (100 * t + M.length) ∧ S'.1 89 (10 * t + cc) = nI (100 * t + (M ++ r.2.2.2.2).length) ∧ codeOk r.2.2.2.2 0))
theorem clause_m {S : St} {t cc N p : Nat} {k : Nat → Nat} {M : List Int32} (ht : t < 6) (hcc : cc < 10) (hT : ms_T S N k) (hL : S.1 92 = g_92) (h : mt_S t N S p M) (hp : p ≤ N) (hl : M.length ≤ p) : ∃ S', r_X12_takesClause S (nI (10 * t + cc)) = some (if (ps_c k p).1 = true then 1 else 0, S') ∧ mc_R S t cc N M S' (ps_c k p) := by
  have hN := hT.2.1
  have hc : 10 * t + cc < 60 := by omega
  have hcl : (nI (10 * t + cc)).toNatClampNeg = 10 * t + cc := nI_clamp (by omega)
  obtain ⟨v, S1, hR⟩ := head_m hc hT hL (h.n (10 * t + cc)) hp
  obtain ⟨g1, g2, g3⟩ := ps_w_ok hT.1 hp
  have fB : mt_F t cc S (mh_B S (10 * t + cc) v) := mt_F_86 (Nat.le_refl _) v
  unfold r_X12_takesClause
  rcases hR with ⟨w, e, ev, hw⟩ | ⟨e, h1, h2⟩
  rotate_left
  · rw [ps_c_no e]
    refine ⟨S1, ob_step h1 (if_pos rfl), fB.tr (h2.f (Nat.le_refl _)), h2.1, fun z => by cases z⟩
  rw [ps_c_so e]
  obtain ⟨w3, g4⟩ := g3 w e
  generalize (ps_w k p).2 = p2 at hw g1 g2 g4
  rcases hw with ⟨c1, h1, h2⟩ | ⟨c1, h1, h2⟩
  rotate_left
  · rw [ps_k_n c1]
    refine ⟨S1, ob_step h1 (if_pos rfl), fB.tr (h2.f (Nat.le_refl _)), h2.1, fun z => by cases z⟩
  have hTB : ms_T (mh_B S (10 * t + cc) v) N k := ⟨hT.1, hT.2.1, hT.2.2⟩
  have hp1 : p2 < N := hT.1.lt c1 (by decide)
  obtain ⟨S2, n1, n2, n3⟩ := num_n hTB h2 hp1
  obtain ⟨m1, m2, m3⟩ := ps_n_ok hT.1 (p := p2 + 1) hp1
  have f2 : mt_F t cc S S2 := fB.tr (n2.f (Nat.le_refl _))
  cases e2 : (ps_n k (p2 + 1)).1 with
  | none =>
    rw [e2] at n1
    rw [ps_k_no c1 e2]
    refine ⟨S2, ob_step h1 ((if_neg nz1).trans (ob_step n1 (if_pos rfl))), f2, n2.1, fun z => by cases z⟩
  | some n =>
    rw [e2] at n1
    rw [ps_k_so c1 e2]
    obtain ⟨m4, m5⟩ := m3 n e2
    have e14 := n3 n e2
    generalize (ps_n k (p2 + 1)).2 = p3 at n2 m1 m2 m5
    have e86 : S2.1 86 (10 * t + cc) = nI w := by
      rw [n2.2.2.2.2.2.1 86 (by decide) (by decide) (by decide) (by decide)]
      show upd (S.1 86) (10 * t + cc) v (10 * t + cc) = nI w
      rw [upd_at, ev]
    have f3 : mt_F t cc S (sA S2 87 (upd (S2.1 87) (10 * t + cc) (nI n))) := f2.tr (mt_F_87 (Nat.le_refl _) _)
    have s3 : mt_S t N (sA S2 87 (upd (S2.1 87) (10 * t + cc) (nI n))) p3 M := n2.s
    have e87 : (sA S2 87 (upd (S2.1 87) (10 * t + cc) (nI n))).1 87 (10 * t + cc) = nI n := upd_at _ _ _
    have e86' : (sA S2 87 (upd (S2.1 87) (10 * t + cc) (nI n))).1 86 (10 * t + cc) = nI w := e86
    have hT3 : ms_T (sA S2 87 (upd (S2.1 87) (10 * t + cc) (nI n))) N k := ⟨hT.1, hT.2.1, fun i hi => by
      rw [f3.1 84 (by omega) (by decide)]
      exact hT.2.2 i hi⟩
    have pre : ∀ y, (if 2 ≤ nI w then some ((1 : Int32), sA S2 87 (upd (S2.1 87) (10 * t + cc) (nI n))) else (r_X12_takes (sA S2 87 (upd (S2.1 87) (10 * t + cc) (nI n))) 32).bind fun q3 => if q3.1 = 0 then some (0, q3.2) else (r_X12_takesE q3.2 (nI (10 * t + cc))).bind fun q4 => if q4.1 = 0 then some (0, q4.2) else some (1, q4.2)) = y → ((r_X12_takesHead S (nI (10 * t + cc))).bind fun q1 => if q1.1 = 0 then some (0, q1.2) else (r_X12_takesNumber q1.2).bind fun q2 => if q2.1 = 0 then some (0, q2.2) else gd (¬ (nI (10 * t + cc) < 0 ∨ 60 ≤ (nI (10 * t + cc)).toNatClampNeg)) (gd (¬ (nI (10 * t + cc) < 0 ∨ 60 ≤ (nI (10 * t + cc)).toNatClampNeg)) (if 2 ≤ ((q2.2.1 86) (nI (10 * t + cc)).toNatClampNeg) then some (1, sA q2.2 87 (upd (q2.2.1 87) (nI (10 * t + cc)).toNatClampNeg (q2.2.1 76 14))) else (r_X12_takes (sA q2.2 87 (upd (q2.2.1 87) (nI (10 * t + cc)).toNatClampNeg (q2.2.1 76 14))) 32).bind fun q3 => if q3.1 = 0 then some (0, q3.2) else (r_X12_takesE q3.2 (nI (10 * t + cc))).bind fun q4 => if q4.1 = 0 then some (0, q4.2) else some (1, q4.2)))) = y := by
      intro y hy
      refine ob_step h1 ((if_neg nz1).trans (ob_step n1 ((if_neg nz1).trans ?_)))
      rw [gdN hc (by decide), gdN hc (by decide), hcl]
      show (if 2 ≤ S2.1 86 (10 * t + cc) then some ((1 : Int32), sA S2 87 (upd (S2.1 87) (10 * t + cc) (S2.1 76 14))) else (r_X12_takes (sA S2 87 (upd (S2.1 87) (10 * t + cc) (S2.1 76 14))) 32).bind fun q3 => if q3.1 = 0 then some (0, q3.2) else (r_X12_takesE q3.2 (nI (10 * t + cc))).bind fun q4 => if q4.1 = 0 then some (0, q4.2) else some (1, q4.2)) = y
      rw [e86, e14]
      exact hy
    clear n1 n2 n3 h1 h2 e14
    generalize sA S2 87 (upd (S2.1 87) (10 * t + cc) (nI n)) = S3 at f3 s3 e87 e86' hT3 pre
    by_cases c2 : 2 ≤ w
    · have ee : ps_e k w n p3 = (true, p3, w, n, []) := if_pos c2
      rw [ee]
      refine ⟨S3, pre _ (if_pos (nI_le (a := 2) c2 (by omega))), f3, s3.1, fun _ => ⟨?_, ?_, e86', e87, fun z => absurd z (by show ¬ w < 2; omega)⟩⟩
      · show mt_S t N S3 p3 (M ++ [])
        rw [List.append_nil]
        exact s3
      · show (M ++ []).length ≤ p3
        rw [List.append_nil]
        omega
    have ee : ps_e k w n p3 = if k p3 = 32 then ((ps_E k (ps_p k 4) (p3 + 1)).1, (ps_E k (ps_p k 4) (p3 + 1)).2.1, w, n, (ps_E k (ps_p k 4) (p3 + 1)).2.2) else (false, p3, w, n, []) := if_neg c2
    have w2 : ¬ (2 : Int32) ≤ nI w := nI_ge (b := 2) (by omega) (by decide)
    have ht3 := takes_n hT3 (s3.n 0) m2 (a := 32) (by decide)
    rw [ee]
    by_cases c3 : k p3 = 32
    · rw [if_pos c3] at ht3 ⊢
      have hp4 : p3 < N := hT.1.lt c3 (by decide)
      have s4 : mt_S t N (sI S3 76 13 (nI (p3 + 1))) (p3 + 1) M := ((s3.n 0).mv (p3 + 1)).s
      obtain ⟨S5, x1, x2, x3⟩ := expr_m ht hc (S := sI S3 76 13 (nI (p3 + 1))) ⟨hT3.1, hT3.2.1, hT3.2.2⟩ s4 hp4 (by omega)
      have f4 : mt_F t cc S (me_S (sI S3 76 13 (nI (p3 + 1))) (10 * t + cc)) := (f3.tr (mt_F_13 _)).tr (mt_F_me (Nat.le_refl _))
      cases d : (ps_E k (ps_p k 4) (p3 + 1)).1 with
      | false =>
        rw [d] at x1
        obtain ⟨M', W', y1⟩ := x3 d
        refine ⟨S5, pre _ ((if_neg w2).trans (ob_step ht3 ((if_neg nz1).trans (ob_step x1 (if_pos rfl))))), f4.tr (y1.n.f (Nat.le_refl _)), y1.1, fun z => by cases z⟩
      | true =>
        rw [d] at x1
        obtain ⟨y1, y2, y3⟩ := x2 d
        have yf := y1.n
        refine ⟨S5, pre _ ((if_neg w2).trans (ob_step ht3 ((if_neg nz1).trans (ob_step x1 (if_neg nzt))))), f4.tr (yf.f (Nat.le_refl _)), y1.1, fun _ => ⟨yf.s, y3, ?_, ?_, fun _ => ⟨?_, y2, ps_code hT.1 hp4 d⟩⟩⟩
        · rw [yf.2.2.2.2.2.1 86 (by decide) (by decide) (by decide) (by decide)]
          exact e86'
        · rw [yf.2.2.2.2.2.1 87 (by decide) (by decide) (by decide) (by decide)]
          exact e87
        · rw [yf.2.2.2.2.2.1 88 (by decide) (by decide) (by decide) (by decide)]
          show upd (S3.1 88) (10 * t + cc) (S3.1 76 23) (10 * t + cc) = _
          rw [upd_at]
          exact s3.2.2.1
    · rw [if_neg c3] at ht3 ⊢
      refine ⟨S3, pre _ ((if_neg w2).trans (ob_step ht3 (if_pos rfl))), f3, s3.1, fun z => by cases z⟩
