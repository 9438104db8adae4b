/-! HOUSE: the model's words, clauses -/
/-- as ms_M, whatever waits -/
def ms_N (S0 : St) (t c N : Nat) (S : St) (p : Nat) (M : List Int32) : Prop :=
  S.1 76 13 = nI p ∧ S.1 76 12 = nI N ∧ S.1 76 23 = nI (100 * t + M.length) ∧ (∀ i x, M[i]? = some x → S.1 90 (100 * t + i) = x) ∧ (∀ i, i < 100 * t → S.1 90 i = S0.1 90 i) ∧ (∀ j, j ≠ 76 → j ≠ 89 → j ≠ 90 → j ≠ 91 → S.1 j = S0.1 j) ∧ (∀ i, i ≠ c → S.1 89 i = S0.1 89 i) ∧ (∀ j, j ≠ 13 → j ≠ 14 → j ≠ 23 → j ≠ 24 → j ≠ 25 → S.1 76 j = S0.1 76 j) ∧ S.2 = S0.2
theorem ms_M.n {S0 S : St} {t c N p : Nat} {M : List Int32} {W : List Nat} (h : ms_M S0 t c N S p M W) : ms_N S0 t c N S p M := by
  obtain ⟨h1, h2, h3, h4, h5, h6, h7, h8, h9, h10, h11, h12⟩ := h
  exact ⟨h1, h2, h3, h6, h8, h9, h10, h11, h12⟩
section
variable {S0 S : St} {t c N p : Nat} {k : Nat → Nat} {M : List Int32}
theorem ms_N.mv (h : ms_N S0 t c N S p M) (q : Nat) : ms_N S0 t c N (sI S 76 13 (nI q)) q M := by
  obtain ⟨h1, h2, h3, h6, h8, h9, h10, h11, h12⟩ := h
  refine ⟨rfl, h2, h3, h6, h8, fun j a b d e => ?_, h10, fun j a b d e f => ?_, h12⟩
  · rw [sI_ne a]
    exact h9 j a b d e
  · rw [sI_sl a]
    exact h11 j a b d e f
theorem ms_N.dg (h : ms_N S0 t c N S p M) (v : Int32) : ms_N S0 t c N (sI S 76 14 v) p M := by
  obtain ⟨h1, h2, h3, h6, h8, h9, h10, h11, h12⟩ := h
  refine ⟨h1, h2, h3, h6, h8, fun j a b d e => ?_, h10, fun j a b d e f => ?_, h12⟩
  · rw [sI_ne a]
    exact h9 j a b d e
  · rw [sI_sl b]
    exact h11 j a b d e f
theorem sign_n (hT : ms_T S0 N k) (h : ms_N S0 t c N S p M) (hp : p ≤ N) : r_X12_next S = some (sg N k p) := by
  have hN := hT.2.1
  obtain ⟨h1, h2, h3, h6, h8, h9, h10, h11, h12⟩ := h
  unfold r_X12_next sg
  rw [h1, h2]
  by_cases w : p < N
  · rw [if_pos w, if_neg (nI_ge w (by omega)), gdN (show p < 100 by omega) (by decide), nI_clamp (by omega), h9 84 (by decide) (by decide) (by decide) (by decide), hT.2.2 p w]
  · rw [if_neg w, if_pos (nI_le (by omega) (by omega))]
theorem takes_n (hT : ms_T S0 N k) (h : ms_N S0 t c N S p M) (hp : p ≤ N) {a : Nat} (ha : a ≤ 127) : r_X12_takes S (nI a) = some (if k p = a then (1, sI S 76 13 (nI (p + 1))) else (0, S)) := by
  unfold r_X12_takes
  rw [h.1, nI_1]
  refine ob_step (sign_n hT h hp) ?_
  rw [sg_if hT.1 ha]
  split <;> rfl
theorem isd_n (hT : ms_T S0 N k) (h : ms_N S0 t c N S p M) (hp : p ≤ N) : r_X12_isDigit S = some (if ps_d (k p) = true then 1 else 0) := by
  unfold r_X12_isDigit
  refine ob_step (sign_n hT h hp) ?_
  rw [dig_m hT.1]
  exact gd01 _ _
theorem num_ns (hT : ms_T S0 N k) (h : ms_N S0 t c N S p M) (hp : p ≤ N) {n : Nat} {v1 : Int32} (h2 : ¬ (2 : Int32) ≤ v1) : lp_X12_takesNumber_16 (n + 1) v1 S = if ps_d (k p) = true then lp_X12_takesNumber_16 n (v1 + 1) (sI (sI S 76 14 (((10 : Int32) * S.1 76 14 + nI (k p)) - 48)) 76 13 (nI (p + 1))) else some S := by
  rw [lp_X12_takesNumber_16, if_neg h2]
  refine ob_step (isd_n hT h hp) ?_
  by_cases w : ps_d (k p) = true
  · obtain ⟨a1, a2, a3, a4, a5, a6⟩ := sg_dy hT.1 w
    rw [w, if_neg nzt, if_pos rfl]
    refine ob_step (sign_n hT h hp) ?_
    rw [a4, h.1, nI_1]
  · rw [if_neg w, if_neg w]
    exact if_pos rfl
theorem num_n (hT : ms_T S0 N k) (h : ms_N S0 t c N S p M) (hp : p ≤ N) : ∃ S', r_X12_takesNumber S = some ((match (ps_n k p).1 with | some _ => 1 | none => 0), S') ∧ ms_N S0 t c N S' (ps_n k p).2 M ∧ ∀ n, (ps_n k p).1 = some n → S'.1 76 14 = nI n := by
  unfold r_X12_takesNumber ps_n
  by_cases a : ps_d (k p) = true
  · obtain ⟨a1, a2, a3, -, -, -⟩ := sg_dy hT.1 a
    have e1 : ((10 : Int32) * 0 + nI (k p)) - 48 = nI (k p - 48) := by
      rw [show (10 : Int32) * 0 = nI 0 from by decide, nI_add, Nat.zero_add]
      exact nI_sub (b := 48) a2
    have h0 := h.dg 0
    have h1 := (h0.dg (nI (k p - 48))).mv (p + 1)
    by_cases b : ps_d (k (p + 1)) = true
    · obtain ⟨b1, b2, b3, -, -, -⟩ := sg_dy hT.1 b
      have e2 : ((10 : Int32) * nI (k p - 48) + nI (k (p + 1))) - 48 = nI (10 * (k p - 48) + (k (p + 1) - 48)) := by
        rw [show (10 : Int32) = nI 10 from rfl, nI_mul, nI_add]
        refine (nI_sub (b := 48) (by omega)).trans ?_
        congr 1
        omega
      rw [if_pos a, if_pos b]
      refine ⟨_, ?_, (h1.dg (nI (10 * (k p - 48) + (k (p + 1) - 48)))).mv (p + 2), fun n hn => ?_⟩
      · refine ob_step (isd_n hT h hp) ?_
        rw [a, if_neg nzt]
        refine ob_step (a := sI (sI (sI (sI (sI S 76 14 0) 76 14 (nI (k p - 48))) 76 13 (nI (p + 1))) 76 14 (nI (10 * (k p - 48) + (k (p + 1) - 48)))) 76 13 (nI (p + 2))) ?_ rfl
        rw [num_ns hT h0 hp (by decide), if_pos a]
        show lp_X12_takesNumber_16 3999 1 (sI (sI (sI S 76 14 0) 76 14 (((10 : Int32) * 0 + nI (k p)) - 48)) 76 13 (nI (p + 1))) = _
        rw [e1, num_ns hT h1 a1 (by decide), if_pos b]
        show lp_X12_takesNumber_16 3998 2 (sI (sI (sI (sI (sI S 76 14 0) 76 14 (nI (k p - 48))) 76 13 (nI (p + 1))) 76 14 (((10 : Int32) * nI (k p - 48) + nI (k (p + 1))) - 48)) 76 13 (nI (p + 2))) = _
        rw [e2, lp_X12_takesNumber_16]
        exact if_pos (by decide)
      · have := Option.some.inj hn
        rw [← this]
        rfl
    · rw [if_pos a, if_neg b]
      refine ⟨_, ?_, h1, fun n hn => ?_⟩
      · refine ob_step (isd_n hT h hp) ?_
        rw [a, if_neg nzt]
        refine ob_step (a := sI (sI (sI S 76 14 0) 76 14 (nI (k p - 48))) 76 13 (nI (p + 1))) ?_ rfl
        rw [num_ns hT h0 hp (by decide), if_pos a]
        show lp_X12_takesNumber_16 3999 1 (sI (sI (sI S 76 14 0) 76 14 (((10 : Int32) * 0 + nI (k p)) - 48)) 76 13 (nI (p + 1))) = _
        rw [e1, num_ns hT h1 a1 (by decide), if_neg b]
      · have := Option.some.inj hn
        rw [← this]
        rfl
  · rw [if_neg a]
    refine ⟨S, ?_, h, fun n hn => by cases hn⟩
    refine ob_step (isd_n hT h hp) ?_
    rw [if_neg a]
    exact if_pos rfl
theorem second_n (hT : ms_T S0 N k) (h : ms_N S0 t c N S p M) (hp : p ≤ N) : r_X12_second S = some (sg N k (p + 1)) := by
  have hN := hT.2.1
  obtain ⟨h1, h2, h3, h6, h8, h9, h10, h11, h12⟩ := h
  unfold r_X12_second sg
  rw [h1, h2, nI_1]
  by_cases w : p + 1 < N
  · rw [if_pos w, if_neg (nI_ge w (by omega)), gdN (show p + 1 < 100 by omega) (by decide), nI_clamp (by omega), h9 84 (by decide) (by decide) (by decide) (by decide), hT.2.2 _ w]
  · rw [if_neg w, if_pos (nI_le (by omega) (by omega))]
def lt92 : Nat → List Nat → Prop
  | _, [] => True
  | j, x :: r => g_92 j = nI x ∧ x ≤ 127 ∧ lt92 (j + 1) r
theorem lt_3 : lt92 0 [102, 117, 110] := ⟨by decide, by decide, by decide, by decide, by decide, by decide, True.intro⟩
theorem lt_4 : lt92 3 [115, 111, 117, 114] := ⟨by decide, by decide, by decide, by decide, by decide, by decide, by decide, by decide, True.intro⟩
theorem lt_5 : lt92 7 [100, 97, 121, 115] := ⟨by decide, by decide, by decide, by decide, by decide, by decide, by decide, by decide, True.intro⟩
theorem lt_6 : lt92 11 [102, 97, 99, 101] := ⟨by decide, by decide, by decide, by decide, by decide, by decide, by decide, by decide, True.intro⟩
theorem lp_tw (hT : ms_T S0 N k) (hL : S0.1 92 = g_92) {f m : Nat} (hf : f + m ≤ 15) : ∀ (R : List Nat) (j n : Nat) (S : St) (p : Nat), lt92 (f + j) R → j + R.length = m → R.length < n → ms_N S0 t c N S p M → p ≤ N → ∃ S', lp_X12_takesWord_2 (nI f) (nI m) n (nI j) S = some (if ps_a k p R = R.length then 1 else 0, S') ∧ ms_N S0 t c N S' (p + ps_a k p R) M
  | [], j, n, S, p, h1, h2, h3, h, hp => by
    obtain ⟨n, rfl⟩ : ∃ n', n = n' + 1 := ⟨n - 1, by omega⟩
    have h2' : j + 0 = m := h2
    refine ⟨S, ?_, h⟩
    rw [lp_X12_takesWord_2]
    exact (if_pos (nI_le (by omega) (by omega))).trans (by rw [if_pos (show ps_a k p [] = ([] : List Nat).length from rfl)])
  | x :: r, j, n, S, p, h1, h2, h3, h, hp => by
    obtain ⟨n, rfl⟩ : ∃ n', n = n' + 1 := ⟨n - 1, by omega⟩
    have h2' : j + (r.length + 1) = m := h2
    have h3' : r.length + 1 < n + 1 := h3
    have e92 : S.1 92 = g_92 := by
      rw [h.2.2.2.2.2.1 92 (by decide) (by decide) (by decide) (by decide)]
      exact hL
    have ea : ps_a k p (x :: r) = if k p = x then ps_a k (p + 1) r + 1 else 0 := rfl
    have el : (x :: r).length = r.length + 1 := rfl
    rw [lp_X12_takesWord_2, if_neg (nI_ge (by omega) (by omega)), nI_add, gdN (show f + j < 15 by omega) (by decide), nI_clamp (by omega), e92, h1.1, nI_1, ea, el]
    have ht := takes_n hT h hp h1.2.1
    by_cases d : k p = x
    · rw [if_pos d] at ht
      rw [if_pos d]
      have hp1 : p < N := hT.1.lt d h1.2.1
      obtain ⟨S', a1, a2⟩ := lp_tw hT hL hf r (j + 1) n (sI S 76 13 (nI (p + 1))) (p + 1) h1.2.2 (by omega) (by omega) (h.mv (p + 1)) hp1
      refine ⟨S', ob_step ht ((if_neg nz1).trans ?_), ?_⟩
      · refine a1.trans ?_
        congr 2
        by_cases y : ps_a k (p + 1) r = r.length
        · rw [if_pos y, if_pos (by omega)]
        · rw [if_neg y, if_neg (by omega)]
      · rw [show p + (ps_a k (p + 1) r + 1) = p + 1 + ps_a k (p + 1) r by omega]
        exact a2
    · rw [if_neg d] at ht
      rw [if_neg d]
      refine ⟨S, ob_step ht ((if_pos rfl).trans ?_), h⟩
      rw [if_neg (by omega)]
theorem tw_n (hT : ms_T S0 N k) (hL : S0.1 92 = g_92) {f : Nat} {R : List Nat} (hf : f + R.length ≤ 15) (hR : lt92 f R) (h : ms_N S0 t c N S p M) (hp : p ≤ N) (ha : p + ps_a k p R ≤ N) : ∃ S', (ps_a k p R = R.length → k (p + ps_a k p R) = 32 → r_X12_takesWord S (nI f) (nI R.length) = some (1, S') ∧ ms_N S0 t c N S' (p + ps_a k p R + 1) M) ∧ ((ps_a k p R ≠ R.length ∨ k (p + ps_a k p R) ≠ 32) → r_X12_takesWord S (nI f) (nI R.length) = some (0, S') ∧ ms_N S0 t c N S' (p + ps_a k p R) M) := by
  obtain ⟨S1, a1, a2⟩ := lp_tw (t := t) (c := c) (M := M) hT hL (f := f) (m := R.length) hf R 0 4000 S p hR (by omega) (by omega) h hp
  have ht := takes_n hT a2 ha (a := 32) (by decide)
  by_cases y : ps_a k p R = R.length
  · rw [if_pos y] at a1
    by_cases d : k (p + ps_a k p R) = 32
    · rw [if_pos d] at ht
      refine ⟨_, fun _ _ => ⟨?_, a2.mv _⟩, fun z => ?_⟩
      · unfold r_X12_takesWord
        refine ob_step a1 ((if_neg Nat.one_ne_zero).trans (ob_step ht ?_))
        exact gd_pos (Or.inr rfl)
      · rcases z with z | z
        · exact absurd y z
        · exact absurd d z
    · rw [if_neg d] at ht
      refine ⟨S1, fun _ z => absurd z d, fun _ => ⟨?_, a2⟩⟩
      unfold r_X12_takesWord
      refine ob_step a1 ((if_neg Nat.one_ne_zero).trans (ob_step ht ?_))
      exact gd_pos (Or.inl rfl)
  · rw [if_neg y] at a1
    refine ⟨S1, fun z => absurd z y, fun _ => ⟨?_, a2⟩⟩
    unfold r_X12_takesWord
    exact ob_step a1 (if_pos rfl)
end
/-- what the word's row is set to before the word is read -/
def mh_B (S : St) (c : Nat) (v : Int32) : St := sA S 86 (upd (S.1 86) c v)
theorem mh_N {S0 S : St} {t c N p : Nat} {M : List Int32} (h : ms_N S0 t c N S p M) (v : Int32) : ms_N (mh_B S c v) t c N (mh_B S c v) p M :=
  ⟨h.1, h.2.1, h.2.2.1, h.2.2.2.1, fun _ _ => rfl, fun _ _ _ _ _ => rfl, fun _ _ => rfl, fun _ _ _ _ _ _ => rfl, rfl⟩
def mh_R (S : St) (t c N : Nat) (k : Nat → Nat) (p : Nat) (M : List Int32) (v : Int32) (S' : St) : Prop :=
  (∃ w, (ps_w k p).1 = some w ∧ v = nI w ∧ ((k (ps_w k p).2 = 32 ∧ r_X12_takesHead S (nI c) = some (1, S') ∧ ms_N (mh_B S c v) t c N S' ((ps_w k p).2 + 1) M) ∨ (k (ps_w k p).2 ≠ 32 ∧ r_X12_takesHead S (nI c) = some (0, S') ∧ ms_N (mh_B S c v) t c N S' (ps_w k p).2 M))) ∨ ((ps_w k p).1 = none ∧ r_X12_takesHead S (nI c) = some (0, S') ∧ ms_N (mh_B S c v) t c N S' (ps_w k p).2 M)
theorem mh_fin {S : St} {t c N p f w : Nat} {k : Nat → Nat} {M : List Int32} {R : List Nat} (hT : ms_T S N k) (hL : S.1 92 = g_92) (hf : f + R.length ≤ 15) (hR : lt92 f R) (h : ms_N S t c N S p M) (hp : p ≤ N) (hx : ∀ x, x ∈ R → x ≤ 127) (hh : ∀ b S', (b = 0 ∨ b = 1) → r_X12_takesWord (mh_B S c (nI w)) (nI f) (nI R.length) = some (b, S') → r_X12_takesHead S (nI c) = some (b, S')) (hw : ps_w k p = if ps_a k p R = R.length then (some w, p + R.length) else (none, p + ps_a k p R)) : ∃ v S', mh_R S t c N k p M v S' := by
  have hT' : ms_T (mh_B S c (nI w)) N k := ⟨hT.1, hT.2.1, hT.2.2⟩
  have ha := (ps_a_ok hT.1 R p hx hp).1
  obtain ⟨S', a1, a2⟩ := tw_n hT' hL hf hR (mh_N h (nI w)) hp ha
  refine ⟨nI w, S', ?_⟩
  unfold mh_R
  rw [hw]
  by_cases y : ps_a k p R = R.length
  · rw [if_pos y]
    rw [y] at a1 a2
    refine Or.inl ⟨w, rfl, rfl, ?_⟩
    by_cases d : k (p + R.length) = 32
    · obtain ⟨b1, b2⟩ := a1 rfl d
      exact Or.inl ⟨d, hh _ _ (Or.inr rfl) b1, b2⟩
    · obtain ⟨b1, b2⟩ := a2 (Or.inr d)
      exact Or.inr ⟨d, hh _ _ (Or.inl rfl) b1, b2⟩
  · rw [if_neg y]
    obtain ⟨b1, b2⟩ := a2 (Or.inl y)
    exact Or.inr ⟨rfl, hh _ _ (Or.inl rfl) b1, b2⟩
theorem ps_a_n {k : Nat → Nat} {p x : Nat} {r : List Nat} (h : k p ≠ x) : ps_a k p (x :: r) = 0 := if_neg h
theorem ps_a_y {k : Nat → Nat} {p x : Nat} {r : List Nat} (h : k p = x) : ps_a k p (x :: r) = ps_a k (p + 1) r + 1 := if_pos h
theorem head_m {S : St} {t c N p : Nat} {k : Nat → Nat} {M : List Int32} (hc : c < 60) (hT : ms_T S N k) (hL : S.1 92 = g_92) (h : ms_N S t c N S p M) (hp : p ≤ N) : ∃ v S', mh_R S t c N k p M v S' := by
  have hs := sign_n hT h hp
  have hs2 := second_n hT h hp
  have i100 := @sg_eq N k hT.1 p 100 (by decide)
  have i115 := @sg_eq N k hT.1 p 115 (by decide)
  have i97 := @sg_eq N k hT.1 (p + 1) 97 (by decide)
  have hcl : (nI c).toNatClampNeg = c := nI_clamp (by omega)
  have g01 : ∀ (b : Int32) (S' : St), b = 0 ∨ b = 1 → gd (b = 0 ∨ b = 1) (some (b, S')) = some (b, S') := fun b S' z => gd_pos z
  by_cases c1 : k p = 100
  · refine mh_fin (f := 7) (w := 2) (R := [100, 97, 121, 115]) hT hL (by decide) lt_5 h hp (by decide) (fun b S' hb hh => ?_) ?_
    · unfold r_X12_takesHead
      refine ob_step hs ((if_pos (i100.mpr c1)).trans ?_)
      rw [gdN hc (by decide), hcl]
      exact ob_step hh (g01 b S' hb)
    · unfold ps_w
      rw [ps_a_n (p := p) (x := 102) (by omega), ps_a_n (p := p) (x := 102) (by omega), ps_a_n (p := p) (x := 115) (by omega), if_neg (by decide), if_neg (by decide)]
      by_cases y : ps_a k p [100, 97, 121, 115] = 4
      · rw [if_pos y]
        exact (if_pos y).symm
      · rw [if_neg y, if_neg (by decide)]
        refine Eq.trans ?_ (if_neg y).symm
        congr 2
        omega
  by_cases c2 : k p = 115
  · refine mh_fin (f := 3) (w := 1) (R := [115, 111, 117, 114]) hT hL (by decide) lt_4 h hp (by decide) (fun b S' hb hh => ?_) ?_
    · unfold r_X12_takesHead
      refine ob_step hs ((if_neg (fun z => c1 (i100.mp z))).trans ((if_pos (i115.mpr c2)).trans ?_))
      rw [gdN hc (by decide), hcl]
      exact ob_step hh (g01 b S' hb)
    · unfold ps_w
      rw [ps_a_n (p := p) (x := 102) (by omega), ps_a_n (p := p) (x := 102) (by omega), ps_a_n (p := p) (x := 100) (by omega), if_neg (by decide)]
      by_cases y : ps_a k p [115, 111, 117, 114] = 4
      · rw [if_pos y]
        exact (if_pos y).symm
      · rw [if_neg y, if_neg (by decide), if_neg (by decide)]
        refine Eq.trans ?_ (if_neg y).symm
        congr 2
        omega
  by_cases c3 : k (p + 1) = 97
  · refine mh_fin (f := 11) (w := 3) (R := [102, 97, 99, 101]) hT hL (by decide) lt_6 h hp (by decide) (fun b S' hb hh => ?_) ?_
    · unfold r_X12_takesHead
      refine ob_step hs ((if_neg (fun z => c1 (i100.mp z))).trans ((if_neg (fun z => c2 (i115.mp z))).trans (ob_step hs2 ((if_pos (i97.mpr c3)).trans ?_))))
      rw [gdN hc (by decide), gdN hc (by decide), hcl, if_pos (upd_at _ _ _)]
      exact ob_step hh (g01 b S' hb)
    · unfold ps_w
      rw [ps_a_n (p := p) (x := 115) (by omega), ps_a_n (p := p) (x := 100) (by omega)]
      by_cases c4 : k p = 102
      · have e3 : ps_a k p [102, 117, 110] = 1 := by
          rw [ps_a_y c4, ps_a_n (by omega)]
        have e6 : ps_a k p [102, 97, 99, 101] = ps_a k (p + 1 + 1) [99, 101] + 2 := by
          rw [ps_a_y c4, ps_a_y c3]
        rw [e3, if_neg (by decide), if_neg (by decide), if_neg (by decide)]
        by_cases y : ps_a k p [102, 97, 99, 101] = 4
        · rw [if_pos y]
          exact (if_pos y).symm
        · rw [if_neg y]
          refine Eq.trans ?_ (if_neg y).symm
          congr 2
          omega
      · rw [ps_a_n (p := p) (x := 102) (by omega), ps_a_n (p := p) (x := 102) (by omega)]
        rfl
  · refine mh_fin (f := 0) (w := 0) (R := [102, 117, 110]) hT hL (by decide) lt_3 h hp (by decide) (fun b S' hb hh => ?_) ?_
    · unfold r_X12_takesHead
      refine ob_step hs ((if_neg (fun z => c1 (i100.mp z))).trans ((if_neg (fun z => c2 (i115.mp z))).trans (ob_step hs2 ((if_neg (fun z => c3 (i97.mp z))).trans ?_))))
      rw [gdN hc (by decide), gdN hc (by decide), hcl, if_neg (show ¬ upd (S.1 86) c 0 c = 3 by rw [upd_at]; decide)]
      exact ob_step hh (g01 b S' hb)
    · unfold ps_w
      rw [ps_a_n (p := p) (x := 115) (by omega), ps_a_n (p := p) (x := 100) (by omega)]
      by_cases c4 : k p = 102
      · have e3 : ps_a k p [102, 117, 110] = ps_a k (p + 1) [117, 110] + 1 := ps_a_y c4
        have e6 : ps_a k p [102, 97, 99, 101] = 1 := by
          rw [ps_a_y c4, ps_a_n (by omega)]
        rw [e6]
        by_cases y : ps_a k p [102, 117, 110] = 3
        · rw [if_pos y]
          exact (if_pos y).symm
        · rw [if_neg y, if_neg (by decide), if_neg (by decide), if_neg (by decide)]
          refine Eq.trans ?_ (if_neg y).symm
          congr 2
          omega
      · rw [ps_a_n (p := p) (x := 102) (by omega), ps_a_n (p := p) (x := 102) (by omega)]
        rfl
