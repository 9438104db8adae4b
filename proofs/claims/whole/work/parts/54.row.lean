/-! SUPPERS: what the model reckons a row to be worth -/
def maskB (bk : Nat → Nat) (s : Nat) : Nat → Nat
  | 0 => 0
  | v + 1 => maskB bk s v + (if bk v = s then 2 ^ v else 0)
theorem maskB_lt (bk : Nat → Nat) (s : Nat) : ∀ v, maskB bk s v < 2 ^ v
  | 0 => Nat.one_pos
  | v + 1 => by
    have := maskB_lt bk s v
    show maskB bk s v + _ < _
    rw [Nat.pow_succ]
    split <;> omega
def rowW (S : St) (LV : Nat → Nat → Nat → Int32 → Nat → Int32) (nh : Nat) (tb : Int32) (nd gap : Nat) (bk : Nat → Nat) : Nat → Int32
  | 0 => 0
  | v + 1 => rowW S LV nh tb nd gap bk v + WS S LV nh tb nd gap v (bk v) (maskB bk (bk v) v)
def SrG (S S' : St) (nh nd gap : Nat) (tb : Int32) (bk : Nat → Nat) (v : Nat) : Prop := (∀ h s, h < nh → s < 8 → tbl tb h = true → S'.1 82 (8 * h + s) = nI (min 999 (tmO (S.1 82) h s + mcB (maskB bk s v)))) ∧ (∀ h s, h < nh → s < 8 → tbl tb h = true → S'.1 83 (8 * h + s) = if mcB (maskB bk s v) = 0 then S.1 83 (8 * h + s) else nI (nd + maskB bk s v / 2 * gap)) ∧ ∀ h s, h < nh → s < 8 → tbl tb h = false → S'.1 82 (8 * h + s) = S.1 82 (8 * h + s)
theorem sumL_tb {L L' : Nat → Int32} {tb : Nat → Bool} : ∀ {n : Nat}, (∀ h, h < n → tb h = true → L h = L' h) → sumL L tb n = sumL L' tb n
  | 0, _ => rfl
  | n + 1, h => by
    show sumL L tb n + (if tb n then L n else 0) = sumL L' tb n + (if tb n then L' n else 0)
    rw [sumL_tb (fun j hj => h j (by omega))]
    cases ht : tb n with
    | false => rfl
    | true => rw [h n (by omega) ht]
theorem lp_row {S : St} {hs : List Hr} {ns nh nd gap N : Nat} {KV : Nat → Nat → Int32 → Nat → Int32} {LV : Nat → Nat → Nat → Int32 → Nat → Int32} {tb : Int32} {bk : Nat → Nat} (hL : Lg S hs ns nh KV LV) (d1 : nh ≤ 6) (hT4 : ∀ i, i < 48 → ∃ k, k ≤ 999 ∧ S.1 82 i = nI k) (d3 : S.1 76 1 = nI nh) (y1 : nd ≤ 9999) (hg30 : gap ≤ 30) (hN : N ≤ 3) (hb8 : ∀ j, j < N → bk j < 8) : ∀ n v S', Away S S' → (∀ j, j < N → S'.1 97 j = nI (bk j)) → S'.1 76 2 = nI (nd + v * gap) → (v ≤ 2 → SrG S S' nh nd gap tb bk v) → v ≤ N → N < n + v → ∃ S'', lp_X12_asRow_10 tb (nI N) (nI gap) n (rowW S LV nh tb nd gap bk v) (nI v) S' = some (rowW S LV nh tb nd gap bk N, S'') ∧ Away S S'' ∧ S''.1 97 = S'.1 97 ∧ S''.1 76 28 = S'.1 76 28 ∧ S''.1 98 = S'.1 98 := by
  intro n
  induction n with
  | zero => intro v S' _ _ _ _ h1 h2; omega
  | succ n ih =>
    intro v S' hA h97 e2 hSr h1 h2
    unfold lp_X12_asRow_10
    by_cases w : v = N
    · subst w
      exact ⟨S', if_pos (nI_le (Nat.le_refl _) (by omega)), hA, rfl, rfl, rfl⟩
    have hv : v < N := by omega
    have hs8 := hb8 v hv
    obtain ⟨s1, s2, s3⟩ := hSr (by omega)
    have hvg : v * gap ≤ 2 * 30 := Nat.mul_le_mul (by omega) hg30
    have ht : ∀ h, h < nh → tbl tb h = true → tmO (S'.1 82) h (bk v) = min 999 (tmO (S.1 82) h (bk v) + mcB (maskB bk (bk v) v)) := by
      intro h hh hb
      unfold tmO
      rw [s1 h (bk v) hh hs8 hb, nI_clamp (by have := Nat.min_le_left 999 (tmO (S.1 82) h (bk v) + mcB (maskB bk (bk v) v)); omega)]
      rfl
    have hTm : TmOk (S'.1 82) nh (bk v) := by
      intro h hh
      cases hb : tbl tb h with
      | true =>
        rw [ht h hh hb]
        exact ⟨s1 h (bk v) hh hs8 hb, Nat.min_le_left _ _⟩
      | false =>
        have e := s3 h (bk v) hh hs8 hb
        have e' : tmO (S'.1 82) h (bk v) = tmO (S.1 82) h (bk v) := by
          unfold tmO
          rw [e]
        rw [e', e]
        exact TmOk.of hT4 d1 hs8 h hh
    obtain ⟨g, hg⟩ := tells_m hL d1 (s := bk v) (d := nd + v * gap) tb hs8 (by omega) hA.1.m (by rw [hA.1.2.1 1 rfl]; exact d3) e2 hTm
    have eL : LN S' LV nh (bk v) tb (nd + v * gap) = WS S LV nh tb nd gap v (bk v) (maskB bk (bk v) v) := by
      unfold LN WS
      refine sumL_tb fun h hh hb => ?_
      rw [ht h hh hb, s2 h (bk v) hh hs8 hb]
    rw [eL] at hg
    have hA2 : Away S (sI (sA (sA (sA S' 93 g) 82 (tmU (S'.1 82) tb nh (bk v))) 83 (laU (S'.1 83) tb nh (bk v) (nd + v * gap))) 76 2 (S'.1 76 2 + nI gap)) := (hA.tells d1).i2 rfl (by decide) _
    have hSr2 : v + 1 ≤ 2 → SrG S (sI (sA (sA (sA S' 93 g) 82 (tmU (S'.1 82) tb nh (bk v))) 83 (laU (S'.1 83) tb nh (bk v) (nd + v * gap))) 76 2 (S'.1 76 2 + nI gap)) nh nd gap tb bk (v + 1) := by
      intro hv2
      have hm := maskB_lt bk (bk v) v
      have hmc : mcB (maskB bk (bk v) v + 2 ^ v) = mcB (maskB bk (bk v) v) + 1 ∧ (maskB bk (bk v) v + 2 ^ v) / 2 = v := by
        unfold mcB
        rcases (show v = 0 ∨ v = 1 by omega) with rfl | rfl
        · omega
        · omega
      refine ⟨fun h s hh hs hb => ?_, fun h s hh hs hb => ?_, fun h s hh hs hb => ?_⟩
      · show tlG (tlF fun h => tmO (S'.1 82) h (bk v)) (S'.1 82) tb (bk v) nh (8 * h + s) = nI (min 999 (tmO (S.1 82) h s + mcB (maskB bk s v + if bk v = s then 2 ^ v else 0)))
        rw [tlG_hs hs]
        by_cases z : s = bk v
        · subst z
          rw [if_pos ⟨rfl, hh, hb⟩, if_pos rfl, hmc.1]
          show nI (min 999 (tmO (S'.1 82) h (bk v) + 1)) = _
          rw [ht h hh hb]
          congr 1
          omega
        · rw [if_neg (fun q => z q.1), if_neg (show ¬ bk v = s from fun q => z q.symm), Nat.add_zero]
          exact s1 h s hh hs hb
      · show tlG (fun _ => nI (nd + v * gap)) (S'.1 83) tb (bk v) nh (8 * h + s) = if mcB (maskB bk s v + if bk v = s then 2 ^ v else 0) = 0 then S.1 83 (8 * h + s) else nI (nd + (maskB bk s v + if bk v = s then 2 ^ v else 0) / 2 * gap)
        rw [tlG_hs hs]
        by_cases z : s = bk v
        · subst z
          rw [if_pos ⟨rfl, hh, hb⟩, if_pos (show bk v = bk v from rfl), if_neg (by omega), hmc.2]
        · rw [if_neg (fun q => z q.1)]
          simp only [if_neg (show ¬ bk v = s from fun q => z q.symm), Nat.add_zero]
          exact s2 h s hh hs hb
      · show tlG (tlF fun h => tmO (S'.1 82) h (bk v)) (S'.1 82) tb (bk v) nh (8 * h + s) = _
        rw [tlG_hs hs, if_neg (fun q => by rw [hb] at q; exact Bool.false_ne_true q.2.2)]
        exact s3 h s hh hs hb
    obtain ⟨S'', x1, x2, x3, x4, x5⟩ := ih (v + 1) _ hA2 h97 (by
      show S'.1 76 2 + nI gap = _
      rw [e2, nI_add, Nat.succ_mul, Nat.add_assoc]) hSr2 (by omega) (by omega)
    rw [if_neg (nI_ge (by omega) (by omega)), gdN (show v < 3 by omega) (by decide), nI_clamp (by omega), h97 v hv, nI_1]
    exact ⟨S'', ob_step hg x1, x2, x3, x4, x5⟩
theorem mc_0 (bk : Nat → Nat) (s : Nat) : mcB (maskB bk s 0) = 0 := by
  show mcB 0 = 0
  decide
theorem asRow_m {S : St} {hs : List Hr} {ns nh nd gap N : Nat} {KV : Nat → Nat → Int32 → Nat → Int32} {LV : Nat → Nat → Nat → Int32 → Nat → Int32} {bk : Nat → Nat} (tb : Int32) (hL : Lg S hs ns nh KV LV) (d1 : nh ≤ 6) (hT4 : ∀ i, i < 48 → ∃ k, k ≤ 999 ∧ S.1 82 i = nI k) (d3 : S.1 76 1 = nI nh) (y1 : nd ≤ 9999) (y3 : S.1 76 2 = nI nd) (hg30 : gap ≤ 30) (hN : N ≤ 3) (hb8 : ∀ j, j < N → bk j < 8) {S' : St} (hB : Back S S') (h97 : ∀ j, j < N → S'.1 97 j = nI (bk j)) : ∃ S'', r_X12_asRow S' tb (nI N) (nI gap) = some (rowW S LV nh tb nd gap bk N, S'') ∧ Back S S'' ∧ S''.1 97 = S'.1 97 ∧ S''.1 98 = S'.1 98 := by
  obtain ⟨hM, e82, e83, e2, e28⟩ := hB
  obtain ⟨S'', x1, x2, x3, x4, x5⟩ := lp_row (tb := tb) hL d1 hT4 d3 y1 hg30 hN hb8 4000 0 (sv S') (sv_away hM e82 e83 e2) h97 (by
    show S'.1 76 2 = _
    rw [e2, y3, Nat.zero_mul, Nat.add_zero]) (fun _ => ⟨fun h s hh hs hb => by
      show S'.1 82 (8 * h + s) = _
      rw [mc_0]
      obtain ⟨t1, t2⟩ := TmOk.of hT4 d1 hs h hh
      rw [e82, Nat.add_zero, Nat.min_eq_right t2]
      exact t1, fun h s hh hs hb => by
      show S'.1 83 (8 * h + s) = _
      rw [mc_0, if_pos rfl, e83], fun h s hh hs hb => by
      show S'.1 82 (8 * h + s) = S.1 82 (8 * h + s)
      rw [e82]⟩) (Nat.zero_le _) (by omega)
  obtain ⟨p1, p2', p3, p4, p5⟩ := pb_back x2
  refine ⟨pb S'', ?_, ⟨p1, p2', p3, p4, p5.trans (x4.trans e28)⟩, x3, x5⟩
  unfold r_X12_asRow
  refine ob_step (save_m S') ?_
  refine ob_step x1 ?_
  exact ob_step (put_m S'') rfl
