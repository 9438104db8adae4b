/-! COFFEE -/
def bsk (L : Nat → Int32) (tb : Nat → Bool) (ns : Nat) : Nat → Nat → Option Nat → Option Nat
  | 0, _, b => b
  | n + 1, s, b => if ns ≤ s then b else bsk L tb ns n (s + 1) (if tb s then b else match b with | none => some s | some x => if L x < L s then some s else some x)
theorem bsk_lt (L : Nat → Int32) (tb : Nat → Bool) (ns : Nat) : ∀ n s b, (∀ x, b = some x → x < ns ∧ tb x = false) → ∀ x, bsk L tb ns n s b = some x → x < ns ∧ tb x = false := by
  intro n
  induction n with
  | zero => intro s b h x hx; exact h x hx
  | succ n ih =>
    intro s b h x hx
    unfold bsk at hx
    split at hx
    · exact h x hx
    · refine ih _ _ (fun y hy => ?_) x hx
      cases ht : tb s with
      | true =>
        rw [ht, if_pos rfl] at hy
        exact h y hy
      | false =>
        rw [ht, if_neg (by decide)] at hy
        cases b with
        | none => cases hy; exact ⟨by omega, ht⟩
        | some z =>
          have hz := h z rfl
          simp only at hy
          split at hy
          · cases hy; exact ⟨by omega, ht⟩
          · cases hy; exact hz
theorem lp_bsk_c {S' : St} {L : Nat → Int32} {ns : Nat} {t : Int32} (n8 : ns ≤ 8) (c2 : S'.1 8 2 = nI ns) (hw : ∀ j, j < ns → S'.1 34 j = L j) : ∀ n s b, s ≤ ns → ns < n + s → (∀ x, b = some x → x < ns) → lp_X11_bestBeside_4 S' t n (enc b) (nI s) = some (enc (bsk L (tbl t) ns n s b)) := by
  intro n
  induction n with
  | zero => intro s b h1 h2; omega
  | succ n ih =>
    intro s b h1 h2 hb
    unfold lp_X11_bestBeside_4 bsk
    rw [c2, in_has]
    by_cases w : s = ns
    · subst w
      rw [if_pos (nI_le (Nat.le_refl _) (by omega)), if_pos (Nat.le_refl _)]
    have hs8 : s < 8 := by omega
    rw [if_neg (nI_ge (by omega) (by omega)), if_neg (show ¬ ns ≤ s by omega), nI_1]
    by_cases q : r_X12_has t (nI s) = 0
    rotate_left
    · rw [if_neg q, tbl_yes q, if_pos rfl]
      exact ih (s + 1) b (by omega) (by omega) hb
    rw [if_pos q, tbl_no q, if_neg (show ¬ (false = true) from Bool.false_ne_true)]
    cases b with
    | none =>
      rw [if_pos (show enc none < 0 by decide)]
      exact ih (s + 1) (some s) (by omega) (by omega) (fun x hx => by cases hx; omega)
    | some x =>
      have hx := hb x rfl
      show (if nI x < 0 then _ else gd _ (gd (¬ (nI x < 0 ∨ 8 ≤ (nI x).toNatClampNeg)) (if S'.1 34 (nI s).toNatClampNeg ≤ S'.1 34 (nI x).toNatClampNeg then lp_X11_bestBeside_4 S' t n (enc (some x)) (nI (s + 1)) else lp_X11_bestBeside_4 S' t n (enc (some s)) (nI (s + 1))))) = some (enc (bsk L (tbl t) ns n (s + 1) (if L x < L s then some s else some x)))
      rw [if_neg (nI_pos (by omega)), gdN hs8 (by decide), gdN (show x < 8 by omega) (by decide), nI_clamp (by omega), nI_clamp (by omega), hw s (by omega), hw x hx]
      by_cases z : L x < L s
      · rw [if_neg (Int32.not_le.mpr z), if_pos z]
        exact ih (s + 1) (some s) (by omega) (by omega) (fun x hx => by cases hx; omega)
      · rw [if_pos (Int32.not_lt.mp z), if_neg z]
        exact ih (s + 1) (some x) (by omega) (by omega) (fun y hy => by cases hy; exact hx)
/-- untold stories are as they were -/
def Unt (S S' : St) (ns nh : Nat) (t : Int32) : Prop := ∀ j, j < ns → tbl t j = false → ∀ h, h < nh → S'.1 82 (8 * h + j) = S.1 82 (8 * h + j) ∧ S'.1 83 (8 * h + j) = S.1 83 (8 * h + j)
theorem lau_unt {S : St} {hs : List Hr} {ns nh : Nat} {KV : Nat → Nat → Int32 → Nat → Int32} {LV : Nat → Nat → Nat → Int32 → Nat → Int32} (hL : Lg S hs ns nh KV LV) (d1 : nh ≤ 6) (n8 : ns ≤ 8) (hT4 : ∀ i, i < 48 → ∃ k, k ≤ 999 ∧ S.1 82 i = nI k) (d3 : S.1 76 1 = nI nh) {d s : Nat} {t tb : Int32} (hd : d < 20000) {S' : St} (hM : MindM S S') (hU : Unt S S' ns nh t) (e2 : S'.1 76 2 = nI d) (hs : s < ns) (q : tbl t s = false) : TmOk (S'.1 82) nh s ∧ LN S' LV nh s tb d = LN S LV nh s tb d ∧ ∃ g, r_X12_laughter S' (nI s) tb = some (LN S LV nh s tb d, sA S' 93 g) := by
  have ht : ∀ h, h < nh → tmO (S'.1 82) h s = tmO (S.1 82) h s := by
    intro h hh
    unfold tmO
    rw [(hU s hs q h hh).1]
  have hTm : TmOk (S'.1 82) nh s := by
    intro h hh
    rw [ht h hh, (hU s hs q h hh).1]
    exact TmOk.of hT4 d1 (by omega) h hh
  have eL : LN S' LV nh s tb d = LN S LV nh s tb d := by
    unfold LN
    refine sumL_cong fun h hh => ?_
    rw [ht h hh, (hU s hs q h hh).2]
  obtain ⟨g, hg⟩ := laughter_m hL d1 tb (show s < 8 by omega) hd hM (by rw [hM.2 1 rfl]; exact d3) e2 hTm
  refine ⟨hTm, eL, g, ?_⟩
  rw [← eL]
  exact hg
theorem lp_bsk_m {S : St} {hs : List Hr} {ns nh : Nat} {KV : Nat → Nat → Int32 → Nat → Int32} {LV : Nat → Nat → Nat → Int32 → Nat → Int32} (hL : Lg S hs ns nh KV LV) (d1 : nh ≤ 6) (n8 : ns ≤ 8) (hT4 : ∀ i, i < 48 → ∃ k, k ≤ 999 ∧ S.1 82 i = nI k) (c3 : S.1 76 0 = nI ns) (d3 : S.1 76 1 = nI nh) {t : Int32} {d : Nat} (tb : Int32) (hd : d < 20000) : ∀ n s b S', MindM S S' → S'.1 76 28 = t → S'.1 76 2 = nI d → Unt S S' ns nh t → s ≤ ns → ns < n + s → (∀ x, b = some x → x < ns) → ∃ w g, lp_X12_bestOf_7 tb n (enc b) (encL (fun j => LN S LV nh j tb d) b) (nI s) S' = some (enc (bsk (fun j => LN S LV nh j tb d) (tbl t) ns n s b), w) ∧ w = sA S' 93 g := by
  intro n
  induction n with
  | zero => intro s b S' _ _ _ _ h1 h2; omega
  | succ n ih =>
    intro s b S' hM e28 e2 hU h1 h2 hb
    unfold lp_X12_bestOf_7 bsk
    rw [hM.2 0 rfl, c3, e28]
    by_cases w : s = ns
    · subst w
      refine ⟨S', S'.1 93, ?_, (sA_self _ _).symm⟩
      rw [if_pos (nI_le (Nat.le_refl _) (by omega)), if_pos (Nat.le_refl _)]
    rw [if_neg (nI_ge (by omega) (by omega)), if_neg (show ¬ ns ≤ s by omega), nI_1]
    by_cases q : r_X12_has t (nI s) = 0
    rotate_left
    · rw [if_neg q, tbl_yes q, if_pos rfl]
      exact ih (s + 1) b S' hM e28 e2 hU (by omega) (by omega) hb
    obtain ⟨-, -, g, hg⟩ := lau_unt hL d1 n8 hT4 d3 (tb := tb) hd hM hU e2 (show s < ns by omega) (tbl_no q)
    rw [if_pos q, tbl_no q, if_neg (show ¬ (false = true) from Bool.false_ne_true), hg]
    cases b with
    | none =>
      obtain ⟨w, g', x1, x2⟩ := ih (s + 1) (some s) (sA S' 93 g) (hM.a rfl g) e28 e2 hU (by omega) (by omega) (fun x hx => by cases hx; omega)
      rw [sA_sA] at x2
      refine ⟨w, g', ?_, x2⟩
      show (if enc none < 0 then lp_X12_bestOf_7 tb n (nI s) (LN S LV nh s tb d) (nI (s + 1)) (sA S' 93 g) else if encL (fun j => LN S LV nh j tb d) none < LN S LV nh s tb d then lp_X12_bestOf_7 tb n (nI s) (LN S LV nh s tb d) (nI (s + 1)) (sA S' 93 g) else lp_X12_bestOf_7 tb n (enc none) (encL (fun j => LN S LV nh j tb d) none) (nI (s + 1)) (sA S' 93 g)) = _
      rw [if_pos (show enc none < 0 by decide)]
      exact x1
    | some x =>
      have hx := hb x rfl
      show ∃ w g', (if nI x < 0 then _ else if LN S LV nh x tb d < LN S LV nh s tb d then lp_X12_bestOf_7 tb n (nI s) (LN S LV nh s tb d) (nI (s + 1)) (sA S' 93 g) else lp_X12_bestOf_7 tb n (nI x) (LN S LV nh x tb d) (nI (s + 1)) (sA S' 93 g)) = some (enc (bsk (fun j => LN S LV nh j tb d) (tbl t) ns n (s + 1) (if LN S LV nh x tb d < LN S LV nh s tb d then some s else some x)), w) ∧ w = sA S' 93 g'
      rw [if_neg (nI_pos (by omega))]
      by_cases z : LN S LV nh x tb d < LN S LV nh s tb d
      · rw [if_pos z, if_pos z]
        obtain ⟨w, g', x1, x2⟩ := ih (s + 1) (some s) (sA S' 93 g) (hM.a rfl g) e28 e2 hU (by omega) (by omega) (fun x hx => by cases hx; omega)
        rw [sA_sA] at x2
        exact ⟨w, g', x1, x2⟩
      · rw [if_neg z, if_neg z]
        obtain ⟨w, g', x1, x2⟩ := ih (s + 1) (some x) (sA S' 93 g) (hM.a rfl g) e28 e2 hU (by omega) (by omega) (fun y hy => by cases hy; exact hx)
        rw [sA_sA] at x2
        exact ⟨w, g', x1, x2⟩
theorem bit_add : ∀ k, k < 256 → ∀ x, x < 8 → tbl (nI k) x = false → r_J6_bitCount_0f7a4 (nI (k ||| 2 ^ x)) = r_J6_bitCount_0f7a4 (nI k) + 1 := by decide +kernel
theorem bit_8 : ∀ k, k < 256 → r_J6_bitCount_0f7a4 (nI k) = 8 → ∀ x, x < 8 → tbl (nI k) x = true := by decide +kernel
theorem sumL_add {F : Nat → Int32} {tb tb' : Nat → Bool} {x : Nat} (hx : tb x = false) : ∀ n, (∀ j, j < n → tb' j = (tb j || decide (x = j))) → sumL F tb' n = sumL F tb n + (if x < n then F x else 0)
  | 0, _ => by rw [if_neg (Nat.not_lt_zero _)]; rfl
  | n + 1, h => by
    show sumL F tb' n + (if tb' n then F n else 0) = (sumL F tb n + (if tb n then F n else 0)) + _
    rw [sumL_add hx n (fun j hj => h j (by omega)), h n (by omega)]
    by_cases z : x = n
    · subst z
      rw [hx, if_neg (Nat.lt_irrefl _), if_pos (Nat.lt_succ_self _), decide_eq_true rfl]
      rfl
    · rw [decide_eq_false z, Bool.or_false]
      by_cases y : x < n
      · rw [if_pos y, if_pos (show x < n + 1 by omega), Int32.add_assoc, Int32.add_comm (F x), ← Int32.add_assoc]
      · rw [if_neg y, if_neg (show ¬ x < n + 1 by omega), Int32.add_zero, Int32.add_zero]
theorem tbl_add {k x : Nat} (hk : k < 256) (hx : x < 8) : ∀ j, j < 8 → tbl (nI (k ||| 2 ^ x)) j = (tbl (nI k) j || decide (x = j)) := by
  intro j hj
  have h1 : k ||| 2 ^ x < 2 ^ 8 := Nat.or_lt_two_pow (n := 8) hk (Nat.pow_lt_pow_right (by decide) hx)
  rw [tbl_tb _ h1 j hj, tbl_tb k hk j hj, Nat.testBit_or, Nat.testBit_two_pow]
theorem lp_cof {S S1 : St} {hs : List Hr} {ns nh nd : Nat} {KV : Nat → Nat → Int32 → Nat → Int32} {LV : Nat → Nat → Nat → Int32 → Nat → Int32} (hL : Lg S hs ns nh KV LV) (d1 : nh ≤ 6) (n8 : ns ≤ 8) (hT4 : ∀ i, i < 48 → ∃ k, k ≤ 999 ∧ S.1 82 i = nI k) (c2 : S1.1 8 2 = nI ns) (c3 : S.1 76 0 = nI ns) (d3 : S.1 76 1 = nI nh) (y1 : nd ≤ 9999) {tb f2 f2' : Int32} (h34 : ∀ j, j < ns → S1.1 34 j = LN S LV nh j tb nd) : ∀ n m k S', Away S S' → S'.1 76 28 = nI k → S'.1 76 2 = nI nd → Unt S S' ns nh (nI k) → k < 2 ^ ns → r_J6_bitCount_0f7a4 (nI k) = nI m → m ≤ 8 → 8 < n + m → ∃ k' m' S'', k' < 2 ^ ns ∧ r_J6_bitCount_0f7a4 (nI k') = nI m' ∧ lp_X11_coffee_53 S1 hs f2 n (nI k) (enc (bsk (fun j => LN S LV nh j tb nd) (tbl (nI k)) ns 4000 0 none)) (nI m) = some (nI k') ∧ lp_X12_coffee_47 tb f2' n (nI m) (sumL (fun j => LN S LV nh j tb nd) (tbl (nI k)) ns) (enc (bsk (fun j => LN S LV nh j tb nd) (tbl (nI k)) ns 4000 0 none)) S' = some (nI m', sumL (fun j => LN S LV nh j tb nd) (tbl (nI k')) ns, S'') ∧ Away S S'' := by
  intro n
  have h256 := p2_256 n8
  induction n with
  | zero => intro m k S' _ _ _ _ _ _ h1 h2; omega
  | succ n ih =>
    intro m k S' hA e28 e2 hU hk hbit h1 h2
    unfold lp_X11_coffee_53
    rw [lp_X12_coffee_47]
    have hlt := bsk_lt (fun j => LN S LV nh j tb nd) (tbl (nI k)) ns 4000 0 none (fun x hx => by cases hx)
    generalize hb : bsk (fun j => LN S LV nh j tb nd) (tbl (nI k)) ns 4000 0 none = b at hlt
    cases b with
    | none =>
      refine ⟨k, m, S', hk, hbit, ?_, ?_, hA⟩
      · by_cases w : (8 : Int32) ≤ nI m
        · exact if_pos w
        · refine (if_neg w).trans ?_
          exact if_pos (by decide)
      · exact if_pos (by decide)
    | some x =>
      obtain ⟨hx, hxt⟩ := hlt x rfl
      have w : ¬ (8 : Int32) ≤ nI m := by
        intro w
        have : m = 8 := by
          by_cases z : m < 8
          · exact absurd w (nle_l (k := 8) z (by decide))
          · omega
        subst this
        have := bit_8 k (by omega) hbit x (by omega)
        rw [hxt] at this
        cases this
      have m8 : m < 8 := by
        by_cases z : m < 8
        · exact z
        · exact absurd (le_l (k := 8) (by omega) (by omega)) w
      show ∃ k' m' S'', k' < 2 ^ ns ∧ r_J6_bitCount_0f7a4 (nI k') = nI m' ∧ (if (8 : Int32) ≤ nI m then some (nI k) else if nI x < 0 then some (nI k) else gd (¬ (nI x < 0 ∨ 8 ≤ (nI x).toNatClampNeg)) (if S1.1 34 (nI x).toNatClampNeg ≤ 0 then some (nI k) else (r_X11_bestBeside S1 (nI k ||| ((1 : Int32) <<< (nI x &&& 31)))).bind fun q3 => lp_X11_coffee_53 S1 hs f2 n (nI k ||| ((1 : Int32) <<< (nI x &&& 31))) q3 (nI m + 1))) = some (nI k') ∧ (if nI x < 0 then some (nI m, sumL (fun j => LN S LV nh j tb nd) (tbl (nI k)) ns, S') else (r_X12_laughter S' (nI x) tb).bind fun q3 => if q3.1 ≤ 0 then some (nI m, sumL (fun j => LN S LV nh j tb nd) (tbl (nI k)) ns, q3.2) else (r_X12_tells q3.2 (nI x) tb).bind fun q4 => (r_X12_bestOf (sI q4.2 76 28 ((q4.2.1 76 28) ||| ((1 : Int32) <<< (nI x &&& 31)))) tb).bind fun q5 => lp_X12_coffee_47 tb f2' n (nI m + 1) (sumL (fun j => LN S LV nh j tb nd) (tbl (nI k)) ns + q4.1) q5.1 q5.2) = some (nI m', sumL (fun j => LN S LV nh j tb nd) (tbl (nI k')) ns, S'') ∧ Away S S''
      obtain ⟨hTm, eL, g, hg⟩ := lau_unt hL d1 n8 hT4 d3 (tb := tb) (d := nd) (by omega) hA.1.m hU e2 hx hxt
      rw [if_neg w, if_neg (nI_pos (by omega)), if_neg (nI_pos (by omega)), gdN (show x < 8 by omega) (by decide), nI_clamp (by omega), h34 x hx, p2 (by omega), nI_or, nI_1]
      have hA1 : Away S (sA S' 93 g) := hA.a2 rfl (by decide) (by decide) (by decide) (by decide) g
      by_cases z : LN S LV nh x tb nd ≤ 0
      · refine ⟨k, m, sA S' 93 g, hk, hbit, if_pos z, ?_, hA1⟩
        refine ob_step hg ?_
        exact if_pos z
      rw [if_neg z]
      obtain ⟨g1, hg1⟩ := tells_m (S' := sA S' 93 g) hL d1 (s := x) (d := nd) tb (by omega) (by omega) hA1.1.m (by rw [hA1.1.2.1 1 rfl]; exact d3) e2 hTm
      have eL2 : LN (sA S' 93 g) LV nh x tb nd = LN S LV nh x tb nd := eL
      rw [eL2] at hg1
      have hA2 := hA1.tells (g := g1) (tb := tb) (s := x) (d := nd) d1
      generalize hX : (sA (sA (sA (sA S' 93 g) 93 g1) 82 (tmU ((sA S' 93 g).1 82) tb nh x)) 83 (laU ((sA S' 93 g).1 83) tb nh x nd)) = X at hg1 hA2
      have x2 : X.1 76 2 = nI nd := by
        rw [← hX]
        exact e2
      have x28 : X.1 76 28 = nI k := by
        rw [← hX]
        exact e28
      have hk2 : k ||| 2 ^ x < 2 ^ ns := Nat.or_lt_two_pow hk (Nat.pow_lt_pow_right (by decide) hx)
      have hadd := tbl_add (k := k) (x := x) (by omega) (by omega)
      have hU2 : Unt S (sI X 76 28 (nI (k ||| 2 ^ x))) ns nh (nI (k ||| 2 ^ x)) := by
        intro j hj htj h hh
        rw [hadd j (by omega)] at htj
        have h3 : tbl (nI k) j = false := by
          cases hq : tbl (nI k) j
          · rfl
          · rw [hq] at htj
            cases htj
        have h4 : ¬ j = x := by
          intro y
          subst y
          rw [h3, decide_eq_true rfl] at htj
          cases htj
        show X.1 82 (8 * h + j) = _ ∧ X.1 83 (8 * h + j) = _
        rw [← hX]
        constructor
        · show tlG (tlF fun h => tmO (S'.1 82) h x) (S'.1 82) tb x nh (8 * h + j) = _
          rw [tlG_hs (by omega), if_neg (fun y => h4 y.1)]
          exact (hU j hj h3 h hh).1
        · show tlG (fun _ => nI nd) (S'.1 83) tb x nh (8 * h + j) = _
          rw [tlG_hs (by omega), if_neg (fun y => h4 y.1)]
          exact (hU j hj h3 h hh).2
      have hA3 : Away S (sI X 76 28 (nI (k ||| 2 ^ x))) := hA2.i2 rfl (by decide) _
      obtain ⟨w2, g2, z1, z2⟩ := lp_bsk_m hL d1 n8 hT4 c3 d3 (t := nI (k ||| 2 ^ x)) (d := nd) tb (by omega) 4000 0 none (sI X 76 28 (nI (k ||| 2 ^ x))) hA3.1.m rfl x2 hU2 (Nat.zero_le _) (by omega) (fun y hy => by cases hy)
      subst z2
      have hA4 : Away S (sA (sI X 76 28 (nI (k ||| 2 ^ x))) 93 g2) := hA3.a2 rfl (by decide) (by decide) (by decide) (by decide) g2
      have hbc := lp_bsk_c (t := nI (k ||| 2 ^ x)) (L := fun j => LN S LV nh j tb nd) n8 c2 h34 4000 0 none (Nat.zero_le _) (by omega) (fun y hy => by cases hy)
      have hsum := sumL_add (F := fun j => LN S LV nh j tb nd) hxt ns (fun j hj => hadd j (by omega))
      rw [if_pos hx] at hsum
      obtain ⟨k', m', S'', u1, u2, u3, u4, u5⟩ := ih (m + 1) (k ||| 2 ^ x) (sA (sI X 76 28 (nI (k ||| 2 ^ x))) 93 g2) hA4 rfl x2 hU2 hk2 (by rw [bit_add k (by omega) x (by omega) hxt, hbit, nI_1]) (by omega) (by omega)
      refine ⟨k', m', S'', u1, u2, ?_, ?_, u5⟩
      · have hbb : r_X11_bestBeside S1 (nI (k ||| 2 ^ x)) = some (enc (bsk (fun j => LN S LV nh j tb nd) (tbl (nI (k ||| 2 ^ x))) ns 4000 0 none)) := by
          unfold r_X11_bestBeside
          exact ob_step hbc rfl
        exact ob_step hbb u3
      · refine ob_step hg ?_
        refine (if_neg z).trans ?_
        refine ob_step hg1 ?_
        have hbo : r_X12_bestOf (sI X 76 28 ((X.1 76 28) ||| nI (2 ^ x))) tb = some (enc (bsk (fun j => LN S LV nh j tb nd) (tbl (nI (k ||| 2 ^ x))) ns 4000 0 none), sA (sI X 76 28 (nI (k ||| 2 ^ x))) 93 g2) := by
          rw [x28, nI_or]
          unfold r_X12_bestOf
          exact ob_step z1 rfl
        refine ob_step hbo ?_
        rw [hsum] at u4
        exact u4
theorem k_coffee : K18 Inv := by
  intro S hs a1 a2 hI
  obtain ⟨nb, hB, ⟨ns, nh, nd, nf, ne, ⟨⟨c1, c2, c3⟩, ⟨d1, d2, d3⟩, ⟨y1, y2, y3⟩, ⟨f1, f2, f3⟩, ⟨b1, b2, b3⟩, t1, t2⟩, hA, hT, hR, hF, hK, hW⟩, hIm, hTx, hTr, hTp, hHo, hL⟩ := id hI
  by_cases q2 : r_X12_in a2 0 1 = 0
  · refine ⟨-10001, S, S, ?_, ?_, hI⟩
    · unfold r_X11_coffee
      rw [within_in, if_pos q2]
    · unfold r_X12_coffee
      rw [if_pos q2]
  by_cases q3 : r_X12_in a1 0 (((1 : Int32) <<< (nI nh &&& 31)) - 1) = 0
  · refine ⟨-10002, S, S, ?_, ?_, hI⟩
    · unfold r_X11_coffee r_X11_isTable r_X11_everybody
      rw [within_in, d2, if_neg q2, if_pos q3]
    · unfold r_X12_coffee r_X12_isTable
      rw [d3, if_neg q2, if_pos q3]
  obtain ⟨KV, LV, hLg⟩ := lg_of hI c3 d3 c1 d1
  obtain ⟨g, gw, hg, hgw⟩ := w34 hLg d1 hT.2.2.2 d2 c1 c2 (d := nd) a1 (by omega) (Mind.rf S)
  have hM1 : Mind S (sA (sA S 33 g) 34 gw) := ((Mind.rf S).a rfl g).a rfl gw
  have hbc := lp_bsk_c (S' := sA (sA S 33 g) 34 gw) (t := nI 0) (L := fun j => LN S LV nh j a1 nd) c1 c2 hgw 4000 0 none (Nat.zero_le _) (by omega) (fun y hy => by cases hy)
  have hbb : r_X11_bestBeside (sA (sA S 33 g) 34 gw) 0 = some (enc (bsk (fun j => LN S LV nh j a1 nd) (tbl (nI 0)) ns 4000 0 none)) := by
    unfold r_X11_bestBeside
    exact ob_step hbc rfl
  have hA0 : Away S (sI (sv (sA (sA S 33 g) 34 gw)) 76 28 0) := (sv_away hM1 rfl rfl rfl).i2 rfl (by decide) _
  have hU0 : Unt S (sI (sv (sA (sA S 33 g) 34 gw)) 76 28 0) ns nh (nI 0) := fun j _ _ h _ => ⟨rfl, rfl⟩
  obtain ⟨w, g2, z1, z2⟩ := lp_bsk_m hLg d1 c1 hT.2.2.2 c3 d3 (t := nI 0) (d := nd) a1 (by omega) 4000 0 none (sI (sv (sA (sA S 33 g) 34 gw)) 76 28 0) hA0.1.m rfl y3 hU0 (Nat.zero_le _) (by omega) (fun y hy => by cases hy)
  subst z2
  have hA1 : Away S (sA (sI (sv (sA (sA S 33 g) 34 gw)) 76 28 0) 93 g2) := hA0.a2 rfl (by decide) (by decide) (by decide) (by decide) g2
  have hpos : 0 < 2 ^ ns := Nat.two_pow_pos ns
  have h256 := p2_256 c1
  obtain ⟨k', m', S'', u1, u2, u3, u4, u5⟩ := lp_cof (S1 := sA (sA S 33 g) 34 gw) (hs := hs) (f2 := a2) (f2' := a2) hLg d1 c1 hT.2.2.2 c2 c3 d3 y1 (tb := a1) hgw 4000 0 0 (sA (sI (sv (sA (sA S 33 g) 34 gw)) 76 28 0) 93 g2) hA1 rfl y3 hU0 hpos (by decide +kernel) (by omega) (by omega)
  have e0 : sumL (fun j => LN S LV nh j a1 nd) (tbl (nI 0)) ns = 0 := by
    have key : ∀ n, n ≤ 8 → sumL (fun j => LN S LV nh j a1 nd) (tbl (nI 0)) n = 0 := by
      intro n
      induction n with
      | zero => intro _; rfl
      | succ n ih =>
        intro hn
        show sumL _ (tbl (nI 0)) n + (if tbl (nI 0) n then _ else _) = 0
        rw [ih (by omega), tbl_tb 0 (by decide) n (by omega), Nat.zero_testBit]
        rfl
    exact key ns c1
  rw [e0] at u4
  have hA2 : Away S (sI S'' 76 28 0) := u5.i2 rfl (by decide) _
  obtain ⟨p1, p2', p3, p4, p5⟩ := pb_back hA2
  refine ⟨if a2 = 0 then nI m' else sumL (fun j => LN S LV nh j a1 nd) (tbl (nI k')) ns, sA (sA S 33 g) 34 gw, pb (sI S'' 76 28 0), ?_, ?_, hI.mind p1 p2' p3 p4 (p5.trans hL.2.symm)⟩
  · unfold r_X11_coffee r_X11_isTable r_X11_everybody
    rw [within_in, d2, if_neg q2, if_neg q3, y2]
    refine ob_step hg ?_
    refine ob_step hbb ?_
    refine ob_step (show lp_X11_coffee_53 (sA (sA S 33 g) 34 gw) hs a2 4000 0 (enc (bsk (fun j => LN S LV nh j a1 nd) (tbl (nI 0)) ns 4000 0 none)) 0 = some (nI k') from u3) ?_
    by_cases y : a2 = 0
    · rw [if_pos y, if_pos y, u2]
    · rw [if_neg y, if_neg y]
      exact ob_step (sum34 c1 u1 hgw) rfl
  · unfold r_X12_coffee r_X12_isTable
    show (if r_X12_in a2 0 1 = 0 then _ else if r_X12_in a1 0 (((1 : Int32) <<< (S.1 76 1 &&& 31)) - 1) = 0 then _ else _) = _
    rw [d3, if_neg q2, if_neg q3]
    refine ob_step (save_m (sA (sA S 33 g) 34 gw)) ?_
    have hbo : r_X12_bestOf (sI (sv (sA (sA S 33 g) 34 gw)) 76 28 0) a1 = some (enc (bsk (fun j => LN S LV nh j a1 nd) (tbl (nI 0)) ns 4000 0 none), sA (sI (sv (sA (sA S 33 g) 34 gw)) 76 28 0) 93 g2) := by
      unfold r_X12_bestOf
      exact ob_step z1 rfl
    refine ob_step hbo ?_
    refine ob_step (show lp_X12_coffee_47 a1 a2 4000 0 0 (enc (bsk (fun j => LN S LV nh j a1 nd) (tbl (nI 0)) ns 4000 0 none)) (sA (sI (sv (sA (sA S 33 g) 34 gw)) 76 28 0) 93 g2) = _ from u4) ?_
    refine ob_step (put_m _) ?_
    by_cases y : a2 = 0
    · rw [if_pos y, if_pos y]
    · rw [if_neg y, if_neg y]
