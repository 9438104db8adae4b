/-! BEST -/
theorem lp_w34 {S : St} {hs : List Hr} {ns nh : Nat} {KV : Nat → Nat → Int32 → Nat → Int32} {LV : Nat → Nat → Nat → Int32 → Nat → Int32} (hL : Lg S hs ns nh KV LV) (d1 : nh ≤ 6) (hT4 : ∀ i, i < 48 → ∃ k, k ≤ 999 ∧ S.1 82 i = nI k) (d2 : S.1 8 3 = nI nh) (n8 : ns ≤ 8) (c2 : S.1 8 2 = nI ns) {d : Nat} (tb : Int32) (hd : d < 20000) : ∀ n s S', Mind S S' → s ≤ ns → ns < n + s → (∀ j, j < s → S'.1 34 j = LN S LV nh j tb d) → ∃ g gw, lp_X11_weigh_34_3 hs tb (nI d) n (nI s) S' = some (sA (sA S' 33 g) 34 gw) ∧ ∀ j, j < ns → gw j = LN S LV nh j tb d := by
  intro n
  induction n with
  | zero => intro s S' _ h1 h2; omega
  | succ n ih =>
    intro s S' hM h1 h2 hj
    unfold lp_X11_weigh_34_3
    rw [hM.1 8 (by decide) rfl, c2]
    by_cases w : s = ns
    · subst w
      refine ⟨S'.1 33, S'.1 34, ?_, hj⟩
      rw [if_pos (nI_le (Nat.le_refl _) (by omega)), sA_self, sA_self]
    have hs8 : s < 8 := by omega
    rw [if_neg (nI_ge (by omega) (by omega)), if_neg (nle_l (k := 8) hs8 (by decide)), nI_1]
    obtain ⟨g, hg⟩ := laughter_c0 hL d1 hT4 d2 tb hs8 hd hM
    rw [hg]
    show ∃ u gw, gd (¬ (nI s < 0 ∨ 8 ≤ (nI s).toNatClampNeg)) (lp_X11_weigh_34_3 hs tb (nI d) n (nI (s + 1)) (sA (sA S' 33 g) 34 (upd (S'.1 34) (nI s).toNatClampNeg (LN S LV nh s tb d)))) = some (sA (sA S' 33 u) 34 gw) ∧ ∀ j, j < ns → gw j = LN S LV nh j tb d
    rw [gdN hs8 (by decide), nI_clamp (by omega)]
    obtain ⟨g2, gw, x1, x2⟩ := ih (s + 1) (sA (sA S' 33 g) 34 (upd (S'.1 34) s (LN S LV nh s tb d))) ((hM.a rfl g).a rfl _) (by omega) (by omega) (fun j hjs => by
      show upd (S'.1 34) s (LN S LV nh s tb d) j = _
      by_cases z : j = s
      · subst z
        exact upd_at _ _ _
      · rw [upd_ne z]
        exact hj j (by omega))
    refine ⟨g2, gw, ?_, x2⟩
    rw [x1, sA_sw _ (a := 34) (b := 33) (by decide), sA_sA, sA_sA]
theorem w34 {S : St} {hs : List Hr} {ns nh : Nat} {KV : Nat → Nat → Int32 → Nat → Int32} {LV : Nat → Nat → Nat → Int32 → Nat → Int32} (hL : Lg S hs ns nh KV LV) (d1 : nh ≤ 6) (hT4 : ∀ i, i < 48 → ∃ k, k ≤ 999 ∧ S.1 82 i = nI k) (d2 : S.1 8 3 = nI nh) (n8 : ns ≤ 8) (c2 : S.1 8 2 = nI ns) {d : Nat} (tb : Int32) (hd : d < 20000) {S' : St} (hM : Mind S S') : ∃ g gw, r_X11_weigh_34 S' hs tb (nI d) = some (0, sA (sA S' 33 g) 34 gw) ∧ ∀ j, j < ns → gw j = LN S LV nh j tb d := by
  obtain ⟨g, gw, x1, x2⟩ := lp_w34 hL d1 hT4 d2 n8 c2 tb hd 4000 0 S' hM (Nat.zero_le _) (by omega) (fun j h => absurd h (Nat.not_lt_zero _))
  refine ⟨g, gw, ?_, x2⟩
  unfold r_X11_weigh_34
  have x1' : lp_X11_weigh_34_3 hs tb (nI d) 4000 0 S' = _ := x1
  rw [x1']
  rfl
theorem lp_w35 {S : St} {hs : List Hr} {ns nh : Nat} {KV : Nat → Nat → Int32 → Nat → Int32} {LV : Nat → Nat → Nat → Int32 → Nat → Int32} (hL : Lg S hs ns nh KV LV) (d1 : nh ≤ 6) (hT4 : ∀ i, i < 48 → ∃ k, k ≤ 999 ∧ S.1 82 i = nI k) (d2 : S.1 8 3 = nI nh) (n8 : ns ≤ 8) (c2 : S.1 8 2 = nI ns) {d : Nat} (tb : Int32) (hd : d < 20000) : ∀ n s S', Mind S S' → s ≤ ns → ns < n + s → (∀ j, j < s → S'.1 35 j = LN S LV nh j tb d) → ∃ g gw, lp_X11_weigh_35_3 hs tb (nI d) n (nI s) S' = some (sA (sA S' 33 g) 35 gw) ∧ ∀ j, j < ns → gw j = LN S LV nh j tb d := by
  intro n
  induction n with
  | zero => intro s S' _ h1 h2; omega
  | succ n ih =>
    intro s S' hM h1 h2 hj
    unfold lp_X11_weigh_35_3
    rw [hM.1 8 (by decide) rfl, c2]
    by_cases w : s = ns
    · subst w
      refine ⟨S'.1 33, S'.1 35, ?_, hj⟩
      rw [if_pos (nI_le (Nat.le_refl _) (by omega)), sA_self, sA_self]
    have hs8 : s < 8 := by omega
    rw [if_neg (nI_ge (by omega) (by omega)), if_neg (nle_l (k := 8) hs8 (by decide)), nI_1]
    obtain ⟨g, hg⟩ := laughter_c0 hL d1 hT4 d2 tb hs8 hd hM
    rw [hg]
    show ∃ u gw, gd (¬ (nI s < 0 ∨ 8 ≤ (nI s).toNatClampNeg)) (lp_X11_weigh_35_3 hs tb (nI d) n (nI (s + 1)) (sA (sA S' 33 g) 35 (upd (S'.1 35) (nI s).toNatClampNeg (LN S LV nh s tb d)))) = some (sA (sA S' 33 u) 35 gw) ∧ ∀ j, j < ns → gw j = LN S LV nh j tb d
    rw [gdN hs8 (by decide), nI_clamp (by omega)]
    obtain ⟨g2, gw, x1, x2⟩ := ih (s + 1) (sA (sA S' 33 g) 35 (upd (S'.1 35) s (LN S LV nh s tb d))) ((hM.a rfl g).a rfl _) (by omega) (by omega) (fun j hjs => by
      show upd (S'.1 35) s (LN S LV nh s tb d) j = _
      by_cases z : j = s
      · subst z
        exact upd_at _ _ _
      · rw [upd_ne z]
        exact hj j (by omega))
    refine ⟨g2, gw, ?_, x2⟩
    rw [x1, sA_sw _ (a := 35) (b := 33) (by decide), sA_sA, sA_sA]
theorem w35 {S : St} {hs : List Hr} {ns nh : Nat} {KV : Nat → Nat → Int32 → Nat → Int32} {LV : Nat → Nat → Nat → Int32 → Nat → Int32} (hL : Lg S hs ns nh KV LV) (d1 : nh ≤ 6) (hT4 : ∀ i, i < 48 → ∃ k, k ≤ 999 ∧ S.1 82 i = nI k) (d2 : S.1 8 3 = nI nh) (n8 : ns ≤ 8) (c2 : S.1 8 2 = nI ns) {d : Nat} (tb : Int32) (hd : d < 20000) {S' : St} (hM : Mind S S') : ∃ g gw, r_X11_weigh_35 S' hs tb (nI d) = some (0, sA (sA S' 33 g) 35 gw) ∧ ∀ j, j < ns → gw j = LN S LV nh j tb d := by
  obtain ⟨g, gw, x1, x2⟩ := lp_w35 hL d1 hT4 d2 n8 c2 tb hd 4000 0 S' hM (Nat.zero_le _) (by omega) (fun j h => absurd h (Nat.not_lt_zero _))
  refine ⟨g, gw, ?_, x2⟩
  unfold r_X11_weigh_35
  have x1' : lp_X11_weigh_35_3 hs tb (nI d) 4000 0 S' = _ := x1
  rw [x1']
  rfl
theorem has_0 : ∀ j, j < 8 → r_X12_has 0 (nI j) = 0 := by decide +kernel
def enc : Option Nat → Int32
  | none => -1
  | some x => nI x
def encL (L : Nat → Int32) : Option Nat → Int32
  | none => 0
  | some x => L x
def bst (L : Nat → Int32) (ns : Nat) : Nat → Nat → Option Nat → Option Nat
  | 0, _, b => b
  | n + 1, s, b => if ns ≤ s then b else bst L ns n (s + 1) (match b with | none => some s | some x => if L x < L s then some s else some x)
theorem bst_lt (L : Nat → Int32) (ns : Nat) : ∀ n s b, (∀ x, b = some x → x < ns) → ∀ x, bst L ns n s b = some x → x < ns := by
  intro n
  induction n with
  | zero => intro s b h x hx; exact h x hx
  | succ n ih =>
    intro s b h x hx
    unfold bst at hx
    split at hx
    · exact h x hx
    · refine ih _ _ (fun y hy => ?_) x hx
      cases b with
      | none => cases hy; omega
      | some z =>
        have hz := h z rfl
        simp only at hy
        split at hy
        · cases hy; omega
        · cases hy; exact hz
theorem bst_ne (L : Nat → Int32) (ns : Nat) : ∀ n s b, b ≠ none → bst L ns n s b ≠ none := by
  intro n
  induction n with
  | zero => intro s b h; exact h
  | succ n ih =>
    intro s b h
    unfold bst
    split
    · exact h
    · refine ih _ _ ?_
      cases b with
      | none => exact absurd rfl h
      | some z =>
        simp only
        split <;> exact fun q => by cases q
theorem bst_z (L : Nat → Int32) (n : Nat) : bst L 0 (n + 1) 0 none = none := by
  unfold bst
  rw [if_pos (Nat.zero_le _)]
theorem bst_nz (L : Nat → Int32) {ns : Nat} (h : 0 < ns) (n : Nat) : bst L ns (n + 1) 0 none ≠ none := by
  unfold bst
  rw [if_neg (Nat.not_le.mpr h)]
  exact bst_ne _ _ _ _ _ (fun q => by cases q)
theorem lp_bst_c {S' : St} {L : Nat → Int32} {ns : Nat} (n8 : ns ≤ 8) (c2 : S'.1 8 2 = nI ns) (hw : ∀ j, j < ns → S'.1 34 j = L j) : ∀ n s b, s ≤ ns → ns < n + s → (∀ x, b = some x → x < ns) → lp_X11_bestBeside_4 S' 0 n (enc b) (nI s) = some (enc (bst L ns n s b)) := by
  intro n
  induction n with
  | zero => intro s b h1 h2; omega
  | succ n ih =>
    intro s b h1 h2 hb
    unfold lp_X11_bestBeside_4 bst
    rw [c2, in_has]
    by_cases w : s = ns
    · subst w
      rw [if_pos (nI_le (Nat.le_refl _) (by omega)), if_pos (Nat.le_refl _)]
    have hs8 : s < 8 := by omega
    rw [if_neg (nI_ge (by omega) (by omega)), if_neg (show ¬ ns ≤ s by omega), if_pos (has_0 s hs8), nI_1]
    cases b with
    | none =>
      rw [if_pos (show enc none < 0 by decide)]
      exact ih (s + 1) (some s) (by omega) (by omega) (fun x hx => by cases hx; omega)
    | some x =>
      have hx := hb x rfl
      show (if nI x < 0 then _ else gd _ (gd (¬ (nI x < 0 ∨ 8 ≤ (nI x).toNatClampNeg)) (if S'.1 34 (nI s).toNatClampNeg ≤ S'.1 34 (nI x).toNatClampNeg then lp_X11_bestBeside_4 S' 0 n (enc (some x)) (nI (s + 1)) else lp_X11_bestBeside_4 S' 0 n (enc (some s)) (nI (s + 1))))) = some (enc (bst L ns n (s + 1) (if L x < L s then some s else some x)))
      rw [if_neg (nI_pos (by omega)), gdN hs8 (by decide), gdN (show x < 8 by omega) (by decide), nI_clamp (by omega), nI_clamp (by omega), hw s (by omega), hw x hx]
      by_cases z : L x < L s
      · rw [if_neg (Int32.not_le.mpr z), if_pos z]
        exact ih (s + 1) (some s) (by omega) (by omega) (fun x hx => by cases hx; omega)
      · rw [if_pos (Int32.not_lt.mp z), if_neg z]
        exact ih (s + 1) (some x) (by omega) (by omega) (fun y hy => by cases hy; exact hx)
theorem lp_bst_m {S : St} {hs : List Hr} {ns nh : Nat} {KV : Nat → Nat → Int32 → Nat → Int32} {LV : Nat → Nat → Nat → Int32 → Nat → Int32} (hL : Lg S hs ns nh KV LV) (d1 : nh ≤ 6) (n8 : ns ≤ 8) (hT4 : ∀ i, i < 48 → ∃ k, k ≤ 999 ∧ S.1 82 i = nI k) (c3 : S.1 76 0 = nI ns) (d3 : S.1 76 1 = nI nh) (gone : S.1 76 28 = 0) {d : Nat} (tb : Int32) (hd : d < 20000) (y3 : S.1 76 2 = nI d) : ∀ n s b S', MindM S S' → S'.1 82 = S.1 82 → S'.1 83 = S.1 83 → S'.1 76 2 = S.1 76 2 → S'.1 76 28 = S.1 76 28 → s ≤ ns → ns < n + s → (∀ x, b = some x → x < ns) → ∃ w g, lp_X12_bestOf_7 tb n (enc b) (encL (fun j => LN S LV nh j tb d) b) (nI s) S' = some (enc (bst (fun j => LN S LV nh j tb d) ns n s b), w) ∧ w = sA S' 93 g := by
  intro n
  induction n with
  | zero => intro s b S' _ _ _ _ _ h1 h2; omega
  | succ n ih =>
    intro s b S' hM e82 e83 e2 e28 h1 h2 hb
    unfold lp_X12_bestOf_7 bst
    rw [hM.2 0 rfl, c3, e28, gone]
    by_cases w : s = ns
    · subst w
      refine ⟨S', S'.1 93, ?_, (sA_self _ _).symm⟩
      rw [if_pos (nI_le (Nat.le_refl _) (by omega)), if_pos (Nat.le_refl _)]
    have hs8 : s < 8 := by omega
    obtain ⟨g, hg⟩ := laughter_m hL d1 tb hs8 hd hM (by rw [hM.2 1 rfl]; exact d3) (e2.trans y3) (by rw [e82]; exact TmOk.of hT4 d1 hs8)
    rw [e82, e83] at hg
    have hg2 : r_X12_laughter S' (nI s) tb = some (LN S LV nh s tb d, sA S' 93 g) := hg
    rw [if_neg (nI_ge (by omega) (by omega)), if_neg (show ¬ ns ≤ s by omega), if_pos (has_0 s hs8), nI_1, hg2]
    cases b with
    | none =>
      obtain ⟨w, g', x1, x2⟩ := ih (s + 1) (some s) (sA S' 93 g) (hM.a rfl g) e82 e83 e2 e28 (by omega) (by omega) (fun x hx => by cases hx; omega)
      rw [sA_sA] at x2
      refine ⟨w, g', ?_, x2⟩
      show (if enc none < 0 then lp_X12_bestOf_7 tb n (nI s) (LN S LV nh s tb d) (nI (s + 1)) (sA S' 93 g) else if encL (fun j => LN S LV nh j tb d) none < LN S LV nh s tb d then lp_X12_bestOf_7 tb n (nI s) (LN S LV nh s tb d) (nI (s + 1)) (sA S' 93 g) else lp_X12_bestOf_7 tb n (enc none) (encL (fun j => LN S LV nh j tb d) none) (nI (s + 1)) (sA S' 93 g)) = _
      rw [if_pos (show enc none < 0 by decide)]
      exact x1
    | some x =>
      have hx := hb x rfl
      show ∃ w g', (if nI x < 0 then _ else if LN S LV nh x tb d < LN S LV nh s tb d then lp_X12_bestOf_7 tb n (nI s) (LN S LV nh s tb d) (nI (s + 1)) (sA S' 93 g) else lp_X12_bestOf_7 tb n (nI x) (LN S LV nh x tb d) (nI (s + 1)) (sA S' 93 g)) = some (enc (bst (fun j => LN S LV nh j tb d) ns n (s + 1) (if LN S LV nh x tb d < LN S LV nh s tb d then some s else some x)), w) ∧ w = sA S' 93 g'
      rw [if_neg (nI_pos (by omega))]
      by_cases z : LN S LV nh x tb d < LN S LV nh s tb d
      · rw [if_pos z, if_pos z]
        obtain ⟨w, g', x1, x2⟩ := ih (s + 1) (some s) (sA S' 93 g) (hM.a rfl g) e82 e83 e2 e28 (by omega) (by omega) (fun x hx => by cases hx; omega)
        rw [sA_sA] at x2
        exact ⟨w, g', x1, x2⟩
      · rw [if_neg z, if_neg z]
        obtain ⟨w, g', x1, x2⟩ := ih (s + 1) (some x) (sA S' 93 g) (hM.a rfl g) e82 e83 e2 e28 (by omega) (by omega) (fun y hy => by cases hy; exact hx)
        rw [sA_sA] at x2
        exact ⟨w, g', x1, x2⟩
theorem k_best : K14 Inv := by
  intro S hs a1 a2 hI
  obtain ⟨nb, hB, ⟨ns, nh, nd, nf, ne, ⟨⟨c1, c2, c3⟩, ⟨d1, d2, d3⟩, ⟨y1, y2, y3⟩, ⟨f1, f2, f3⟩, ⟨b1, b2, b3⟩, t1, t2⟩, hA, hT, hR, hF, hK, hW⟩, hIm, hTx, hTr, hTp, hHo, hL⟩ := id hI
  by_cases q2 : r_X12_in a2 0 1 = 0
  · refine ⟨-10001, S, S, ?_, ?_, hI⟩
    · unfold r_X11_best
      rw [within_in, if_pos q2]
    · unfold r_X12_best
      rw [if_pos q2]
  by_cases q3 : r_X12_in a1 0 (((1 : Int32) <<< (nI nh &&& 31)) - 1) = 0
  · refine ⟨-10002, S, S, ?_, ?_, hI⟩
    · unfold r_X11_best r_X11_isTable r_X11_everybody
      rw [within_in, d2, if_neg q2, if_pos q3]
    · unfold r_X12_best r_X12_isTable
      rw [d3, if_neg q2, if_pos q3]
  obtain ⟨KV, LV, hLg⟩ := lg_of hI c3 d3 c1 d1
  obtain ⟨g, gw, hg, hgw⟩ := w34 hLg d1 hT.2.2.2 d2 c1 c2 (d := nd) a1 (by omega) (Mind.rf S)
  have hM1 : Mind S (sA (sA S 33 g) 34 gw) := ((Mind.rf S).a rfl g).a rfl gw
  have hI1 : Inv (sA (sA S 33 g) 34 gw) hs := hI.mind hM1 rfl rfl rfl rfl
  have hbc := lp_bst_c (S' := sA (sA S 33 g) 34 gw) (L := fun j => LN S LV nh j a1 nd) c1 c2 hgw 4000 0 none (Nat.zero_le _) (by omega) (fun x hx => by cases hx)
  have hb2 : r_X11_bestBeside (sA (sA S 33 g) 34 gw) 0 = some (enc (bst (fun j => LN S LV nh j a1 nd) ns 4000 0 none)) := by
    unfold r_X11_bestBeside
    have : lp_X11_bestBeside_4 (sA (sA S 33 g) 34 gw) 0 4000 (-1) 0 = _ := hbc
    rw [this]
    rfl
  by_cases z : ns = 0
  · subst z
    have hz : bst (fun j => LN S LV nh j a1 nd) 0 4000 0 none = none := bst_z _ 3999
    rw [hz] at hb2
    refine ⟨-10005, sA (sA S 33 g) 34 gw, sA (sA S 33 g) 34 gw, ?_, ?_, hI1⟩
    · unfold r_X11_best r_X11_isTable r_X11_everybody
      rw [within_in, d2, if_neg q2, if_neg q3, y2, hg]
      show (r_X11_bestBeside (sA (sA S 33 g) 34 gw) 0).bind _ = _
      rw [hb2]
      rfl
    · unfold r_X12_best r_X12_isTable
      show (if r_X12_in a2 0 1 = 0 then _ else if r_X12_in a1 0 (((1 : Int32) <<< (S.1 76 1 &&& 31)) - 1) = 0 then _ else if S.1 76 0 = 0 then _ else _) = _
      rw [d3, c3, if_neg q2, if_neg q3, if_pos (show nI 0 = 0 from rfl)]
  obtain ⟨w, g', x1, x2⟩ := lp_bst_m hLg d1 c1 hT.2.2.2 c3 d3 hL.2 (d := nd) a1 (by omega) y3 4000 0 none (sA (sA S 33 g) 34 gw) hM1.m rfl rfl rfl rfl (Nat.zero_le _) (by omega) (fun x hx => by cases hx)
  subst x2
  have hlt := bst_lt (fun j => LN S LV nh j a1 nd) ns 4000 0 none (fun x hx => by cases hx)
  have hne : bst (fun j => LN S LV nh j a1 nd) ns 4000 0 none ≠ none := bst_nz _ (by omega) 3999
  cases hr : bst (fun j => LN S LV nh j a1 nd) ns 4000 0 none with
  | none => exact absurd hr hne
  | some x =>
    have hx := hlt x hr
    rw [hr] at hb2 x1
    have e1 : r_X12_bestOf (sA (sA S 33 g) 34 gw) a1 = some (nI x, sA (sA (sA S 33 g) 34 gw) 93 g') := by
      unfold r_X12_bestOf
      have : lp_X12_bestOf_7 a1 4000 (-1) 0 0 (sA (sA S 33 g) 34 gw) = _ := x1
      rw [this]
      rfl
    have hM2 : Mind S (sA (sA (sA S 33 g) 34 gw) 93 g') := hM1.a rfl g'
    obtain ⟨g2, hg2⟩ := laughter_m (S' := sA (sA (sA S 33 g) 34 gw) 93 g') hLg d1 (d := nd) a1 (show x < 8 by omega) (by omega) hM2.m d3 y3 (TmOk.of hT.2.2.2 d1 (by omega))
    rw [sA_sA] at hg2
    by_cases y : a2 = 0
    · refine ⟨nI x, sA (sA S 33 g) 34 gw, sA (sA (sA S 33 g) 34 gw) 93 g', ?_, ?_, hI.mind hM2 rfl rfl rfl rfl⟩
      · unfold r_X11_best r_X11_isTable r_X11_everybody
        rw [within_in, d2, if_neg q2, if_neg q3, y2, hg]
        show (r_X11_bestBeside (sA (sA S 33 g) 34 gw) 0).bind _ = _
        rw [hb2]
        show (if 0 ≤ nI x then if a2 = 0 then some (nI x, sA (sA S 33 g) 34 gw) else gd (¬ (nI x < 0 ∨ 8 ≤ (nI x).toNatClampNeg)) (some (gw (nI x).toNatClampNeg, sA (sA S 33 g) 34 gw)) else some (-10005, sA (sA S 33 g) 34 gw)) = _
        rw [if_pos (show (0 : Int32) ≤ nI x from nI_le (a := 0) (Nat.zero_le _) (by omega)), if_pos y]
      · unfold r_X12_best r_X12_isTable
        show (if r_X12_in a2 0 1 = 0 then _ else if r_X12_in a1 0 (((1 : Int32) <<< (S.1 76 1 &&& 31)) - 1) = 0 then _ else if S.1 76 0 = 0 then _ else _) = _
        rw [d3, c3, if_neg q2, if_neg q3, if_neg (nI_ne0 (by omega) (by omega)), e1]
        exact if_pos y
    · refine ⟨LN S LV nh x a1 nd, sA (sA S 33 g) 34 gw, sA (sA (sA S 33 g) 34 gw) 93 g2, ?_, ?_, hI.mind (hM1.a rfl g2) rfl rfl rfl rfl⟩
      · unfold r_X11_best r_X11_isTable r_X11_everybody
        rw [within_in, d2, if_neg q2, if_neg q3, y2, hg]
        show (r_X11_bestBeside (sA (sA S 33 g) 34 gw) 0).bind _ = _
        rw [hb2]
        show (if 0 ≤ nI x then if a2 = 0 then some (nI x, sA (sA S 33 g) 34 gw) else gd (¬ (nI x < 0 ∨ 8 ≤ (nI x).toNatClampNeg)) (some (gw (nI x).toNatClampNeg, sA (sA S 33 g) 34 gw)) else some (-10005, sA (sA S 33 g) 34 gw)) = _
        rw [if_pos (show (0 : Int32) ≤ nI x from nI_le (a := 0) (Nat.zero_le _) (by omega)), if_neg y, gdN (show x < 8 by omega) (by decide), nI_clamp (by omega), hgw x hx]
      · unfold r_X12_best r_X12_isTable
        show (if r_X12_in a2 0 1 = 0 then _ else if r_X12_in a1 0 (((1 : Int32) <<< (S.1 76 1 &&& 31)) - 1) = 0 then _ else if S.1 76 0 = 0 then _ else _) = _
        rw [d3, c3, if_neg q2, if_neg q3, if_neg (nI_ne0 (by omega) (by omega)), e1]
        refine (if_neg y).trans ?_
        show (r_X12_laughter (sA (sA (sA S 33 g) 34 gw) 93 g') (nI x) a1).bind _ = _
        rw [hg2]
        rfl
