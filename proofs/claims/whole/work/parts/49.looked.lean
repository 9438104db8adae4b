/-! AWAY: the model plays suppers through and puts everything back -/
def Away (S S' : St) : Prop := Mind S S' ∧ (∀ i, i < 48 → S'.1 95 i = S.1 82 i) ∧ (∀ i, i < 48 → S'.1 96 i = S.1 83 i) ∧ (∀ i, 48 ≤ i → S'.1 82 i = S.1 82 i) ∧ (∀ i, 48 ≤ i → S'.1 83 i = S.1 83 i) ∧ S'.1 76 30 = S.1 76 2
def sv (S : St) : St := sA (sA (sI S 76 30 (S.1 76 2)) 95 (cp 48 (S.1 95) (S.1 82))) 96 (cp 48 (S.1 96) (S.1 83))
def pb (S : St) : St := sA (sA (sI S 76 2 (S.1 76 30)) 82 (cp 48 (S.1 82) (S.1 95))) 83 (cp 48 (S.1 83) (S.1 96))
theorem save_m (S : St) : r_X12_save S = some (0, sv S) := by
  unfold r_X12_save
  refine ob_step (cc_lp_X12_save_10 (sI S 76 30 (S.1 76 2))) ?_
  exact rfl
theorem put_m (S : St) : r_X12_putBack S = some (0, pb S) := by
  unfold r_X12_putBack
  refine ob_step (cc_lp_X12_putBack_10 (sI S 76 2 (S.1 76 30))) ?_
  exact rfl
theorem sv_away {S S' : St} (hM : Mind S S') (e82 : S'.1 82 = S.1 82) (e83 : S'.1 83 = S.1 83) (e2 : S'.1 76 2 = S.1 76 2) : Away S (sv S') := by
  refine ⟨((hM.i rfl _).a rfl _).a rfl _, fun i hi => ?_, fun i hi => ?_, fun i _ => ?_, fun i _ => ?_, e2⟩
  · show cp 48 (S'.1 95) (S'.1 82) i = _
    rw [cp_eq 48 _ _ i hi, e82]
  · show cp 48 (S'.1 96) (S'.1 83) i = _
    rw [cp_eq 48 _ _ i hi, e83]
  · show S'.1 82 i = _
    rw [e82]
  · show S'.1 83 i = _
    rw [e83]
theorem pb_back {S S' : St} (h : Away S S') : Mind S (pb S') ∧ (pb S').1 82 = S.1 82 ∧ (pb S').1 83 = S.1 83 ∧ (pb S').1 76 2 = S.1 76 2 ∧ (pb S').1 76 28 = S'.1 76 28 := by
  obtain ⟨hM, h1, h2, h3, h4, h5⟩ := h
  refine ⟨((hM.i rfl _).a rfl _).a rfl _, ?_, ?_, h5, rfl⟩
  · show cp 48 (S'.1 82) (S'.1 95) = S.1 82
    funext i
    unfold cp
    by_cases w : i < 48
    · rw [if_pos w]
      exact h1 i w
    · rw [if_neg w]
      exact h3 i (by omega)
  · show cp 48 (S'.1 83) (S'.1 96) = S.1 83
    funext i
    unfold cp
    by_cases w : i < 48
    · rw [if_pos w]
      exact h2 i w
    · rw [if_neg w]
      exact h4 i (by omega)
theorem tlG_far {F g : Nat → Int32} {tb : Int32} {s n i : Nat} (hn : n ≤ 6) (hi : 48 ≤ i) : tlG F g tb s n i = g i := by
  unfold tlG
  exact if_neg (fun z => by have := z.2.1; omega)
theorem tlG_hs {F g : Nat → Int32} {tb : Int32} {s0 s n h : Nat} (hs8 : s < 8) : tlG F g tb s0 n (8 * h + s) = if s = s0 ∧ h < n ∧ tbl tb h = true then F h else g (8 * h + s) := by
  unfold tlG
  rw [show (8 * h + s) % 8 = s by omega, show (8 * h + s) / 8 = h by omega]
theorem Away.tells {S S' : St} (hA : Away S S') {g : Nat → Int32} {tb : Int32} {nh s d : Nat} (h6 : nh ≤ 6) : Away S (sA (sA (sA S' 93 g) 82 (tmU (S'.1 82) tb nh s)) 83 (laU (S'.1 83) tb nh s d)) := by
  obtain ⟨hM, h1, h2, h3, h4, h5⟩ := hA
  refine ⟨((hM.a rfl g).a rfl _).a rfl _, h1, h2, fun i hi => ?_, fun i hi => ?_, h5⟩
  · exact (tlG_far h6 hi).trans (h3 i hi)
  · show tlG (fun _ => nI d) (S'.1 83) tb s nh i = _
    exact (tlG_far h6 hi).trans (h4 i hi)
theorem Away.i2 {S S' : St} (hA : Away S S') {k : Nat} (hk : mind76.elem k = true) (h30 : k ≠ 30) (v : Int32) : Away S (sI S' 76 k v) := by
  obtain ⟨hM, h1, h2, h3, h4, h5⟩ := hA
  refine ⟨hM.i hk v, h1, h2, h3, h4, ?_⟩
  rw [sI_sl (fun z => h30 z.symm)]
  exact h5
theorem Away.a2 {S S' : St} (hA : Away S S') {k : Nat} (hk : mindL.elem k = true) (h1' : k ≠ 82) (h2' : k ≠ 83) (h3' : k ≠ 95) (h4' : k ≠ 96) (g : Nat → Int32) : Away S (sA S' k g) := by
  obtain ⟨hM, h1, h2, h3, h4, h5⟩ := hA
  have h76 : (76 : Nat) ≠ k := fun z => by rw [← z] at hk; exact absurd hk (by decide)
  refine ⟨hM.a hk g, ?_, ?_, ?_, ?_, ?_⟩
  · rw [sA_ne (fun z => h3' z.symm)]; exact h1
  · rw [sA_ne (fun z => h4' z.symm)]; exact h2
  · rw [sA_ne (fun z => h1' z.symm)]; exact h3
  · rw [sA_ne (fun z => h2' z.symm)]; exact h4
  · rw [sA_ne h76]; exact h5
/-! LOOKED -/
def cntB (bk : Nat → Nat) (s : Nat) : Nat → Nat
  | 0 => 0
  | v + 1 => cntB bk s v + (if bk v = s then 1 else 0)
def lstB (bk : Nat → Nat) (s nd : Nat) : Nat → Nat
  | 0 => 0
  | v + 1 => if bk v = s then nd + v else lstB bk s nd v
theorem cntB_le (bk : Nat → Nat) (s : Nat) : ∀ v, cntB bk s v ≤ v
  | 0 => Nat.le_refl _
  | v + 1 => by
    have := cntB_le bk s v
    show cntB bk s v + _ ≤ _
    split <;> omega
theorem lstB_le (bk : Nat → Nat) (s nd : Nat) : ∀ v, lstB bk s nd v ≤ nd + v
  | 0 => Nat.zero_le _
  | v + 1 => by
    have := lstB_le bk s nd v
    show (if bk v = s then nd + v else lstB bk s nd v) ≤ _
    split <;> omega
def Srv (S S' : St) (nh nd : Nat) (bk : Nat → Nat) (v : Nat) : Prop := (∀ h s, h < nh → s < 8 → S'.1 82 (8 * h + s) = nI (min 999 (tmO (S.1 82) h s + cntB bk s v))) ∧ (∀ h s, h < nh → s < 8 → S'.1 83 (8 * h + s) = if cntB bk s v = 0 then S.1 83 (8 * h + s) else nI (lstB bk s nd v)) ∧ S'.1 76 2 = nI (nd + v)
theorem lp_lk20 {S : St} {hs : List Hr} {ne nd v : Nat} {bk : Nat → Nat} (hv : v < ne) (ne10 : ne ≤ 10) (hb8 : ∀ k, k < ne → bk k < 8) (hbk : ∀ k, k < ne → S.1 17 k = nI (bk k)) (y2 : S.1 8 0 = nI nd) : ∀ n j, j ≤ v → v < n + j → lp_X11_looked_20 S hs (nI v) n (nI (cntB bk (bk v) j)) (nI (lstB bk (bk v) nd j)) (nI j) = some (nI (cntB bk (bk v) v), nI (lstB bk (bk v) nd v)) := by
  intro n
  induction n with
  | zero => intro j h1 h2; omega
  | succ n ih =>
    intro j h1 h2
    unfold lp_X11_looked_20
    by_cases w : j = v
    · subst w
      exact if_pos (nI_le (Nat.le_refl _) (by omega))
    have e := ih (j + 1) (by omega) (by omega)
    have b1 := hb8 j (by omega)
    have b2 := hb8 v hv
    rw [if_neg (nI_ge (by omega) (by omega)), gdN (show j < 10 by omega) (by decide), gdN (show v < 10 by omega) (by decide), nI_clamp (by omega), nI_clamp (by omega), hbk j (by omega), hbk v hv, y2, nI_1, nI_1, nI_add]
    have e1 : cntB bk (bk v) (j + 1) = cntB bk (bk v) j + (if bk j = bk v then 1 else 0) := rfl
    have e2 : lstB bk (bk v) nd (j + 1) = if bk j = bk v then nd + j else lstB bk (bk v) nd j := rfl
    rw [e1, e2] at e
    by_cases z : bk j = bk v
    · rw [if_pos (by rw [z])]
      rw [if_pos z, if_pos z] at e
      exact e
    · rw [if_neg (fun q => z ((nI_eq (by omega) (by omega)).mp q))]
      rw [if_neg z, if_neg z, Nat.add_zero] at e
      exact e
theorem lp_lk {S : St} {hs : List Hr} {ns nh nd ne : Nat} {KV : Nat → Nat → Int32 → Nat → Int32} {LV : Nat → Nat → Nat → Int32 → Nat → Int32} {bk : Nat → Nat} (hL : Lg S hs ns nh KV LV) (d1 : nh ≤ 6) (hT4 : ∀ i, i < 48 → ∃ k, k ≤ 999 ∧ S.1 82 i = nI k) (d2 : S.1 8 3 = nI nh) (d3 : S.1 76 1 = nI nh) (y1 : nd ≤ 9999) (y2 : S.1 8 0 = nI nd) (b1 : ne ≤ 10) (b2 : S.1 8 5 = nI ne) (b3 : S.1 76 40 = nI ne) (hb8 : ∀ k, k < ne → bk k < 8) (h17 : ∀ k, k < ne → S.1 17 k = nI (bk k)) (h103 : ∀ k, k < ne → S.1 103 k = nI (bk k)) : ∀ n v T S', Mind S T → Away S S' → S'.1 76 28 = S.1 76 28 → Srv S S' nh nd bk v → v ≤ ne → ne + 1 < n + v → ∃ (r : Nat) (u : Int32) (g : Nat → Int32) (S'' : St), lp_X11_looked_2 hs n (nI v) T = some (r, u, sA T 33 g) ∧ lp_X12_looked_9 n (-5) (nI v) S' = some (if r = 0 then u else -5, S'') ∧ Away S S'' ∧ S''.1 76 28 = S.1 76 28 := by
  intro n
  induction n with
  | zero => intro v T S' _ _ _ _ h1 h2; omega
  | succ n ih =>
    intro v T S' hM hA e28 hSv h1 h2
    unfold lp_X11_looked_2
    rw [lp_X12_looked_9]
    rw [hM.1 8 (by decide) rfl, b2, hA.1.2.1 40 rfl, b3]
    by_cases w : v = ne
    · subst w
      refine ⟨1, nI v, T.1 33, S', ?_, ?_, hA, e28⟩
      · rw [if_pos (nI_le (Nat.le_refl _) (by omega)), sA_self]
      · rw [if_pos (nI_le (Nat.le_refl _) (by omega))]
        rfl
    have hv : v < ne := by omega
    have hs8 := hb8 v hv
    obtain ⟨s1, s2, s3⟩ := hSv
    have hc9 : cntB bk (bk v) v ≤ 9 := by have := cntB_le bk (bk v) v; omega
    have hlk := lp_lk20 (S := T) (hs := hs) (nd := nd) hv b1 hb8 (fun k hk => by rw [hM.1 17 (by decide) rfl]; exact h17 k hk) (by rw [hM.1 8 (by decide) rfl]; exact y2) 4000 0 (Nat.zero_le _) (by omega)
    have hlk' : lp_X11_looked_20 T hs (nI v) 4000 0 0 0 = _ := hlk
    have tbF : ((1 : Int32) <<< (nI nh &&& 31)) - 1 = nI (2 ^ nh - 1) := by
      rw [p2 (by omega), show (1 : Int32) = nI 1 from rfl, nI_sub (Nat.two_pow_pos nh)]
    obtain ⟨g, hg⟩ := laughter_c hL d1 hT4 d2 (s := bk v) (d := nd + v) (nI (2 ^ nh - 1)) (nI (lstB bk (bk v) nd v)) hs8 (by omega) hc9 hM
    have hTm : TmOk (S'.1 82) nh (bk v) := by
      intro h hh
      have : tmO (S'.1 82) h (bk v) = min 999 (tmO (S.1 82) h (bk v) + cntB bk (bk v) v) := by
        unfold tmO
        rw [s1 h (bk v) hh hs8, nI_clamp (by have := Nat.min_le_left 999 (tmO (S.1 82) h (bk v) + cntB bk (bk v) v); omega)]
        rfl
      rw [this]
      exact ⟨s1 h (bk v) hh hs8, Nat.min_le_left _ _⟩
    obtain ⟨g', hg'⟩ := tells_m hL d1 (s := bk v) (d := nd + v) (nI (2 ^ nh - 1)) hs8 (by omega) hA.1.m (by rw [hA.1.2.1 1 rfl]; exact d3) s3 hTm
    have eqL : LN S' LV nh (bk v) (nI (2 ^ nh - 1)) (nd + v) = sumL (fun h => LV h (bk v) (min 999 (tmO (S.1 82) h (bk v) + cntB bk (bk v) v)) (if cntB bk (bk v) v = 0 then S.1 83 (8 * h + bk v) else nI (lstB bk (bk v) nd v)) (nd + v)) (tbl (nI (2 ^ nh - 1))) nh := by
      unfold LN
      refine sumL_cong fun h hh => ?_
      have : tmO (S'.1 82) h (bk v) = min 999 (tmO (S.1 82) h (bk v) + cntB bk (bk v) v) := by
        unfold tmO
        rw [s1 h (bk v) hh hs8, nI_clamp (by have := Nat.min_le_left 999 (tmO (S.1 82) h (bk v) + cntB bk (bk v) v); omega)]
        rfl
      rw [this, s2 h (bk v) hh hs8]
    rw [eqL] at hg'
    generalize hF : sumL (fun h => LV h (bk v) (min 999 (tmO (S.1 82) h (bk v) + cntB bk (bk v) v)) (if cntB bk (bk v) v = 0 then S.1 83 (8 * h + bk v) else nI (lstB bk (bk v) nd v)) (nd + v)) (tbl (nI (2 ^ nh - 1))) nh = F at hg hg'
    have hevb : r_X11_everybody T = nI (2 ^ nh - 1) := by
      unfold r_X11_everybody
      rw [hM.1 8 (by decide) rfl, d2, tbF]
    rw [if_neg (nI_ge (by omega) (by omega)), if_neg (nI_ge (by omega) (by omega)), if_neg (show ¬ (0 : Int32) ≤ -5 by decide), hlk', nI_1]
    have hA2 : Away S (sI (sA (sA (sA S' 93 g') 82 (tmU (S'.1 82) (nI (2 ^ nh - 1)) nh (bk v))) 83 (laU (S'.1 83) (nI (2 ^ nh - 1)) nh (bk v) (nd + v))) 76 2 (S'.1 76 2 + 1)) := (hA.tells d1).i2 rfl (by decide) _
    have hSv2 : Srv S (sI (sA (sA (sA S' 93 g') 82 (tmU (S'.1 82) (nI (2 ^ nh - 1)) nh (bk v))) 83 (laU (S'.1 83) (nI (2 ^ nh - 1)) nh (bk v) (nd + v))) 76 2 (S'.1 76 2 + 1)) nh nd bk (v + 1) := by
      refine ⟨fun h s hh hs => ?_, fun h s hh hs => ?_, ?_⟩
      · show tlG (tlF fun h => tmO (S'.1 82) h (bk v)) (S'.1 82) (nI (2 ^ nh - 1)) (bk v) nh (8 * h + s) = nI (min 999 (tmO (S.1 82) h s + (cntB bk s v + if bk v = s then 1 else 0)))
        rw [tlG_hs hs]
        by_cases z : s = bk v
        · subst z
          rw [if_pos ⟨rfl, hh, tbl_full nh (by omega) h (by omega) hh⟩, if_pos rfl]
          unfold tlF
          have : tmO (S'.1 82) h (bk v) = min 999 (tmO (S.1 82) h (bk v) + cntB bk (bk v) v) := by
            unfold tmO
            rw [s1 h (bk v) hh hs8, nI_clamp (by have := Nat.min_le_left 999 (tmO (S.1 82) h (bk v) + cntB bk (bk v) v); omega)]
            rfl
          show nI (min 999 (tmO (S'.1 82) h (bk v) + 1)) = _
          rw [this]
          congr 1
          omega
        · rw [if_neg (fun q => z q.1), if_neg (fun q => z q.symm), Nat.add_zero]
          exact s1 h s hh hs
      · show tlG (fun _ => nI (nd + v)) (S'.1 83) (nI (2 ^ nh - 1)) (bk v) nh (8 * h + s) = if (cntB bk s v + if bk v = s then 1 else 0) = 0 then S.1 83 (8 * h + s) else nI (if bk v = s then nd + v else lstB bk s nd v)
        rw [tlG_hs hs]
        by_cases z : s = bk v
        · subst z
          rw [if_pos ⟨rfl, hh, tbl_full nh (by omega) h (by omega) hh⟩, if_pos rfl, if_pos rfl, if_neg (by omega)]
        · rw [if_neg (fun q => z q.1), if_neg (show ¬ bk v = s from fun q => z q.symm), if_neg (show ¬ bk v = s from fun q => z q.symm), Nat.add_zero]
          exact s2 h s hh hs
      · show S'.1 76 2 + 1 = _
        rw [s3, nI_1]
        rfl
    have hcl : ∀ (X : Int32 × Int32 → Option (Nat × Int32 × St)), (some (nI (cntB bk (bk v) v), nI (lstB bk (bk v) nd v))).bind X = X (nI (cntB bk (bk v) v), nI (lstB bk (bk v) nd v)) := fun _ => rfl
    rw [hcl]
    show ∃ r u g S'', gd (¬ (nI v < 0 ∨ 10 ≤ (nI v).toNatClampNeg)) ((r_X11_laughterThen T hs (T.1 17 (nI v).toNatClampNeg) (r_X11_everybody T) (S.1 8 0 + nI v) (nI (cntB bk (bk v) v)) (nI (lstB bk (bk v) nd v))).bind fun q2 => if 0 < q2.1 then lp_X11_looked_2 hs n (nI (v + 1)) q2.2 else some (0, nI v, q2.2)) = some (r, u, sA T 33 g) ∧ gd (¬ (nI v < 0 ∨ 10 ≤ (nI v).toNatClampNeg)) ((r_X12_tells S' (S'.1 103 (nI v).toNatClampNeg) (((1 : Int32) <<< (S'.1 76 1 &&& 31)) - 1)).bind fun q2 => if q2.1 ≤ 0 then lp_X12_looked_9 n (nI v) (nI (v + 1)) (sI q2.2 76 2 (q2.2.1 76 2 + 1)) else lp_X12_looked_9 n (-5) (nI (v + 1)) (sI q2.2 76 2 (q2.2.1 76 2 + 1))) = some (if r = 0 then u else -5, S'') ∧ Away S S'' ∧ S''.1 76 28 = S.1 76 28
    rw [gdN (show v < 10 by omega) (by decide), gdN (show v < 10 by omega) (by decide), nI_clamp (by omega), hM.1 17 (by decide) rfl, hA.1.1 103 (by decide) rfl, hA.1.2.1 1 rfl, h17 v hv, h103 v hv, d3, tbF, y2, nI_add, hevb, hg, hg']
    show ∃ r u g_1 S'', (if 0 < F then lp_X11_looked_2 hs n (nI (v + 1)) (sA T 33 g) else some (0, nI v, sA T 33 g)) = some (r, u, sA T 33 g_1) ∧ (if F ≤ 0 then lp_X12_looked_9 n (nI v) (nI (v + 1)) (sI (sA (sA (sA S' 93 g') 82 (tmU (S'.1 82) (nI (2 ^ nh - 1)) nh (bk v))) 83 (laU (S'.1 83) (nI (2 ^ nh - 1)) nh (bk v) (nd + v))) 76 2 (S'.1 76 2 + 1)) else lp_X12_looked_9 n (-5) (nI (v + 1)) (sI (sA (sA (sA S' 93 g') 82 (tmU (S'.1 82) (nI (2 ^ nh - 1)) nh (bk v))) 83 (laU (S'.1 83) (nI (2 ^ nh - 1)) nh (bk v) (nd + v))) 76 2 (S'.1 76 2 + 1))) = some (if r = 0 then u else -5, S'') ∧ Away S S'' ∧ S''.1 76 28 = S.1 76 28
    by_cases z : 0 < F
    · rw [if_pos z, if_neg (Int32.not_le.mpr z)]
      obtain ⟨r, u, g2, S'', x1, x2, x3, x4⟩ := ih (v + 1) (sA T 33 g) _ (hM.a rfl g) hA2 e28 hSv2 (by omega) (by omega)
      rw [sA_sA] at x1
      exact ⟨r, u, g2, S'', x1, x2, x3, x4⟩
    · rw [if_neg z, if_pos (Int32.not_lt.mp z)]
      obtain ⟨m, rfl⟩ : ∃ m, n = m + 1 := ⟨n - 1, by omega⟩
      refine ⟨0, nI v, g, _, rfl, ?_, hA2, e28⟩
      rw [lp_X12_looked_9]
      by_cases y : S'.1 76 40 ≤ nI (v + 1)
      · exact if_pos y
      · refine (if_neg y).trans ?_
        exact if_pos (nI_le (a := 0) (Nat.zero_le _) (by omega))
theorem k_looked : K28 Inv := by
  intro S hs hI
  obtain ⟨nb, hB, ⟨ns, nh, nd, nf, ne, ⟨⟨c1, c2, c3⟩, ⟨d1, d2, d3⟩, ⟨y1, y2, y3⟩, ⟨f1, f2, f3⟩, ⟨b1, b2, b3⟩, t1, t2⟩, hA, hT, hR, hF, hK, hW⟩, hIm, hTx, hTr, hTp, hHo, hL⟩ := id hI
  obtain ⟨KV, LV, hLg⟩ := lg_of hI c3 d3 c1 d1
  have hb : ∀ k, k < ne → (S.1 103 k).toNatClampNeg < 8 ∧ S.1 103 k = nI (S.1 103 k).toNatClampNeg := by
    intro k hk
    obtain ⟨s, hs1, es⟩ := hK.2 k hk
    rw [es, nI_clamp (by omega)]
    exact ⟨by omega, rfl⟩
  have h0 : ∀ S', Mind S S' → S'.1 82 = S.1 82 → S'.1 83 = S.1 83 → S'.1 76 2 = S.1 76 2 → Srv S (sv S') nh nd (fun k => (S.1 103 k).toNatClampNeg) 0 := by
    intro S' hM e82 e83 e2
    refine ⟨fun h s hh hs8 => ?_, fun h s hh hs8 => ?_, ?_⟩
    · show S'.1 82 (8 * h + s) = nI (min 999 (tmO (S.1 82) h s + 0))
      obtain ⟨t1, t2⟩ := TmOk.of hT.2.2.2 d1 hs8 h hh
      rw [e82, Nat.add_zero, Nat.min_eq_right t2]
      exact t1
    · show S'.1 83 (8 * h + s) = S.1 83 (8 * h + s)
      rw [e83]
    · show S'.1 76 2 = _
      rw [e2, y3]
      rfl
  have run := fun (S' : St) (hM : Mind S S') (e82 : S'.1 82 = S.1 82) (e83 : S'.1 83 = S.1 83) (e2 : S'.1 76 2 = S.1 76 2) (e28 : S'.1 76 28 = S.1 76 28) => lp_lk (hs := hs) hLg d1 hT.2.2.2 d2 d3 y1 y2 b1 b2 b3 (fun k hk => (hb k hk).1) (fun k hk => by rw [hK.1 k (by omega)]; exact (hb k hk).2) (fun k hk => (hb k hk).2) 4000 0 S (sv S') (Mind.rf S) (sv_away hM e82 e83 e2) e28 (h0 S' hM e82 e83 e2) (Nat.zero_le _) (by omega)
  obtain ⟨r, u, g, _, x1, _, _, _⟩ := run S (Mind.rf S) rfl rfl rfl rfl
  obtain ⟨r', u', _, S'', z1, x2, x3, x4⟩ := run (sA S 33 g) ((Mind.rf S).a rfl g) rfl rfl rfl rfl
  have er := Option.some.inj (x1.symm.trans z1)
  have er1 : r = r' := congrArg Prod.fst er
  have er2 : u = u' := congrArg (fun x => x.2.1) er
  subst er1
  subst er2
  obtain ⟨p1, p2', p3, p4, p5⟩ := pb_back x3
  refine ⟨if r = 0 then u else -5, sA S 33 g, pb S'', ?_, ?_, hI.mind p1 p2' p3 p4 (p5.trans x4)⟩
  · unfold r_X11_looked
    refine ob_step x1 ?_
    show (if r = 0 then some (u, sA S 33 g) else some (-5, sA S 33 g)) = _
    split <;> rfl
  · unfold r_X12_looked
    refine ob_step (save_m (sA S 33 g)) ?_
    refine ob_step x2 ?_
    refine ob_step (put_m S'') ?_
    exact rfl
