/-! TABLE: sums and sets over a table's HEARERS, on both sides -/
def Lg (S : St) (hs : List Hr) (ns nh : Nat) (KV : Nat → Nat → Int32 → Nat → Int32) (LV : Nat → Nat → Nat → Int32 → Nat → Int32) : Prop :=
  (∀ h tm last d, KV h tm last d = 0 ∨ KV h tm last d = 1) ∧ ((∀ h s tm last d, h < nh → s < ns → tm ≤ 999 → sm (LV h s tm last d) 3000) ∧
  ∀ S', MindM S S' → ∀ h, h < nh →
    (∀ s tm d, s < 8 → tm ≤ 999 → d < 20000 → S'.1 82 (8 * h + s) = nI tm → S'.1 76 2 = nI d → r_X12_knows S' (nI h) (nI s) = some (KV h tm (S'.1 83 (8 * h + s)) d) ∧ ∃ g, r_X12_laughOf S' (nI h) (nI s) = some (LV h s tm (S'.1 83 (8 * h + s)) d, sA S' 93 g))) ∧
  ∀ S', Mind S S' → ∀ h, h < nh →
    (∀ s tm d, s < 8 → tm ≤ 999 → d < 20000 → S'.1 82 (8 * h + s) = nI tm → S'.1 76 2 = nI d → r_X12_knows S' (nI h) (nI s) = some (KV h tm (S'.1 83 (8 * h + s)) d) ∧ ∃ g, r_X12_laughOf S' (nI h) (nI s) = some (LV h s tm (S'.1 83 (8 * h + s)) d, sA S' 93 g)) ∧
    (∃ q : Hr, (∀ {β : Type} (x : Option β) (f : Hr → Option β), ((r_X11_hearerAt S' (nI h)).bind fun z => oH hs z x f) = f q) ∧ ∀ tm last d, d < 20000 → r_X11_knowsThen S' q (nI tm) last (nI d) = some (KV h tm last d)) ∧
    ∀ s d more lately t0, s < 8 → d < 20000 → more ≤ 9 → S.1 82 (8 * h + s) = nI t0 → t0 ≤ 999 → ∃ g, r_X11_laughThen S' hs (nI h) (nI s) (nI d) (nI more) lately = some (LV h s (min 999 (t0 + more)) (if more = 0 then S.1 83 (8 * h + s) else lately) d, sA S' 33 g)
theorem knw_01 (tm last day lim : Int32) : knw tm last day lim = 0 ∨ knw tm last day lim = 1 := by
  unfold knw
  split
  · exact Or.inl rfl
  · split
    · exact Or.inl rfl
    · exact Or.inr rfl
theorem lg_of {S : St} {hs : List Hr} (hI : Inv S hs) {ns nh : Nat} (es : S.1 76 0 = nI ns) (eh : S.1 76 1 = nI nh) (n8 : ns ≤ 8) (h6 : nh ≤ 6) : ∃ KV LV, Lg S hs ns nh KV LV := by
  obtain ⟨MV, dT, fT, hv⟩ := hv_of hI
  obtain ⟨nb, hB, ⟨ns', nh', nd, nf, ne, ⟨⟨c1, c2, c3⟩, ⟨d1, d2, d3⟩, ⟨y1, y2, y3⟩, -, -, t1, t2⟩, hA, hT, hR, hF, hK, hW⟩, -, -, -, -, -, -⟩ := id hI
  have : ns' = ns := (nI_eq (by omega) (by omega)).mp (c3.symm.trans es)
  subst this
  have : nh' = nh := (nI_eq (by omega) (by omega)).mp (d3.symm.trans eh)
  subst this
  have hw : ∀ h, ∃ z : Nat × Nat × Nat × Hr, h < nh' → z.1 ≤ 6 ∧ z.2.1 ≤ 9 ∧ S.1 79 h = nI z.1 ∧ S.1 80 h = nI z.2.1 ∧ S.2.2 11 h = some z.2.2.1 ∧ hq hs z.2.2.1 = some z.2.2.2 ∧ z.2.2.2 = (kC (nI z.1), nI z.1, nI h, nI z.2.1) := by
    intro h
    by_cases q : h < nh'
    · obtain ⟨a, k, v, x1, x2, x3, x4, x5, x6⟩ := hW.1 h q
      exact ⟨(k, v, a, (kC (nI k), nI k, nI h, nI v)), fun _ => ⟨x1, x2, x3, x4, x5, x6, rfl⟩⟩
    · exact ⟨(0, 0, 0, (0, 0, 0, 0)), fun z => absurd z q⟩
  obtain ⟨w, hw⟩ := Classical.axiomOfChoice hw
  have hp : ∀ i, ∃ p : Nat, i < 4 * nh' → 1 ≤ p ∧ p ≤ 9 ∧ S.1 81 i = nI p := by
    intro i
    by_cases q : i < 4 * nh'
    · obtain ⟨p, x⟩ := hR.2.1 i q
      exact ⟨p, fun _ => x⟩
    · exact ⟨0, fun z => absurd z q⟩
  obtain ⟨p, hp⟩ := Classical.axiomOfChoice hp
  have hmod : ∀ S', MindM S S' → ∀ h, h < nh' → ∀ s tm d, s < 8 → tm ≤ 999 → d < 20000 → S'.1 82 (8 * h + s) = nI tm → S'.1 76 2 = nI d → r_X12_knows S' (nI h) (nI s) = some (knw (nI tm) (S'.1 83 (8 * h + s)) (nI d) (memT (w h).1 dT (nI (p (4 * h + d % 4))))) ∧ ∃ g, r_X12_laughOf S' (nI h) (nI s) = some (LVf MV fT (S.1 77 s) (w h).1 (w h).2.1 h s tm d (knw (nI tm) (S'.1 83 (8 * h + s)) (nI d) (memT (w h).1 dT (nI (p (4 * h + d % 4))))), sA S' 93 g) := by
    intro S' hM h hh
    obtain ⟨k6, v9, ek, ev, ea, eq, eqq⟩ := hw h hh
    have m79 : S'.1 79 h = nI (w h).1 := by rw [hM.1 79 (by decide) rfl]; exact ek
    have m80 : S'.1 80 h = nI (w h).2.1 := by rw [hM.1 80 (by decide) rfl]; exact ev
    have hpp : ∀ d, 1 ≤ p (4 * h + d % 4) ∧ p (4 * h + d % 4) ≤ 9 ∧ S.1 81 (4 * h + d % 4) = nI (p (4 * h + d % 4)) := fun d => hp _ (by omega)
    intro s tm d hs8 ht hd e82 e2
    constructor
    · obtain ⟨-, -, -, -, -, hS⟩ := hv
      obtain ⟨hl, -, -⟩ := hS S' hM
      exact knows_m (by omega) hs8 k6 m79 e2 hd (by rw [hM.1 81 (by decide) rfl]; exact (hpp d).2.2) (hpp d).1 (hpp d).2.1 hl e82
    · exact laugh_m hv hM (by omega) hs8 k6 m79 m80 (by rw [hM.1 77 (by decide) rfl]) e2 hd (by rw [hM.1 81 (by decide) rfl]; exact (hpp d).2.2) (hpp d).1 (hpp d).2.1 e82 ht
  refine ⟨fun h tm last d => knw (nI tm) last (nI d) (memT (w h).1 dT (nI (p (4 * h + d % 4)))), fun h s tm last d => LVf MV fT (S.1 77 s) (w h).1 (w h).2.1 h s tm d (knw (nI tm) last (nI d) (memT (w h).1 dT (nI (p (4 * h + d % 4))))), fun _ _ _ _ => knw_01 _ _ _ _, ⟨fun h s tm last d hh hsn htm => ?_, fun S' hM h hh => hmod S' hM h hh⟩, fun S' hM h hh => ?_⟩
  · obtain ⟨k6, v9, -⟩ := hw h hh
    obtain ⟨g, hg, eg⟩ := hA.2.2 s hsn
    obtain ⟨-, hfT, hMV, -, -⟩ := hv
    show sm (LVf MV fT (S.1 77 s) (w h).1 (w h).2.1 h s tm d _) 3000
    have e1 : sm (S.1 77 s) 30 := by rw [eg]; exact sm_nI hg (by decide)
    unfold LVf
    generalize knw (nI tm) last (nI d) (memT (w h).1 dT (nI (p (4 * h + d % 4)))) = kn
    have e2 := (sm_add e1 (hMV (fcT (nI (w h).1) (S.1 77 s) (nI tm) (nI d) h s)) (by decide)).1
    generalize S.1 77 s + MV (fcT (nI (w h).1) (S.1 77 s) (nI tm) (nI d) h s) = gg at e2
    have em : sm (-nI tm) 999 := sm_neg (sm_nI htm (by decide)) (by decide)
    split
    · unfold newT
      split
      · rw [Int32.sub_eq_add_neg]
        exact sm_le (sm_add e2 em (by decide)).1 (by decide)
      · exact sm_le e2 (by decide)
    · unfold knownT
      have ef : sm (nI fT) 99 := sm_nI hfT (by decide)
      split
      · exact sm_0 _
      · split
        · have : (-2 : Int32) * nI fT = -nI fT + -nI fT := by
            rw [show (-2 : Int32) = -1 + -1 from by decide, Int32.add_mul, Int32.neg_mul, Int32.one_mul]
          rw [this]
          exact sm_le (sm_add (sm_neg ef (by decide)) (sm_neg ef (by decide)) (by decide)).1 (by decide)
        · split
          · exact sm_nI (by omega) (by decide)
          · split
            · exact sm_le (sm_add e2 (sm_nI v9 (by decide)) (by decide)).1 (by decide)
            · exact sm_le (sm_neg ef (by decide)) (by decide)
  · obtain ⟨k6, v9, ek, ev, ea, eq, eqq⟩ := hw h hh
    have m79 : S'.1 79 h = nI (w h).1 := by rw [hM.1 79 (by decide) rfl]; exact ek
    have m80 : S'.1 80 h = nI (w h).2.1 := by rw [hM.1 80 (by decide) rfl]; exact ev
    have hat : ∀ {β : Type} (x : Option β) (f : Hr → Option β), ((r_X11_hearerAt S' (nI h)).bind fun z => oH hs z x f) = f (kC (nI (w h).1), nI (w h).1, nI h, nI (w h).2.1) := by
      intro β x f
      unfold r_X11_hearerAt
      rw [within_in, hM.1 8 (by decide) rfl, d2, if_neg (ii_is (by omega) hh), gdN (show h < 6 by omega) (by decide), nI_clamp (by omega), show S'.2.2 = S.2.2 from by rw [hM.2.2], ea]
      show (hq hs (w h).2.2.1).bind f = _
      rw [eq, eqq]
      rfl
    have hpp : ∀ d, 1 ≤ p (4 * h + d % 4) ∧ p (4 * h + d % 4) ≤ 9 ∧ S.1 81 (4 * h + d % 4) = nI (p (4 * h + d % 4)) := fun d => hp _ (by omega)
    refine ⟨hmod S' hM.m h hh, ⟨_, hat, fun tm last d hd => ?_⟩, fun s d more lately t0 hs8 hd hm e82 ht => ?_⟩
    · have hS := hv.b
      obtain ⟨hl, -, -, -, -, -⟩ := hS S' hM
      exact knows_c (by omega) k6 hd (by rw [hM.1 14 (by decide) rfl, hR.1 _ (by omega)]; exact (hpp d).2.2) (hpp d).1 (hpp d).2.1 hl
    · have e13 : S'.1 13 (8 * h + s) = S.1 83 (8 * h + s) := by rw [hM.1 13 (by decide) rfl]; exact hT.2.1 _ (by omega)
      have := laugh_c (hs := hs) hv hM (h := h) (s := s) (k := (w h).1) (v := (w h).2.1) (d := d) (p := p (4 * h + d % 4)) (t0 := t0) (more := more) (gd' := S.1 77 s) (lately := lately) (by omega) hs8 k6 hat (by rw [hM.1 9 (by decide) rfl]; exact hA.1 s hs8) (hA.1 s hs8) hd (by rw [hM.1 14 (by decide) rfl, hR.1 _ (by omega)]; exact (hpp d).2.2) (hpp d).1 (hpp d).2.1 (by rw [hM.1 12 (by decide) rfl, hT.1 _ (by omega)]; exact e82) ht hm
      rw [e13] at this
      exact this
def tbl (t : Int32) (h : Nat) : Bool := !decide (r_X12_has t (nI h) = 0)
theorem tbl_no {t : Int32} {h : Nat} (q : r_X12_has t (nI h) = 0) : tbl t h = false := by
  unfold tbl
  rw [decide_eq_true q]
  rfl
theorem tbl_yes {t : Int32} {h : Nat} (q : ¬ r_X12_has t (nI h) = 0) : tbl t h = true := by
  unfold tbl
  rw [decide_eq_false q]
  rfl
def sumL (L : Nat → Int32) (tb : Nat → Bool) : Nat → Int32
  | 0 => 0
  | n + 1 => sumL L tb n + (if tb n then L n else 0)
def orK (K : Nat → Bool) : Nat → Int32
  | 0 => 0
  | n + 1 => if K n then orK K n ||| ((1 : Int32) <<< (nI n &&& 31)) else orK K n
theorem sumL_cong {L L' : Nat → Int32} {tb : Nat → Bool} : ∀ {n : Nat}, (∀ h, h < n → L h = L' h) → sumL L tb n = sumL L' tb n
  | 0, _ => rfl
  | n + 1, h => by
    show sumL L tb n + _ = sumL L' tb n + _
    rw [sumL_cong (fun j hj => h j (by omega)), h n (by omega)]
theorem sumL_sm {L : Nat → Int32} {tb : Nat → Bool} {b : Nat} : ∀ {n : Nat}, n ≤ 60 → b ≤ 100000 → (∀ h, h < n → sm (L h) b) → sm (sumL L tb n) (b * n)
  | 0, _, _, _ => sm_0 _
  | n + 1, hn, hb, h => by
    have h1 := sumL_sm (tb := tb) (n := n) (by omega) hb (fun j hj => h j (by omega))
    have h2 : sm (if tb n then L n else 0) b := by
      split
      · exact h n (by omega)
      · exact sm_0 _
    have h3 : b * n ≤ 100000 * 60 := Nat.mul_le_mul hb (by omega)
    exact sm_le (sm_add h1 h2 (by omega)).1 (by rw [Nat.mul_succ]; exact Nat.le_refl _)
theorem orK_cong {K K' : Nat → Bool} : ∀ {n : Nat}, (∀ h, h < n → K h = K' h) → orK K n = orK K' n
  | 0, _ => rfl
  | n + 1, h => by
    show (if K n then _ else _) = (if K' n then _ else _)
    rw [orK_cong (fun j hj => h j (by omega)), h n (by omega)]
/-- how often a HEARER had a story -/
def tmO (g : Nat → Int32) (h s : Nat) : Nat := (g (8 * h + s)).toNatClampNeg
def TmOk (g : Nat → Int32) (nh s : Nat) : Prop := ∀ h, h < nh → g (8 * h + s) = nI (tmO g h s) ∧ tmO g h s ≤ 999
theorem TmOk.of {g : Nat → Int32} {nh s : Nat} (h : ∀ i, i < 48 → ∃ k, k ≤ 999 ∧ g i = nI k) (hn : nh ≤ 6) (hs : s < 8) : TmOk g nh s := by
  intro j hj
  obtain ⟨k, h1, h2⟩ := h (8 * j + s) (by omega)
  have : tmO g j s = k := by
    unfold tmO
    rw [h2, nI_clamp (by omega)]
  rw [this]
  exact ⟨h2, h1⟩
section TAB
variable {S : St} {hs : List Hr} {ns nh : Nat} {KV : Nat → Nat → Int32 → Nat → Int32} {LV : Nat → Nat → Nat → Int32 → Nat → Int32}
theorem lau_m (hL : Lg S hs ns nh KV LV) (h6 : nh ≤ 6) {s d : Nat} {tb : Int32} (hs8 : s < 8) (hd : d < 20000) : ∀ (n h : Nat) (S' : St), MindM S S' → S'.1 76 1 = nI nh → S'.1 76 2 = nI d → TmOk (S'.1 82) nh s → h ≤ nh → nh < n + h → ∃ g, lp_X12_laughter_5 (nI s) tb n (sumL (fun h => LV h s (tmO (S'.1 82) h s) (S'.1 83 (8 * h + s)) d) (tbl tb) h) (nI h) S' = some (sumL (fun h => LV h s (tmO (S'.1 82) h s) (S'.1 83 (8 * h + s)) d) (tbl tb) nh, sA S' 93 g) := by
  intro n
  induction n with
  | zero => intro h S' _ _ _ _ h1 h2; omega
  | succ n ih =>
    intro h S' hM e1 e2 hT h1 h2
    unfold lp_X12_laughter_5
    rw [e1]
    by_cases w : h = nh
    · subst w
      exact ⟨S'.1 93, by rw [if_pos (nI_le (Nat.le_refl _) (by omega)), sA_self]⟩
    · have hh : h < nh := by omega
      rw [if_neg (nI_ge (by omega) (by omega)), nI_1]
      by_cases q : r_X12_has tb (nI h) = 0
      · rw [if_pos q]
        have := ih (h + 1) S' hM e1 e2 hT (by omega) (by omega)
        have e : sumL (fun h => LV h s (tmO (S'.1 82) h s) (S'.1 83 (8 * h + s)) d) (tbl tb) (h + 1) = sumL (fun h => LV h s (tmO (S'.1 82) h s) (S'.1 83 (8 * h + s)) d) (tbl tb) h + 0 := by
          show _ + (if tbl tb h = true then _ else _) = _
          rw [tbl_no q]
          rfl
        rw [e] at this
        exact this
      · rw [if_neg q]
        obtain ⟨g, hg⟩ := (hL.2.1.2 S' hM h hh s (tmO (S'.1 82) h s) d hs8 (hT h hh).2 hd (hT h hh).1 e2).2
        rw [hg]
        obtain ⟨g', hg'⟩ := ih (h + 1) (sA S' 93 g) (hM.a rfl g) e1 e2 hT (by omega) (by omega)
        refine ⟨g', ?_⟩
        have e : sumL (fun h => LV h s (tmO (S'.1 82) h s) (S'.1 83 (8 * h + s)) d) (tbl tb) (h + 1) = sumL (fun h => LV h s (tmO (S'.1 82) h s) (S'.1 83 (8 * h + s)) d) (tbl tb) h + LV h s (tmO (S'.1 82) h s) (S'.1 83 (8 * h + s)) d := by
          show _ + (if tbl tb h = true then _ else _) = _
          rw [tbl_yes q]
          rfl
        have hg2 : lp_X12_laughter_5 (nI s) tb n (sumL (fun h => LV h s (tmO (S'.1 82) h s) (S'.1 83 (8 * h + s)) d) (tbl tb) (h + 1)) (nI (h + 1)) (sA S' 93 g) = some (sumL (fun h => LV h s (tmO (S'.1 82) h s) (S'.1 83 (8 * h + s)) d) (tbl tb) nh, sA (sA S' 93 g) 93 g') := hg'
        rw [e, sA_sA] at hg2
        exact hg2
theorem laughter_m (hL : Lg S hs ns nh KV LV) (h6 : nh ≤ 6) {s d : Nat} (tb : Int32) (hs8 : s < 8) (hd : d < 20000) {S' : St} (hM : MindM S S') (e1 : S'.1 76 1 = nI nh) (e2 : S'.1 76 2 = nI d) (hT : TmOk (S'.1 82) nh s) : ∃ g, r_X12_laughter S' (nI s) tb = some (sumL (fun h => LV h s (tmO (S'.1 82) h s) (S'.1 83 (8 * h + s)) d) (tbl tb) nh, sA S' 93 g) := by
  obtain ⟨g, hg⟩ := lau_m hL h6 (tb := tb) hs8 hd 4000 0 S' hM e1 e2 hT (Nat.zero_le _) (by omega)
  refine ⟨g, ?_⟩
  unfold r_X12_laughter
  have hg' : lp_X12_laughter_5 (nI s) tb 4000 0 0 S' = _ := hg
  rw [hg']
  rfl
theorem lau_c (hL : Lg S hs ns nh KV LV) (h6 : nh ≤ 6) (hT : ∀ i, i < 48 → ∃ k, k ≤ 999 ∧ S.1 82 i = nI k) (e3 : S.1 8 3 = nI nh) {s d more : Nat} {tb lately : Int32} (hs8 : s < 8) (hd : d < 20000) (hm : more ≤ 9) : ∀ (n h : Nat) (S' : St), Mind S S' → h ≤ nh → nh < n + h → ∃ g, lp_X11_laughterThen_6 hs (nI s) tb (nI d) (nI more) lately n (sumL (fun h => LV h s (min 999 (tmO (S.1 82) h s + more)) (if more = 0 then S.1 83 (8 * h + s) else lately) d) (tbl tb) h) (nI h) S' = some (sumL (fun h => LV h s (min 999 (tmO (S.1 82) h s + more)) (if more = 0 then S.1 83 (8 * h + s) else lately) d) (tbl tb) nh, sA S' 33 g) := by
  intro n
  have hTm := TmOk.of hT h6 hs8
  induction n with
  | zero => intro h S' _ h1 h2; omega
  | succ n ih =>
    intro h S' hM h1 h2
    unfold lp_X11_laughterThen_6
    rw [in_has, hM.1 8 (by decide) rfl, e3]
    by_cases w : h = nh
    · subst w
      exact ⟨S'.1 33, by rw [if_pos (nI_le (Nat.le_refl _) (by omega)), sA_self]⟩
    · have hh : h < nh := by omega
      rw [if_neg (nI_ge (by omega) (by omega)), nI_1]
      by_cases q : r_X12_has tb (nI h) = 0
      · rw [if_pos q]
        have := ih (h + 1) S' hM (by omega) (by omega)
        have e : sumL (fun h => LV h s (min 999 (tmO (S.1 82) h s + more)) (if more = 0 then S.1 83 (8 * h + s) else lately) d) (tbl tb) (h + 1) = sumL (fun h => LV h s (min 999 (tmO (S.1 82) h s + more)) (if more = 0 then S.1 83 (8 * h + s) else lately) d) (tbl tb) h := by
          show _ + (if tbl tb h = true then _ else _) = _
          rw [tbl_no q]
          exact Int32.add_zero _
        rw [e] at this
        exact this
      · rw [if_neg q]
        obtain ⟨g, hg⟩ := (hL.2.2 S' hM h hh).2.2 s d more lately (tmO (S.1 82) h s) hs8 hd hm (hTm h hh).1 (hTm h hh).2
        rw [hg]
        obtain ⟨g', hg'⟩ := ih (h + 1) (sA S' 33 g) (hM.a rfl g) (by omega) (by omega)
        refine ⟨g', ?_⟩
        have e : sumL (fun h => LV h s (min 999 (tmO (S.1 82) h s + more)) (if more = 0 then S.1 83 (8 * h + s) else lately) d) (tbl tb) (h + 1) = sumL (fun h => LV h s (min 999 (tmO (S.1 82) h s + more)) (if more = 0 then S.1 83 (8 * h + s) else lately) d) (tbl tb) h + LV h s (min 999 (tmO (S.1 82) h s + more)) (if more = 0 then S.1 83 (8 * h + s) else lately) d := by
          show _ + (if tbl tb h = true then _ else _) = _
          rw [tbl_yes q]
          rfl
        rw [e, sA_sA] at hg'
        exact hg'
theorem laughter_c (hL : Lg S hs ns nh KV LV) (h6 : nh ≤ 6) (hT : ∀ i, i < 48 → ∃ k, k ≤ 999 ∧ S.1 82 i = nI k) (e3 : S.1 8 3 = nI nh) {s d more : Nat} (tb lately : Int32) (hs8 : s < 8) (hd : d < 20000) (hm : more ≤ 9) {S' : St} (hM : Mind S S') : ∃ g, r_X11_laughterThen S' hs (nI s) tb (nI d) (nI more) lately = some (sumL (fun h => LV h s (min 999 (tmO (S.1 82) h s + more)) (if more = 0 then S.1 83 (8 * h + s) else lately) d) (tbl tb) nh, sA S' 33 g) := by
  obtain ⟨g, hg⟩ := lau_c hL h6 hT e3 (tb := tb) (lately := lately) hs8 hd hm 4000 0 S' hM (Nat.zero_le _) (by omega)
  refine ⟨g, ?_⟩
  unfold r_X11_laughterThen
  have hg' : lp_X11_laughterThen_6 hs (nI s) tb (nI d) (nI more) lately 4000 0 0 S' = _ := hg
  rw [hg']
  rfl
/-- the sum that both sides compute for what is so now -/
def LN (S : St) (LV : Nat → Nat → Nat → Int32 → Nat → Int32) (nh s : Nat) (tb : Int32) (d : Nat) : Int32 := sumL (fun h => LV h s (tmO (S.1 82) h s) (S.1 83 (8 * h + s)) d) (tbl tb) nh
theorem laughter_c0 (hL : Lg S hs ns nh KV LV) (h6 : nh ≤ 6) (hT : ∀ i, i < 48 → ∃ k, k ≤ 999 ∧ S.1 82 i = nI k) (e3 : S.1 8 3 = nI nh) {s d : Nat} (tb : Int32) (hs8 : s < 8) (hd : d < 20000) {S' : St} (hM : Mind S S') : ∃ g, r_X11_laughterThen S' hs (nI s) tb (nI d) 0 0 = some (LN S LV nh s tb d, sA S' 33 g) := by
  obtain ⟨g, hg⟩ := laughter_c hL h6 hT e3 (more := 0) tb 0 hs8 hd (by decide) hM
  refine ⟨g, ?_⟩
  have hg' : r_X11_laughterThen S' hs (nI s) tb (nI d) 0 0 = _ := hg
  rw [hg']
  unfold LN
  congr 2
  refine sumL_cong fun h hh => ?_
  have := (TmOk.of hT h6 hs8 h hh).2
  rw [if_pos rfl, Nat.add_zero, Nat.min_eq_right this]
theorem kno_m (hL : Lg S hs ns nh KV LV) (h6 : nh ≤ 6) {s d : Nat} {tb : Int32} (hs8 : s < 8) (hd : d < 20000) {S' : St} (hM : MindM S S') (e1 : S'.1 76 1 = nI nh) (e2 : S'.1 76 2 = nI d) (hT : TmOk (S'.1 82) nh s) : ∀ (n h : Nat), h ≤ nh → nh < n + h → lp_X12_knowing_5 S' (nI s) tb n (orK (fun h => tbl tb h && !decide (KV h (tmO (S'.1 82) h s) (S'.1 83 (8 * h + s)) d = 0)) h) (nI h) = some (orK (fun h => tbl tb h && !decide (KV h (tmO (S'.1 82) h s) (S'.1 83 (8 * h + s)) d = 0)) nh) := by
  intro n
  induction n with
  | zero => intro h h1 h2; omega
  | succ n ih =>
    intro h h1 h2
    unfold lp_X12_knowing_5
    rw [e1]
    by_cases w : h = nh
    · subst w
      rw [if_pos (nI_le (Nat.le_refl _) (by omega))]
    · have hh : h < nh := by omega
      rw [if_neg (nI_ge (by omega) (by omega)), nI_1, Int32.or_zero]
      have := ih (h + 1) (by omega) (by omega)
      have e : orK (fun h => tbl tb h && !decide (KV h (tmO (S'.1 82) h s) (S'.1 83 (8 * h + s)) d = 0)) (h + 1) = if (tbl tb h && !decide (KV h (tmO (S'.1 82) h s) (S'.1 83 (8 * h + s)) d = 0)) = true then orK (fun h => tbl tb h && !decide (KV h (tmO (S'.1 82) h s) (S'.1 83 (8 * h + s)) d = 0)) h ||| ((1 : Int32) <<< (nI h &&& 31)) else orK (fun h => tbl tb h && !decide (KV h (tmO (S'.1 82) h s) (S'.1 83 (8 * h + s)) d = 0)) h := rfl
      rw [e] at this
      by_cases q : r_X12_has tb (nI h) = 0
      · rw [if_pos q]
        rw [tbl_no q] at this
        exact this
      · rw [if_neg q, (hL.2.1.2 S' hM h hh s (tmO (S'.1 82) h s) d hs8 (hT h hh).2 hd (hT h hh).1 e2).1]
        rw [tbl_yes q] at this
        show (if KV h (tmO (S'.1 82) h s) (S'.1 83 (8 * h + s)) d = 0 then _ else _) = _
        by_cases k : KV h (tmO (S'.1 82) h s) (S'.1 83 (8 * h + s)) d = 0
        · rw [if_pos k]
          rw [decide_eq_true k] at this
          exact this
        · rw [if_neg k]
          rw [decide_eq_false k] at this
          exact this
/-- who knows -/
def KN (S : St) (KV : Nat → Nat → Int32 → Nat → Int32) (nh s : Nat) (tb : Int32) (d : Nat) : Int32 := orK (fun h => tbl tb h && !decide (KV h (tmO (S.1 82) h s) (S.1 83 (8 * h + s)) d = 0)) nh
theorem knowing_m (hL : Lg S hs ns nh KV LV) (h6 : nh ≤ 6) {s d : Nat} (tb : Int32) (hs8 : s < 8) (hd : d < 20000) {S' : St} (hM : MindM S S') (e1 : S'.1 76 1 = nI nh) (e2 : S'.1 76 2 = nI d) (hT : TmOk (S'.1 82) nh s) : r_X12_knowing S' (nI s) tb = some (KN S' KV nh s tb d) := by
  unfold r_X12_knowing
  have := kno_m hL h6 (tb := tb) hs8 hd hM e1 e2 hT 4000 0 (Nat.zero_le _) (by omega)
  have h' : lp_X12_knowing_5 S' (nI s) tb 4000 0 0 = _ := this
  rw [h']
  rfl
theorem kno_c (hL : Lg S hs ns nh KV LV) (h6 : nh ≤ 6) (hT : ∀ i, i < 48 → ∃ k, k ≤ 999 ∧ S.1 82 i = nI k) (e12 : EqB 48 (S.1 12) (S.1 82)) (e13 : EqB 48 (S.1 13) (S.1 83)) (e3 : S.1 8 3 = nI nh) {s d : Nat} {tb : Int32} (hs8 : s < 8) (hd : d < 20000) {S' : St} (hM : Mind S S') : ∀ (n h : Nat), h ≤ nh → nh < n + h → lp_X11_knowersThen_6 S' hs (nI s) tb (nI d) n (orK (fun h => tbl tb h && !decide (KV h (tmO (S.1 82) h s) (S.1 83 (8 * h + s)) d = 0)) h) (nI h) = some (KN S KV nh s tb d) := by
  intro n
  have hTm := TmOk.of hT h6 hs8
  induction n with
  | zero => intro h h1 h2; omega
  | succ n ih =>
    intro h h1 h2
    unfold lp_X11_knowersThen_6
    rw [in_has, hM.1 8 (by decide) rfl, e3]
    by_cases w : h = nh
    · subst w
      rw [if_pos (nI_le (Nat.le_refl _) (by omega))]
      rfl
    · have hh : h < nh := by omega
      obtain ⟨q0, hat, hkn⟩ := (hL.2.2 S' hM h hh).2.1
      rw [if_neg (nI_ge (by omega) (by omega)), hat, nI_1]
      have := ih (h + 1) (by omega) (by omega)
      have e : orK (fun h => tbl tb h && !decide (KV h (tmO (S.1 82) h s) (S.1 83 (8 * h + s)) d = 0)) (h + 1) = if (tbl tb h && !decide (KV h (tmO (S.1 82) h s) (S.1 83 (8 * h + s)) d = 0)) = true then orK (fun h => tbl tb h && !decide (KV h (tmO (S.1 82) h s) (S.1 83 (8 * h + s)) d = 0)) h ||| ((1 : Int32) <<< (nI h &&& 31)) else orK (fun h => tbl tb h && !decide (KV h (tmO (S.1 82) h s) (S.1 83 (8 * h + s)) d = 0)) h := rfl
      rw [e] at this
      by_cases q : r_X12_has tb (nI h) = 0
      · rw [if_pos q]
        rw [tbl_no q] at this
        exact this
      · rw [if_neg q, times_at (by omega)]
        rw [tbl_yes q] at this
        show gd (¬ ((nI h * 8 + nI s) < 0 ∨ 48 ≤ (nI h * 8 + nI s).toNatClampNeg)) ((r_X11_knowsThen S' q0 (S'.1 12 (8 * h + s)) (S'.1 13 (nI h * 8 + nI s).toNatClampNeg) (nI d)).bind _) = _
        rw [nI_8', gdN (show 8 * h + s < 48 by omega) (by decide), nI_clamp (by omega), hM.1 12 (by decide) rfl, hM.1 13 (by decide) rfl, e12 _ (by omega), e13 _ (by omega)]
        show ((r_X11_knowsThen S' q0 (S.1 82 (8 * h + s)) (S.1 83 (8 * h + s)) (nI d)).bind _) = _
        have hk := hkn (tmO (S.1 82) h s) (S.1 83 (8 * h + s)) d hd
        rw [← (hTm h hh).1] at hk
        rw [hk]
        show (if KV h (tmO (S.1 82) h s) (S.1 83 (8 * h + s)) d = 0 then _ else _) = _
        by_cases k : KV h (tmO (S.1 82) h s) (S.1 83 (8 * h + s)) d = 0
        · rw [if_pos k]
          rw [decide_eq_true k] at this
          exact this
        · rw [if_neg k]
          rw [decide_eq_false k] at this
          exact this
theorem knowers_c (hL : Lg S hs ns nh KV LV) (h6 : nh ≤ 6) (hT : ∀ i, i < 48 → ∃ k, k ≤ 999 ∧ S.1 82 i = nI k) (e12 : EqB 48 (S.1 12) (S.1 82)) (e13 : EqB 48 (S.1 13) (S.1 83)) (e3 : S.1 8 3 = nI nh) {s d : Nat} (tb : Int32) (hs8 : s < 8) (hd : d < 20000) {S' : St} (hM : Mind S S') : r_X11_knowersThen S' hs (nI s) tb (nI d) = some (KN S KV nh s tb d) := by
  unfold r_X11_knowersThen
  have := kno_c hL h6 hT e12 e13 e3 (tb := tb) hs8 hd hM 4000 0 (Nat.zero_le _) (by omega)
  have h' : lp_X11_knowersThen_6 S' hs (nI s) tb (nI d) 4000 0 0 = _ := this
  rw [h']
  rfl
end TAB
