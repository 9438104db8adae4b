/-! KNOWS and LAUGHS -/
def memT (k dT : Nat) (part : Int32) : Int32 := if k = 3 then nI dT / 2 else if k = 5 then 2 * nI dT else if k = 6 then nI dT / part else nI dT
def knw (tm last day lim : Int32) : Int32 := if tm ≤ 0 then 0 else if lim ≤ day - last then 0 else 1
def newT (k : Nat) (g tm : Int32) : Int32 := if k = 2 ∨ k = 5 then g - tm else g
def knownT (k v : Nat) (g fT : Int32) : Int32 := if k = 1 then 0 else if k = 2 then (-2) * fT else if k = 4 then nI v else if k = 5 then g + nI v else -fT
def sel6 {P : Nat → Prop} (h0 : P 0) (h1 : P 1) (h2 : P 2) (h3 : P 3) (h4 : P 4) (h5 : P 5) (h6 : P 6) : ∀ k, k ≤ 6 → P k
  | 0, _ => h0
  | 1, _ => h1
  | 2, _ => h2
  | 3, _ => h3
  | 4, _ => h4
  | 5, _ => h5
  | 6, _ => h6
  | k + 7, h => absurd h (by omega)
theorem mem_c (S : St) (h v dT p : Nat) (hp : 1 ≤ p) (hp9 : p ≤ 9) : ∀ k, k ≤ 6 → r_sel_memory S (kC (nI k), nI k, nI h, nI v) (nI dT) (nI p) = some (memT k dT (nI p)) := by
  refine sel6 rfl rfl rfl rfl rfl rfl ?_
  show r_X9_memory_h9 (nI 6) (nI h) (nI v) (nI dT) (nI p) = _
  unfold r_X9_memory_h9
  rw [if_neg (nI_nle (by omega) (by omega)), gd_pos (nI_ne0 (by omega) (by omega))]
  rfl
theorem new_c (S : St) (h v : Nat) (g tm : Int32) : ∀ k, k ≤ 6 → r_sel_whenNew S (kC (nI k), nI k, nI h, nI v) g tm = some (newT k g tm) := by
  exact sel6 rfl rfl rfl rfl rfl rfl rfl
theorem known_c (S : St) (h v : Nat) (g f : Int32) : ∀ k, k ≤ 6 → r_sel_whenKnown S (kC (nI k), nI k, nI h, nI v) g f = some (knownT k v g f) := by
  exact sel6 rfl rfl rfl rfl rfl rfl rfl
theorem if_k {k j : Nat} {α : Type} {a b : α} (hk : k ≤ 6) (hj : j ≤ 6) : (if nI k = nI j then a else b) = if k = j then a else b := by
  by_cases z : k = j
  · rw [if_pos z, if_pos (by rw [z])]
  · rw [if_neg z, if_neg (fun q => z ((nI_eq (by omega) (by omega)).mp q))]
theorem lim_m {S' : St} {h k d p dT : Nat} (hh : h < 6) (hk : k ≤ 6) (e79 : S'.1 79 h = nI k) (e2 : S'.1 76 2 = nI d) (hd : d < 20000) (e81 : S'.1 81 (4 * h + d % 4) = nI p) (hp : 1 ≤ p) (hp9 : p ≤ 9) (hl : r_X12_lastOf S' 2 20 = some (nI dT)) : r_X12_limit S' (nI h) = some (memT k dT (nI p)) := by
  unfold r_X12_limit
  rw [hl]
  show gd (¬ (nI h < 0 ∨ 6 ≤ (nI h).toNatClampNeg)) (if S'.1 79 (nI h).toNatClampNeg = 3 then some (nI dT / 2) else if S'.1 79 (nI h).toNatClampNeg = 4 then some (nI dT) else if S'.1 79 (nI h).toNatClampNeg = 5 then some ((2 : Int32) * nI dT) else if S'.1 79 (nI h).toNatClampNeg = 6 then _ else some (nI dT)) = _
  rw [gdN hh (by decide), nI_clamp (show h < 2 ^ 31 by omega), e79, e2, show (4 : Int32) = nI 4 from rfl, nI_rem (by omega) (by decide) (by decide), nI_mul, nI_add, gdN (show 4 * h + d % 4 < 24 by omega) (by decide), nI_clamp (show 4 * h + d % 4 < 2 ^ 31 by omega), e81, gd_pos (nI_ne0 (by omega) (by omega))]
  unfold memT
  clear e79
  rcases (show k = 0 ∨ k = 1 ∨ k = 2 ∨ k = 3 ∨ k = 4 ∨ k = 5 ∨ k = 6 by omega) with rfl | rfl | rfl | rfl | rfl | rfl | rfl <;> rfl
theorem knows_m {S' : St} {h s k d p dT tm : Nat} (hh : h < 6) (hs : s < 8) (hk : k ≤ 6) (e79 : S'.1 79 h = nI k) (e2 : S'.1 76 2 = nI d) (hd : d < 20000) (e81 : S'.1 81 (4 * h + d % 4) = nI p) (hp : 1 ≤ p) (hp9 : p ≤ 9) (hl : r_X12_lastOf S' 2 20 = some (nI dT)) (e82 : S'.1 82 (8 * h + s) = nI tm) : r_X12_knows S' (nI h) (nI s) = some (knw (nI tm) (S'.1 83 (8 * h + s)) (nI d) (memT k dT (nI p))) := by
  unfold r_X12_knows knw
  rw [nI_8, gdN (show 8 * h + s < 48 by omega) (by decide), gdN (show 8 * h + s < 48 by omega) (by decide), nI_clamp (by omega), e82, e2, lim_m hh hk e79 e2 hd e81 hp hp9 hl]
  by_cases z : nI tm ≤ 0
  · rw [if_pos z, if_pos z]
  · rw [if_neg z, if_neg z]
    show (if memT k dT (nI p) ≤ nI d - S'.1 83 (8 * h + s) then _ else _) = _
    split <;> rfl
theorem knows_c {S' : St} {h k v d p dT : Nat} {tm last : Int32} (hh : h < 6) (hk : k ≤ 6) (hd : d < 20000) (e14 : S'.1 14 (4 * h + d % 4) = nI p) (hp : 1 ≤ p) (hp9 : p ≤ 9) (hl : r_X11_daysTold S' = some (nI dT)) : r_X11_knowsThen S' (kC (nI k), nI k, nI h, nI v) tm last (nI d) = some (knw tm last (nI d) (memT k dT (nI p))) := by
  unfold r_X11_knowsThen knw
  show gd (¬ ((nI h * 4 + (nI d - nI d / 4 * 4)) < 0 ∨ 24 ≤ (nI h * 4 + (nI d - nI d / 4 * 4)).toNatClampNeg)) (if tm ≤ 0 then some 0 else (r_X11_daysTold S').bind fun q1 => (r_sel_memory S' (kC (nI k), nI k, nI h, nI v) q1 (S'.1 14 (nI h * 4 + (nI d - nI d / 4 * 4)).toNatClampNeg)).bind fun q2 => if q2 ≤ nI d - last then some 0 else some 1) = _
  rw [show nI d - nI d / 4 * 4 = nI (d % 4) from nI_rem (b := 4) (by omega) (by decide) (by decide), nI_4', gdN (show 4 * h + d % 4 < 24 by omega) (by decide), nI_clamp (by omega), e14, hl]
  by_cases z : tm ≤ 0
  · rw [if_pos z, if_pos z]
  · rw [if_neg z, if_neg z]
    show ((r_sel_memory S' (kC (nI k), nI k, nI h, nI v) (nI dT) (nI p)).bind fun q2 => if q2 ≤ nI d - last then some 0 else some 1) = _
    rw [mem_c S' h v dT p hp hp9 k hk]
    show (if memT k dT (nI p) ≤ nI d - last then _ else _) = _
    split <;> rfl
theorem facts_m {S' : St} {h s k tm d : Nat} {gd' : Int32} (hh : h < 6) (hs : s < 8) (e79 : S'.1 79 h = nI k) (e77 : S'.1 77 s = gd') (e82 : S'.1 82 (8 * h + s) = nI tm) (e2 : S'.1 76 2 = nI d) (ht : tm ≤ 999) : ∀ l, l ≤ 5 → r_X12_factOf S' (nI l) (nI h) (nI s) = some (fcT (nI k) gd' (nI tm) (nI d) h s l) := by
  intro l hl
  match l, hl with
  | 0, _ => rfl
  | 1, _ =>
    show (if nI 1 = 0 then _ else if nI 1 = 1 then gd (¬ (nI h < 0 ∨ 6 ≤ (nI h).toNatClampNeg)) (some (S'.1 79 (nI h).toNatClampNeg)) else _) = some (nI k)
    rw [if_neg (by decide), if_pos (show nI 1 = 1 from rfl), gdN hh (by decide), nI_clamp (by omega), e79]
  | 2, _ => rfl
  | 3, _ =>
    show (if nI 3 = 0 then _ else if nI 3 = 1 then _ else if nI 3 = 2 then _ else if nI 3 = 3 then gd (¬ (nI s < 0 ∨ 8 ≤ (nI s).toNatClampNeg)) (some (S'.1 77 (nI s).toNatClampNeg)) else _) = some gd'
    rw [if_neg (by decide), if_neg (by decide), if_neg (by decide), if_pos (show nI 3 = 3 from rfl), gdN hs (by decide), nI_clamp (by omega), e77]
  | 4, _ =>
    show (if nI 4 = 0 then _ else if nI 4 = 1 then _ else if nI 4 = 2 then _ else if nI 4 = 3 then _ else if nI 4 = 4 then gd (¬ ((((8 : Int32) * nI h) + nI s) < 0 ∨ 48 ≤ (((8 : Int32) * nI h) + nI s).toNatClampNeg)) (if S'.1 82 (((8 : Int32) * nI h) + nI s).toNatClampNeg ≤ 99 then gd (¬ ((((8 : Int32) * nI h) + nI s) < 0 ∨ 48 ≤ (((8 : Int32) * nI h) + nI s).toNatClampNeg)) (some (S'.1 82 (((8 : Int32) * nI h) + nI s).toNatClampNeg)) else some 99) else _) = some (if 99 < nI tm then 99 else nI tm)
    rw [if_neg (by decide), if_neg (by decide), if_neg (by decide), if_neg (by decide), if_pos (show nI 4 = 4 from rfl), nI_8, gdN (show 8 * h + s < 48 by omega) (by decide), gdN (show 8 * h + s < 48 by omega) (by decide), nI_clamp (by omega), e82]
    by_cases z : nI tm ≤ 99
    · rw [if_pos z, if_neg (Int32.not_lt.mpr z)]
    · rw [if_neg z, if_pos (Int32.not_le.mp z)]
  | 5, _ =>
    show some (S'.1 76 2 - S'.1 76 2 / 7 * 7) = some (nI d - nI d / 7 * 7)
    rw [e2]
  | l + 6, h => exact absurd h (by omega)
def LVf (MV : (Nat → Int32) → Int32) (fT : Nat) (gd' : Int32) (k v h s tm : Nat) (d : Nat) (kn : Int32) : Int32 := if kn = 0 then newT k (gd' + MV (fcT (nI k) gd' (nI tm) (nI d) h s)) (nI tm) else knownT k v (gd' + MV (fcT (nI k) gd' (nI tm) (nI d) h s)) (nI fT)
theorem laugh_m {S S' : St} {MV : (Nat → Int32) → Int32} {dT fT : Nat} (hv : HV S MV dT fT) (hM : MindM S S') {h s k v d p tm : Nat} {gd' : Int32} (hh : h < 6) (hs : s < 8) (hk : k ≤ 6) (e79 : S'.1 79 h = nI k) (e80 : S'.1 80 h = nI v) (e77 : S'.1 77 s = gd') (e2 : S'.1 76 2 = nI d) (hd : d < 20000) (e81 : S'.1 81 (4 * h + d % 4) = nI p) (hp : 1 ≤ p) (hp9 : p ≤ 9) (e82 : S'.1 82 (8 * h + s) = nI tm) (ht : tm ≤ 999) : ∃ g, r_X12_laughOf S' (nI h) (nI s) = some (LVf MV fT gd' k v h s tm d (knw (nI tm) (S'.1 83 (8 * h + s)) (nI d) (memT k dT (nI p))), sA S' 93 g) := by
  obtain ⟨-, -, -, -, -, hS⟩ := hv
  obtain ⟨-, -, hm⟩ := hS S' hM
  obtain ⟨g, hg⟩ := hm h s _ (facts_m hh hs e79 e77 e82 e2 ht)
  obtain ⟨hl1, hl2, -⟩ := hS (sA S' 93 g) (hM.a rfl g)
  have hkn := knows_m (S' := sA S' 93 g) (h := h) (s := s) (k := k) (d := d) (p := p) (dT := dT) (tm := tm) hh hs hk e79 e2 hd e81 hp hp9 hl1 e82
  refine ⟨g, ?_⟩
  unfold r_X12_laughOf
  rw [gdN hs (by decide), hg]
  show (r_X12_lastOf (sA S' 93 g) 3 5).bind _ = _
  rw [hl2]
  show (r_X12_knows (sA S' 93 g) (nI h) (nI s)).bind _ = _
  rw [hkn]
  show gd (¬ (nI h < 0 ∨ 6 ≤ (nI h).toNatClampNeg)) _ = _
  rw [gdN hh (by decide)]
  simp only [nI_8, gdN (show 8 * h + s < 48 by omega) (by decide), gdN hh (by decide), nI_clamp (show h < 2 ^ 31 by omega), nI_clamp (show s < 2 ^ 31 by omega), nI_clamp (show 8 * h + s < 2 ^ 31 by omega)]
  rw [show (sA S' 93 g).1 79 h = nI k from e79, show (sA S' 93 g).1 80 h = nI v from e80, show (sA S' 93 g).1 82 (8 * h + s) = nI tm from e82, show (sA S' 93 g).1 83 = S'.1 83 from rfl, e77]
  unfold LVf
  generalize knw (nI tm) (S'.1 83 (8 * h + s)) (nI d) (memT k dT (nI p)) = kn
  generalize gd' + MV (fcT (nI k) gd' (nI tm) (nI d) h s) = gg
  clear hkn hg e79
  by_cases z : kn = 0
  · simp only [if_pos z, gdM (show 8 * h + s < 48 by omega) (show 8 * h + s < 2 ^ 31 by omega)]
    rcases (show k = 0 ∨ k = 1 ∨ k = 2 ∨ k = 3 ∨ k = 4 ∨ k = 5 ∨ k = 6 by omega) with rfl | rfl | rfl | rfl | rfl | rfl | rfl <;> rfl
  · simp only [if_neg z, gdM hh (show h < 2 ^ 31 by omega)]
    rcases (show k = 0 ∨ k = 1 ∨ k = 2 ∨ k = 3 ∨ k = 4 ∨ k = 5 ∨ k = 6 by omega) with rfl | rfl | rfl | rfl | rfl | rfl | rfl <;> rfl
theorem laugh_c {S S' : St} {hs : List Hr} {MV : (Nat → Int32) → Int32} {dT fT : Nat} (hv : HV S MV dT fT) (hM : Mind S S') {h s k v d p t0 more : Nat} {gd' lately : Int32} (hh : h < 6) (hs8 : s < 8) (hk : k ≤ 6) (hat : ∀ {β : Type} (x : Option β) (f : Hr → Option β), ((r_X11_hearerAt S' (nI h)).bind fun q => oH hs q x f) = f (kC (nI k), nI k, nI h, nI v)) (e9 : S'.1 9 s = gd') (e9S : S.1 9 s = gd') (hd : d < 20000) (e14 : S'.1 14 (4 * h + d % 4) = nI p) (hp : 1 ≤ p) (hp9 : p ≤ 9) (e12 : S'.1 12 (8 * h + s) = nI t0) (ht : t0 ≤ 999) (hmore : more ≤ 9) : ∃ g, r_X11_laughThen S' hs (nI h) (nI s) (nI d) (nI more) lately = some (LVf MV fT gd' k v h s (min 999 (t0 + more)) d (knw (nI (min 999 (t0 + more))) (if more = 0 then S'.1 13 (8 * h + s) else lately) (nI d) (memT k dT (nI p))), sA S' 33 g) := by
  have hS := hv.b
  obtain ⟨-, -, -, hcg, -, -⟩ := hv
  obtain ⟨-, -, -, -, -, hm⟩ := hS S' hM
  have etm : (if (nI t0 + nI more) < (999 : Int32) then (nI t0 + nI more) else (999 : Int32)) = nI (min 999 (t0 + more)) := by
    rw [nI_add]
    by_cases z : t0 + more < 999
    · rw [if_pos (lt_l z (by decide)), Nat.min_eq_right (by omega)]
    · rw [if_neg (nlt_l (k := 999) (by omega) (by omega)), Nat.min_eq_left (by omega)]
      rfl
  obtain ⟨g, hg⟩ := hm (kC (nI k), nI k, nI h, nI v) s (nI (min 999 (t0 + more))) (nI d) hs8
  obtain ⟨hl1, hl2, -, -, -, -⟩ := hS (sA S' 33 g) (hM.a rfl g)
  have eMV : MV (fcC (nI h) (nI k) (S.1 9 s) (nI (min 999 (t0 + more))) (nI d) s) = MV (fcT (nI k) gd' (nI (min 999 (t0 + more))) (nI d) h s) := by
    refine hcg _ _ fun l hl => ?_
    rw [e9S]
    match l, hl with
    | 0, _ => rfl
    | 1, _ => rfl
    | 2, _ => rfl
    | 3, _ => rfl
    | 4, _ => rfl
    | 5, _ => rfl
    | l + 6, h => exact absurd h (by omega)
  have hg2 : r_X11_moodThen S' (kC (nI k), nI k, nI h, nI v) (nI s) (nI (min 999 (t0 + more))) (nI d) = some (MV (fcT (nI k) gd' (nI (min 999 (t0 + more))) (nI d) h s), sA S' 33 g) := by
    rw [hg]
    show some (MV (fcC (nI h) (nI k) (S.1 9 s) (nI (min 999 (t0 + more))) (nI d) s), _) = _
    rw [eMV]
  have hkn : ∀ last, r_X11_knowsThen (sA S' 33 g) (kC (nI k), nI k, nI h, nI v) (nI (min 999 (t0 + more))) last (nI d) = some (knw (nI (min 999 (t0 + more))) last (nI d) (memT k dT (nI p))) := fun last => knows_c hh hk hd e14 hp hp9 hl1
  refine ⟨g, ?_⟩
  unfold r_X11_laughThen
  rw [hat, times_at (by omega), e12]
  have fin : ∀ kn : Int32, (if kn = 0 then (r_sel_whenNew (sA S' 33 g) (kC (nI k), nI k, nI h, nI v) (gd' + MV (fcT (nI k) gd' (nI (min 999 (t0 + more))) (nI d) h s)) (nI (min 999 (t0 + more)))).bind fun q6 => some (q6, sA S' 33 g) else (r_X11_faceTold (sA S' 33 g)).bind fun q7 => (r_sel_whenKnown (sA S' 33 g) (kC (nI k), nI k, nI h, nI v) (gd' + MV (fcT (nI k) gd' (nI (min 999 (t0 + more))) (nI d) h s)) q7).bind fun q8 => some (q8, sA S' 33 g)) = some (LVf MV fT gd' k v h s (min 999 (t0 + more)) d kn, sA S' 33 g) := by
    intro kn
    unfold LVf
    by_cases z : kn = 0
    · rw [if_pos z, if_pos z, new_c _ h v _ _ k hk]
      rfl
    · rw [if_neg z, if_neg z, hl2]
      show (r_sel_whenKnown (sA S' 33 g) (kC (nI k), nI k, nI h, nI v) _ (nI fT)).bind _ = _
      rw [known_c _ h v _ _ k hk]
      rfl
  by_cases z : more = 0
  · rw [if_pos z]
    show (if nI more ≤ 0 then _ else _) = _
    rw [if_pos (show nI more ≤ 0 by rw [z]; decide), nI_8', gdN (show 8 * h + s < 48 by omega) (by decide), gdN hs8 (by decide), nI_clamp (show s < 2 ^ 31 by omega), nI_clamp (show 8 * h + s < 2 ^ 31 by omega), etm, hg2, e9]
    show (r_X11_knowsThen (sA S' 33 g) _ _ _ _).bind _ = _
    rw [hkn]
    exact fin _
  · rw [if_neg z]
    show (if nI more ≤ 0 then _ else _) = _
    rw [if_neg (nI_nle (by omega) (by omega)), gdN hs8 (by decide), nI_clamp (show s < 2 ^ 31 by omega), etm, hg2, e9]
    show (r_X11_knowsThen (sA S' 33 g) _ _ _ _).bind _ = _
    rw [hkn]
    exact fin _
