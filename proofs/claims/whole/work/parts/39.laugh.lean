/-! LAUGH: knowing and laughing, on both sides, in any state that differs from S in what is asked in mind -/
def mindL : List Nat := [33, 34, 35, 36, 37, 38, 39, 82, 83, 93, 94, 95, 96, 97, 98, 99, 100]
def mind76 : List Nat := [2, 28, 30]
def Mind (S S' : St) : Prop := (∀ o, o ≠ 76 → mindL.elem o = false → S'.1 o = S.1 o) ∧ (∀ j, mind76.elem j = false → S'.1 76 j = S.1 76 j) ∧ S'.2 = S.2
theorem Mind.rf (S : St) : Mind S S := ⟨fun _ _ _ => rfl, fun _ _ => rfl, rfl⟩
theorem Mind.tr {S T U : St} (h : Mind S T) (h2 : Mind T U) : Mind S U := ⟨fun o a b => (h2.1 o a b).trans (h.1 o a b), fun j b => (h2.2.1 j b).trans (h.2.1 j b), h2.2.2.trans h.2.2⟩
theorem Mind.a {S T : St} (h : Mind S T) {k : Nat} (hk : mindL.elem k = true) (g : Nat → Int32) : Mind S (sA T k g) := by
  have k76 : (76 : Nat) ≠ k := fun z => by rw [← z] at hk; exact absurd hk (by decide)
  refine ⟨fun o a b => ?_, fun j b => ?_, h.2.2⟩
  · rw [sA_ne (fun z => by rw [z, hk] at b; cases b)]
    exact h.1 o a b
  · rw [sA_ne k76]
    exact h.2.1 j b
theorem Mind.i {S T : St} (h : Mind S T) {k : Nat} (hk : mind76.elem k = true) (v : Int32) : Mind S (sI T 76 k v) := by
  refine ⟨fun o a b => ?_, fun j b => ?_, h.2.2⟩
  · rw [sI_ne a]
    exact h.1 o a b
  · rw [sI_sl (fun z => by rw [z, hk] at b; cases b)]
    exact h.2.1 j b
/-- the model's part of it alone -/
def MindM (S S' : St) : Prop := (∀ o, 77 ≤ o → mindL.elem o = false → S'.1 o = S.1 o) ∧ ∀ j, mind76.elem j = false → S'.1 76 j = S.1 76 j
theorem Mind.m {S T : St} (h : Mind S T) : MindM S T := ⟨fun o a b => h.1 o (by omega) b, h.2.1⟩
theorem MindM.a {S T : St} (h : MindM S T) {k : Nat} (hk : mindL.elem k = true) (g : Nat → Int32) : MindM S (sA T k g) := by
  have k76 : (76 : Nat) ≠ k := fun z => by rw [← z] at hk; exact absurd hk (by decide)
  refine ⟨fun o a b => ?_, fun j b => ?_⟩
  · rw [sA_ne (fun z => by rw [z, hk] at b; cases b)]
    exact h.1 o a b
  · rw [sA_ne k76]
    exact h.2 j b
theorem MindM.i {S T : St} (h : MindM S T) {k : Nat} (hk : mind76.elem k = true) (v : Int32) : MindM S (sI T 76 k v) := by
  refine ⟨fun o a b => ?_, fun j b => ?_⟩
  · rw [sI_ne (by omega)]
    exact h.1 o a b
  · rw [sI_sl (fun z => by rw [z, hk] at b; cases b)]
    exact h.2 j b
/-- any change of cells below 76 -/
theorem MindM.lo {S T : St} (h : MindM S T) {k : Nat} (hk : k < 76) (g : Nat → Int32) : MindM S (sA T k g) := by
  refine ⟨fun o a b => ?_, fun j b => ?_⟩
  · rw [sA_ne (by omega)]
    exact h.1 o a b
  · rw [sA_ne (by omega)]
    exact h.2 j b
theorem hsF_at : ∀ t, t < 6 → hsF t = some (40 + 4 * t) := by
  intro t ht
  match t, ht with
  | 0, _ => rfl
  | 1, _ => rfl
  | 2, _ => rfl
  | 3, _ => rfl
  | 4, _ => rfl
  | 5, _ => rfl
  | t + 6, ht => exact absurd ht (by omega)
theorem Hos_at {S : St} {nb t : Nat} (h : Hos S nb) (ht : t < nb) (hn : nb ≤ 6) : ∃ nc cl, HouseOk (S.1 (40 + 4 * t)) (S.1 (40 + 4 * t + 1)) (S.1 (40 + 4 * t + 2)) (S.1 85) (S.1 86) (S.1 87) (S.1 88) (S.1 89) (S.1 90) t nc cl := by
  obtain ⟨h0, h1, h2, h3, h4, h5⟩ := h
  match t, ht with
  | 0, ht => exact h0 ht
  | 1, ht => exact h1 ht
  | 2, ht => exact h2 ht
  | 3, ht => exact h3 ht
  | 4, ht => exact h4 ht
  | 5, ht => exact h5 ht
  | t + 6, ht => exact absurd ht (by omega)
def fcC (w0 w1 gd' tm day : Int32) (s : Nat) : Nat → Int32
  | 0 => w0
  | 1 => w1
  | 2 => nI s
  | 3 => gd'
  | 4 => if 99 < tm then 99 else tm
  | _ => day - day / 7 * 7
def sm (x : Int32) (n : Nat) : Prop := -(n : Int) ≤ x.toInt ∧ x.toInt ≤ n
theorem sm_add {x y : Int32} {a b : Nat} (hx : sm x a) (hy : sm y b) (h : a + b < 2 ^ 30) : sm (x + y) (a + b) ∧ (x + y).toInt = x.toInt + y.toInt := by
  obtain ⟨h1, h2⟩ := hx
  obtain ⟨h3, h4⟩ := hy
  have e : (x + y).toInt = x.toInt + y.toInt := by
    rw [Int32.toInt_add, Int.bmod_def]
    omega
  refine ⟨⟨?_, ?_⟩, e⟩ <;> rw [e] <;> omega
theorem sm_nI {n a : Nat} (h : n ≤ a) (ha : a < 2 ^ 30) : sm (nI n) a := by
  unfold sm
  rw [nI_toInt (by omega)]
  omega
theorem sm_neg {x : Int32} {a : Nat} (hx : sm x a) (ha : a < 2 ^ 30) : sm (-x) a := by
  obtain ⟨h1, h2⟩ := hx
  unfold sm
  rw [Int32.toInt_neg, Int.bmod_def]
  omega
theorem sm_le {x : Int32} {a b : Nat} (h : sm x a) (hab : a ≤ b) : sm x b := by
  obtain ⟨h1, h2⟩ := h
  exact ⟨by omega, by omega⟩
theorem sm_0 (a : Nat) : sm 0 a := by
  unfold sm
  have : (0 : Int32).toInt = 0 := by decide
  omega
theorem moodA_sm {f : Nat → Int32} {cl : Nat → Nat × Nat × List Int32} : ∀ c, c ≤ 10 → (∀ j, j < c → (cl j).2.1 ≤ 99) → sm (moodA f cl c) (99 * c)
  | 0, _, _ => sm_0 _
  | c + 1, hc, h => by
    have h1 := moodA_sm (f := f) c (by omega) (fun j hj => h j (by omega))
    have h2 : sm (ctb f (cl c)) 99 := by
      have h3 : sm (nI (cl c).2.1) 99 := sm_nI (h c (by omega)) (by decide)
      unfold ctb
      split
      · split
        · split
          · exact h3
          · exact sm_neg h3 (by decide)
        · exact sm_0 _
      · exact sm_0 _
    exact sm_le (sm_add h1 h2 (by omega)).1 (by omega)
/-- what a HOUSE gives: the sum of a mood by its facts, DAYS, FACE -/
def HV (S : St) (MV : (Nat → Int32) → Int32) (dT fT : Nat) : Prop := dT ≤ 99 ∧ fT ≤ 99 ∧ (∀ f, sm (MV f) 990) ∧ (∀ f g, (∀ l, l ≤ 5 → f l = g l) → MV f = MV g) ∧
  (∀ S', Mind S S' → r_X11_daysTold S' = some (nI dT) ∧ r_X11_faceTold S' = some (nI fT) ∧
    ∀ (q : Hr) (s : Nat) (tm day : Int32), s < 8 → ∃ g, r_X11_moodThen S' q (nI s) tm day = some (MV (fcC q.2.2.1 q.2.1 (S.1 9 s) tm day s), sA S' 33 g)) ∧
  ∀ S', MindM S S' → r_X12_lastOf S' 2 20 = some (nI dT) ∧ r_X12_lastOf S' 3 5 = some (nI fT) ∧
    (∀ (h s : Nat) (f : Nat → Int32), (∀ l, l ≤ 5 → r_X12_factOf S' (nI l) (nI h) (nI s) = some (f l)) → ∃ g, r_X12_mood S' (nI h) (nI s) = some (MV f, sA S' 93 g))
theorem HV.b {S : St} {MV : (Nat → Int32) → Int32} {dT fT : Nat} (h : HV S MV dT fT) : ∀ S', Mind S S' → r_X11_daysTold S' = some (nI dT) ∧ r_X11_faceTold S' = some (nI fT) ∧ r_X12_lastOf S' 2 20 = some (nI dT) ∧ r_X12_lastOf S' 3 5 = some (nI fT) ∧
    (∀ (h s : Nat) (f : Nat → Int32), (∀ l, l ≤ 5 → r_X12_factOf S' (nI l) (nI h) (nI s) = some (f l)) → ∃ g, r_X12_mood S' (nI h) (nI s) = some (MV f, sA S' 93 g)) ∧
    ∀ (q : Hr) (s : Nat) (tm day : Int32), s < 8 → ∃ g, r_X11_moodThen S' q (nI s) tm day = some (MV (fcC q.2.2.1 q.2.1 (S.1 9 s) tm day s), sA S' 33 g) := by
  intro S' hM
  obtain ⟨-, -, -, -, h1, h2⟩ := h
  obtain ⟨a, b, c⟩ := h1 S' hM
  obtain ⟨d, e, f⟩ := h2 S' hM.m
  exact ⟨a, b, d, e, f, c⟩
theorem lastW_le {cl : Nat → Nat × Nat × List Int32} {w x : Nat} (hx : x ≤ 99) : ∀ c, (∀ j, j < c → (cl j).2.1 ≤ 99) → lastW cl w x c ≤ 99
  | 0, _ => hx
  | c + 1, h => by
    show (if (cl c).1 = w then (cl c).2.1 else lastW cl w x c) ≤ 99
    split
    · exact h c (by omega)
    · exact lastW_le hx c (fun j hj => h j (by omega))
theorem hv_of {S : St} {hs : List Hr} (hI : Inv S hs) : ∃ MV dT fT, HV S MV dT fT := by
  obtain ⟨nb, hB, ⟨ns, nh, nd, nf, ne, ⟨⟨c1, c2, c3⟩, ⟨d1, d2, d3⟩, ⟨y1, y2, y3⟩, ⟨f1, f2, f3⟩, ⟨b1, b2, b3⟩, t1, t2⟩, hA, hT, hR, hF, hK, hW⟩, hIm, hTx, hTr, hTp, hHo, hL⟩ := id hI
  obtain ⟨n1, n2, n3⟩ := hB
  rcases t2 with h11 | ⟨t, ht, h11⟩
  · refine ⟨fun _ => 0, 20, 5, by decide, by decide, fun _ => sm_0 _, fun _ _ _ => rfl, fun S' hM => ?_, fun S' hM => ?_⟩
    · have e81 : S'.1 8 1 = -1 := by rw [hM.1 8 (by decide) rfl, t1]; exact h11
      have hh : r_X11_holding S' = some none := by
        unfold r_X11_holding
        rw [within_in, e81, if_pos (ii_lo (by decide))]
      refine ⟨?_, ?_, fun q s tm day hs => ⟨S'.1 33, ?_⟩⟩
      · unfold r_X11_daysTold
        rw [hh]
        rfl
      · unfold r_X11_faceTold
        rw [hh]
        rfl
      · unfold r_X11_moodThen
        rw [hh, sA_self]
        rfl
    · have e11 : S'.1 76 11 = -1 := (hM.2 11 rfl).trans h11
      have hb : r_X12_behind S' = some 0 := by
        unfold r_X12_behind
        rw [e11, if_neg (by decide)]
      have hg : r_X12_begin S' = 0 := by
        unfold r_X12_begin
        rw [e11, if_neg (by decide)]
      have hl : ∀ w x : Int32, r_X12_lastOf S' w x = some x := by
        intro w x
        unfold r_X12_lastOf
        rw [hg, lp_X12_lastOf_8, hb]
        rfl
      refine ⟨hl 2 20, hl 3 5, fun h s f hf => ⟨S'.1 93, ?_⟩⟩
      · unfold r_X12_mood
        rw [hg, lp_X12_mood_8, hb, sA_self]
        rfl
  · obtain ⟨nc, cl, ⟨x1, x2⟩, x3, ⟨x4, x5, x6⟩, x7, x8⟩ := Hos_at hHo ht n1
    have h99 : ∀ j, j < nc → (cl j).2.1 ≤ 99 := fun j hj => (x3 j hj).2.1
    have hco : ∀ j, j < nc → (cl j).1 < 2 → codeOk (cl j).2.2 0 := fun j hj hw => by
      obtain ⟨a, b, -, -, -, -, -, k⟩ := (x3 j hj).2.2.2.2 hw
      exact k
    have t6 : t < 6 := by omega
    refine ⟨fun f => moodA f cl nc, lastW cl 2 20 nc, lastW cl 3 5 nc, lastW_le (by decide) nc h99, lastW_le (by decide) nc h99, fun f => sm_le (moodA_sm nc x1 h99) (by omega), fun f g hfg => moodA_cong hfg nc hco, fun S' hM => ?_, fun S' hM => ?_⟩
    · have e81 : S'.1 8 1 = nI t := by rw [hM.1 8 (by decide) rfl, t1]; exact h11
      have e76 : S'.1 7 6 = nI nb := by rw [hM.1 7 (by decide) rfl]; exact n2
      have eo : ∀ i, i < 3 → S'.1 (40 + 4 * t + i) = S.1 (40 + 4 * t + i) := by
        intro i hi
        refine hM.1 _ (by omega) ?_
        cases hq : mindL.elem (40 + 4 * t + i) with
        | false => rfl
        | true =>
          have := List.mem_of_elem_eq_true hq
          simp only [mindL, List.mem_cons, List.not_mem_nil, or_false] at this
          omega
      have hh : r_X11_holding S' = some (some (40 + 4 * t)) := by
        unfold r_X11_holding
        rw [within_in, e81, e76, if_neg (ii_is (by omega) ht), gdN t6 (by decide), nI_clamp (by omega), hsF_at t t6]
      refine ⟨?_, ?_, fun q s tm day hs => ?_⟩
      · unfold r_X11_daysTold
        rw [hh]
        show some (S'.1 (40 + 4 * t) 3) = _
        rw [show S'.1 (40 + 4 * t) = S.1 (40 + 4 * t) from eo 0 (by decide), x7]
      · unfold r_X11_faceTold
        rw [hh]
        show some (S'.1 (40 + 4 * t) 4) = _
        rw [show S'.1 (40 + 4 * t) = S.1 (40 + 4 * t) from eo 0 (by decide), x8]
      · have e9 : S'.1 9 = S.1 9 := hM.1 9 (by decide) rfl
        refine ⟨upd (upd (upd (upd (upd (upd (S'.1 33) 0 q.2.2.1) 1 q.2.1) 2 (nI s)) 3 (S.1 9 s)) 4 (if 99 < tm then 99 else tm)) 5 (day - day / 7 * 7), ?_⟩
        have key : ∀ T : St, T = sA S' 33 (upd (upd (upd (upd (upd (upd (S'.1 33) 0 q.2.2.1) 1 q.2.1) 2 (nI s)) 3 (S.1 9 s)) 4 (if 99 < tm then 99 else tm)) 5 (day - day / 7 * 7)) → (r_X5_moodBy_33 T (40 + 4 * t)).bind (fun q7 => some (q7, T)) = some (moodA (fcC q.2.2.1 q.2.1 (S.1 9 s) tm day s) cl nc, T) := by
          intro T hT
          have f33 : T.1 33 = upd (upd (upd (upd (upd (upd (S'.1 33) 0 q.2.2.1) 1 q.2.1) 2 (nI s)) 3 (S.1 9 s)) 4 (if 99 < tm then 99 else tm)) 5 (day - day / 7 * 7) := by rw [hT, sA_at]
          have fo : ∀ i, i < 3 → T.1 (40 + 4 * t + i) = S.1 (40 + 4 * t + i) := fun i hi => by rw [hT, sA_ne (by omega)]; exact eo i hi
          rw [cls_mood (S := T) (o := 40 + 4 * t) (nc := nc) (cl := cl) hco x4 (by rw [show T.1 (40 + 4 * t) = _ from fo 0 (by decide)]; exact x5) (by rw [fo 1 (by decide), fo 2 (by decide)]; exact x6)]
          show some (moodA (T.1 33) cl nc, T) = _
          rw [f33, moodA_cong (g := fcC q.2.2.1 q.2.1 (S.1 9 s) tm day s) (fun l hl => ?_) nc hco]
          match l, hl with
          | 0, _ => rfl
          | 1, _ => rfl
          | 2, _ => rfl
          | 3, _ => rfl
          | 4, _ => rfl
          | 5, _ => rfl
          | l + 6, h => exact absurd h (by omega)
        unfold r_X11_moodThen
        rw [hh]
        show gd (¬ (nI s < 0 ∨ 8 ≤ (nI s).toNatClampNeg)) ((r_X5_moodBy_33 (sA (sA (sA (sA (sA (sA S' 33 (upd (S'.1 33) (0 : Int32).toNatClampNeg q.2.2.1)) 33 (upd (upd (S'.1 33) (0 : Int32).toNatClampNeg q.2.2.1) (1 : Int32).toNatClampNeg q.2.1)) 33 (upd (upd (upd (S'.1 33) (0 : Int32).toNatClampNeg q.2.2.1) (1 : Int32).toNatClampNeg q.2.1) (2 : Int32).toNatClampNeg (nI s))) 33 (upd (upd (upd (upd (S'.1 33) (0 : Int32).toNatClampNeg q.2.2.1) (1 : Int32).toNatClampNeg q.2.1) (2 : Int32).toNatClampNeg (nI s)) (3 : Int32).toNatClampNeg (S'.1 9 (nI s).toNatClampNeg))) 33 (upd (upd (upd (upd (upd (S'.1 33) (0 : Int32).toNatClampNeg q.2.2.1) (1 : Int32).toNatClampNeg q.2.1) (2 : Int32).toNatClampNeg (nI s)) (3 : Int32).toNatClampNeg (S'.1 9 (nI s).toNatClampNeg)) (4 : Int32).toNatClampNeg (if 99 < tm then 99 else tm))) 33 (upd (upd (upd (upd (upd (upd (S'.1 33) (0 : Int32).toNatClampNeg q.2.2.1) (1 : Int32).toNatClampNeg q.2.1) (2 : Int32).toNatClampNeg (nI s)) (3 : Int32).toNatClampNeg (S'.1 9 (nI s).toNatClampNeg)) (4 : Int32).toNatClampNeg (if 99 < tm then 99 else tm)) (5 : Int32).toNatClampNeg (day - day / 7 * 7))) (40 + 4 * t)).bind _) = _
        rw [gdN hs (by decide), nI_clamp (show s < 2 ^ 31 by omega), e9, show (0 : Int32).toNatClampNeg = 0 from by decide, show (1 : Int32).toNatClampNeg = 1 from by decide, show (2 : Int32).toNatClampNeg = 2 from by decide, show (3 : Int32).toNatClampNeg = 3 from by decide, show (4 : Int32).toNatClampNeg = 4 from by decide, show (5 : Int32).toNatClampNeg = 5 from by decide]
        have eT : (sA (sA (sA (sA (sA (sA S' 33 (upd (S'.1 33) 0 q.2.2.1)) 33 (upd (upd (S'.1 33) 0 q.2.2.1) 1 q.2.1)) 33 (upd (upd (upd (S'.1 33) 0 q.2.2.1) 1 q.2.1) 2 (nI s))) 33 (upd (upd (upd (upd (S'.1 33) 0 q.2.2.1) 1 q.2.1) 2 (nI s)) 3 (S.1 9 s))) 33 (upd (upd (upd (upd (upd (S'.1 33) 0 q.2.2.1) 1 q.2.1) 2 (nI s)) 3 (S.1 9 s)) 4 (if 99 < tm then 99 else tm))) 33 (upd (upd (upd (upd (upd (upd (S'.1 33) 0 q.2.2.1) 1 q.2.1) 2 (nI s)) 3 (S.1 9 s)) 4 (if 99 < tm then 99 else tm)) 5 (day - day / 7 * 7))) = sA S' 33 (upd (upd (upd (upd (upd (upd (S'.1 33) 0 q.2.2.1) 1 q.2.1) 2 (nI s)) 3 (S.1 9 s)) 4 (if 99 < tm then 99 else tm)) 5 (day - day / 7 * 7)) := by
          rw [sA_sA, sA_sA, sA_sA, sA_sA, sA_sA]
        rw [eT]
        have := key _ rfl
        rw [← this]
        congr 1
        funext q7
        show some (q7, sA (sA (sA (sA (sA (sA S' 33 (upd (S'.1 33) 0 q.2.2.1)) 33 (upd (upd (S'.1 33) 0 q.2.2.1) 1 q.2.1)) 33 (upd (upd (upd (S'.1 33) 0 q.2.2.1) 1 q.2.1) 2 (nI s))) 33 (upd (upd (upd (upd (S'.1 33) 0 q.2.2.1) 1 q.2.1) 2 (nI s)) 3 (S'.1 9 s))) 33 (upd (upd (upd (upd (upd (S'.1 33) 0 q.2.2.1) 1 q.2.1) 2 (nI s)) 3 (S'.1 9 s)) 4 (if 99 < tm then 99 else tm))) 33 (upd (upd (upd (upd (upd (upd (S'.1 33) 0 q.2.2.1) 1 q.2.1) 2 (nI s)) 3 (S'.1 9 s)) 4 (if 99 < tm then 99 else tm)) 5 (day - day / 7 * 7))) = _
        rw [e9, eT]
    · have e11 : S'.1 76 11 = nI t := (hM.2 11 rfl).trans h11
      have hMH : MH S' t nc cl := by
        unfold MH
        rw [hM.1 85 (by decide) rfl, hM.1 86 (by decide) rfl, hM.1 87 (by decide) rfl, hM.1 88 (by decide) rfl, hM.1 89 (by decide) rfl, hM.1 90 (by decide) rfl]
        exact ⟨⟨x1, x2⟩, x3⟩
      refine ⟨?_, ?_, fun h s f hf => ?_⟩
      · unfold r_X12_lastOf
        rw [beg_at t6 e11]
        have := lp_last (w := 2) (x := 20) t6 (by decide) hMH e11 4000 0 (by omega) (by omega)
        rw [Nat.add_zero] at this
        rw [show (2 : Int32) = nI 2 from rfl, show (20 : Int32) = nI (lastW cl 2 20 0) from rfl]
        rw [this]
        rfl
      · unfold r_X12_lastOf
        rw [beg_at t6 e11]
        have := lp_last (w := 3) (x := 5) t6 (by decide) hMH e11 4000 0 (by omega) (by omega)
        rw [Nat.add_zero] at this
        rw [show (3 : Int32) = nI 3 from rfl, show (5 : Int32) = nI (lastW cl 3 5 0) from rfl]
        rw [this]
        rfl
      · obtain ⟨g, hg⟩ := lp_mood (f := f) (h := h) (s := s) t6 4000 0 S' hMH e11 hf (by omega) (by omega)
        refine ⟨g, ?_⟩
        unfold r_X12_mood
        rw [beg_at t6 e11]
        have hg' : lp_X12_mood_8 (nI h) (nI s) 4000 0 (nI (10 * t)) S' = _ := hg
        rw [hg']
        rfl
