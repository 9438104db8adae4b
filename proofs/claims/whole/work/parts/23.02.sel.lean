def r_sel_memory (S : St) (q : Hr) (a1 : Int32) (a2 : Int32) : Option Int32 :=
  if q.1 = 3 then some (r_X3_memory_h3 q.2.1 q.2.2.1 q.2.2.2 a1 a2) else
  if q.1 = 6 then some (r_X3_memory_h6 q.2.1 q.2.2.1 q.2.2.2 a1 a2) else
  if q.1 = 0 then some (r_X3_memory_h0 q.2.1 q.2.2.1 q.2.2.2 a1 a2) else
  if q.1 = 2 then some (r_X2_memory_h2 q.2.1 q.2.2.1 q.2.2.2 a1 a2) else
  if q.1 = 4 then some (r_X3_memory_h4 q.2.1 q.2.2.1 q.2.2.2 a1 a2) else
  if q.1 = 1 then some (r_X1_memory_h1 q.2.1 q.2.2.1 q.2.2.2 a1 a2) else
  if q.1 = 9 then r_X9_memory_h9 q.2.1 q.2.2.1 q.2.2.2 a1 a2 else
  none
theorem e_sel_memory (d : Nat) (S : St) (hs : List Hr) (a : Nat) (q : Hr) (ha : ∀ S, gH (st S hs) a = some (hrC q)) (a1 : Int32) (a2 : Int32) (v : Int32) (hr : r_sel_memory S q a1 a2 = some v) (P : Option Value → Hp → Prop) (h : P (some (.int v)) (st S hs)) : ∃ mi, dspF dsps 4 q.1 = some mi ∧ Ev (d + 1) mi 0 0 [.ref a, .int a1, .int a2] (st S hs) P := by
  obtain ⟨c, w1, w2, w3⟩ := q
  unfold r_sel_memory at hr
  dsimp only at hr ⊢
  by_cases hc : c = 3
  · subst hc
    rw [if_pos rfl] at hr
    have hr := Option.some.inj hr
    subst hr
    exact ⟨_, rfl, e_X3_memory_h3 (d + 0) S hs a w1 w2 w3 ha a1 a2 P h⟩
  rw [if_neg hc] at hr
  clear hc
  by_cases hc : c = 6
  · subst hc
    rw [if_pos rfl] at hr
    have hr := Option.some.inj hr
    subst hr
    exact ⟨_, rfl, e_X3_memory_h6 (d + 0) S hs a w1 w2 w3 ha a1 a2 P h⟩
  rw [if_neg hc] at hr
  clear hc
  by_cases hc : c = 0
  · subst hc
    rw [if_pos rfl] at hr
    have hr := Option.some.inj hr
    subst hr
    exact ⟨_, rfl, e_X3_memory_h0 (d + 0) S hs a w1 w2 w3 ha a1 a2 P h⟩
  rw [if_neg hc] at hr
  clear hc
  by_cases hc : c = 2
  · subst hc
    rw [if_pos rfl] at hr
    have hr := Option.some.inj hr
    subst hr
    exact ⟨_, rfl, e_X2_memory_h2 (d + 0) S hs a w1 w2 w3 ha a1 a2 P h⟩
  rw [if_neg hc] at hr
  clear hc
  by_cases hc : c = 4
  · subst hc
    rw [if_pos rfl] at hr
    have hr := Option.some.inj hr
    subst hr
    exact ⟨_, rfl, e_X3_memory_h4 (d + 0) S hs a w1 w2 w3 ha a1 a2 P h⟩
  rw [if_neg hc] at hr
  clear hc
  by_cases hc : c = 1
  · subst hc
    rw [if_pos rfl] at hr
    have hr := Option.some.inj hr
    subst hr
    exact ⟨_, rfl, e_X1_memory_h1 (d + 0) S hs a w1 w2 w3 ha a1 a2 P h⟩
  rw [if_neg hc] at hr
  clear hc
  by_cases hc : c = 9
  · subst hc
    rw [if_pos rfl] at hr
    exact ⟨_, rfl, e_X9_memory_h9 (d + 0) S hs a w1 w2 w3 ha a1 a2 v hr P h⟩
  rw [if_neg hc] at hr
  clear hc
  cases hr
def r_sel_whenNew (S : St) (q : Hr) (a1 : Int32) (a2 : Int32) : Option Int32 :=
  if q.1 = 3 then some (r_X3_whenNew_h3 q.2.1 q.2.2.1 q.2.2.2 a1 a2) else
  if q.1 = 6 then some (r_X3_whenNew_h6 q.2.1 q.2.2.1 q.2.2.2 a1 a2) else
  if q.1 = 0 then some (r_X0_whenNew_h0 q.2.1 q.2.2.1 q.2.2.2 a1 a2) else
  if q.1 = 2 then some (r_X3_whenNew_h2 q.2.1 q.2.2.1 q.2.2.2 a1 a2) else
  if q.1 = 4 then some (r_X3_whenNew_h4 q.2.1 q.2.2.1 q.2.2.2 a1 a2) else
  if q.1 = 1 then some (r_X0_whenNew_h1 q.2.1 q.2.2.1 q.2.2.2 a1 a2) else
  if q.1 = 9 then some (r_X3_whenNew_h9 q.2.1 q.2.2.1 q.2.2.2 a1 a2) else
  none
theorem e_sel_whenNew (d : Nat) (S : St) (hs : List Hr) (a : Nat) (q : Hr) (ha : ∀ S, gH (st S hs) a = some (hrC q)) (a1 : Int32) (a2 : Int32) (v : Int32) (hr : r_sel_whenNew S q a1 a2 = some v) (P : Option Value → Hp → Prop) (h : P (some (.int v)) (st S hs)) : ∃ mi, dspF dsps 6 q.1 = some mi ∧ Ev (d + 1) mi 0 0 [.ref a, .int a1, .int a2] (st S hs) P := by
  obtain ⟨c, w1, w2, w3⟩ := q
  unfold r_sel_whenNew at hr
  dsimp only at hr ⊢
  by_cases hc : c = 3
  · subst hc
    rw [if_pos rfl] at hr
    have hr := Option.some.inj hr
    subst hr
    exact ⟨_, rfl, e_X3_whenNew_h3 (d + 0) S hs a w1 w2 w3 ha a1 a2 P h⟩
  rw [if_neg hc] at hr
  clear hc
  by_cases hc : c = 6
  · subst hc
    rw [if_pos rfl] at hr
    have hr := Option.some.inj hr
    subst hr
    exact ⟨_, rfl, e_X3_whenNew_h6 (d + 0) S hs a w1 w2 w3 ha a1 a2 P h⟩
  rw [if_neg hc] at hr
  clear hc
  by_cases hc : c = 0
  · subst hc
    rw [if_pos rfl] at hr
    have hr := Option.some.inj hr
    subst hr
    exact ⟨_, rfl, e_X0_whenNew_h0 (d + 0) S hs a w1 w2 w3 ha a1 a2 P h⟩
  rw [if_neg hc] at hr
  clear hc
  by_cases hc : c = 2
  · subst hc
    rw [if_pos rfl] at hr
    have hr := Option.some.inj hr
    subst hr
    exact ⟨_, rfl, e_X3_whenNew_h2 (d + 0) S hs a w1 w2 w3 ha a1 a2 P h⟩
  rw [if_neg hc] at hr
  clear hc
  by_cases hc : c = 4
  · subst hc
    rw [if_pos rfl] at hr
    have hr := Option.some.inj hr
    subst hr
    exact ⟨_, rfl, e_X3_whenNew_h4 (d + 0) S hs a w1 w2 w3 ha a1 a2 P h⟩
  rw [if_neg hc] at hr
  clear hc
  by_cases hc : c = 1
  · subst hc
    rw [if_pos rfl] at hr
    have hr := Option.some.inj hr
    subst hr
    exact ⟨_, rfl, e_X0_whenNew_h1 (d + 0) S hs a w1 w2 w3 ha a1 a2 P h⟩
  rw [if_neg hc] at hr
  clear hc
  by_cases hc : c = 9
  · subst hc
    rw [if_pos rfl] at hr
    have hr := Option.some.inj hr
    subst hr
    exact ⟨_, rfl, e_X3_whenNew_h9 (d + 0) S hs a w1 w2 w3 ha a1 a2 P h⟩
  rw [if_neg hc] at hr
  clear hc
  cases hr
def r_sel_whenKnown (S : St) (q : Hr) (a1 : Int32) (a2 : Int32) : Option Int32 :=
  if q.1 = 3 then some (r_X3_whenKnown_h3 q.2.1 q.2.2.1 q.2.2.2 a1 a2) else
  if q.1 = 6 then some (r_X6_whenKnown_h6 q.2.1 q.2.2.1 q.2.2.2 a1 a2) else
  if q.1 = 0 then some (r_X0_whenKnown_h0 q.2.1 q.2.2.1 q.2.2.2 a1 a2) else
  if q.1 = 2 then some (r_X3_whenKnown_h2 q.2.1 q.2.2.1 q.2.2.2 a1 a2) else
  if q.1 = 4 then some (r_X4_whenKnown_h4 q.2.1 q.2.2.1 q.2.2.2 a1 a2) else
  if q.1 = 1 then some (r_X1_whenKnown_h1 q.2.1 q.2.2.1 q.2.2.2 a1 a2) else
  if q.1 = 9 then some (r_X3_whenKnown_h9 q.2.1 q.2.2.1 q.2.2.2 a1 a2) else
  none
theorem e_sel_whenKnown (d : Nat) (S : St) (hs : List Hr) (a : Nat) (q : Hr) (ha : ∀ S, gH (st S hs) a = some (hrC q)) (a1 : Int32) (a2 : Int32) (v : Int32) (hr : r_sel_whenKnown S q a1 a2 = some v) (P : Option Value → Hp → Prop) (h : P (some (.int v)) (st S hs)) : ∃ mi, dspF dsps 5 q.1 = some mi ∧ Ev (d + 1) mi 0 0 [.ref a, .int a1, .int a2] (st S hs) P := by
  obtain ⟨c, w1, w2, w3⟩ := q
  unfold r_sel_whenKnown at hr
  dsimp only at hr ⊢
  by_cases hc : c = 3
  · subst hc
    rw [if_pos rfl] at hr
    have hr := Option.some.inj hr
    subst hr
    exact ⟨_, rfl, e_X3_whenKnown_h3 (d + 0) S hs a w1 w2 w3 ha a1 a2 P h⟩
  rw [if_neg hc] at hr
  clear hc
  by_cases hc : c = 6
  · subst hc
    rw [if_pos rfl] at hr
    have hr := Option.some.inj hr
    subst hr
    exact ⟨_, rfl, e_X6_whenKnown_h6 (d + 0) S hs a w1 w2 w3 ha a1 a2 P h⟩
  rw [if_neg hc] at hr
  clear hc
  by_cases hc : c = 0
  · subst hc
    rw [if_pos rfl] at hr
    have hr := Option.some.inj hr
    subst hr
    exact ⟨_, rfl, e_X0_whenKnown_h0 (d + 0) S hs a w1 w2 w3 ha a1 a2 P h⟩
  rw [if_neg hc] at hr
  clear hc
  by_cases hc : c = 2
  · subst hc
    rw [if_pos rfl] at hr
    have hr := Option.some.inj hr
    subst hr
    exact ⟨_, rfl, e_X3_whenKnown_h2 (d + 0) S hs a w1 w2 w3 ha a1 a2 P h⟩
  rw [if_neg hc] at hr
  clear hc
  by_cases hc : c = 4
  · subst hc
    rw [if_pos rfl] at hr
    have hr := Option.some.inj hr
    subst hr
    exact ⟨_, rfl, e_X4_whenKnown_h4 (d + 0) S hs a w1 w2 w3 ha a1 a2 P h⟩
  rw [if_neg hc] at hr
  clear hc
  by_cases hc : c = 1
  · subst hc
    rw [if_pos rfl] at hr
    have hr := Option.some.inj hr
    subst hr
    exact ⟨_, rfl, e_X1_whenKnown_h1 (d + 0) S hs a w1 w2 w3 ha a1 a2 P h⟩
  rw [if_neg hc] at hr
  clear hc
  by_cases hc : c = 9
  · subst hc
    rw [if_pos rfl] at hr
    have hr := Option.some.inj hr
    subst hr
    exact ⟨_, rfl, e_X3_whenKnown_h9 (d + 0) S hs a w1 w2 w3 ha a1 a2 P h⟩
  rw [if_neg hc] at hr
  clear hc
  cases hr
def r_sel_hears (S : St) (q : Hr) (a1 : Int32) : Option (Int32 × St) :=
  if q.1 = 3 then r_X3_hears_h3 S q.2.1 q.2.2.1 q.2.2.2 a1 else
  if q.1 = 6 then r_X3_hears_h6 S q.2.1 q.2.2.1 q.2.2.2 a1 else
  if q.1 = 0 then r_X0_hears_h0 S q.2.1 q.2.2.1 q.2.2.2 a1 else
  if q.1 = 2 then r_X3_hears_h2 S q.2.1 q.2.2.1 q.2.2.2 a1 else
  if q.1 = 4 then r_X4_hears_h4 S q.2.1 q.2.2.1 q.2.2.2 a1 else
  if q.1 = 1 then r_X0_hears_h1 S q.2.1 q.2.2.1 q.2.2.2 a1 else
  if q.1 = 9 then r_X9_hears_h9 S q.2.1 q.2.2.1 q.2.2.2 a1 else
  none
theorem e_sel_hears (d : Nat) (S : St) (hs : List Hr) (a : Nat) (q : Hr) (ha : ∀ S, gH (st S hs) a = some (hrC q)) (a1 : Int32) (v : Int32 × St) (hr : r_sel_hears S q a1 = some v) (P : Option Value → Hp → Prop) (h : P (some (.int v.1)) (st v.2 hs)) : ∃ mi, dspF dsps 0 q.1 = some mi ∧ Ev (d + 3) mi 0 0 [.ref a, .int a1] (st S hs) P := by
  obtain ⟨c, w1, w2, w3⟩ := q
  unfold r_sel_hears at hr
  dsimp only at hr ⊢
  by_cases hc : c = 3
  · subst hc
    rw [if_pos rfl] at hr
    exact ⟨_, rfl, e_X3_hears_h3 (d + 1) S hs a w1 w2 w3 ha a1 v hr P h⟩
  rw [if_neg hc] at hr
  clear hc
  by_cases hc : c = 6
  · subst hc
    rw [if_pos rfl] at hr
    exact ⟨_, rfl, e_X3_hears_h6 (d + 1) S hs a w1 w2 w3 ha a1 v hr P h⟩
  rw [if_neg hc] at hr
  clear hc
  by_cases hc : c = 0
  · subst hc
    rw [if_pos rfl] at hr
    exact ⟨_, rfl, e_X0_hears_h0 (d + 0) S hs a w1 w2 w3 ha a1 v hr P h⟩
  rw [if_neg hc] at hr
  clear hc
  by_cases hc : c = 2
  · subst hc
    rw [if_pos rfl] at hr
    exact ⟨_, rfl, e_X3_hears_h2 (d + 1) S hs a w1 w2 w3 ha a1 v hr P h⟩
  rw [if_neg hc] at hr
  clear hc
  by_cases hc : c = 4
  · subst hc
    rw [if_pos rfl] at hr
    exact ⟨_, rfl, e_X4_hears_h4 (d + 0) S hs a w1 w2 w3 ha a1 v hr P h⟩
  rw [if_neg hc] at hr
  clear hc
  by_cases hc : c = 1
  · subst hc
    rw [if_pos rfl] at hr
    exact ⟨_, rfl, e_X0_hears_h1 (d + 0) S hs a w1 w2 w3 ha a1 v hr P h⟩
  rw [if_neg hc] at hr
  clear hc
  by_cases hc : c = 9
  · subst hc
    rw [if_pos rfl] at hr
    exact ⟨_, rfl, e_X9_hears_h9 (d + 0) S hs a w1 w2 w3 ha a1 v hr P h⟩
  rw [if_neg hc] at hr
  clear hc
  cases hr
def r_sel_laughs (S : St) (q : Hr) (a1 : Int32) : Option (Int32 × St) :=
  if q.1 = 3 then r_X3_laughs_h3 S q.2.1 q.2.2.1 q.2.2.2 a1 else
  if q.1 = 6 then r_X6_laughs_h6 S q.2.1 q.2.2.1 q.2.2.2 a1 else
  if q.1 = 0 then r_X3_laughs_h0 S q.2.1 q.2.2.1 q.2.2.2 a1 else
  if q.1 = 2 then r_X3_laughs_h2 S q.2.1 q.2.2.1 q.2.2.2 a1 else
  if q.1 = 4 then r_X4_laughs_h4 S q.2.1 q.2.2.1 q.2.2.2 a1 else
  if q.1 = 1 then r_X3_laughs_h1 S q.2.1 q.2.2.1 q.2.2.2 a1 else
  if q.1 = 9 then r_X9_laughs_h9 S q.2.1 q.2.2.1 q.2.2.2 a1 else
  none
theorem e_sel_laughs (d : Nat) (S : St) (hs : List Hr) (a : Nat) (q : Hr) (ha : ∀ S, gH (st S hs) a = some (hrC q)) (a1 : Int32) (v : Int32 × St) (hr : r_sel_laughs S q a1 = some v) (P : Option Value → Hp → Prop) (h : P (some (.int v.1)) (st v.2 hs)) : ∃ mi, dspF dsps 1 q.1 = some mi ∧ Ev (d + 6) mi 0 0 [.ref a, .int a1] (st S hs) P := by
  obtain ⟨c, w1, w2, w3⟩ := q
  unfold r_sel_laughs at hr
  dsimp only at hr ⊢
  by_cases hc : c = 3
  · subst hc
    rw [if_pos rfl] at hr
    exact ⟨_, rfl, e_X3_laughs_h3 (d + 3) S hs a w1 w2 w3 ha a1 v hr P h⟩
  rw [if_neg hc] at hr
  clear hc
  by_cases hc : c = 6
  · subst hc
    rw [if_pos rfl] at hr
    exact ⟨_, rfl, e_X6_laughs_h6 (d + 2) S hs a w1 w2 w3 ha a1 v hr P h⟩
  rw [if_neg hc] at hr
  clear hc
  by_cases hc : c = 0
  · subst hc
    rw [if_pos rfl] at hr
    exact ⟨_, rfl, e_X3_laughs_h0 (d + 2) S hs a w1 w2 w3 ha a1 v hr P h⟩
  rw [if_neg hc] at hr
  clear hc
  by_cases hc : c = 2
  · subst hc
    rw [if_pos rfl] at hr
    exact ⟨_, rfl, e_X3_laughs_h2 (d + 3) S hs a w1 w2 w3 ha a1 v hr P h⟩
  rw [if_neg hc] at hr
  clear hc
  by_cases hc : c = 4
  · subst hc
    rw [if_pos rfl] at hr
    exact ⟨_, rfl, e_X4_laughs_h4 (d + 0) S hs a w1 w2 w3 ha a1 v hr P h⟩
  rw [if_neg hc] at hr
  clear hc
  by_cases hc : c = 1
  · subst hc
    rw [if_pos rfl] at hr
    exact ⟨_, rfl, e_X3_laughs_h1 (d + 2) S hs a w1 w2 w3 ha a1 v hr P h⟩
  rw [if_neg hc] at hr
  clear hc
  by_cases hc : c = 9
  · subst hc
    rw [if_pos rfl] at hr
    exact ⟨_, rfl, e_X9_laughs_h9 (d + 1) S hs a w1 w2 w3 ha a1 v hr P h⟩
  rw [if_neg hc] at hr
  clear hc
  cases hr
def r_sel_tells (S : St) (q : Hr) (a1 : Int32) : Option (Int32 × St) :=
  if q.1 = 3 then r_X3_tells_h3 S q.2.1 q.2.2.1 q.2.2.2 a1 else
  if q.1 = 6 then r_X3_tells_h6 S q.2.1 q.2.2.1 q.2.2.2 a1 else
  if q.1 = 0 then r_X3_tells_h0 S q.2.1 q.2.2.1 q.2.2.2 a1 else
  if q.1 = 2 then r_X2_tells_h2 S q.2.1 q.2.2.1 q.2.2.2 a1 else
  if q.1 = 4 then r_X3_tells_h4 S q.2.1 q.2.2.1 q.2.2.2 a1 else
  if q.1 = 1 then r_X1_tells_h1 S q.2.1 q.2.2.1 q.2.2.2 a1 else
  if q.1 = 9 then r_X2_tells_h9 S q.2.1 q.2.2.1 q.2.2.2 a1 else
  none
theorem e_sel_tells (d : Nat) (S : St) (hs : List Hr) (a : Nat) (q : Hr) (ha : ∀ S, gH (st S hs) a = some (hrC q)) (a1 : Int32) (v : Int32 × St) (hr : r_sel_tells S q a1 = some v) (P : Option Value → Hp → Prop) (h : P (some (.int v.1)) (st v.2 hs)) : ∃ mi, dspF dsps 3 q.1 = some mi ∧ Ev (d + 7) mi 0 0 [.ref a, .int a1] (st S hs) P := by
  obtain ⟨c, w1, w2, w3⟩ := q
  unfold r_sel_tells at hr
  dsimp only at hr ⊢
  by_cases hc : c = 3
  · subst hc
    rw [if_pos rfl] at hr
    exact ⟨_, rfl, e_X3_tells_h3 (d + 3) S hs a w1 w2 w3 ha a1 v hr P h⟩
  rw [if_neg hc] at hr
  clear hc
  by_cases hc : c = 6
  · subst hc
    rw [if_pos rfl] at hr
    exact ⟨_, rfl, e_X3_tells_h6 (d + 2) S hs a w1 w2 w3 ha a1 v hr P h⟩
  rw [if_neg hc] at hr
  clear hc
  by_cases hc : c = 0
  · subst hc
    rw [if_pos rfl] at hr
    exact ⟨_, rfl, e_X3_tells_h0 (d + 2) S hs a w1 w2 w3 ha a1 v hr P h⟩
  rw [if_neg hc] at hr
  clear hc
  by_cases hc : c = 2
  · subst hc
    rw [if_pos rfl] at hr
    exact ⟨_, rfl, e_X2_tells_h2 (d + 2) S hs a w1 w2 w3 ha a1 v hr P h⟩
  rw [if_neg hc] at hr
  clear hc
  by_cases hc : c = 4
  · subst hc
    rw [if_pos rfl] at hr
    exact ⟨_, rfl, e_X3_tells_h4 (d + 0) S hs a w1 w2 w3 ha a1 v hr P h⟩
  rw [if_neg hc] at hr
  clear hc
  by_cases hc : c = 1
  · subst hc
    rw [if_pos rfl] at hr
    exact ⟨_, rfl, e_X1_tells_h1 (d + 1) S hs a w1 w2 w3 ha a1 v hr P h⟩
  rw [if_neg hc] at hr
  clear hc
  by_cases hc : c = 9
  · subst hc
    rw [if_pos rfl] at hr
    exact ⟨_, rfl, e_X2_tells_h9 (d + 0) S hs a w1 w2 w3 ha a1 v hr P h⟩
  rw [if_neg hc] at hr
  clear hc
  cases hr
