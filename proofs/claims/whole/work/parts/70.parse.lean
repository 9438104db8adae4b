/-! HOUSE: the reading of a text, as plain functions of its signs; k i is the sign at place i, 200 behind the end -/
def ps_d (x : Nat) : Bool := decide (48 ≤ x) && decide (x ≤ 57)
def ps_n (k : Nat → Nat) (p : Nat) : Option Nat × Nat := if ps_d (k p) = true then (if ps_d (k (p + 1)) = true then (some (10 * (k p - 48) + (k (p + 1) - 48)), p + 2) else (some (k p - 48), p + 1)) else (none, p)
def ps_l (x : Nat) : Option Nat := if x = 104 then some 0 else if x = 107 then some 1 else if x = 115 then some 2 else if x = 103 then some 3 else if x = 116 then some 4 else if x = 119 then some 5 else none
abbrev PR := Bool × Nat × List Int32
def ps_v (k : Nat → Nat) (f p : Nat) : PR :=
  match (ps_n k (p + 2)).1 with
  | none => (false, (ps_n k (p + 2)).2, [])
  | some n => (true, (ps_n k (p + 2)).2, [nI (1000 * f + 100 * (k (p + 1) - 60) + n)])
def ps_u (k : Nat → Nat) (f p : Nat) : PR := if 60 ≤ k (p + 1) ∧ k (p + 1) ≤ 62 then ps_v k f p else (false, p + 1, [])
def ps_t (k : Nat → Nat) (p : Nat) : PR :=
  match ps_l (k p) with
  | none => (false, p, [])
  | some f => ps_u k f p
def ps_r (k : Nat → Nat) (g : Nat → PR) (ch : Nat) (tok : Int32) : Nat → PR → PR
  | 0, r => r
  | n + 1, r => if r.1 = true ∧ k r.2.1 = ch then ps_r k g ch tok n ((g (r.2.1 + 1)).1, (g (r.2.1 + 1)).2.1, r.2.2 ++ (g (r.2.1 + 1)).2.2 ++ [tok]) else r
def ps_B (k : Nat → Nat) (g : Nat → PR) (p : Nat) : PR := ps_r k g 38 (-38) 100 (g p)
def ps_E (k : Nat → Nat) (g : Nat → PR) (p : Nat) : PR := ps_r k (ps_B k g) 124 (-124) 100 (ps_B k g p)
/-- behind a ( : the ) -/
def ps_q (k : Nat → Nat) (r : PR) : PR := if r.1 = true ∧ k r.2.1 = 41 then (true, r.2.1 + 1, r.2.2) else (false, r.2.1, r.2.2)
def ps_p (k : Nat → Nat) : Nat → Nat → PR
  | 0 => fun p => if k p = 33 then (false, p, []) else if k p = 40 then (false, p, []) else ps_t k p
  | d + 1 => fun p => if k p = 33 then ((ps_p k d (p + 1)).1, (ps_p k d (p + 1)).2.1, (ps_p k d (p + 1)).2.2 ++ [-33]) else if k p = 40 then ps_q k (ps_E k (ps_p k d) (p + 1)) else ps_t k p
/-- how many signs of a word stand there -/
def ps_a (k : Nat → Nat) : Nat → List Nat → Nat
  | _, [] => 0
  | p, x :: r => if k p = x then ps_a k (p + 1) r + 1 else 0
def ps_w (k : Nat → Nat) (p : Nat) : Option Nat × Nat :=
  if ps_a k p [102, 117, 110] = 3 then (some 0, p + 3)
  else if ps_a k p [115, 111, 117, 114] = 4 then (some 1, p + 4)
  else if ps_a k p [100, 97, 121, 115] = 4 then (some 2, p + 4)
  else if ps_a k p [102, 97, 99, 101] = 4 then (some 3, p + 4)
  else (none, p + max (max (max (ps_a k p [102, 117, 110]) (ps_a k p [115, 111, 117, 114])) (ps_a k p [100, 97, 121, 115])) (ps_a k p [102, 97, 99, 101]))
abbrev PC := Nat × Nat × List Int32
/-- the expression of a clause -/
def ps_e (k : Nat → Nat) (w n p : Nat) : Bool × Nat × PC :=
  if 2 ≤ w then (true, p, w, n, [])
  else if k p = 32 then ((ps_E k (ps_p k 4) (p + 1)).1, (ps_E k (ps_p k 4) (p + 1)).2.1, w, n, (ps_E k (ps_p k 4) (p + 1)).2.2)
  else (false, p, w, n, [])
def ps_k (k : Nat → Nat) (w p : Nat) : Bool × Nat × PC :=
  if k p = 32 then (match (ps_n k (p + 1)).1 with
    | none => (false, (ps_n k (p + 1)).2, w, 0, [])
    | some n => ps_e k w n (ps_n k (p + 1)).2)
  else (false, p, w, 0, [])
def ps_c (k : Nat → Nat) (p : Nat) : Bool × Nat × PC :=
  match (ps_w k p).1 with
  | none => (false, (ps_w k p).2, 0, 0, [])
  | some w => ps_k k w (ps_w k p).2
def ps_x (k : Nat → Nat) (N : Nat) : Nat → Nat → List PC → Bool × Nat × List PC
  | 0, p, acc => (false, p, acc)
  | n + 1, p, acc => if (ps_c k p).1 = true then (if (ps_c k p).2.1 = N then (true, N, acc ++ [(ps_c k p).2.2]) else if n = 0 then (false, (ps_c k p).2.1, acc) else if k (ps_c k p).2.1 = 59 then ps_x k N n ((ps_c k p).2.1 + 1) (acc ++ [(ps_c k p).2.2]) else (false, (ps_c k p).2.1, acc)) else (false, (ps_c k p).2.1, acc)
/-! where it stands, how many signs it has -/
def ps_ok (N p : Nat) (r : PR) : Prop := p ≤ r.2.1 ∧ r.2.1 ≤ N ∧ (r.1 = true → p < r.2.1)
def PG (N : Nat) (g : Nat → PR) : Prop := ∀ p, p ≤ N → ps_ok N p (g p)
def PK (N : Nat) (k : Nat → Nat) : Prop := (∀ i, N ≤ i → k i = 200) ∧ ∀ i, i < N → k i ≤ 127
theorem PK.lt {N : Nat} {k : Nat → Nat} (h : PK N k) {i x : Nat} (e : k i = x) (hx : x ≤ 127) : i < N := by
  refine Nat.lt_of_not_le fun z => ?_
  have := h.1 i z
  omega
theorem ps_n_ok {N : Nat} {k : Nat → Nat} (h : PK N k) {p : Nat} (hp : p ≤ N) : p ≤ (ps_n k p).2 ∧ (ps_n k p).2 ≤ N ∧ (∀ n, (ps_n k p).1 = some n → n ≤ 99 ∧ p < (ps_n k p).2) := by
  have hd : ∀ i, ps_d (k i) = true → i < N ∧ 48 ≤ k i ∧ k i ≤ 57 := by
    intro i hi
    unfold ps_d at hi
    rw [Bool.and_eq_true] at hi
    have h1 := of_decide_eq_true hi.1
    have h2 := of_decide_eq_true hi.2
    exact ⟨h.lt rfl (by omega), h1, h2⟩
  unfold ps_n
  by_cases a : ps_d (k p) = true
  · obtain ⟨a1, a2, a3⟩ := hd p a
    rw [if_pos a]
    by_cases b : ps_d (k (p + 1)) = true
    · obtain ⟨b1, b2, b3⟩ := hd _ b
      rw [if_pos b]
      refine ⟨by show p ≤ p + 2; omega, by show p + 2 ≤ N; omega, fun n hn => ?_⟩
      have := Option.some.inj hn
      refine ⟨by omega, by show p < p + 2; omega⟩
    · rw [if_neg b]
      refine ⟨by show p ≤ p + 1; omega, by show p + 1 ≤ N; omega, fun n hn => ?_⟩
      have := Option.some.inj hn
      refine ⟨by omega, by show p < p + 1; omega⟩
  · rw [if_neg a]
    exact ⟨Nat.le_refl _, hp, fun n hn => by cases hn⟩
theorem ps_l_lt {x f : Nat} (h : ps_l x = some f) : x ≤ 127 ∧ f ≤ 5 := by
  unfold ps_l at h
  repeat (split at h; · (have := Option.some.inj h; omega))
  cases h
theorem ps_t_no {k : Nat → Nat} {p : Nat} (e : ps_l (k p) = none) : ps_t k p = (false, p, []) := by
  unfold ps_t
  rw [e]
theorem ps_t_so {k : Nat → Nat} {p f : Nat} (e : ps_l (k p) = some f) : ps_t k p = ps_u k f p := by
  unfold ps_t
  rw [e]
theorem ps_v_no {k : Nat → Nat} {p f : Nat} (e : (ps_n k (p + 2)).1 = none) : ps_v k f p = (false, (ps_n k (p + 2)).2, []) := by
  unfold ps_v
  rw [e]
theorem ps_v_so {k : Nat → Nat} {p f n : Nat} (e : (ps_n k (p + 2)).1 = some n) : ps_v k f p = (true, (ps_n k (p + 2)).2, [nI (1000 * f + 100 * (k (p + 1) - 60) + n)]) := by
  unfold ps_v
  rw [e]
theorem ps_u_y {k : Nat → Nat} {p f : Nat} (c : 60 ≤ k (p + 1) ∧ k (p + 1) ≤ 62) : ps_u k f p = ps_v k f p := if_pos c
theorem ps_u_n {k : Nat → Nat} {p f : Nat} (c : ¬ (60 ≤ k (p + 1) ∧ k (p + 1) ≤ 62)) : ps_u k f p = (false, p + 1, []) := if_neg c
theorem ps_t_ok {N : Nat} {k : Nat → Nat} (h : PK N k) : PG N (ps_t k) := by
  intro p hp
  cases e : ps_l (k p) with
  | none =>
    rw [ps_t_no e]
    exact ⟨Nat.le_refl _, hp, fun z => by cases z⟩
  | some f =>
    have h1 : p < N := h.lt rfl (ps_l_lt e).1
    rw [ps_t_so e]
    by_cases c : 60 ≤ k (p + 1) ∧ k (p + 1) ≤ 62
    · have h2 : p + 1 < N := h.lt rfl (by omega)
      rw [ps_u_y c]
      obtain ⟨a1, a2, a3⟩ := ps_n_ok h (p := p + 2) (by omega)
      cases e2 : (ps_n k (p + 2)).1 with
      | none =>
        rw [ps_v_no e2]
        exact ⟨by show p ≤ (ps_n k (p + 2)).2; omega, a2, fun z => by cases z⟩
      | some n =>
        rw [ps_v_so e2]
        exact ⟨by show p ≤ (ps_n k (p + 2)).2; omega, a2, fun z => by show p < (ps_n k (p + 2)).2; omega⟩
    · rw [ps_u_n c]
      exact ⟨by show p ≤ p + 1; omega, h1, fun z => by cases z⟩
theorem ps_r_ok {N : Nat} {k : Nat → Nat} (h : PK N k) {g : Nat → PR} (hg : PG N g) {ch : Nat} {tok : Int32} (hc : ch ≤ 127) {p : Nat} : ∀ n r, ps_ok N p r → ps_ok N p (ps_r k g ch tok n r)
  | 0, r, hr => hr
  | n + 1, r, hr => by
    show ps_ok N p (if r.1 = true ∧ k r.2.1 = ch then _ else _)
    by_cases c : r.1 = true ∧ k r.2.1 = ch
    · rw [if_pos c]
      have h1 := h.lt c.2 hc
      obtain ⟨a1, a2, a3⟩ := hg (r.2.1 + 1) h1
      have h0 := hr.1
      exact ps_r_ok h hg hc n _ ⟨by show p ≤ (g (r.2.1 + 1)).2.1; omega, a2, fun z => by show p < (g (r.2.1 + 1)).2.1; omega⟩
    · rw [if_neg c]
      exact hr
theorem ps_B_ok {N : Nat} {k : Nat → Nat} (h : PK N k) {g : Nat → PR} (hg : PG N g) : PG N (ps_B k g) := fun p hp => ps_r_ok h hg (by decide) 100 _ (hg p hp)
theorem ps_E_ok {N : Nat} {k : Nat → Nat} (h : PK N k) {g : Nat → PR} (hg : PG N g) : PG N (ps_E k g) := fun p hp => ps_r_ok h (ps_B_ok h hg) (by decide) 100 _ (ps_B_ok h hg p hp)
theorem ps_p_ok {N : Nat} {k : Nat → Nat} (h : PK N k) : ∀ d, PG N (ps_p k d)
  | 0 => fun p hp => by
    show ps_ok N p (if k p = 33 then _ else if k p = 40 then _ else _)
    by_cases a : k p = 33
    · rw [if_pos a]
      exact ⟨Nat.le_refl _, hp, fun z => by cases z⟩
    rw [if_neg a]
    by_cases b : k p = 40
    · rw [if_pos b]
      exact ⟨Nat.le_refl _, hp, fun z => by cases z⟩
    rw [if_neg b]
    exact ps_t_ok h p hp
  | d + 1 => fun p hp => by
    have ih := ps_p_ok h d
    show ps_ok N p (if k p = 33 then _ else if k p = 40 then _ else _)
    by_cases a : k p = 33
    · rw [if_pos a]
      obtain ⟨a1, a2, a3⟩ := ih (p + 1) (h.lt a (by decide))
      exact ⟨by show p ≤ (ps_p k d (p + 1)).2.1; omega, a2, fun z => by show p < (ps_p k d (p + 1)).2.1; omega⟩
    rw [if_neg a]
    by_cases b : k p = 40
    · rw [if_pos b]
      obtain ⟨a1, a2, a3⟩ := ps_E_ok h ih (p + 1) (h.lt b (by decide))
      unfold ps_q
      by_cases c : (ps_E k (ps_p k d) (p + 1)).1 = true ∧ k (ps_E k (ps_p k d) (p + 1)).2.1 = 41
      · rw [if_pos c]
        have := h.lt c.2 (by decide)
        exact ⟨by show p ≤ (ps_E k (ps_p k d) (p + 1)).2.1 + 1; omega, by show (ps_E k (ps_p k d) (p + 1)).2.1 + 1 ≤ N; omega, fun z => by show p < (ps_E k (ps_p k d) (p + 1)).2.1 + 1; omega⟩
      · rw [if_neg c]
        exact ⟨by show p ≤ (ps_E k (ps_p k d) (p + 1)).2.1; omega, a2, fun z => by cases z⟩
    rw [if_neg b]
    exact ps_t_ok h p hp
/-- where a loop ends, its sign does not stand -/
theorem ps_r_end {N : Nat} {k : Nat → Nat} (h : PK N k) (hN : N ≤ 100) {g : Nat → PR} (hg : PG N g) {ch : Nat} {tok : Int32} (hc : ch ≤ 127) : ∀ n r, r.2.1 ≤ N → 100 ≤ n + r.2.1 → (ps_r k g ch tok n r).1 = true → k (ps_r k g ch tok n r).2.1 ≠ ch
  | 0, r, h1, h2, _ => fun z => by
    have := h.lt z hc
    have e : (ps_r k g ch tok 0 r).2.1 = r.2.1 := rfl
    omega
  | n + 1, r, h1, h2, h3 => by
    have e : ps_r k g ch tok (n + 1) r = if r.1 = true ∧ k r.2.1 = ch then ps_r k g ch tok n ((g (r.2.1 + 1)).1, (g (r.2.1 + 1)).2.1, r.2.2 ++ (g (r.2.1 + 1)).2.2 ++ [tok]) else r := rfl
    rw [e] at h3 ⊢
    by_cases c : r.1 = true ∧ k r.2.1 = ch
    · rw [if_pos c] at h3 ⊢
      have h4 := h.lt c.2 hc
      obtain ⟨a1, a2, a3⟩ := hg (r.2.1 + 1) h4
      exact ps_r_end h hN hg hc n _ a2 (by show 100 ≤ n + (g (r.2.1 + 1)).2.1; omega) h3
    · rw [if_neg c] at h3 ⊢
      exact fun z => c ⟨h3, z⟩
theorem ps_B_end {N : Nat} {k : Nat → Nat} (h : PK N k) (hN : N ≤ 100) {g : Nat → PR} (hg : PG N g) {p : Nat} (hp : p ≤ N) (h1 : (ps_B k g p).1 = true) : k (ps_B k g p).2.1 ≠ 38 := ps_r_end h hN hg (by decide) 100 (g p) (hg p hp).2.1 (by omega) h1
/-- the & of the last part is gone too -/
theorem ps_r_end2 {N : Nat} {k : Nat → Nat} (h : PK N k) {g : Nat → PR} {P : Nat → Prop} (hg : ∀ p, p ≤ N → (g p).1 = true → P (g p).2.1) {ch : Nat} {tok : Int32} (hc : ch ≤ 127) : ∀ n r, (r.1 = true → P r.2.1) → (ps_r k g ch tok n r).1 = true → P (ps_r k g ch tok n r).2.1
  | 0, r, h1, h2 => h1 h2
  | n + 1, r, h1, h2 => by
    have e : ps_r k g ch tok (n + 1) r = if r.1 = true ∧ k r.2.1 = ch then ps_r k g ch tok n ((g (r.2.1 + 1)).1, (g (r.2.1 + 1)).2.1, r.2.2 ++ (g (r.2.1 + 1)).2.2 ++ [tok]) else r := rfl
    rw [e] at h2 ⊢
    by_cases c : r.1 = true ∧ k r.2.1 = ch
    · rw [if_pos c] at h2 ⊢
      exact ps_r_end2 h hg hc n _ (fun z => hg _ (h.lt c.2 hc) z) h2
    · rw [if_neg c] at h2 ⊢
      exact h1 h2
theorem ps_E_end {N : Nat} {k : Nat → Nat} (h : PK N k) (hN : N ≤ 100) {g : Nat → PR} (hg : PG N g) {p : Nat} (hp : p ≤ N) (h1 : (ps_E k g p).1 = true) : k (ps_E k g p).2.1 ≠ 38 ∧ k (ps_E k g p).2.1 ≠ 124 :=
  ⟨ps_r_end2 (P := fun q => k q ≠ 38) h (fun q hq z => ps_B_end h hN hg hq z) (by decide) 100 (ps_B k g p) (fun z => ps_B_end h hN hg hp z) h1, ps_r_end h hN (ps_B_ok h hg) (by decide) 100 (ps_B k g p) (ps_B_ok h hg p hp).2.1 (by omega) h1⟩
/-! the code that comes out leaves one truth more on the pile -/
def CO (n : Nat) (E : List Int32) : Prop := ∀ R, codeOk R (n + 1) → codeOk (E ++ R) n
theorem ps_t_co {N : Nat} {k : Nat → Nat} (h : PK N k) {p n : Nat} (hn : n < 20) (h1 : (ps_t k p).1 = true) : CO n (ps_t k p).2.2 := by
  cases e : ps_l (k p) with
  | none =>
    rw [ps_t_no e] at h1
    cases h1
  | some f =>
    have hf := ps_l_lt e
    rw [ps_t_so e] at h1 ⊢
    by_cases c : 60 ≤ k (p + 1) ∧ k (p + 1) ≤ 62
    · rw [ps_u_y c] at h1 ⊢
      have h2 : p + 1 < N := h.lt rfl (by omega)
      obtain ⟨a1, a2, a3⟩ := ps_n_ok h (p := p + 2) (by omega)
      cases e2 : (ps_n k (p + 2)).1 with
      | none =>
        rw [ps_v_no e2] at h1
        cases h1
      | some m =>
        rw [ps_v_so e2]
        have := (a3 m e2).1
        intro R hR
        exact Or.inr (Or.inr ⟨⟨f, k (p + 1) - 60, m, hf.2, by omega, this, rfl⟩, hn, hR⟩)
    · rw [ps_u_n c] at h1
      cases h1
theorem ps_r_co {N : Nat} {k : Nat → Nat} (h : PK N k) {g : Nat → PR} {ch m : Nat} {tok : Int32} (hc : ch ≤ 127) (ht : tok = -38 ∨ tok = -124) (hg : ∀ p, p ≤ N → (g p).1 = true → CO (m + 1) (g p).2.2) : ∀ n r, (r.1 = true → CO m r.2.2) → (ps_r k g ch tok n r).1 = true → CO m (ps_r k g ch tok n r).2.2
  | 0, r, h1, h2 => h1 h2
  | n + 1, r, h1, h2 => by
    have e : ps_r k g ch tok (n + 1) r = if r.1 = true ∧ k r.2.1 = ch then ps_r k g ch tok n ((g (r.2.1 + 1)).1, (g (r.2.1 + 1)).2.1, r.2.2 ++ (g (r.2.1 + 1)).2.2 ++ [tok]) else r := rfl
    rw [e] at h2 ⊢
    by_cases c : r.1 = true ∧ k r.2.1 = ch
    · rw [if_pos c] at h2 ⊢
      refine ps_r_co h hc ht hg n _ (fun z => ?_) h2
      intro R hR
      show codeOk (r.2.2 ++ (g (r.2.1 + 1)).2.2 ++ [tok] ++ R) m
      rw [List.append_assoc, List.append_assoc]
      refine h1 c.1 _ (hg _ (h.lt c.2 hc) z _ ?_)
      exact Or.inr (Or.inl ⟨ht, by omega, hR⟩)
    · rw [if_neg c] at h2 ⊢
      exact h1 h2
theorem ps_B_co {N : Nat} {k : Nat → Nat} (h : PK N k) {g : Nat → PR} {m : Nat} (hg : ∀ p n, p ≤ N → n ≤ m + 1 → (g p).1 = true → CO n (g p).2.2) {p : Nat} (hp : p ≤ N) (h1 : (ps_B k g p).1 = true) : CO m (ps_B k g p).2.2 :=
  ps_r_co h (by decide) (Or.inl rfl) (fun q hq z => hg q (m + 1) hq (Nat.le_refl _) z) 100 (g p) (fun z => hg p m hp (by omega) z) h1
theorem ps_E_co {N : Nat} {k : Nat → Nat} (h : PK N k) {g : Nat → PR} {m : Nat} (hg : ∀ p n, p ≤ N → n ≤ m + 2 → (g p).1 = true → CO n (g p).2.2) {p : Nat} (hp : p ≤ N) (h1 : (ps_E k g p).1 = true) : CO m (ps_E k g p).2.2 :=
  ps_r_co h (by decide) (Or.inr rfl) (fun q hq z => ps_B_co h (m := m + 1) (fun q' n' a b c => hg q' n' a (by omega) c) hq z) 100 (ps_B k g p) (fun z => ps_B_co h (m := m) (fun q' n' a b c => hg q' n' a (by omega) c) hp z) h1
theorem ps_p_co {N : Nat} {k : Nat → Nat} (h : PK N k) : ∀ d p n, p ≤ N → n + 2 * d ≤ 10 → (ps_p k d p).1 = true → CO n (ps_p k d p).2.2
  | 0, p, n, hp, hn, h1 => by
    have e : ps_p k 0 p = if k p = 33 then (false, p, []) else if k p = 40 then (false, p, []) else ps_t k p := rfl
    rw [e] at h1 ⊢
    by_cases a : k p = 33
    · rw [if_pos a] at h1
      cases h1
    rw [if_neg a] at h1 ⊢
    by_cases b : k p = 40
    · rw [if_pos b] at h1
      cases h1
    rw [if_neg b] at h1 ⊢
    exact ps_t_co h (by omega) h1
  | d + 1, p, n, hp, hn, h1 => by
    have e : ps_p k (d + 1) p = if k p = 33 then ((ps_p k d (p + 1)).1, (ps_p k d (p + 1)).2.1, (ps_p k d (p + 1)).2.2 ++ [-33]) else if k p = 40 then ps_q k (ps_E k (ps_p k d) (p + 1)) else ps_t k p := rfl
    rw [e] at h1 ⊢
    by_cases a : k p = 33
    · rw [if_pos a] at h1 ⊢
      intro R hR
      show codeOk ((ps_p k d (p + 1)).2.2 ++ [-33] ++ R) n
      rw [List.append_assoc]
      refine ps_p_co h d (p + 1) n (h.lt a (by decide)) (by omega) h1 _ ?_
      exact Or.inl ⟨rfl, by omega, hR⟩
    rw [if_neg a] at h1 ⊢
    by_cases b : k p = 40
    · rw [if_pos b] at h1 ⊢
      unfold ps_q at h1 ⊢
      by_cases c : (ps_E k (ps_p k d) (p + 1)).1 = true ∧ k (ps_E k (ps_p k d) (p + 1)).2.1 = 41
      · rw [if_pos c]
        exact ps_E_co h (m := n) (fun q n' a' b' c' => ps_p_co h d q n' a' (by omega) c') (h.lt b (by decide)) c.1
      · rw [if_neg c] at h1
        cases h1
    rw [if_neg b] at h1 ⊢
    exact ps_t_co h (by omega) h1
theorem ps_code {N : Nat} {k : Nat → Nat} (h : PK N k) {p : Nat} (hp : p ≤ N) (h1 : (ps_E k (ps_p k 4) p).1 = true) : codeOk (ps_E k (ps_p k 4) p).2.2 0 := by
  have := ps_E_co h (m := 0) (fun q n' a b c => ps_p_co h 4 q n' a (by omega) c) hp h1 [] rfl
  rw [List.append_nil] at this
  exact this
