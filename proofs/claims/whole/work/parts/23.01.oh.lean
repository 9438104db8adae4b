/-! HEARERS by their places: a place past the constructors' cells that holds a HEARER of a known class -/
def gR : List Hr → Nat → Option Hr
  | [], _ => none
  | q :: _, 0 => some q
  | _ :: r, n + 1 => gR r n
theorem gR_gH : ∀ {l : List Hr} {n : Nat} {q : Hr}, gR l n = some q → gH (l.map hrC) n = some (hrC q)
  | [], _, _, h => by cases h
  | _ :: _, 0, _, h => by
    cases h
    rfl
  | _ :: r, n + 1, _, h => gR_gH (l := r) (n := n) h
/-- the HEARER at a place, if its class is one of the family -/
def hq (hs : List Hr) (a : Nat) : Option Hr := match Nat.ble 119 a with
  | true => (gR hs (a - 119)).bind fun q => bif isFam q.1 then some q else none
  | false => none
theorem hq_gH {hs : List Hr} {a : Nat} {q : Hr} (h : hq hs a = some q) : (∀ S, gH (st S hs) a = some (hrC q)) ∧ isFam q.1 = true := by
  unfold hq at h
  split at h
  · rename_i hb
    obtain ⟨p, hp, h⟩ := bd_some h
    cases hf : isFam p.1 with
    | false =>
      rw [hf] at h
      cases h
    | true =>
      rw [hf] at h
      cases h
      refine ⟨fun S => ?_, hf⟩
      have e : a = (a - 119) + 119 := (Nat.sub_add_cancel (Nat.le_of_ble_eq_true hb)).symm
      rw [e]
      show gH (hs.map hrC) (a - 119) = some (hrC q)
      exact gR_gH hp
  · cases h
def oH {β : Type} (hs : List Hr) (e : Option Nat) (x : Option β) (f : Hr → Option β) : Option β := match e with
  | none => x
  | some a => (hq hs a).bind f
theorem oH_some {β : Type} {hs : List Hr} {e : Option Nat} {x : Option β} {f : Hr → Option β} {v : β} (h : oH hs e x f = some v) : (e = none ∧ x = some v) ∨ ∃ a q, e = some a ∧ (∀ S, gH (st S hs) a = some (hrC q)) ∧ isFam q.1 = true ∧ f q = some v := by
  unfold oH at h
  split at h
  · exact Or.inl ⟨rfl, h⟩
  · obtain ⟨q, hz, h⟩ := bd_some h
    exact Or.inr ⟨_, q, rfl, (hq_gH hz).1, (hq_gH hz).2, h⟩
theorem kB_at {b : Bool} {f : Prop} (h : b = true) (k : f) : kB b f := by
  unfold kB
  rw [h]
  exact k
/-- a call that the class of the receiver chooses -/
theorem disp_at {D : Nat} {cal : Cal} (hk : ∀ mi mc ms as σ K, Ev D mi mc ms as σ K → cal mi mc ms as σ K) {t : List (Nat × Nat × Nat)} {si ci : Nat} {as : List Value} {σ : Hp} {rest : List Value} {K : Option Value → Hp → Nat → Nat → Prop} (h0 : Nat.ble (rest.map fun v => v.category).sum 8 = true) (h : ∃ mi, dspF t si ci = some mi ∧ Ev D mi 0 0 as σ (fun v σ' => K v σ' 0 0)) : kO (dspF t si ci) (fun mi => kcall cal mi as σ rest 0 0 (0, 0) K) := by
  obtain ⟨mi, hd, he⟩ := h
  unfold kO
  rw [hd]
  exact kcall0 h0 (hk _ _ _ _ _ _ he)
