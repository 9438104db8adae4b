/-! SEATS: who sits well in an order; the order as a list -/
def os_A (f : Nat → Int32) (l : List Nat) : Prop := ∀ i, i < l.length → f i = nI (l.getD i 0)
def os_sit (q : Int32) (l : List Nat) (i : Nat) : Bool := !tbl q (l.getD i 0) && (tbl q (l.getD ((i + l.length - 1) % l.length) 0) || tbl q (l.getD ((i + 1) % l.length) 0))
def os_n (q : Int32) (l : List Nat) : Nat → Nat
  | 0 => 0
  | n + 1 => os_n q l n + if os_sit q l n = true then 1 else 0
theorem os_n_le (q : Int32) (l : List Nat) : ∀ n, os_n q l n ≤ n
  | 0 => Nat.le_refl _
  | n + 1 => by
    have := os_n_le q l n
    show os_n q l n + (if os_sit q l n = true then 1 else 0) ≤ n + 1
    split <;> omega
theorem os_n_y {q : Int32} {l : List Nat} {i : Nat} (h : os_sit q l i = true) : nI (os_n q l i) + 1 = nI (os_n q l (i + 1)) := by
  rw [nI_1]
  show _ = nI (os_n q l i + if os_sit q l i = true then 1 else 0)
  rw [if_pos h]
theorem os_n_n {q : Int32} {l : List Nat} {i : Nat} (h : os_sit q l i = false) : nI (os_n q l i) = nI (os_n q l (i + 1)) := by
  show _ = nI (os_n q l i + if os_sit q l i = true then 1 else 0)
  rw [h]
  rfl
theorem os_s0 {q : Int32} {l : List Nat} {i : Nat} (a : ¬ r_X12_has q (nI (l.getD i 0)) = 0) : os_sit q l i = false := by
  unfold os_sit
  rw [tbl_yes a]
  rfl
theorem os_s1 {q : Int32} {l : List Nat} {i : Nat} (a : r_X12_has q (nI (l.getD i 0)) = 0) (b : ¬ r_X12_has q (nI (l.getD ((i + l.length - 1) % l.length) 0)) = 0) : os_sit q l i = true := by
  unfold os_sit
  rw [tbl_no a, tbl_yes b]
  rfl
theorem os_s2 {q : Int32} {l : List Nat} {i : Nat} (a : r_X12_has q (nI (l.getD i 0)) = 0) (b : ¬ r_X12_has q (nI (l.getD ((i + 1) % l.length) 0)) = 0) : os_sit q l i = true := by
  unfold os_sit
  rw [tbl_no a, tbl_yes b]
  simp
theorem os_s3 {q : Int32} {l : List Nat} {i : Nat} (b : r_X12_has q (nI (l.getD ((i + l.length - 1) % l.length) 0)) = 0) (c : r_X12_has q (nI (l.getD ((i + 1) % l.length) 0)) = 0) : os_sit q l i = false := by
  unfold os_sit
  rw [tbl_no b, tbl_no c]
  simp
theorem lp_seated {S : St} {q : Int32} {l : List Nat} (d3 : S.1 76 1 = nI l.length) (hl : l.length ≤ 6) (h99 : os_A (S.1 99) l) : ∀ n i, i ≤ l.length → l.length < n + i → lp_X12_seated_4 S q n (nI (os_n q l i)) (nI i) = some (nI (os_n q l l.length)) := by
  intro n
  induction n with
  | zero => intro i h1 h2; omega
  | succ n ih =>
    intro i h1 h2
    unfold lp_X12_seated_4
    rw [d3]
    by_cases w : i = l.length
    · rw [if_pos (by rw [w]; exact nI_le (Nat.le_refl _) (by omega)), w]
    have hi : i < l.length := by omega
    have e1 : (nI i + 1) - (nI i + 1) / nI l.length * nI l.length = nI ((i + 1) % l.length) := by
      rw [nI_1]
      exact nI_rem (by omega) (by omega) (by omega)
    have e2 : ((nI i + nI l.length) - 1) - ((nI i + nI l.length) - 1) / nI l.length * nI l.length = nI ((i + l.length - 1) % l.length) := by
      have : nI i + nI l.length - 1 = nI (i + l.length - 1) := by
        rw [nI_add]
        obtain ⟨k, hk⟩ : ∃ k, i + l.length = k + 1 := ⟨i + l.length - 1, by omega⟩
        rw [hk, nI_pred, Nat.add_sub_cancel]
      rw [this]
      exact nI_rem (by omega) (by omega) (by omega)
    have m1 : (i + 1) % l.length < l.length := Nat.mod_lt _ (by omega)
    have m2 : (i + l.length - 1) % l.length < l.length := Nat.mod_lt _ (by omega)
    rw [if_neg (nI_ge hi (by omega)), e1, e2, gd_pos (nI_ne0 (show 0 < l.length by omega) (by omega))]
    simp only [gdN (show (i + 1) % l.length < 6 by omega) (show 6 < 2 ^ 31 by decide), gdN (show (i + l.length - 1) % l.length < 6 by omega) (show 6 < 2 ^ 31 by decide), gdN (show i < 6 by omega) (show 6 < 2 ^ 31 by decide), gdM (show (i + 1) % l.length < 6 by omega) (show (i + 1) % l.length < 2 ^ 31 by omega), gdM (show (i + l.length - 1) % l.length < 6 by omega) (show (i + l.length - 1) % l.length < 2 ^ 31 by omega), gdM (show i < 6 by omega) (show i < 2 ^ 31 by omega), nI_clamp (show (i + 1) % l.length < 2 ^ 31 by omega), nI_clamp (show (i + l.length - 1) % l.length < 2 ^ 31 by omega), nI_clamp (show i < 2 ^ 31 by omega)]
    rw [h99 _ m1, h99 _ m2, h99 _ hi, nI_1, Int32.add_zero, gd_pos (nI_ne0 (show 0 < l.length by omega) (by omega))]
    have key := ih (i + 1) (by omega) (by omega)
    have fy : os_sit q l i = true → lp_X12_seated_4 S q n (nI (os_n q l i) + 1) (nI (i + 1)) = some (nI (os_n q l l.length)) := fun z => by
      rw [os_n_y z]
      exact key
    have fn : os_sit q l i = false → lp_X12_seated_4 S q n (nI (os_n q l i)) (nI (i + 1)) = some (nI (os_n q l l.length)) := fun z => by
      rw [os_n_n z]
      exact key
    by_cases a : r_X12_has q (nI (l.getD i 0)) = 0
    · by_cases b : r_X12_has q (nI (l.getD ((i + l.length - 1) % l.length) 0)) = 0
      · by_cases c : r_X12_has q (nI (l.getD ((i + 1) % l.length) 0)) = 0
        · rw [if_pos c, if_pos b, if_pos a]
          exact fn (os_s3 b c)
        · rw [if_neg c, if_pos a]
          exact fy (os_s2 a c)
      · by_cases c : r_X12_has q (nI (l.getD ((i + 1) % l.length) 0)) = 0
        · rw [if_pos c, if_neg b, if_pos a]
          exact fy (os_s1 a b)
        · rw [if_neg c, if_pos a]
          exact fy (os_s2 a c)
    · by_cases c : r_X12_has q (nI (l.getD ((i + 1) % l.length) 0)) = 0
      · rw [if_pos c]
        by_cases b : r_X12_has q (nI (l.getD ((i + l.length - 1) % l.length) 0)) = 0
        · rw [if_pos b, if_neg a]
          exact fn (os_s0 a)
        · rw [if_neg b, if_neg a]
          exact fn (os_s0 a)
      · rw [if_neg c, if_neg a]
        exact fn (os_s0 a)
theorem seated_m {S : St} {q : Int32} {l : List Nat} (d3 : S.1 76 1 = nI l.length) (hl : l.length ≤ 6) (h99 : os_A (S.1 99) l) : r_X12_seated S q = some (nI (os_n q l l.length)) := by
  unfold r_X12_seated
  exact ob_step (lp_seated d3 hl h99 4000 0 (by omega) (by omega)) rfl
theorem lp_served {S : St} {q : Int32} {l : List Nat} (hl : l.length ≤ 6) (h38 : os_A (S.1 38) l) : ∀ n i, i ≤ l.length → l.length < n + i → lp_X11_servedBy_13 S q (nI l.length) n (nI (os_n q l i)) (nI i) = some (nI (os_n q l l.length)) := by
  intro n
  induction n with
  | zero => intro i h1 h2; omega
  | succ n ih =>
    intro i h1 h2
    unfold lp_X11_servedBy_13
    by_cases w : i = l.length
    · rw [if_pos (by rw [w]; exact nI_le (Nat.le_refl _) (by omega)), w]
    have hi : i < l.length := by omega
    have m1 : (i + 1) % l.length < l.length := Nat.mod_lt _ (by omega)
    have m2 : (i + l.length - 1) % l.length < l.length := Nat.mod_lt _ (by omega)
    rw [if_neg (nI_ge hi (by omega)), in_has]
    have key := ih (i + 1) (by omega) (by omega)
    have fy : os_sit q l i = true → lp_X11_servedBy_13 S q (nI l.length) n (nI (os_n q l i) + 1) (nI (i + 1)) = some (nI (os_n q l l.length)) := fun z => by
      rw [os_n_y z]
      exact key
    have fn : os_sit q l i = false → lp_X11_servedBy_13 S q (nI l.length) n (nI (os_n q l i)) (nI (i + 1)) = some (nI (os_n q l l.length)) := fun z => by
      rw [os_n_n z]
      exact key
    have fin : ∀ x y z : Int32, x = nI (l.getD i 0) → y = nI (l.getD ((i + l.length - 1) % l.length) 0) → z = nI (l.getD ((i + 1) % l.length) 0) → (if r_X12_has q x = 0 then if r_X12_has q y = 0 then if r_X12_has q z = 0 then lp_X11_servedBy_13 S q (nI l.length) n (nI (os_n q l i)) (nI i + 1) else lp_X11_servedBy_13 S q (nI l.length) n (nI (os_n q l i) + 1) (nI i + 1) else lp_X11_servedBy_13 S q (nI l.length) n (nI (os_n q l i) + 1) (nI i + 1) else lp_X11_servedBy_13 S q (nI l.length) n (nI (os_n q l i)) (nI i + 1)) = some (nI (os_n q l l.length)) := by
      intro x y z hx hy hz
      rw [hx, hy, hz, nI_1]
      by_cases a : r_X12_has q (nI (l.getD i 0)) = 0
      · rw [if_pos a]
        by_cases b : r_X12_has q (nI (l.getD ((i + l.length - 1) % l.length) 0)) = 0
        · rw [if_pos b]
          by_cases c : r_X12_has q (nI (l.getD ((i + 1) % l.length) 0)) = 0
          · rw [if_pos c]
            exact fn (os_s3 b c)
          · rw [if_neg c]
            exact fy (os_s2 a c)
        · rw [if_neg b]
          exact fy (os_s1 a b)
      · rw [if_neg a]
        exact fn (os_s0 a)
    have eL : (nI l.length - 1 : Int32) = nI (l.length - 1) := by
      obtain ⟨k, hk⟩ : ∃ k, l.length = k + 1 := ⟨l.length - 1, by omega⟩
      rw [hk, nI_pred, Nat.add_sub_cancel]
    have hX : S.1 38 (nI i).toNatClampNeg = nI (l.getD i 0) := by
      rw [nI_clamp (by omega), h38 i hi]
    by_cases c1 : i + 1 = l.length
    · have r0 : (i + 1) % l.length = 0 := by rw [c1, Nat.mod_self]
      have hZ : S.1 38 (0 : Int32).toNatClampNeg = nI (l.getD ((i + 1) % l.length) 0) := by
        rw [r0]
        exact h38 0 (by omega)
      rw [if_pos (show nI l.length ≤ nI i + 1 by rw [nI_1]; exact nI_le (by omega) (by omega))]
      by_cases c2 : i = 0
      · rw [if_pos (show nI i ≤ 0 by rw [c2]; decide), eL, gdN (show l.length - 1 < 6 by omega) (by decide), gdN (show i < 6 by omega) (by decide)]
        refine fin _ _ _ hX ?_ hZ
        rw [nI_clamp (by omega), h38 _ (by omega), c2, show (0 + l.length - 1) % l.length = l.length - 1 from by rw [Nat.zero_add]; exact Nat.mod_eq_of_lt (by omega)]
      · have eI : (nI i - 1 : Int32) = nI (i - 1) := by
          obtain ⟨k, hk⟩ : ∃ k, i = k + 1 := ⟨i - 1, by omega⟩
          rw [hk, nI_pred, Nat.add_sub_cancel]
        rw [if_neg (nI_nle (by omega) (by omega)), eI, gdN (show i - 1 < 6 by omega) (by decide), gdN (show i < 6 by omega) (by decide)]
        refine fin _ _ _ hX ?_ hZ
        rw [nI_clamp (by omega), h38 _ (by omega), show (i + l.length - 1) % l.length = i - 1 from by rw [show i + l.length - 1 = (i - 1) + l.length by omega, Nat.add_mod_right]; exact Nat.mod_eq_of_lt (by omega)]
    · have r0 : (i + 1) % l.length = i + 1 := Nat.mod_eq_of_lt (by omega)
      have hZ : S.1 38 (nI i + 1).toNatClampNeg = nI (l.getD ((i + 1) % l.length) 0) := by
        rw [r0, nI_1, nI_clamp (by omega)]
        exact h38 _ (by omega)
      rw [if_neg (show ¬ nI l.length ≤ nI i + 1 by rw [nI_1]; exact nI_ge (by omega) (by omega)), gd_pos (show ¬ ((nI i + 1) < 0 ∨ 6 ≤ (nI i + 1).toNatClampNeg) by rw [nI_1]; exact nI_in (by omega) (by decide))]
      by_cases c2 : i = 0
      · rw [if_pos (show nI i ≤ 0 by rw [c2]; decide), eL, gdN (show l.length - 1 < 6 by omega) (by decide), gdN (show i < 6 by omega) (by decide)]
        refine fin _ _ _ hX ?_ hZ
        rw [nI_clamp (by omega), h38 _ (by omega), c2, show (0 + l.length - 1) % l.length = l.length - 1 from by rw [Nat.zero_add]; exact Nat.mod_eq_of_lt (by omega)]
      · have eI : (nI i - 1 : Int32) = nI (i - 1) := by
          obtain ⟨k, hk⟩ : ∃ k, i = k + 1 := ⟨i - 1, by omega⟩
          rw [hk, nI_pred, Nat.add_sub_cancel]
        rw [if_neg (nI_nle (by omega) (by omega)), eI, gdN (show i - 1 < 6 by omega) (by decide), gdN (show i < 6 by omega) (by decide)]
        refine fin _ _ _ hX ?_ hZ
        rw [nI_clamp (by omega), h38 _ (by omega), show (i + l.length - 1) % l.length = i - 1 from by rw [show i + l.length - 1 = (i - 1) + l.length by omega, Nat.add_mod_right]; exact Nat.mod_eq_of_lt (by omega)]
theorem served_c {S : St} {q : Int32} {l : List Nat} (d2 : S.1 8 3 = nI l.length) (hl : l.length ≤ 6) (h38 : os_A (S.1 38) l) : r_X11_servedBy S q = some (nI (os_n q l l.length)) := by
  unfold r_X11_servedBy
  rw [d2]
  exact ob_step (lp_served hl h38 4000 0 (by omega) (by omega)) rfl
