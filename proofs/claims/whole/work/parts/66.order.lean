/-! SEATS: the model's order by its number -/
def os_fac (h : Int32) : Nat → Int32 → Int32 → Option Int32
  | 0, _, _ => none
  | n + 1, v2, v3 => if h ≤ v3 then some v2 else os_fac h n (v2 * v3) (v3 + 1)
theorem os_fac_eq (S : St) (f1 : Int32) : ∀ n v2 v3, lp_X12_layOrder_4 S f1 n v2 v3 = os_fac (S.1 76 1) n v2 v3
  | 0, _, _ => rfl
  | n + 1, v2, v3 => by
    rw [lp_X12_layOrder_4, os_fac, os_fac_eq S f1 n]
def os_lay (h : Int32) : Nat → Int32 → Int32 → Int32 → Int32 → Option (List (Nat × Int32))
  | 0, _, _, _, _ => none
  | n + 1, v2, v3, v4, v5 =>
    if h ≤ v5 then some []
    else
      gd (¬ (h - v5) = 0) (
        gd (¬ (v2 / (h - v5)) = 0) (
          (lp_X12_layOrder_85 (v2 / (h - v5)) v3 (v4 - v4 / (v2 / (h - v5)) * (v2 / (h - v5))) v5 4000 (v4 / (v2 / (h - v5))) 0).bind fun q2 =>
            gd (¬ (v5 < 0 ∨ 6 ≤ v5.toNatClampNeg)) (
              (os_lay h n (v2 / (h - v5)) (v3 &&& (((1 : Int32) <<< (q2 &&& 31)) ^^^ (-1))) (v4 - v4 / (v2 / (h - v5)) * (v2 / (h - v5))) (v5 + 1)).map fun l => (v5.toNatClampNeg, q2) :: l)))
def os_wr (g : Nat → Int32) : List (Nat × Int32) → Nat → Int32
  | [] => g
  | x :: r => os_wr (upd g x.1 x.2) r
theorem os_lay_eq : ∀ n v2 v3 v4 v5 (S : St) l, os_lay (S.1 76 1) n v2 v3 v4 v5 = some l → lp_X12_layOrder_51 n v2 v3 v4 v5 S = some (sA S 99 (os_wr (S.1 99) l)) := by
  intro n
  induction n with
  | zero => intro v2 v3 v4 v5 S l h; cases h
  | succ n ih =>
    intro v2 v3 v4 v5 S l h
    rw [lp_X12_layOrder_51]
    rw [os_lay] at h
    by_cases w : S.1 76 1 ≤ v5
    · rw [if_pos w] at h
      rw [if_pos w]
      have := Option.some.inj h
      subst this
      show some S = some (sA S 99 (S.1 99))
      rw [sA_self]
    · rw [if_neg w] at h
      rw [if_neg w]
      obtain ⟨a1, h⟩ := gd_some h
      obtain ⟨a2, h⟩ := gd_some h
      obtain ⟨p, hp, h⟩ := bd_some h
      obtain ⟨a3, h⟩ := gd_some h
      obtain ⟨l', hl', rfl⟩ := Option.map_eq_some_iff.mp h
      rw [gd_pos a1, gd_pos a2, gd_pos a2]
      refine ob_step hp ?_
      rw [gd_pos a3]
      have := ih (v2 / (S.1 76 1 - v5)) (v3 &&& (((1 : Int32) <<< (p &&& 31)) ^^^ (-1))) (v4 - v4 / (v2 / (S.1 76 1 - v5)) * (v2 / (S.1 76 1 - v5))) (v5 + 1) (sA S 99 (upd (S.1 99) v5.toNatClampNeg p)) l' hl'
      refine this.trans ?_
      rw [sA_sA]
      rfl
def os_F (n : Nat) : Nat := match n with
  | 3 => 2
  | 4 => 6
  | 5 => 24
  | 6 => 120
  | _ => 1
def os_L (nh k : Nat) : Option (List (Nat × Int32)) := os_lay (nI nh) 4000 (nI (os_F nh)) (((1 : Int32) <<< (nI nh &&& 31)) - 2) (nI k) 1
/-- the k-th order -/
def os_P (nh k : Nat) : List Nat := 0 :: ((os_L nh k).getD []).map fun x => x.2.toNatClampNeg
def os_ix : Nat → List Nat → List (Nat × Int32)
  | _, [] => []
  | j, x :: r => (j, nI x) :: os_ix (j + 1) r
theorem os_wr_ix : ∀ (l : List Nat) (j : Nat) (g : Nat → Int32), (∀ i, i < j → os_wr g (os_ix j l) i = g i) ∧ ∀ i, i < l.length → os_wr g (os_ix j l) (j + i) = nI (l.getD i 0)
  | [], j, g => ⟨fun _ _ => rfl, fun i hi => absurd hi (Nat.not_lt_zero i)⟩
  | x :: r, j, g => by
    obtain ⟨h1, h2⟩ := os_wr_ix r (j + 1) (upd g j (nI x))
    refine ⟨fun i hi => ?_, fun i hi => ?_⟩
    · show os_wr (upd g j (nI x)) (os_ix (j + 1) r) i = g i
      rw [h1 i (by omega), upd_ne (by omega)]
    · show os_wr (upd g j (nI x)) (os_ix (j + 1) r) (j + i) = _
      cases i with
      | zero =>
        show os_wr (upd g j (nI x)) (os_ix (j + 1) r) j = _
        rw [h1 j (by omega), upd_at]
        rfl
      | succ i =>
        have := h2 i (by rw [List.length_cons] at hi; omega)
        rw [show j + (i + 1) = j + 1 + i by omega, this]
        rfl
def os_all8 : List Nat → Bool
  | [] => true
  | x :: r => decide (x < 8) && os_all8 r
theorem os_all8_B : ∀ {l : List Nat}, os_all8 l = true → os_B l
  | [], _ => fun i => by simp
  | x :: r, h => fun i => by
    have h1 : decide (x < 8) = true ∧ os_all8 r = true := by
      have : (decide (x < 8) && os_all8 r) = true := h
      rw [Bool.and_eq_true] at this
      exact this
    cases i with
    | zero => exact of_decide_eq_true h1.1
    | succ i => exact os_all8_B h1.2 i
def os_ok (nh k : Nat) : Bool := (os_L nh k == some (os_ix 1 (os_P nh k).tail)) && ((os_P nh k).length == nh) && os_all8 (os_P nh k) && ((os_x (os_P nh k)).1 == decide (k + 1 < os_F nh)) && (decide (os_F nh ≤ k + 1) || ((os_x (os_P nh k)).2 == os_P nh (k + 1)))
theorem os_chk1 : ∀ nh, nh < 7 → os_fac (nI nh) 4000 1 2 = some (nI (os_F nh)) := by decide +kernel
theorem os_chk2 : ∀ k, k < 1 → os_ok 1 k = true := by decide +kernel
theorem os_chk3 : ∀ k, k < 1 → os_ok 2 k = true := by decide +kernel
theorem os_chk4 : ∀ k, k < 2 → os_ok 3 k = true := by decide +kernel
theorem os_chk5 : ∀ k, k < 6 → os_ok 4 k = true := by decide +kernel
theorem os_chk6 : ∀ k, k < 24 → os_ok 5 k = true := by decide +kernel
theorem os_chk7 : ∀ k, k < 120 → os_ok 6 k = true := by decide +kernel
theorem os_chk8 : os_P 1 0 = [0] ∧ os_P 2 0 = [0, 1] ∧ os_P 3 0 = [0, 1, 2] ∧ os_P 4 0 = [0, 1, 2, 3] ∧ os_P 5 0 = [0, 1, 2, 3, 4] ∧ os_P 6 0 = [0, 1, 2, 3, 4, 5] := by decide +kernel
theorem os_id {nh : Nat} (h0 : 0 < nh) (h6 : nh ≤ 6) : ∀ i, i < nh → (os_P nh 0).getD i 0 = i := by
  obtain ⟨e1, e2, e3, e4, e5, e6⟩ := os_chk8
  rcases (show nh = 1 ∨ nh = 2 ∨ nh = 3 ∨ nh = 4 ∨ nh = 5 ∨ nh = 6 by omega) with rfl | rfl | rfl | rfl | rfl | rfl
  · rw [e1]
    decide
  · rw [e2]
    decide
  · rw [e3]
    decide
  · rw [e4]
    decide
  · rw [e5]
    decide
  · rw [e6]
    decide
theorem os_all {nh k : Nat} (h0 : 0 < nh) (h6 : nh ≤ 6) (hk : k < os_F nh) : os_L nh k = some (os_ix 1 (os_P nh k).tail) ∧ (os_P nh k).length = nh ∧ os_B (os_P nh k) ∧ (os_x (os_P nh k)).1 = decide (k + 1 < os_F nh) ∧ (k + 1 < os_F nh → (os_x (os_P nh k)).2 = os_P nh (k + 1)) := by
  have h : os_ok nh k = true := by
    rcases (show nh = 1 ∨ nh = 2 ∨ nh = 3 ∨ nh = 4 ∨ nh = 5 ∨ nh = 6 by omega) with rfl | rfl | rfl | rfl | rfl | rfl
    · exact os_chk2 k hk
    · exact os_chk3 k hk
    · exact os_chk4 k hk
    · exact os_chk5 k hk
    · exact os_chk6 k hk
    · exact os_chk7 k hk
  unfold os_ok at h
  rw [Bool.and_eq_true, Bool.and_eq_true, Bool.and_eq_true, Bool.and_eq_true] at h
  obtain ⟨⟨⟨⟨a, b⟩, c⟩, d⟩, e⟩ := h
  refine ⟨eq_of_beq a, eq_of_beq b, os_all8_B c, eq_of_beq d, fun z => ?_⟩
  rw [Bool.or_eq_true] at e
  rcases e with e | e
  · exact absurd (of_decide_eq_true e) (by omega)
  · exact eq_of_beq e
theorem os_laY {S : St} {nh k : Nat} (h0 : 0 < nh) (h6 : nh ≤ 6) (d3 : S.1 76 1 = nI nh) (hk : k < os_F nh) : ∃ g, r_X12_layOrder S (nI k) = some (1, sA S 99 g) ∧ os_A g (os_P nh k) := by
  obtain ⟨a1, a2, -, -, -⟩ := os_all h0 h6 hk
  have hF : os_F nh ≤ 120 := by
    rcases (show nh = 1 ∨ nh = 2 ∨ nh = 3 ∨ nh = 4 ∨ nh = 5 ∨ nh = 6 by omega) with rfl | rfl | rfl | rfl | rfl | rfl <;> decide
  refine ⟨os_wr (upd (S.1 99) 0 0) (os_ix 1 (os_P nh k).tail), ?_, ?_⟩
  · unfold r_X12_layOrder
    have hf : lp_X12_layOrder_4 S (nI k) 4000 1 2 = some (nI (os_F nh)) := by
      rw [os_fac_eq, d3]
      exact os_chk1 nh (by omega)
    refine ob_step hf ?_
    rw [if_pos (nI_lt hk (by omega)), d3]
    have hy := os_lay_eq 4000 (nI (os_F nh)) (((1 : Int32) <<< (nI nh &&& 31)) - 2) (nI k) 1 (sA S 99 (upd (S.1 99) (0 : Int32).toNatClampNeg 0)) _ (by
      show os_lay (S.1 76 1) 4000 (nI (os_F nh)) (((1 : Int32) <<< (nI nh &&& 31)) - 2) (nI k) 1 = some (os_ix 1 (os_P nh k).tail)
      rw [d3]
      exact a1)
    refine ob_step hy ?_
    rw [sA_sA]
    rfl
  · obtain ⟨b1, b2⟩ := os_wr_ix (os_P nh k).tail 1 (upd (S.1 99) 0 0)
    intro i hi
    cases i with
    | zero =>
      rw [b1 0 (by omega), upd_at]
      rfl
    | succ i =>
      have := b2 i (by rw [List.length_tail]; omega)
      rw [show i + 1 = 1 + i by omega, this]
      have e : os_P nh k = 0 :: (os_P nh k).tail := rfl
      rw [Nat.add_comm 1 i]
      rfl
theorem os_laN {S : St} {nh k : Nat} (h0 : 0 < nh) (h6 : nh ≤ 6) (d3 : S.1 76 1 = nI nh) (hk : k = os_F nh) : r_X12_layOrder S (nI k) = some (0, S) := by
  have hF : os_F nh ≤ 120 := by
    rcases (show nh = 1 ∨ nh = 2 ∨ nh = 3 ∨ nh = 4 ∨ nh = 5 ∨ nh = 6 by omega) with rfl | rfl | rfl | rfl | rfl | rfl <;> decide
  unfold r_X12_layOrder
  have hf : lp_X12_layOrder_4 S (nI k) 4000 1 2 = some (nI (os_F nh)) := by
    rw [os_fac_eq, d3]
    exact os_chk1 nh (by omega)
  refine ob_step hf ?_
  rw [if_neg (nI_nlt (by omega) (by omega))]
