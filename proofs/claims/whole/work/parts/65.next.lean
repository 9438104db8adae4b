/-! SEATS: the class's next order -/
def os_r (l : List Nat) : Nat → Nat
  | 0 => 0
  | r + 1 => if l.getD (r + 1) 0 ≤ l.getD (r + 2) 0 then r + 1 else os_r l r
theorem os_r_le (l : List Nat) : ∀ r, os_r l r ≤ r
  | 0 => Nat.le_refl _
  | r + 1 => by
    have := os_r_le l r
    show (if l.getD (r + 1) 0 ≤ l.getD (r + 2) 0 then r + 1 else os_r l r) ≤ r + 1
    split <;> omega
def os_t (l : List Nat) (r : Nat) : Nat → Nat
  | 0 => 0
  | v + 1 => if v + 1 ≤ r then v + 1 else if l.getD r 0 ≤ l.getD (v + 1) 0 then v + 1 else os_t l r v
theorem os_t_le (l : List Nat) (r : Nat) : ∀ v, os_t l r v ≤ v
  | 0 => Nat.le_refl _
  | v + 1 => by
    have := os_t_le l r v
    show (if v + 1 ≤ r then v + 1 else if l.getD r 0 ≤ l.getD (v + 1) 0 then v + 1 else os_t l r v) ≤ v + 1
    split
    · omega
    · split <;> omega
def os_w (l : List Nat) (a b : Nat) : List Nat := (l.set a (l.getD b 0)).set b (l.getD a 0)
theorem os_w_len (l : List Nat) (a b : Nat) : (os_w l a b).length = l.length := by
  unfold os_w
  rw [List.length_set, List.length_set]
def os_v : Nat → List Nat → Nat → Nat → List Nat
  | 0, l, _, _ => l
  | n + 1, l, lo, hi => if hi ≤ lo then l else os_v n (os_w l lo hi) (lo + 1) (hi - 1)
def os_y (l : List Nat) : Nat := os_r l (l.length - 2)
def os_x (l : List Nat) : Bool × List Nat := if os_y l = 0 then (false, l) else (true, os_v 10 (os_w l (os_y l) (os_t l (os_y l) (l.length - 1))) (os_y l + 1) (l.length - 1))
def os_B (l : List Nat) : Prop := ∀ i, l.getD i 0 < 8
theorem os_gs {l : List Nat} {a i x : Nat} (ha : a < l.length) : (l.set a x).getD i 0 = if i = a then x else l.getD i 0 := by
  rw [List.getD_eq_getElem?_getD, List.getD_eq_getElem?_getD, List.getElem?_set]
  by_cases z : a = i
  · subst z
    simp [ha]
  · rw [if_neg z, if_neg (fun y => z y.symm)]
theorem lp_next10 {S : St} {l : List Nat} (hl : l.length ≤ 6) (hB : os_B l) (h38 : os_A (S.1 38) l) : ∀ r n, r + 1 < l.length → r < n → lp_X11_nextOrder_10 S n (nI r) = some (nI (os_r l r)) := by
  intro r
  induction r with
  | zero =>
    intro n h1 h2
    obtain ⟨m, rfl⟩ : ∃ m, n = m + 1 := ⟨n - 1, by omega⟩
    rw [lp_X11_nextOrder_10, if_pos (show nI 0 ≤ (0 : Int32) by decide)]
    rfl
  | succ r ih =>
    intro n h1 h2
    obtain ⟨m, rfl⟩ : ∃ m, n = m + 1 := ⟨n - 1, by omega⟩
    rw [lp_X11_nextOrder_10, if_neg (nI_nle (by omega) (by omega)), nI_m1, nI_1, gdN (show r + 1 < 6 by omega) (by decide), gdN (show r + 1 + 1 < 6 by omega) (by decide), nI_clamp (by omega), nI_clamp (by omega), h38 (r + 1) (by omega), h38 (r + 1 + 1) (by omega)]
    have b1 := hB (r + 1)
    have b2 := hB (r + 1 + 1)
    show _ = some (nI (if l.getD (r + 1) 0 ≤ l.getD (r + 1 + 1) 0 then r + 1 else os_r l r))
    by_cases z : l.getD (r + 1) 0 ≤ l.getD (r + 1 + 1) 0
    · rw [if_pos z, if_pos ((nI_leI (by omega) (by omega)).mpr z)]
    · rw [if_neg z, if_neg (fun y => z ((nI_leI (by omega) (by omega)).mp y))]
      exact ih m (by omega) (by omega)
theorem lp_next53 {S : St} {l : List Nat} (hl : l.length ≤ 6) (hB : os_B l) (h38 : os_A (S.1 38) l) {r : Nat} (hr : r < l.length) : ∀ v n, v < l.length → v < n → lp_X11_nextOrder_53 S (nI r) n (nI v) = some (nI (os_t l r v)) := by
  intro v
  induction v with
  | zero =>
    intro n h1 h2
    obtain ⟨m, rfl⟩ : ∃ m, n = m + 1 := ⟨n - 1, by omega⟩
    rw [lp_X11_nextOrder_53, if_pos (nI_le (Nat.zero_le _) (by omega))]
    rfl
  | succ v ih =>
    intro n h1 h2
    obtain ⟨m, rfl⟩ : ∃ m, n = m + 1 := ⟨n - 1, by omega⟩
    rw [lp_X11_nextOrder_53]
    show _ = some (nI (if v + 1 ≤ r then v + 1 else if l.getD r 0 ≤ l.getD (v + 1) 0 then v + 1 else os_t l r v))
    by_cases w : v + 1 ≤ r
    · rw [if_pos w, if_pos (nI_le w (by omega))]
    have b1 := hB (v + 1)
    have b2 := hB r
    rw [if_neg w, if_neg (nI_ge (by omega) (by omega)), nI_m1, gdN (show v + 1 < 6 by omega) (by decide), gdN (show r < 6 by omega) (by decide), nI_clamp (by omega), nI_clamp (by omega), h38 (v + 1) (by omega), h38 r hr]
    by_cases z : l.getD r 0 ≤ l.getD (v + 1) 0
    · rw [if_pos z, if_pos ((nI_leI (by omega) (by omega)).mpr z)]
    · rw [if_neg z, if_neg (fun y => z ((nI_leI (by omega) (by omega)).mp y))]
      exact ih m (by omega) (by omega)
theorem swap_c {S : St} {l : List Nat} (hl : l.length ≤ 6) (h38 : os_A (S.1 38) l) {a b : Nat} (ha : a < l.length) (hb : b < l.length) : ∃ f, r_X11_swapSeats S (nI a) (nI b) = some (0, sA S 38 f) ∧ os_A f (os_w l a b) := by
  refine ⟨upd (upd (S.1 38) a (S.1 38 b)) b (S.1 38 a), ?_, ?_⟩
  · unfold r_X11_swapSeats
    rw [gdN (show a < 6 by omega) (by decide), gdN (show b < 6 by omega) (by decide), gdN (show a < 6 by omega) (by decide), nI_clamp (show a < 2 ^ 31 by omega), nI_clamp (show b < 2 ^ 31 by omega)]
    show gd (¬ (nI b < 0 ∨ 6 ≤ b)) (some (0, sA (sA S 38 (upd (S.1 38) a (S.1 38 b))) 38 (upd (upd (S.1 38) a (S.1 38 b)) b (S.1 38 a)))) = _
    rw [gdM (show b < 6 by omega) (by omega), sA_sA]
  · intro i hi
    rw [os_w_len] at hi
    unfold os_w
    rw [os_gs (by rw [List.length_set]; exact hb)]
    by_cases z : i = b
    · subst z
      rw [if_pos rfl, upd_at]
      exact h38 a ha
    · rw [if_neg z, upd_ne z, os_gs ha]
      by_cases y : i = a
      · subst y
        rw [if_pos rfl, upd_at]
        exact h38 b hb
      · rw [if_neg y, upd_ne y]
        exact h38 i hi
theorem lp_next100 : ∀ k n (l : List Nat) (S : St) lo hi, l.length ≤ 6 → os_A (S.1 38) l → hi < l.length → lo ≤ 100 → hi < k → hi < n → ∃ f, lp_X11_nextOrder_100 n (nI lo) (nI hi) S = some (sA S 38 f) ∧ os_A f (os_v k l lo hi) := by
  intro k
  induction k with
  | zero => intro n l S lo hi h1 h2 h3 h4 h5; omega
  | succ k ih =>
    intro n l S lo hi h1 h2 h3 h4 h5 h6
    obtain ⟨m, rfl⟩ : ∃ m, n = m + 1 := ⟨n - 1, by omega⟩
    rw [lp_X11_nextOrder_100]
    by_cases z : hi ≤ lo
    · refine ⟨S.1 38, ?_, ?_⟩
      · rw [if_pos (nI_le z (by omega)), sA_self]
      · show os_A (S.1 38) (if hi ≤ lo then l else _)
        rw [if_pos z]
        exact h2
    · obtain ⟨f, hf, hA⟩ := swap_c h1 h2 (a := lo) (b := hi) (by omega) h3
      obtain ⟨h, rfl⟩ : ∃ h, hi = h + 1 := ⟨hi - 1, by omega⟩
      obtain ⟨g, hg, hG⟩ := ih m (os_w l lo (h + 1)) (sA S 38 f) (lo + 1) h (by rw [os_w_len]; exact h1) hA (by rw [os_w_len]; omega) (by omega) (by omega) (by omega)
      refine ⟨g, ?_, ?_⟩
      · rw [if_neg (nI_ge (by omega) (by omega)), nI_m1, nI_1]
        refine ob_step hf ?_
        show lp_X11_nextOrder_100 m (nI (lo + 1)) (nI h) (sA S 38 f) = _
        rw [hg, sA_sA]
      · show os_A g (if h + 1 ≤ lo then l else os_v k (os_w l lo (h + 1)) (lo + 1) h)
        rw [if_neg z]
        exact hG
theorem next_c {S : St} {l : List Nat} (d2 : S.1 8 3 = nI l.length) (h0 : 0 < l.length) (hl : l.length ≤ 6) (hB : os_B l) (h38 : os_A (S.1 38) l) : ∃ f, r_X11_nextOrder S = some (if (os_x l).1 = true then 1 else 0, sA S 38 f) ∧ os_A f (os_x l).2 := by
  unfold r_X11_nextOrder
  rw [d2]
  by_cases c1 : l.length = 1
  · have ey : os_y l = 0 := by
      unfold os_y
      rw [c1]
      rfl
    have ex : os_x l = (false, l) := if_pos ey
    rw [ex]
    refine ⟨S.1 38, ?_, h38⟩
    rw [c1]
    refine ob_step (a := -1) ?_ ?_
    · rw [lp_X11_nextOrder_10]
      exact if_pos (by decide)
    · rw [if_neg (by decide), sA_self]
      rfl
  have h10 := lp_next10 hl hB h38 (l.length - 2) 4000 (by omega) (by omega)
  have e2 : (nI l.length - 2 : Int32) = nI (l.length - 2) := nI_sub (b := 2) (by omega)
  have hyr : os_y l ≤ l.length - 2 := os_r_le l _
  rw [e2]
  by_cases c2 : os_y l = 0
  · have ex : os_x l = (false, l) := if_pos c2
    rw [ex]
    refine ⟨S.1 38, ob_step h10 ?_, h38⟩
    rw [show os_r l (l.length - 2) = 0 from c2, if_neg (by decide), sA_self]
    rfl
  · have ex : os_x l = (true, os_v 10 (os_w l (os_y l) (os_t l (os_y l) (l.length - 1))) (os_y l + 1) (l.length - 1)) := if_neg c2
    rw [ex]
    have h53 := lp_next53 hl hB h38 (r := os_y l) (by omega) (l.length - 1) 4000 (by omega) (by omega)
    have htl := os_t_le l (os_y l) (l.length - 1)
    obtain ⟨f, hf, hA⟩ := swap_c hl h38 (a := os_y l) (b := os_t l (os_y l) (l.length - 1)) (by omega) (by omega)
    obtain ⟨g, hg, hG⟩ := lp_next100 10 4000 _ (sA S 38 f) (os_y l + 1) (l.length - 1) (by rw [os_w_len]; exact hl) hA (by rw [os_w_len]; omega) (by omega) (by omega) (by omega)
    have e1 : (nI l.length - 1 : Int32) = nI (l.length - 1) := nI_sub (b := 1) (by omega)
    refine ⟨g, ob_step h10 ?_, hG⟩
    show (if 0 < nI (os_y l) then _ else _) = _
    rw [if_pos (show (0 : Int32) < nI (os_y l) from nI_lt (a := 0) (by omega) (by omega)), e1]
    refine ob_step h53 (ob_step hf ?_)
    show (lp_X11_nextOrder_100 4000 (nI (os_y l) + 1) (S.1 8 3 - 1) (sA S 38 f)).bind _ = _
    rw [d2, e1, nI_1]
    refine ob_step hg ?_
    rw [sA_sA]
    rfl
theorem c_lp_X11_copy_38_39_2 : ∀ n k S, k ≤ 6 → 6 < n + k → lp_X11_copy_38_39_2 n (nI k) (sA S 39 (cp k (S.1 39) (S.1 38))) = some (sA S 39 (cp 6 (S.1 39) (S.1 38))) := by
  intro n
  induction n with
  | zero => intro k S h1 h2; omega
  | succ n ih =>
    intro k S h1 h2
    rw [lp_X11_copy_38_39_2]
    by_cases w : k = 6
    · subst w
      exact if_pos (show (6 : Int32) ≤ nI 6 by decide)
    have hk : k < 6 := by omega
    rw [if_neg (nle_l (k := 6) hk (by decide)), if_neg (nle_l (k := 6) hk (by decide)), nI_1]
    simp only [gdN hk (show 6 < 2 ^ 31 by decide), nI_clamp (show k < 2 ^ 31 by omega), gdM hk (show k < 2 ^ 31 by omega)]
    have key := ih (k + 1) S (by omega) (by omega)
    have e : (sA (sA S 39 (cp k (S.1 39) (S.1 38))) 39 (upd (cp k (S.1 39) (S.1 38)) k (S.1 38 k))) = sA S 39 (cp (k + 1) (S.1 39) (S.1 38)) := by
      rw [cp_s, sA_sA]
    show lp_X11_copy_38_39_2 n (nI (k + 1)) (sA (sA S 39 (cp k (S.1 39) (S.1 38))) 39 (upd (cp k (S.1 39) (S.1 38)) k (S.1 38 k))) = _
    rw [e]
    exact key
theorem co_38_39 (S : St) : r_X11_copy_38_39 S = some (0, sA S 39 (cp 6 (S.1 39) (S.1 38))) := by
  unfold r_X11_copy_38_39
  have := c_lp_X11_copy_38_39_2 4000 0 S (by omega) (by omega)
  rw [cp_0, sA_self] at this
  exact ob_step this rfl
theorem lp_first {f1 : Int32} {nh : Nat} (h6 : nh ≤ 6) : ∀ n k (S : St), k ≤ nh → nh < n + k → S.1 8 3 = nI nh → (∀ i, i < k → S.1 38 i = nI i) → ∃ g, lp_X11_findSeats_2 f1 n (nI k) S = some (sA S 38 g) ∧ ∀ i, i < nh → g i = nI i := by
  intro n
  induction n with
  | zero => intro k S h1 h2; omega
  | succ n ih =>
    intro k S h1 h2 d2 hh
    rw [lp_X11_findSeats_2, d2]
    by_cases w : k = nh
    · subst w
      refine ⟨S.1 38, ?_, hh⟩
      rw [if_pos (nI_le (Nat.le_refl _) (by omega)), sA_self]
    · rw [if_neg (nI_ge (by omega) (by omega)), gdN (show k < 6 by omega) (by decide), nI_clamp (by omega), nI_1]
      obtain ⟨g, g1, g2⟩ := ih (k + 1) (sA S 38 (upd (S.1 38) k (nI k))) (by omega) (by omega) d2 (fun i hi => by
        show upd (S.1 38) k (nI k) i = nI i
        by_cases z : i = k
        · subst z
          exact upd_at _ _ _
        · rw [upd_ne z]
          exact hh i (by omega))
      refine ⟨g, ?_, g2⟩
      rw [g1, sA_sA]
