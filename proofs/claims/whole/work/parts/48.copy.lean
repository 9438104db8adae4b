/-! COPY: loops that copy cells -/
def cp (N : Nat) (a b : Nat → Int32) : Nat → Int32 := fun i => if i < N then b i else a i
theorem ob_step {α β : Type} {x : Option α} {a : α} {f : α → Option β} {y : Option β} (h : x = some a) (h2 : f a = y) : x.bind f = y := by
  rw [h]
  exact h2
theorem cp_0 (a b : Nat → Int32) : cp 0 a b = a := by
  funext i
  exact if_neg (Nat.not_lt_zero i)
theorem cp_s (k : Nat) (a b : Nat → Int32) : upd (cp k a b) k (b k) = cp (k + 1) a b := by
  funext i
  by_cases w : i = k
  · subst w
    rw [upd_at]
    exact (if_pos (Nat.lt_succ_self _)).symm
  · rw [upd_ne w]
    unfold cp
    by_cases z : i < k
    · rw [if_pos z, if_pos (by omega)]
    · rw [if_neg z, if_neg (by omega)]
theorem cp_eq (N : Nat) (a b : Nat → Int32) : EqB N (cp N a b) b := fun _ hi => if_pos hi
theorem EqB.rf (N : Nat) (a : Nat → Int32) : EqB N a a := fun _ _ => rfl
def cpQ (N : Nat) (a b : Nat → Option Nat) : Nat → Option Nat := fun i => if i < N then b i else a i
theorem cpQ_0 (a b : Nat → Option Nat) : cpQ 0 a b = a := by
  funext i
  exact if_neg (Nat.not_lt_zero i)
theorem cpQ_s (k : Nat) (a b : Nat → Option Nat) : va_up (cpQ k a b) k (b k) = cpQ (k + 1) a b := by
  funext i
  by_cases w : i = k
  · subst w
    exact (if_pos rfl).trans (if_pos (Nat.lt_succ_self _)).symm
  · refine (if_neg w).trans ?_
    unfold cpQ
    by_cases z : i < k
    · rw [if_pos z, if_pos (by omega)]
    · rw [if_neg z, if_neg (by omega)]
theorem sQ_self (S : St) (k : Nat) : sQ S k (S.2.2 k) = S := by
  show (S.1, S.2.1, uF S.2.2 k (S.2.2 k)) = S
  rw [uF_self]
theorem sQ_sQ (S : St) (k : Nat) (g g' : Nat → Option Nat) : sQ (sQ S k g) k g' = sQ S k g' := by
  show (S.1, S.2.1, uF (uF S.2.2 k g) k g') = (S.1, S.2.1, uF S.2.2 k g')
  rw [uF_uF]
theorem Core.tr {cs g9 g10 g12 g13 g14 g15 g16 g17 cs' g9' g10' g12' g13' g14' g15' g16' g17' : Nat → Int32} {who who' : Nat → Option Nat} {m0 m1 m2 m11 m37 m40 : Int32} {g77 g78 g79 g80 g81 g82 g83 g101 g102 g103 g77' g78' g79' g80' g81' g82' g83' g101' g102' g103' : Nat → Int32} {hs : List Hr} {nb : Nat} (h : Core cs g9 g10 g12 g13 g14 g15 g16 g17 who m0 m1 m2 m11 m37 m40 g77 g78 g79 g80 g81 g82 g83 g101 g102 g103 hs nb)
    (ec : ∀ j, j < 6 → cs' j = cs j) (e9 : EqB 8 g9' g9) (e10 : EqB 8 g10' g10) (e12 : EqB 48 g12' g12) (e13 : EqB 48 g13' g13) (e14 : EqB 24 g14' g14) (e15 : EqB 6 g15' g15) (e16 : EqB 6 g16' g16) (e17 : EqB 10 g17' g17) (ew : ∀ j, j < 6 → who' j = who j)
    (e77 : EqB 8 g77' g77) (e78 : EqB 8 g78' g78) (e79 : EqB 6 g79' g79) (e80 : EqB 6 g80' g80) (e81 : EqB 24 g81' g81) (e82 : EqB 48 g82' g82) (e83 : EqB 48 g83' g83) (e101 : EqB 6 g101' g101) (e102 : EqB 6 g102' g102) (e103 : EqB 10 g103' g103) :
    Core cs' g9' g10' g12' g13' g14' g15' g16' g17' who' m0 m1 m2 m11 m37 m40 g77' g78' g79' g80' g81' g82' g83' g101' g102' g103' hs nb := by
  obtain ⟨ns, nh, nd, nf, ne, ⟨⟨c1, c2, c3⟩, ⟨d1, d2, d3⟩, ⟨y1, y2, y3⟩, ⟨f1, f2, f3⟩, ⟨b1, b2, b3⟩, t1, t2⟩, hA, hT, hR, hF, hK, hW⟩ := id h
  refine ⟨ns, nh, nd, nf, ne, ⟨⟨c1, (ec 2 (by decide)).trans c2, c3⟩, ⟨d1, (ec 3 (by decide)).trans d2, d3⟩, ⟨y1, (ec 0 (by decide)).trans y2, y3⟩, ⟨f1, (ec 4 (by decide)).trans f2, f3⟩, ⟨b1, (ec 5 (by decide)).trans b2, b3⟩, (ec 1 (by decide)).trans t1, t2⟩, ⟨fun i hi => (e9 i hi).trans ((hA.1 i hi).trans (e77 i hi).symm), fun i hi => (e10 i hi).trans ((hA.2.1 i hi).trans (e78 i hi).symm), fun s hs => ?_⟩, ⟨fun i hi => (e12 i hi).trans ((hT.1 i hi).trans (e82 i hi).symm), fun i hi => (e13 i hi).trans ((hT.2.1 i hi).trans (e83 i hi).symm), fun h s z1 z2 z3 => ?_, fun i hi => ?_⟩, ⟨fun i hi => ?_, fun i hi => ?_, fun i z1 z2 => ?_⟩, ⟨fun i hi => (e15 i hi).trans ((hF.1 i hi).trans (e101 i hi).symm), fun i hi => (e16 i hi).trans ((hF.2.1 i hi).trans (e102 i hi).symm), fun k hk => ?_⟩, ⟨fun i hi => (e17 i hi).trans ((hK.1 i hi).trans (e103 i hi).symm), fun k hk => ?_⟩, ⟨fun h hh => ?_, fun h hh => ?_⟩⟩
  · rw [e77 s (by omega)]
    exact hA.2.2 s hs
  · rw [e82 _ (by omega)]
    exact hT.2.2.1 h s z1 z2 z3
  · rw [e82 i hi]
    exact hT.2.2.2 i hi
  · rw [e14 i (by omega), e81 i (by omega)]
    exact hR.1 i hi
  · rw [e81 i (by omega)]
    exact hR.2.1 i hi
  · rw [e14 i z2]
    exact hR.2.2 i z1 z2
  · rw [e101 k (by omega)]
    exact hF.2.2 k hk
  · rw [e103 k (by omega)]
    exact hK.2 k hk
  · rw [e79 h (by omega), e80 h (by omega), ew h (by omega)]
    exact hW.1 h hh
  · rw [ew h hh]
    exact hW.2 h hh
theorem c_lp_X11_copy_9_19_2 : ∀ n k S, k ≤ 8 → 8 < n + k → lp_X11_copy_9_19_2 n (nI k) (sA S 19 (cp k (S.1 19) (S.1 9))) = some (sA S 19 (cp 8 (S.1 19) (S.1 9))) := by
  intro n
  induction n with
  | zero => intro k S h1 h2; omega
  | succ n ih =>
    intro k S h1 h2
    rw [lp_X11_copy_9_19_2]
    by_cases w : k = 8
    · subst w
      exact if_pos (show (8 : Int32) ≤ nI 8 by decide)
    have hk : k < 8 := by omega
    rw [if_neg (nle_l (k := 8) hk (by decide)), if_neg (nle_l (k := 8) hk (by decide)), nI_1]
    simp only [gdN hk (show 8 < 2 ^ 31 by decide), nI_clamp (show k < 2 ^ 31 by omega), gdM hk (show k < 2 ^ 31 by omega)]
    have key := ih (k + 1) S (by omega) (by omega)
    have e : (sA (sA S 19 (cp k (S.1 19) (S.1 9))) 19 (upd (cp k (S.1 19) (S.1 9)) k (S.1 9 k))) = sA S 19 (cp (k + 1) (S.1 19) (S.1 9)) := by
      rw [cp_s, sA_sA]
    show lp_X11_copy_9_19_2 n (nI (k + 1)) (sA (sA S 19 (cp k (S.1 19) (S.1 9))) 19 (upd (cp k (S.1 19) (S.1 9)) k (S.1 9 k))) = _
    rw [e]
    exact key
theorem cc_lp_X11_copy_9_19_2 (S : St) : lp_X11_copy_9_19_2 4000 0 S = some (sA S 19 (cp 8 (S.1 19) (S.1 9))) := by
  have := c_lp_X11_copy_9_19_2 4000 0 S (by omega) (by omega)
  rw [cp_0, sA_self] at this
  exact this
theorem co_9_19 (S : St) : r_X11_copy_9_19 S = some (0, sA S 19 (cp 8 (S.1 19) (S.1 9))) := by
  unfold r_X11_copy_9_19
  rw [cc_lp_X11_copy_9_19_2]
  rfl
theorem c_lp_X11_copy_10_20_2 : ∀ n k S, k ≤ 8 → 8 < n + k → lp_X11_copy_10_20_2 n (nI k) (sA S 20 (cp k (S.1 20) (S.1 10))) = some (sA S 20 (cp 8 (S.1 20) (S.1 10))) := by
  intro n
  induction n with
  | zero => intro k S h1 h2; omega
  | succ n ih =>
    intro k S h1 h2
    rw [lp_X11_copy_10_20_2]
    by_cases w : k = 8
    · subst w
      exact if_pos (show (8 : Int32) ≤ nI 8 by decide)
    have hk : k < 8 := by omega
    rw [if_neg (nle_l (k := 8) hk (by decide)), if_neg (nle_l (k := 8) hk (by decide)), nI_1]
    simp only [gdN hk (show 8 < 2 ^ 31 by decide), nI_clamp (show k < 2 ^ 31 by omega), gdM hk (show k < 2 ^ 31 by omega)]
    have key := ih (k + 1) S (by omega) (by omega)
    have e : (sA (sA S 20 (cp k (S.1 20) (S.1 10))) 20 (upd (cp k (S.1 20) (S.1 10)) k (S.1 10 k))) = sA S 20 (cp (k + 1) (S.1 20) (S.1 10)) := by
      rw [cp_s, sA_sA]
    show lp_X11_copy_10_20_2 n (nI (k + 1)) (sA (sA S 20 (cp k (S.1 20) (S.1 10))) 20 (upd (cp k (S.1 20) (S.1 10)) k (S.1 10 k))) = _
    rw [e]
    exact key
theorem cc_lp_X11_copy_10_20_2 (S : St) : lp_X11_copy_10_20_2 4000 0 S = some (sA S 20 (cp 8 (S.1 20) (S.1 10))) := by
  have := c_lp_X11_copy_10_20_2 4000 0 S (by omega) (by omega)
  rw [cp_0, sA_self] at this
  exact this
theorem co_10_20 (S : St) : r_X11_copy_10_20 S = some (0, sA S 20 (cp 8 (S.1 20) (S.1 10))) := by
  unfold r_X11_copy_10_20
  rw [cc_lp_X11_copy_10_20_2]
  rfl
theorem c_lp_X11_copy_12_22_2 : ∀ n k S, k ≤ 48 → 48 < n + k → lp_X11_copy_12_22_2 n (nI k) (sA S 22 (cp k (S.1 22) (S.1 12))) = some (sA S 22 (cp 48 (S.1 22) (S.1 12))) := by
  intro n
  induction n with
  | zero => intro k S h1 h2; omega
  | succ n ih =>
    intro k S h1 h2
    rw [lp_X11_copy_12_22_2]
    by_cases w : k = 48
    · subst w
      exact if_pos (show (48 : Int32) ≤ nI 48 by decide)
    have hk : k < 48 := by omega
    rw [if_neg (nle_l (k := 48) hk (by decide)), if_neg (nle_l (k := 48) hk (by decide)), nI_1]
    simp only [gdN hk (show 48 < 2 ^ 31 by decide), nI_clamp (show k < 2 ^ 31 by omega), gdM hk (show k < 2 ^ 31 by omega)]
    have key := ih (k + 1) S (by omega) (by omega)
    have e : (sA (sA S 22 (cp k (S.1 22) (S.1 12))) 22 (upd (cp k (S.1 22) (S.1 12)) k (S.1 12 k))) = sA S 22 (cp (k + 1) (S.1 22) (S.1 12)) := by
      rw [cp_s, sA_sA]
    show lp_X11_copy_12_22_2 n (nI (k + 1)) (sA (sA S 22 (cp k (S.1 22) (S.1 12))) 22 (upd (cp k (S.1 22) (S.1 12)) k (S.1 12 k))) = _
    rw [e]
    exact key
theorem cc_lp_X11_copy_12_22_2 (S : St) : lp_X11_copy_12_22_2 4000 0 S = some (sA S 22 (cp 48 (S.1 22) (S.1 12))) := by
  have := c_lp_X11_copy_12_22_2 4000 0 S (by omega) (by omega)
  rw [cp_0, sA_self] at this
  exact this
theorem co_12_22 (S : St) : r_X11_copy_12_22 S = some (0, sA S 22 (cp 48 (S.1 22) (S.1 12))) := by
  unfold r_X11_copy_12_22
  rw [cc_lp_X11_copy_12_22_2]
  rfl
theorem c_lp_X11_copy_13_23_2 : ∀ n k S, k ≤ 48 → 48 < n + k → lp_X11_copy_13_23_2 n (nI k) (sA S 23 (cp k (S.1 23) (S.1 13))) = some (sA S 23 (cp 48 (S.1 23) (S.1 13))) := by
  intro n
  induction n with
  | zero => intro k S h1 h2; omega
  | succ n ih =>
    intro k S h1 h2
    rw [lp_X11_copy_13_23_2]
    by_cases w : k = 48
    · subst w
      exact if_pos (show (48 : Int32) ≤ nI 48 by decide)
    have hk : k < 48 := by omega
    rw [if_neg (nle_l (k := 48) hk (by decide)), if_neg (nle_l (k := 48) hk (by decide)), nI_1]
    simp only [gdN hk (show 48 < 2 ^ 31 by decide), nI_clamp (show k < 2 ^ 31 by omega), gdM hk (show k < 2 ^ 31 by omega)]
    have key := ih (k + 1) S (by omega) (by omega)
    have e : (sA (sA S 23 (cp k (S.1 23) (S.1 13))) 23 (upd (cp k (S.1 23) (S.1 13)) k (S.1 13 k))) = sA S 23 (cp (k + 1) (S.1 23) (S.1 13)) := by
      rw [cp_s, sA_sA]
    show lp_X11_copy_13_23_2 n (nI (k + 1)) (sA (sA S 23 (cp k (S.1 23) (S.1 13))) 23 (upd (cp k (S.1 23) (S.1 13)) k (S.1 13 k))) = _
    rw [e]
    exact key
theorem cc_lp_X11_copy_13_23_2 (S : St) : lp_X11_copy_13_23_2 4000 0 S = some (sA S 23 (cp 48 (S.1 23) (S.1 13))) := by
  have := c_lp_X11_copy_13_23_2 4000 0 S (by omega) (by omega)
  rw [cp_0, sA_self] at this
  exact this
theorem co_13_23 (S : St) : r_X11_copy_13_23 S = some (0, sA S 23 (cp 48 (S.1 23) (S.1 13))) := by
  unfold r_X11_copy_13_23
  rw [cc_lp_X11_copy_13_23_2]
  rfl
theorem c_lp_X11_copy_14_24_2 : ∀ n k S, k ≤ 24 → 24 < n + k → lp_X11_copy_14_24_2 n (nI k) (sA S 24 (cp k (S.1 24) (S.1 14))) = some (sA S 24 (cp 24 (S.1 24) (S.1 14))) := by
  intro n
  induction n with
  | zero => intro k S h1 h2; omega
  | succ n ih =>
    intro k S h1 h2
    rw [lp_X11_copy_14_24_2]
    by_cases w : k = 24
    · subst w
      exact if_pos (show (24 : Int32) ≤ nI 24 by decide)
    have hk : k < 24 := by omega
    rw [if_neg (nle_l (k := 24) hk (by decide)), if_neg (nle_l (k := 24) hk (by decide)), nI_1]
    simp only [gdN hk (show 24 < 2 ^ 31 by decide), nI_clamp (show k < 2 ^ 31 by omega), gdM hk (show k < 2 ^ 31 by omega)]
    have key := ih (k + 1) S (by omega) (by omega)
    have e : (sA (sA S 24 (cp k (S.1 24) (S.1 14))) 24 (upd (cp k (S.1 24) (S.1 14)) k (S.1 14 k))) = sA S 24 (cp (k + 1) (S.1 24) (S.1 14)) := by
      rw [cp_s, sA_sA]
    show lp_X11_copy_14_24_2 n (nI (k + 1)) (sA (sA S 24 (cp k (S.1 24) (S.1 14))) 24 (upd (cp k (S.1 24) (S.1 14)) k (S.1 14 k))) = _
    rw [e]
    exact key
theorem cc_lp_X11_copy_14_24_2 (S : St) : lp_X11_copy_14_24_2 4000 0 S = some (sA S 24 (cp 24 (S.1 24) (S.1 14))) := by
  have := c_lp_X11_copy_14_24_2 4000 0 S (by omega) (by omega)
  rw [cp_0, sA_self] at this
  exact this
theorem co_14_24 (S : St) : r_X11_copy_14_24 S = some (0, sA S 24 (cp 24 (S.1 24) (S.1 14))) := by
  unfold r_X11_copy_14_24
  rw [cc_lp_X11_copy_14_24_2]
  rfl
theorem c_lp_X11_copy_15_25_2 : ∀ n k S, k ≤ 6 → 6 < n + k → lp_X11_copy_15_25_2 n (nI k) (sA S 25 (cp k (S.1 25) (S.1 15))) = some (sA S 25 (cp 6 (S.1 25) (S.1 15))) := by
  intro n
  induction n with
  | zero => intro k S h1 h2; omega
  | succ n ih =>
    intro k S h1 h2
    rw [lp_X11_copy_15_25_2]
    by_cases w : k = 6
    · subst w
      exact if_pos (show (6 : Int32) ≤ nI 6 by decide)
    have hk : k < 6 := by omega
    rw [if_neg (nle_l (k := 6) hk (by decide)), if_neg (nle_l (k := 6) hk (by decide)), nI_1]
    simp only [gdN hk (show 6 < 2 ^ 31 by decide), nI_clamp (show k < 2 ^ 31 by omega), gdM hk (show k < 2 ^ 31 by omega)]
    have key := ih (k + 1) S (by omega) (by omega)
    have e : (sA (sA S 25 (cp k (S.1 25) (S.1 15))) 25 (upd (cp k (S.1 25) (S.1 15)) k (S.1 15 k))) = sA S 25 (cp (k + 1) (S.1 25) (S.1 15)) := by
      rw [cp_s, sA_sA]
    show lp_X11_copy_15_25_2 n (nI (k + 1)) (sA (sA S 25 (cp k (S.1 25) (S.1 15))) 25 (upd (cp k (S.1 25) (S.1 15)) k (S.1 15 k))) = _
    rw [e]
    exact key
theorem cc_lp_X11_copy_15_25_2 (S : St) : lp_X11_copy_15_25_2 4000 0 S = some (sA S 25 (cp 6 (S.1 25) (S.1 15))) := by
  have := c_lp_X11_copy_15_25_2 4000 0 S (by omega) (by omega)
  rw [cp_0, sA_self] at this
  exact this
theorem co_15_25 (S : St) : r_X11_copy_15_25 S = some (0, sA S 25 (cp 6 (S.1 25) (S.1 15))) := by
  unfold r_X11_copy_15_25
  rw [cc_lp_X11_copy_15_25_2]
  rfl
theorem c_lp_X11_copy_16_26_2 : ∀ n k S, k ≤ 6 → 6 < n + k → lp_X11_copy_16_26_2 n (nI k) (sA S 26 (cp k (S.1 26) (S.1 16))) = some (sA S 26 (cp 6 (S.1 26) (S.1 16))) := by
  intro n
  induction n with
  | zero => intro k S h1 h2; omega
  | succ n ih =>
    intro k S h1 h2
    rw [lp_X11_copy_16_26_2]
    by_cases w : k = 6
    · subst w
      exact if_pos (show (6 : Int32) ≤ nI 6 by decide)
    have hk : k < 6 := by omega
    rw [if_neg (nle_l (k := 6) hk (by decide)), if_neg (nle_l (k := 6) hk (by decide)), nI_1]
    simp only [gdN hk (show 6 < 2 ^ 31 by decide), nI_clamp (show k < 2 ^ 31 by omega), gdM hk (show k < 2 ^ 31 by omega)]
    have key := ih (k + 1) S (by omega) (by omega)
    have e : (sA (sA S 26 (cp k (S.1 26) (S.1 16))) 26 (upd (cp k (S.1 26) (S.1 16)) k (S.1 16 k))) = sA S 26 (cp (k + 1) (S.1 26) (S.1 16)) := by
      rw [cp_s, sA_sA]
    show lp_X11_copy_16_26_2 n (nI (k + 1)) (sA (sA S 26 (cp k (S.1 26) (S.1 16))) 26 (upd (cp k (S.1 26) (S.1 16)) k (S.1 16 k))) = _
    rw [e]
    exact key
theorem cc_lp_X11_copy_16_26_2 (S : St) : lp_X11_copy_16_26_2 4000 0 S = some (sA S 26 (cp 6 (S.1 26) (S.1 16))) := by
  have := c_lp_X11_copy_16_26_2 4000 0 S (by omega) (by omega)
  rw [cp_0, sA_self] at this
  exact this
theorem co_16_26 (S : St) : r_X11_copy_16_26 S = some (0, sA S 26 (cp 6 (S.1 26) (S.1 16))) := by
  unfold r_X11_copy_16_26
  rw [cc_lp_X11_copy_16_26_2]
  rfl
theorem c_lp_X11_copy_17_27_2 : ∀ n k S, k ≤ 10 → 10 < n + k → lp_X11_copy_17_27_2 n (nI k) (sA S 27 (cp k (S.1 27) (S.1 17))) = some (sA S 27 (cp 10 (S.1 27) (S.1 17))) := by
  intro n
  induction n with
  | zero => intro k S h1 h2; omega
  | succ n ih =>
    intro k S h1 h2
    rw [lp_X11_copy_17_27_2]
    by_cases w : k = 10
    · subst w
      exact if_pos (show (10 : Int32) ≤ nI 10 by decide)
    have hk : k < 10 := by omega
    rw [if_neg (nle_l (k := 10) hk (by decide)), if_neg (nle_l (k := 10) hk (by decide)), nI_1]
    simp only [gdN hk (show 10 < 2 ^ 31 by decide), nI_clamp (show k < 2 ^ 31 by omega), gdM hk (show k < 2 ^ 31 by omega)]
    have key := ih (k + 1) S (by omega) (by omega)
    have e : (sA (sA S 27 (cp k (S.1 27) (S.1 17))) 27 (upd (cp k (S.1 27) (S.1 17)) k (S.1 17 k))) = sA S 27 (cp (k + 1) (S.1 27) (S.1 17)) := by
      rw [cp_s, sA_sA]
    show lp_X11_copy_17_27_2 n (nI (k + 1)) (sA (sA S 27 (cp k (S.1 27) (S.1 17))) 27 (upd (cp k (S.1 27) (S.1 17)) k (S.1 17 k))) = _
    rw [e]
    exact key
theorem cc_lp_X11_copy_17_27_2 (S : St) : lp_X11_copy_17_27_2 4000 0 S = some (sA S 27 (cp 10 (S.1 27) (S.1 17))) := by
  have := c_lp_X11_copy_17_27_2 4000 0 S (by omega) (by omega)
  rw [cp_0, sA_self] at this
  exact this
theorem co_17_27 (S : St) : r_X11_copy_17_27 S = some (0, sA S 27 (cp 10 (S.1 27) (S.1 17))) := by
  unfold r_X11_copy_17_27
  rw [cc_lp_X11_copy_17_27_2]
  rfl
theorem c_lp_X7_become_18_8_72 {hs : List Hr} : ∀ n k S, (∀ h, h < 6 → S.2.2 11 h = none ∨ ∃ a q, S.2.2 11 h = some a ∧ hq hs a = some q) → k ≤ 6 → 6 < n + k → lp_X7_become_18_8_72 hs n (nI k) (sQ S 21 (cpQ k (S.2.2 21) (S.2.2 11))) = some (sQ S 21 (cpQ 6 (S.2.2 21) (S.2.2 11))) := by
  intro n
  induction n with
  | zero => intro k S _ h1 h2; omega
  | succ n ih =>
    intro k S hw h1 h2
    rw [lp_X7_become_18_8_72]
    by_cases w : k = 6
    · subst w
      exact if_pos (show (6 : Int32) ≤ nI 6 by decide)
    have hk : k < 6 := by omega
    rw [if_neg (nle_l (k := 6) hk (by decide)), if_neg (nle_l (k := 6) hk (by decide)), nI_1]
    simp only [gdN hk (show 6 < 2 ^ 31 by decide), nI_clamp (show k < 2 ^ 31 by omega), gdM hk (show k < 2 ^ 31 by omega)]
    have key := ih (k + 1) S hw (by omega) (by omega)
    have e : sQ (sQ S 21 (cpQ k (S.2.2 21) (S.2.2 11))) 21 (va_up (cpQ k (S.2.2 21) (S.2.2 11)) k (S.2.2 11 k)) = sQ S 21 (cpQ (k + 1) (S.2.2 21) (S.2.2 11)) := by
      rw [cpQ_s, sQ_sQ]
    show oH hs (S.2.2 11 k) (lp_X7_become_18_8_72 hs n (nI (k + 1)) (sQ (sQ S 21 (cpQ k (S.2.2 21) (S.2.2 11))) 21 (va_up (cpQ k (S.2.2 21) (S.2.2 11)) k none))) (fun _ => lp_X7_become_18_8_72 hs n (nI (k + 1)) (sQ (sQ S 21 (cpQ k (S.2.2 21) (S.2.2 11))) 21 (va_up (cpQ k (S.2.2 21) (S.2.2 11)) k (S.2.2 11 k)))) = _
    rcases hw k hk with h | ⟨a, q, h, hh⟩
    · rw [h] at e ⊢
      show lp_X7_become_18_8_72 hs n (nI (k + 1)) (sQ (sQ S 21 (cpQ k (S.2.2 21) (S.2.2 11))) 21 (va_up (cpQ k (S.2.2 21) (S.2.2 11)) k none)) = _
      rw [e]
      exact key
    · rw [h] at e ⊢
      show (hq hs a).bind _ = _
      rw [hh]
      show lp_X7_become_18_8_72 hs n (nI (k + 1)) (sQ (sQ S 21 (cpQ k (S.2.2 21) (S.2.2 11))) 21 (va_up (cpQ k (S.2.2 21) (S.2.2 11)) k (some a))) = _
      rw [e]
      exact key
theorem cc_lp_X7_become_18_8_72 {hs : List Hr} (S : St) (hw : ∀ h, h < 6 → S.2.2 11 h = none ∨ ∃ a q, S.2.2 11 h = some a ∧ hq hs a = some q) : lp_X7_become_18_8_72 hs 4000 0 S = some (sQ S 21 (cpQ 6 (S.2.2 21) (S.2.2 11))) := by
  have := c_lp_X7_become_18_8_72 4000 0 S hw (by omega) (by omega)
  rw [cpQ_0, sQ_self] at this
  exact this
def cim0 (S : St) : St := (sI (sI (sI (sI (sI (sI S 18 0 (S.1 8 0)) 18 1 (S.1 8 1)) 18 2 (S.1 8 2)) 18 3 (S.1 8 3)) 18 4 (S.1 8 4)) 18 5 (S.1 8 5))
def cim1 (S : St) : St := sA (cim0 S) 19 (cp 8 (S.1 19) (S.1 9))
def cim2 (S : St) : St := sA (cim1 S) 20 (cp 8 (S.1 20) (S.1 10))
def cim3 (S : St) : St := sQ (cim2 S) 21 (cpQ 6 (S.2.2 21) (S.2.2 11))
def cim4 (S : St) : St := sA (cim3 S) 22 (cp 48 (S.1 22) (S.1 12))
def cim5 (S : St) : St := sA (cim4 S) 23 (cp 48 (S.1 23) (S.1 13))
def cim6 (S : St) : St := sA (cim5 S) 24 (cp 24 (S.1 24) (S.1 14))
def cim7 (S : St) : St := sA (cim6 S) 25 (cp 6 (S.1 25) (S.1 15))
def cim8 (S : St) : St := sA (cim7 S) 26 (cp 6 (S.1 26) (S.1 16))
def cim9 (S : St) : St := sA (cim8 S) 27 (cp 10 (S.1 27) (S.1 17))
theorem s_cim1 (S : St) : r_X11_copy_9_19 (cim0 S) = some (0, cim1 S) := co_9_19 (cim0 S)
theorem s_cim2 (S : St) : r_X11_copy_10_20 (cim1 S) = some (0, cim2 S) := co_10_20 (cim1 S)
theorem s_cim3 (S : St) {hs : List Hr} (hw : ∀ h, h < 6 → S.2.2 11 h = none ∨ ∃ a q, S.2.2 11 h = some a ∧ hq hs a = some q) : lp_X7_become_18_8_72 hs 4000 0 (cim2 S) = some (cim3 S) := cc_lp_X7_become_18_8_72 (cim2 S) hw
theorem s_cim4 (S : St) : r_X11_copy_12_22 (cim3 S) = some (0, cim4 S) := co_12_22 (cim3 S)
theorem s_cim5 (S : St) : r_X11_copy_13_23 (cim4 S) = some (0, cim5 S) := co_13_23 (cim4 S)
theorem s_cim6 (S : St) : r_X11_copy_14_24 (cim5 S) = some (0, cim6 S) := co_14_24 (cim5 S)
theorem s_cim7 (S : St) : r_X11_copy_15_25 (cim6 S) = some (0, cim7 S) := co_15_25 (cim6 S)
theorem s_cim8 (S : St) : r_X11_copy_16_26 (cim7 S) = some (0, cim8 S) := co_16_26 (cim7 S)
theorem s_cim9 (S : St) : r_X11_copy_17_27 (cim8 S) = some (0, cim9 S) := co_17_27 (cim8 S)
theorem be_cim (S : St) {hs : List Hr} (hw : ∀ h, h < 6 → S.2.2 11 h = none ∨ ∃ a q, S.2.2 11 h = some a ∧ hq hs a = some q) : r_X7_become_18_8 S hs = some (0, cim9 S) := by
  unfold r_X7_become_18_8
  refine ob_step (s_cim1 S) ?_
  refine ob_step (s_cim2 S) ?_
  refine ob_step (s_cim3 S hw) ?_
  refine ob_step (s_cim4 S) ?_
  refine ob_step (s_cim5 S) ?_
  refine ob_step (s_cim6 S) ?_
  refine ob_step (s_cim7 S) ?_
  refine ob_step (s_cim8 S) ?_
  refine ob_step (s_cim9 S) ?_
  exact rfl
theorem c_lp_X11_copy_19_9_2 : ∀ n k S, k ≤ 8 → 8 < n + k → lp_X11_copy_19_9_2 n (nI k) (sA S 9 (cp k (S.1 9) (S.1 19))) = some (sA S 9 (cp 8 (S.1 9) (S.1 19))) := by
  intro n
  induction n with
  | zero => intro k S h1 h2; omega
  | succ n ih =>
    intro k S h1 h2
    rw [lp_X11_copy_19_9_2]
    by_cases w : k = 8
    · subst w
      exact if_pos (show (8 : Int32) ≤ nI 8 by decide)
    have hk : k < 8 := by omega
    rw [if_neg (nle_l (k := 8) hk (by decide)), if_neg (nle_l (k := 8) hk (by decide)), nI_1]
    simp only [gdN hk (show 8 < 2 ^ 31 by decide), nI_clamp (show k < 2 ^ 31 by omega), gdM hk (show k < 2 ^ 31 by omega)]
    have key := ih (k + 1) S (by omega) (by omega)
    have e : (sA (sA S 9 (cp k (S.1 9) (S.1 19))) 9 (upd (cp k (S.1 9) (S.1 19)) k (S.1 19 k))) = sA S 9 (cp (k + 1) (S.1 9) (S.1 19)) := by
      rw [cp_s, sA_sA]
    show lp_X11_copy_19_9_2 n (nI (k + 1)) (sA (sA S 9 (cp k (S.1 9) (S.1 19))) 9 (upd (cp k (S.1 9) (S.1 19)) k (S.1 19 k))) = _
    rw [e]
    exact key
theorem cc_lp_X11_copy_19_9_2 (S : St) : lp_X11_copy_19_9_2 4000 0 S = some (sA S 9 (cp 8 (S.1 9) (S.1 19))) := by
  have := c_lp_X11_copy_19_9_2 4000 0 S (by omega) (by omega)
  rw [cp_0, sA_self] at this
  exact this
theorem co_19_9 (S : St) : r_X11_copy_19_9 S = some (0, sA S 9 (cp 8 (S.1 9) (S.1 19))) := by
  unfold r_X11_copy_19_9
  rw [cc_lp_X11_copy_19_9_2]
  rfl
theorem c_lp_X11_copy_20_10_2 : ∀ n k S, k ≤ 8 → 8 < n + k → lp_X11_copy_20_10_2 n (nI k) (sA S 10 (cp k (S.1 10) (S.1 20))) = some (sA S 10 (cp 8 (S.1 10) (S.1 20))) := by
  intro n
  induction n with
  | zero => intro k S h1 h2; omega
  | succ n ih =>
    intro k S h1 h2
    rw [lp_X11_copy_20_10_2]
    by_cases w : k = 8
    · subst w
      exact if_pos (show (8 : Int32) ≤ nI 8 by decide)
    have hk : k < 8 := by omega
    rw [if_neg (nle_l (k := 8) hk (by decide)), if_neg (nle_l (k := 8) hk (by decide)), nI_1]
    simp only [gdN hk (show 8 < 2 ^ 31 by decide), nI_clamp (show k < 2 ^ 31 by omega), gdM hk (show k < 2 ^ 31 by omega)]
    have key := ih (k + 1) S (by omega) (by omega)
    have e : (sA (sA S 10 (cp k (S.1 10) (S.1 20))) 10 (upd (cp k (S.1 10) (S.1 20)) k (S.1 20 k))) = sA S 10 (cp (k + 1) (S.1 10) (S.1 20)) := by
      rw [cp_s, sA_sA]
    show lp_X11_copy_20_10_2 n (nI (k + 1)) (sA (sA S 10 (cp k (S.1 10) (S.1 20))) 10 (upd (cp k (S.1 10) (S.1 20)) k (S.1 20 k))) = _
    rw [e]
    exact key
theorem cc_lp_X11_copy_20_10_2 (S : St) : lp_X11_copy_20_10_2 4000 0 S = some (sA S 10 (cp 8 (S.1 10) (S.1 20))) := by
  have := c_lp_X11_copy_20_10_2 4000 0 S (by omega) (by omega)
  rw [cp_0, sA_self] at this
  exact this
theorem co_20_10 (S : St) : r_X11_copy_20_10 S = some (0, sA S 10 (cp 8 (S.1 10) (S.1 20))) := by
  unfold r_X11_copy_20_10
  rw [cc_lp_X11_copy_20_10_2]
  rfl
theorem c_lp_X11_copy_22_12_2 : ∀ n k S, k ≤ 48 → 48 < n + k → lp_X11_copy_22_12_2 n (nI k) (sA S 12 (cp k (S.1 12) (S.1 22))) = some (sA S 12 (cp 48 (S.1 12) (S.1 22))) := by
  intro n
  induction n with
  | zero => intro k S h1 h2; omega
  | succ n ih =>
    intro k S h1 h2
    rw [lp_X11_copy_22_12_2]
    by_cases w : k = 48
    · subst w
      exact if_pos (show (48 : Int32) ≤ nI 48 by decide)
    have hk : k < 48 := by omega
    rw [if_neg (nle_l (k := 48) hk (by decide)), if_neg (nle_l (k := 48) hk (by decide)), nI_1]
    simp only [gdN hk (show 48 < 2 ^ 31 by decide), nI_clamp (show k < 2 ^ 31 by omega), gdM hk (show k < 2 ^ 31 by omega)]
    have key := ih (k + 1) S (by omega) (by omega)
    have e : (sA (sA S 12 (cp k (S.1 12) (S.1 22))) 12 (upd (cp k (S.1 12) (S.1 22)) k (S.1 22 k))) = sA S 12 (cp (k + 1) (S.1 12) (S.1 22)) := by
      rw [cp_s, sA_sA]
    show lp_X11_copy_22_12_2 n (nI (k + 1)) (sA (sA S 12 (cp k (S.1 12) (S.1 22))) 12 (upd (cp k (S.1 12) (S.1 22)) k (S.1 22 k))) = _
    rw [e]
    exact key
theorem cc_lp_X11_copy_22_12_2 (S : St) : lp_X11_copy_22_12_2 4000 0 S = some (sA S 12 (cp 48 (S.1 12) (S.1 22))) := by
  have := c_lp_X11_copy_22_12_2 4000 0 S (by omega) (by omega)
  rw [cp_0, sA_self] at this
  exact this
theorem co_22_12 (S : St) : r_X11_copy_22_12 S = some (0, sA S 12 (cp 48 (S.1 12) (S.1 22))) := by
  unfold r_X11_copy_22_12
  rw [cc_lp_X11_copy_22_12_2]
  rfl
theorem c_lp_X11_copy_23_13_2 : ∀ n k S, k ≤ 48 → 48 < n + k → lp_X11_copy_23_13_2 n (nI k) (sA S 13 (cp k (S.1 13) (S.1 23))) = some (sA S 13 (cp 48 (S.1 13) (S.1 23))) := by
  intro n
  induction n with
  | zero => intro k S h1 h2; omega
  | succ n ih =>
    intro k S h1 h2
    rw [lp_X11_copy_23_13_2]
    by_cases w : k = 48
    · subst w
      exact if_pos (show (48 : Int32) ≤ nI 48 by decide)
    have hk : k < 48 := by omega
    rw [if_neg (nle_l (k := 48) hk (by decide)), if_neg (nle_l (k := 48) hk (by decide)), nI_1]
    simp only [gdN hk (show 48 < 2 ^ 31 by decide), nI_clamp (show k < 2 ^ 31 by omega), gdM hk (show k < 2 ^ 31 by omega)]
    have key := ih (k + 1) S (by omega) (by omega)
    have e : (sA (sA S 13 (cp k (S.1 13) (S.1 23))) 13 (upd (cp k (S.1 13) (S.1 23)) k (S.1 23 k))) = sA S 13 (cp (k + 1) (S.1 13) (S.1 23)) := by
      rw [cp_s, sA_sA]
    show lp_X11_copy_23_13_2 n (nI (k + 1)) (sA (sA S 13 (cp k (S.1 13) (S.1 23))) 13 (upd (cp k (S.1 13) (S.1 23)) k (S.1 23 k))) = _
    rw [e]
    exact key
theorem cc_lp_X11_copy_23_13_2 (S : St) : lp_X11_copy_23_13_2 4000 0 S = some (sA S 13 (cp 48 (S.1 13) (S.1 23))) := by
  have := c_lp_X11_copy_23_13_2 4000 0 S (by omega) (by omega)
  rw [cp_0, sA_self] at this
  exact this
theorem co_23_13 (S : St) : r_X11_copy_23_13 S = some (0, sA S 13 (cp 48 (S.1 13) (S.1 23))) := by
  unfold r_X11_copy_23_13
  rw [cc_lp_X11_copy_23_13_2]
  rfl
theorem c_lp_X11_copy_24_14_2 : ∀ n k S, k ≤ 24 → 24 < n + k → lp_X11_copy_24_14_2 n (nI k) (sA S 14 (cp k (S.1 14) (S.1 24))) = some (sA S 14 (cp 24 (S.1 14) (S.1 24))) := by
  intro n
  induction n with
  | zero => intro k S h1 h2; omega
  | succ n ih =>
    intro k S h1 h2
    rw [lp_X11_copy_24_14_2]
    by_cases w : k = 24
    · subst w
      exact if_pos (show (24 : Int32) ≤ nI 24 by decide)
    have hk : k < 24 := by omega
    rw [if_neg (nle_l (k := 24) hk (by decide)), if_neg (nle_l (k := 24) hk (by decide)), nI_1]
    simp only [gdN hk (show 24 < 2 ^ 31 by decide), nI_clamp (show k < 2 ^ 31 by omega), gdM hk (show k < 2 ^ 31 by omega)]
    have key := ih (k + 1) S (by omega) (by omega)
    have e : (sA (sA S 14 (cp k (S.1 14) (S.1 24))) 14 (upd (cp k (S.1 14) (S.1 24)) k (S.1 24 k))) = sA S 14 (cp (k + 1) (S.1 14) (S.1 24)) := by
      rw [cp_s, sA_sA]
    show lp_X11_copy_24_14_2 n (nI (k + 1)) (sA (sA S 14 (cp k (S.1 14) (S.1 24))) 14 (upd (cp k (S.1 14) (S.1 24)) k (S.1 24 k))) = _
    rw [e]
    exact key
theorem cc_lp_X11_copy_24_14_2 (S : St) : lp_X11_copy_24_14_2 4000 0 S = some (sA S 14 (cp 24 (S.1 14) (S.1 24))) := by
  have := c_lp_X11_copy_24_14_2 4000 0 S (by omega) (by omega)
  rw [cp_0, sA_self] at this
  exact this
theorem co_24_14 (S : St) : r_X11_copy_24_14 S = some (0, sA S 14 (cp 24 (S.1 14) (S.1 24))) := by
  unfold r_X11_copy_24_14
  rw [cc_lp_X11_copy_24_14_2]
  rfl
theorem c_lp_X11_copy_25_15_2 : ∀ n k S, k ≤ 6 → 6 < n + k → lp_X11_copy_25_15_2 n (nI k) (sA S 15 (cp k (S.1 15) (S.1 25))) = some (sA S 15 (cp 6 (S.1 15) (S.1 25))) := by
  intro n
  induction n with
  | zero => intro k S h1 h2; omega
  | succ n ih =>
    intro k S h1 h2
    rw [lp_X11_copy_25_15_2]
    by_cases w : k = 6
    · subst w
      exact if_pos (show (6 : Int32) ≤ nI 6 by decide)
    have hk : k < 6 := by omega
    rw [if_neg (nle_l (k := 6) hk (by decide)), if_neg (nle_l (k := 6) hk (by decide)), nI_1]
    simp only [gdN hk (show 6 < 2 ^ 31 by decide), nI_clamp (show k < 2 ^ 31 by omega), gdM hk (show k < 2 ^ 31 by omega)]
    have key := ih (k + 1) S (by omega) (by omega)
    have e : (sA (sA S 15 (cp k (S.1 15) (S.1 25))) 15 (upd (cp k (S.1 15) (S.1 25)) k (S.1 25 k))) = sA S 15 (cp (k + 1) (S.1 15) (S.1 25)) := by
      rw [cp_s, sA_sA]
    show lp_X11_copy_25_15_2 n (nI (k + 1)) (sA (sA S 15 (cp k (S.1 15) (S.1 25))) 15 (upd (cp k (S.1 15) (S.1 25)) k (S.1 25 k))) = _
    rw [e]
    exact key
theorem cc_lp_X11_copy_25_15_2 (S : St) : lp_X11_copy_25_15_2 4000 0 S = some (sA S 15 (cp 6 (S.1 15) (S.1 25))) := by
  have := c_lp_X11_copy_25_15_2 4000 0 S (by omega) (by omega)
  rw [cp_0, sA_self] at this
  exact this
theorem co_25_15 (S : St) : r_X11_copy_25_15 S = some (0, sA S 15 (cp 6 (S.1 15) (S.1 25))) := by
  unfold r_X11_copy_25_15
  rw [cc_lp_X11_copy_25_15_2]
  rfl
theorem c_lp_X11_copy_26_16_2 : ∀ n k S, k ≤ 6 → 6 < n + k → lp_X11_copy_26_16_2 n (nI k) (sA S 16 (cp k (S.1 16) (S.1 26))) = some (sA S 16 (cp 6 (S.1 16) (S.1 26))) := by
  intro n
  induction n with
  | zero => intro k S h1 h2; omega
  | succ n ih =>
    intro k S h1 h2
    rw [lp_X11_copy_26_16_2]
    by_cases w : k = 6
    · subst w
      exact if_pos (show (6 : Int32) ≤ nI 6 by decide)
    have hk : k < 6 := by omega
    rw [if_neg (nle_l (k := 6) hk (by decide)), if_neg (nle_l (k := 6) hk (by decide)), nI_1]
    simp only [gdN hk (show 6 < 2 ^ 31 by decide), nI_clamp (show k < 2 ^ 31 by omega), gdM hk (show k < 2 ^ 31 by omega)]
    have key := ih (k + 1) S (by omega) (by omega)
    have e : (sA (sA S 16 (cp k (S.1 16) (S.1 26))) 16 (upd (cp k (S.1 16) (S.1 26)) k (S.1 26 k))) = sA S 16 (cp (k + 1) (S.1 16) (S.1 26)) := by
      rw [cp_s, sA_sA]
    show lp_X11_copy_26_16_2 n (nI (k + 1)) (sA (sA S 16 (cp k (S.1 16) (S.1 26))) 16 (upd (cp k (S.1 16) (S.1 26)) k (S.1 26 k))) = _
    rw [e]
    exact key
theorem cc_lp_X11_copy_26_16_2 (S : St) : lp_X11_copy_26_16_2 4000 0 S = some (sA S 16 (cp 6 (S.1 16) (S.1 26))) := by
  have := c_lp_X11_copy_26_16_2 4000 0 S (by omega) (by omega)
  rw [cp_0, sA_self] at this
  exact this
theorem co_26_16 (S : St) : r_X11_copy_26_16 S = some (0, sA S 16 (cp 6 (S.1 16) (S.1 26))) := by
  unfold r_X11_copy_26_16
  rw [cc_lp_X11_copy_26_16_2]
  rfl
theorem c_lp_X11_copy_27_17_2 : ∀ n k S, k ≤ 10 → 10 < n + k → lp_X11_copy_27_17_2 n (nI k) (sA S 17 (cp k (S.1 17) (S.1 27))) = some (sA S 17 (cp 10 (S.1 17) (S.1 27))) := by
  intro n
  induction n with
  | zero => intro k S h1 h2; omega
  | succ n ih =>
    intro k S h1 h2
    rw [lp_X11_copy_27_17_2]
    by_cases w : k = 10
    · subst w
      exact if_pos (show (10 : Int32) ≤ nI 10 by decide)
    have hk : k < 10 := by omega
    rw [if_neg (nle_l (k := 10) hk (by decide)), if_neg (nle_l (k := 10) hk (by decide)), nI_1]
    simp only [gdN hk (show 10 < 2 ^ 31 by decide), nI_clamp (show k < 2 ^ 31 by omega), gdM hk (show k < 2 ^ 31 by omega)]
    have key := ih (k + 1) S (by omega) (by omega)
    have e : (sA (sA S 17 (cp k (S.1 17) (S.1 27))) 17 (upd (cp k (S.1 17) (S.1 27)) k (S.1 27 k))) = sA S 17 (cp (k + 1) (S.1 17) (S.1 27)) := by
      rw [cp_s, sA_sA]
    show lp_X11_copy_27_17_2 n (nI (k + 1)) (sA (sA S 17 (cp k (S.1 17) (S.1 27))) 17 (upd (cp k (S.1 17) (S.1 27)) k (S.1 27 k))) = _
    rw [e]
    exact key
theorem cc_lp_X11_copy_27_17_2 (S : St) : lp_X11_copy_27_17_2 4000 0 S = some (sA S 17 (cp 10 (S.1 17) (S.1 27))) := by
  have := c_lp_X11_copy_27_17_2 4000 0 S (by omega) (by omega)
  rw [cp_0, sA_self] at this
  exact this
theorem co_27_17 (S : St) : r_X11_copy_27_17 S = some (0, sA S 17 (cp 10 (S.1 17) (S.1 27))) := by
  unfold r_X11_copy_27_17
  rw [cc_lp_X11_copy_27_17_2]
  rfl
theorem c_lp_X7_become_8_18_72 {hs : List Hr} : ∀ n k S, (∀ h, h < 6 → S.2.2 21 h = none ∨ ∃ a q, S.2.2 21 h = some a ∧ hq hs a = some q) → k ≤ 6 → 6 < n + k → lp_X7_become_8_18_72 hs n (nI k) (sQ S 11 (cpQ k (S.2.2 11) (S.2.2 21))) = some (sQ S 11 (cpQ 6 (S.2.2 11) (S.2.2 21))) := by
  intro n
  induction n with
  | zero => intro k S _ h1 h2; omega
  | succ n ih =>
    intro k S hw h1 h2
    rw [lp_X7_become_8_18_72]
    by_cases w : k = 6
    · subst w
      exact if_pos (show (6 : Int32) ≤ nI 6 by decide)
    have hk : k < 6 := by omega
    rw [if_neg (nle_l (k := 6) hk (by decide)), if_neg (nle_l (k := 6) hk (by decide)), nI_1]
    simp only [gdN hk (show 6 < 2 ^ 31 by decide), nI_clamp (show k < 2 ^ 31 by omega), gdM hk (show k < 2 ^ 31 by omega)]
    have key := ih (k + 1) S hw (by omega) (by omega)
    have e : sQ (sQ S 11 (cpQ k (S.2.2 11) (S.2.2 21))) 11 (va_up (cpQ k (S.2.2 11) (S.2.2 21)) k (S.2.2 21 k)) = sQ S 11 (cpQ (k + 1) (S.2.2 11) (S.2.2 21)) := by
      rw [cpQ_s, sQ_sQ]
    show oH hs (S.2.2 21 k) (lp_X7_become_8_18_72 hs n (nI (k + 1)) (sQ (sQ S 11 (cpQ k (S.2.2 11) (S.2.2 21))) 11 (va_up (cpQ k (S.2.2 11) (S.2.2 21)) k none))) (fun _ => lp_X7_become_8_18_72 hs n (nI (k + 1)) (sQ (sQ S 11 (cpQ k (S.2.2 11) (S.2.2 21))) 11 (va_up (cpQ k (S.2.2 11) (S.2.2 21)) k (S.2.2 21 k)))) = _
    rcases hw k hk with h | ⟨a, q, h, hh⟩
    · rw [h] at e ⊢
      show lp_X7_become_8_18_72 hs n (nI (k + 1)) (sQ (sQ S 11 (cpQ k (S.2.2 11) (S.2.2 21))) 11 (va_up (cpQ k (S.2.2 11) (S.2.2 21)) k none)) = _
      rw [e]
      exact key
    · rw [h] at e ⊢
      show (hq hs a).bind _ = _
      rw [hh]
      show lp_X7_become_8_18_72 hs n (nI (k + 1)) (sQ (sQ S 11 (cpQ k (S.2.2 11) (S.2.2 21))) 11 (va_up (cpQ k (S.2.2 11) (S.2.2 21)) k (some a))) = _
      rw [e]
      exact key
theorem cc_lp_X7_become_8_18_72 {hs : List Hr} (S : St) (hw : ∀ h, h < 6 → S.2.2 21 h = none ∨ ∃ a q, S.2.2 21 h = some a ∧ hq hs a = some q) : lp_X7_become_8_18_72 hs 4000 0 S = some (sQ S 11 (cpQ 6 (S.2.2 11) (S.2.2 21))) := by
  have := c_lp_X7_become_8_18_72 4000 0 S hw (by omega) (by omega)
  rw [cpQ_0, sQ_self] at this
  exact this
def cun0 (S : St) : St := (sI (sI (sI (sI (sI (sI S 8 0 (S.1 18 0)) 8 1 (S.1 18 1)) 8 2 (S.1 18 2)) 8 3 (S.1 18 3)) 8 4 (S.1 18 4)) 8 5 (S.1 18 5))
def cun1 (S : St) : St := sA (cun0 S) 9 (cp 8 (S.1 9) (S.1 19))
def cun2 (S : St) : St := sA (cun1 S) 10 (cp 8 (S.1 10) (S.1 20))
def cun3 (S : St) : St := sQ (cun2 S) 11 (cpQ 6 (S.2.2 11) (S.2.2 21))
def cun4 (S : St) : St := sA (cun3 S) 12 (cp 48 (S.1 12) (S.1 22))
def cun5 (S : St) : St := sA (cun4 S) 13 (cp 48 (S.1 13) (S.1 23))
def cun6 (S : St) : St := sA (cun5 S) 14 (cp 24 (S.1 14) (S.1 24))
def cun7 (S : St) : St := sA (cun6 S) 15 (cp 6 (S.1 15) (S.1 25))
def cun8 (S : St) : St := sA (cun7 S) 16 (cp 6 (S.1 16) (S.1 26))
def cun9 (S : St) : St := sA (cun8 S) 17 (cp 10 (S.1 17) (S.1 27))
theorem s_cun1 (S : St) : r_X11_copy_19_9 (cun0 S) = some (0, cun1 S) := co_19_9 (cun0 S)
theorem s_cun2 (S : St) : r_X11_copy_20_10 (cun1 S) = some (0, cun2 S) := co_20_10 (cun1 S)
theorem s_cun3 (S : St) {hs : List Hr} (hw : ∀ h, h < 6 → S.2.2 21 h = none ∨ ∃ a q, S.2.2 21 h = some a ∧ hq hs a = some q) : lp_X7_become_8_18_72 hs 4000 0 (cun2 S) = some (cun3 S) := cc_lp_X7_become_8_18_72 (cun2 S) hw
theorem s_cun4 (S : St) : r_X11_copy_22_12 (cun3 S) = some (0, cun4 S) := co_22_12 (cun3 S)
theorem s_cun5 (S : St) : r_X11_copy_23_13 (cun4 S) = some (0, cun5 S) := co_23_13 (cun4 S)
theorem s_cun6 (S : St) : r_X11_copy_24_14 (cun5 S) = some (0, cun6 S) := co_24_14 (cun5 S)
theorem s_cun7 (S : St) : r_X11_copy_25_15 (cun6 S) = some (0, cun7 S) := co_25_15 (cun6 S)
theorem s_cun8 (S : St) : r_X11_copy_26_16 (cun7 S) = some (0, cun8 S) := co_26_16 (cun7 S)
theorem s_cun9 (S : St) : r_X11_copy_27_17 (cun8 S) = some (0, cun9 S) := co_27_17 (cun8 S)
theorem be_cun (S : St) {hs : List Hr} (hw : ∀ h, h < 6 → S.2.2 21 h = none ∨ ∃ a q, S.2.2 21 h = some a ∧ hq hs a = some q) : r_X7_become_8_18 S hs = some (0, cun9 S) := by
  unfold r_X7_become_8_18
  refine ob_step (s_cun1 S) ?_
  refine ob_step (s_cun2 S) ?_
  refine ob_step (s_cun3 S hw) ?_
  refine ob_step (s_cun4 S) ?_
  refine ob_step (s_cun5 S) ?_
  refine ob_step (s_cun6 S) ?_
  refine ob_step (s_cun7 S) ?_
  refine ob_step (s_cun8 S) ?_
  refine ob_step (s_cun9 S) ?_
  exact rfl
theorem c_lp_X12_image_55 : ∀ n k S, k ≤ 8 → 8 < n + k → lp_X12_image_55 n (nI k) (sA (sA S 104 (cp k (S.1 104) (S.1 77))) 105 (cp k (S.1 105) (S.1 78))) = some (sA (sA S 104 (cp 8 (S.1 104) (S.1 77))) 105 (cp 8 (S.1 105) (S.1 78))) := by
  intro n
  induction n with
  | zero => intro k S h1 h2; omega
  | succ n ih =>
    intro k S h1 h2
    rw [lp_X12_image_55]
    by_cases w : k = 8
    · subst w
      exact if_pos (show (8 : Int32) ≤ nI 8 by decide)
    have hk : k < 8 := by omega
    rw [if_neg (nle_l (k := 8) hk (by decide)), nI_1]
    simp only [gdN hk (show 8 < 2 ^ 31 by decide), nI_clamp (show k < 2 ^ 31 by omega), gdM hk (show k < 2 ^ 31 by omega)]
    have key := ih (k + 1) S (by omega) (by omega)
    have e : (sA (sA (sA (sA S 104 (cp k (S.1 104) (S.1 77))) 105 (cp k (S.1 105) (S.1 78))) 104 (upd (cp k (S.1 104) (S.1 77)) k (S.1 77 k))) 105 (upd (cp k (S.1 105) (S.1 78)) k (S.1 78 k))) = sA (sA S 104 (cp (k + 1) (S.1 104) (S.1 77))) 105 (cp (k + 1) (S.1 105) (S.1 78)) := by
      rw [cp_s, cp_s, sA_sw _ (a := 105) (b := 104) (by decide), sA_sA, sA_sA]
    show lp_X12_image_55 n (nI (k + 1)) (sA (sA (sA (sA S 104 (cp k (S.1 104) (S.1 77))) 105 (cp k (S.1 105) (S.1 78))) 104 (upd (cp k (S.1 104) (S.1 77)) k (S.1 77 k))) 105 (upd (cp k (S.1 105) (S.1 78)) k (S.1 78 k))) = _
    rw [e]
    exact key
theorem cc_lp_X12_image_55 (S : St) : lp_X12_image_55 4000 0 S = some (sA (sA S 104 (cp 8 (S.1 104) (S.1 77))) 105 (cp 8 (S.1 105) (S.1 78))) := by
  have := c_lp_X12_image_55 4000 0 S (by omega) (by omega)
  rw [cp_0, cp_0, sA_self, sA_self] at this
  exact this
theorem c_lp_X12_image_93 : ∀ n k S, k ≤ 6 → 6 < n + k → lp_X12_image_93 n (nI k) (sA (sA (sA (sA S 106 (cp k (S.1 106) (S.1 79))) 107 (cp k (S.1 107) (S.1 80))) 111 (cp k (S.1 111) (S.1 101))) 112 (cp k (S.1 112) (S.1 102))) = some (sA (sA (sA (sA S 106 (cp 6 (S.1 106) (S.1 79))) 107 (cp 6 (S.1 107) (S.1 80))) 111 (cp 6 (S.1 111) (S.1 101))) 112 (cp 6 (S.1 112) (S.1 102))) := by
  intro n
  induction n with
  | zero => intro k S h1 h2; omega
  | succ n ih =>
    intro k S h1 h2
    rw [lp_X12_image_93]
    by_cases w : k = 6
    · subst w
      exact if_pos (show (6 : Int32) ≤ nI 6 by decide)
    have hk : k < 6 := by omega
    rw [if_neg (nle_l (k := 6) hk (by decide)), nI_1]
    simp only [gdN hk (show 6 < 2 ^ 31 by decide), nI_clamp (show k < 2 ^ 31 by omega), gdM hk (show k < 2 ^ 31 by omega)]
    have key := ih (k + 1) S (by omega) (by omega)
    have e : (sA (sA (sA (sA (sA (sA (sA (sA S 106 (cp k (S.1 106) (S.1 79))) 107 (cp k (S.1 107) (S.1 80))) 111 (cp k (S.1 111) (S.1 101))) 112 (cp k (S.1 112) (S.1 102))) 106 (upd (cp k (S.1 106) (S.1 79)) k (S.1 79 k))) 107 (upd (cp k (S.1 107) (S.1 80)) k (S.1 80 k))) 111 (upd (cp k (S.1 111) (S.1 101)) k (S.1 101 k))) 112 (upd (cp k (S.1 112) (S.1 102)) k (S.1 102 k))) = sA (sA (sA (sA S 106 (cp (k + 1) (S.1 106) (S.1 79))) 107 (cp (k + 1) (S.1 107) (S.1 80))) 111 (cp (k + 1) (S.1 111) (S.1 101))) 112 (cp (k + 1) (S.1 112) (S.1 102)) := by
      rw [cp_s, cp_s, cp_s, cp_s, sA_sw _ (a := 112) (b := 106) (by decide), sA_sw _ (a := 111) (b := 106) (by decide), sA_sw _ (a := 107) (b := 106) (by decide), sA_sA, sA_sw _ (a := 112) (b := 107) (by decide), sA_sw _ (a := 111) (b := 107) (by decide), sA_sA, sA_sw _ (a := 112) (b := 111) (by decide), sA_sA, sA_sA]
    show lp_X12_image_93 n (nI (k + 1)) (sA (sA (sA (sA (sA (sA (sA (sA S 106 (cp k (S.1 106) (S.1 79))) 107 (cp k (S.1 107) (S.1 80))) 111 (cp k (S.1 111) (S.1 101))) 112 (cp k (S.1 112) (S.1 102))) 106 (upd (cp k (S.1 106) (S.1 79)) k (S.1 79 k))) 107 (upd (cp k (S.1 107) (S.1 80)) k (S.1 80 k))) 111 (upd (cp k (S.1 111) (S.1 101)) k (S.1 101 k))) 112 (upd (cp k (S.1 112) (S.1 102)) k (S.1 102 k))) = _
    rw [e]
    exact key
theorem cc_lp_X12_image_93 (S : St) : lp_X12_image_93 4000 0 S = some (sA (sA (sA (sA S 106 (cp 6 (S.1 106) (S.1 79))) 107 (cp 6 (S.1 107) (S.1 80))) 111 (cp 6 (S.1 111) (S.1 101))) 112 (cp 6 (S.1 112) (S.1 102))) := by
  have := c_lp_X12_image_93 4000 0 S (by omega) (by omega)
  rw [cp_0, cp_0, cp_0, cp_0, sA_self, sA_self, sA_self, sA_self] at this
  exact this
theorem c_lp_X12_image_155 : ∀ n k S, k ≤ 24 → 24 < n + k → lp_X12_image_155 n (nI k) (sA S 108 (cp k (S.1 108) (S.1 81))) = some (sA S 108 (cp 24 (S.1 108) (S.1 81))) := by
  intro n
  induction n with
  | zero => intro k S h1 h2; omega
  | succ n ih =>
    intro k S h1 h2
    rw [lp_X12_image_155]
    by_cases w : k = 24
    · subst w
      exact if_pos (show (24 : Int32) ≤ nI 24 by decide)
    have hk : k < 24 := by omega
    rw [if_neg (nle_l (k := 24) hk (by decide)), nI_1]
    simp only [gdN hk (show 24 < 2 ^ 31 by decide), nI_clamp (show k < 2 ^ 31 by omega), gdM hk (show k < 2 ^ 31 by omega)]
    have key := ih (k + 1) S (by omega) (by omega)
    have e : (sA (sA S 108 (cp k (S.1 108) (S.1 81))) 108 (upd (cp k (S.1 108) (S.1 81)) k (S.1 81 k))) = sA S 108 (cp (k + 1) (S.1 108) (S.1 81)) := by
      rw [cp_s, sA_sA]
    show lp_X12_image_155 n (nI (k + 1)) (sA (sA S 108 (cp k (S.1 108) (S.1 81))) 108 (upd (cp k (S.1 108) (S.1 81)) k (S.1 81 k))) = _
    rw [e]
    exact key
theorem cc_lp_X12_image_155 (S : St) : lp_X12_image_155 4000 0 S = some (sA S 108 (cp 24 (S.1 108) (S.1 81))) := by
  have := c_lp_X12_image_155 4000 0 S (by omega) (by omega)
  rw [cp_0, sA_self] at this
  exact this
theorem c_lp_X12_image_181 : ∀ n k S, k ≤ 48 → 48 < n + k → lp_X12_image_181 n (nI k) (sA (sA S 109 (cp k (S.1 109) (S.1 82))) 110 (cp k (S.1 110) (S.1 83))) = some (sA (sA S 109 (cp 48 (S.1 109) (S.1 82))) 110 (cp 48 (S.1 110) (S.1 83))) := by
  intro n
  induction n with
  | zero => intro k S h1 h2; omega
  | succ n ih =>
    intro k S h1 h2
    rw [lp_X12_image_181]
    by_cases w : k = 48
    · subst w
      exact if_pos (show (48 : Int32) ≤ nI 48 by decide)
    have hk : k < 48 := by omega
    rw [if_neg (nle_l (k := 48) hk (by decide)), nI_1]
    simp only [gdN hk (show 48 < 2 ^ 31 by decide), nI_clamp (show k < 2 ^ 31 by omega), gdM hk (show k < 2 ^ 31 by omega)]
    have key := ih (k + 1) S (by omega) (by omega)
    have e : (sA (sA (sA (sA S 109 (cp k (S.1 109) (S.1 82))) 110 (cp k (S.1 110) (S.1 83))) 109 (upd (cp k (S.1 109) (S.1 82)) k (S.1 82 k))) 110 (upd (cp k (S.1 110) (S.1 83)) k (S.1 83 k))) = sA (sA S 109 (cp (k + 1) (S.1 109) (S.1 82))) 110 (cp (k + 1) (S.1 110) (S.1 83)) := by
      rw [cp_s, cp_s, sA_sw _ (a := 110) (b := 109) (by decide), sA_sA, sA_sA]
    show lp_X12_image_181 n (nI (k + 1)) (sA (sA (sA (sA S 109 (cp k (S.1 109) (S.1 82))) 110 (cp k (S.1 110) (S.1 83))) 109 (upd (cp k (S.1 109) (S.1 82)) k (S.1 82 k))) 110 (upd (cp k (S.1 110) (S.1 83)) k (S.1 83 k))) = _
    rw [e]
    exact key
theorem cc_lp_X12_image_181 (S : St) : lp_X12_image_181 4000 0 S = some (sA (sA S 109 (cp 48 (S.1 109) (S.1 82))) 110 (cp 48 (S.1 110) (S.1 83))) := by
  have := c_lp_X12_image_181 4000 0 S (by omega) (by omega)
  rw [cp_0, cp_0, sA_self, sA_self] at this
  exact this
theorem c_lp_X12_image_219 : ∀ n k S, k ≤ 10 → 10 < n + k → lp_X12_image_219 n (nI k) (sA S 113 (cp k (S.1 113) (S.1 103))) = some (sA S 113 (cp 10 (S.1 113) (S.1 103))) := by
  intro n
  induction n with
  | zero => intro k S h1 h2; omega
  | succ n ih =>
    intro k S h1 h2
    rw [lp_X12_image_219]
    by_cases w : k = 10
    · subst w
      exact if_pos (show (10 : Int32) ≤ nI 10 by decide)
    have hk : k < 10 := by omega
    rw [if_neg (nle_l (k := 10) hk (by decide)), nI_1]
    simp only [gdN hk (show 10 < 2 ^ 31 by decide), nI_clamp (show k < 2 ^ 31 by omega), gdM hk (show k < 2 ^ 31 by omega)]
    have key := ih (k + 1) S (by omega) (by omega)
    have e : (sA (sA S 113 (cp k (S.1 113) (S.1 103))) 113 (upd (cp k (S.1 113) (S.1 103)) k (S.1 103 k))) = sA S 113 (cp (k + 1) (S.1 113) (S.1 103)) := by
      rw [cp_s, sA_sA]
    show lp_X12_image_219 n (nI (k + 1)) (sA (sA S 113 (cp k (S.1 113) (S.1 103))) 113 (upd (cp k (S.1 113) (S.1 103)) k (S.1 103 k))) = _
    rw [e]
    exact key
theorem cc_lp_X12_image_219 (S : St) : lp_X12_image_219 4000 0 S = some (sA S 113 (cp 10 (S.1 113) (S.1 103))) := by
  have := c_lp_X12_image_219 4000 0 S (by omega) (by omega)
  rw [cp_0, sA_self] at this
  exact this
def mim0 (S : St) : St := (sI (sI (sI (sI (sI (sI (sI S 76 42 1) 76 43 (S.1 76 11)) 76 44 (S.1 76 0)) 76 45 (S.1 76 1)) 76 46 (S.1 76 2)) 76 47 (S.1 76 37)) 76 48 (S.1 76 40))
def mim1 (S : St) : St := (sA (sA (mim0 S) 104 (cp 8 (S.1 104) (S.1 77))) 105 (cp 8 (S.1 105) (S.1 78)))
theorem s_mim1 (S : St) : lp_X12_image_55 4000 0 (mim0 S) = some (mim1 S) := cc_lp_X12_image_55 (mim0 S)
def mim2 (S : St) : St := (sA (sA (sA (sA (mim1 S) 106 (cp 6 (S.1 106) (S.1 79))) 107 (cp 6 (S.1 107) (S.1 80))) 111 (cp 6 (S.1 111) (S.1 101))) 112 (cp 6 (S.1 112) (S.1 102)))
theorem s_mim2 (S : St) : lp_X12_image_93 4000 0 (mim1 S) = some (mim2 S) := cc_lp_X12_image_93 (mim1 S)
def mim3 (S : St) : St := (sA (mim2 S) 108 (cp 24 (S.1 108) (S.1 81)))
theorem s_mim3 (S : St) : lp_X12_image_155 4000 0 (mim2 S) = some (mim3 S) := cc_lp_X12_image_155 (mim2 S)
def mim4 (S : St) : St := (sA (sA (mim3 S) 109 (cp 48 (S.1 109) (S.1 82))) 110 (cp 48 (S.1 110) (S.1 83)))
theorem s_mim4 (S : St) : lp_X12_image_181 4000 0 (mim3 S) = some (mim4 S) := cc_lp_X12_image_181 (mim3 S)
def mim5 (S : St) : St := (sA (mim4 S) 113 (cp 10 (S.1 113) (S.1 103)))
theorem s_mim5 (S : St) : lp_X12_image_219 4000 0 (mim4 S) = some (mim5 S) := cc_lp_X12_image_219 (mim4 S)
theorem c_lp_X12_undo_60 : ∀ n k S, k ≤ 8 → 8 < n + k → lp_X12_undo_60 n (nI k) (sA (sA S 77 (cp k (S.1 77) (S.1 104))) 78 (cp k (S.1 78) (S.1 105))) = some (sA (sA S 77 (cp 8 (S.1 77) (S.1 104))) 78 (cp 8 (S.1 78) (S.1 105))) := by
  intro n
  induction n with
  | zero => intro k S h1 h2; omega
  | succ n ih =>
    intro k S h1 h2
    rw [lp_X12_undo_60]
    by_cases w : k = 8
    · subst w
      exact if_pos (show (8 : Int32) ≤ nI 8 by decide)
    have hk : k < 8 := by omega
    rw [if_neg (nle_l (k := 8) hk (by decide)), nI_1]
    simp only [gdN hk (show 8 < 2 ^ 31 by decide), nI_clamp (show k < 2 ^ 31 by omega), gdM hk (show k < 2 ^ 31 by omega)]
    have key := ih (k + 1) S (by omega) (by omega)
    have e : (sA (sA (sA (sA S 77 (cp k (S.1 77) (S.1 104))) 78 (cp k (S.1 78) (S.1 105))) 77 (upd (cp k (S.1 77) (S.1 104)) k (S.1 104 k))) 78 (upd (cp k (S.1 78) (S.1 105)) k (S.1 105 k))) = sA (sA S 77 (cp (k + 1) (S.1 77) (S.1 104))) 78 (cp (k + 1) (S.1 78) (S.1 105)) := by
      rw [cp_s, cp_s, sA_sw _ (a := 78) (b := 77) (by decide), sA_sA, sA_sA]
    show lp_X12_undo_60 n (nI (k + 1)) (sA (sA (sA (sA S 77 (cp k (S.1 77) (S.1 104))) 78 (cp k (S.1 78) (S.1 105))) 77 (upd (cp k (S.1 77) (S.1 104)) k (S.1 104 k))) 78 (upd (cp k (S.1 78) (S.1 105)) k (S.1 105 k))) = _
    rw [e]
    exact key
theorem cc_lp_X12_undo_60 (S : St) : lp_X12_undo_60 4000 0 S = some (sA (sA S 77 (cp 8 (S.1 77) (S.1 104))) 78 (cp 8 (S.1 78) (S.1 105))) := by
  have := c_lp_X12_undo_60 4000 0 S (by omega) (by omega)
  rw [cp_0, cp_0, sA_self, sA_self] at this
  exact this
theorem c_lp_X12_undo_98 : ∀ n k S, k ≤ 6 → 6 < n + k → lp_X12_undo_98 n (nI k) (sA (sA (sA (sA S 79 (cp k (S.1 79) (S.1 106))) 80 (cp k (S.1 80) (S.1 107))) 101 (cp k (S.1 101) (S.1 111))) 102 (cp k (S.1 102) (S.1 112))) = some (sA (sA (sA (sA S 79 (cp 6 (S.1 79) (S.1 106))) 80 (cp 6 (S.1 80) (S.1 107))) 101 (cp 6 (S.1 101) (S.1 111))) 102 (cp 6 (S.1 102) (S.1 112))) := by
  intro n
  induction n with
  | zero => intro k S h1 h2; omega
  | succ n ih =>
    intro k S h1 h2
    rw [lp_X12_undo_98]
    by_cases w : k = 6
    · subst w
      exact if_pos (show (6 : Int32) ≤ nI 6 by decide)
    have hk : k < 6 := by omega
    rw [if_neg (nle_l (k := 6) hk (by decide)), nI_1]
    simp only [gdN hk (show 6 < 2 ^ 31 by decide), nI_clamp (show k < 2 ^ 31 by omega), gdM hk (show k < 2 ^ 31 by omega)]
    have key := ih (k + 1) S (by omega) (by omega)
    have e : (sA (sA (sA (sA (sA (sA (sA (sA S 79 (cp k (S.1 79) (S.1 106))) 80 (cp k (S.1 80) (S.1 107))) 101 (cp k (S.1 101) (S.1 111))) 102 (cp k (S.1 102) (S.1 112))) 79 (upd (cp k (S.1 79) (S.1 106)) k (S.1 106 k))) 80 (upd (cp k (S.1 80) (S.1 107)) k (S.1 107 k))) 101 (upd (cp k (S.1 101) (S.1 111)) k (S.1 111 k))) 102 (upd (cp k (S.1 102) (S.1 112)) k (S.1 112 k))) = sA (sA (sA (sA S 79 (cp (k + 1) (S.1 79) (S.1 106))) 80 (cp (k + 1) (S.1 80) (S.1 107))) 101 (cp (k + 1) (S.1 101) (S.1 111))) 102 (cp (k + 1) (S.1 102) (S.1 112)) := by
      rw [cp_s, cp_s, cp_s, cp_s, sA_sw _ (a := 102) (b := 79) (by decide), sA_sw _ (a := 101) (b := 79) (by decide), sA_sw _ (a := 80) (b := 79) (by decide), sA_sA, sA_sw _ (a := 102) (b := 80) (by decide), sA_sw _ (a := 101) (b := 80) (by decide), sA_sA, sA_sw _ (a := 102) (b := 101) (by decide), sA_sA, sA_sA]
    show lp_X12_undo_98 n (nI (k + 1)) (sA (sA (sA (sA (sA (sA (sA (sA S 79 (cp k (S.1 79) (S.1 106))) 80 (cp k (S.1 80) (S.1 107))) 101 (cp k (S.1 101) (S.1 111))) 102 (cp k (S.1 102) (S.1 112))) 79 (upd (cp k (S.1 79) (S.1 106)) k (S.1 106 k))) 80 (upd (cp k (S.1 80) (S.1 107)) k (S.1 107 k))) 101 (upd (cp k (S.1 101) (S.1 111)) k (S.1 111 k))) 102 (upd (cp k (S.1 102) (S.1 112)) k (S.1 112 k))) = _
    rw [e]
    exact key
theorem cc_lp_X12_undo_98 (S : St) : lp_X12_undo_98 4000 0 S = some (sA (sA (sA (sA S 79 (cp 6 (S.1 79) (S.1 106))) 80 (cp 6 (S.1 80) (S.1 107))) 101 (cp 6 (S.1 101) (S.1 111))) 102 (cp 6 (S.1 102) (S.1 112))) := by
  have := c_lp_X12_undo_98 4000 0 S (by omega) (by omega)
  rw [cp_0, cp_0, cp_0, cp_0, sA_self, sA_self, sA_self, sA_self] at this
  exact this
theorem c_lp_X12_undo_160 : ∀ n k S, k ≤ 24 → 24 < n + k → lp_X12_undo_160 n (nI k) (sA S 81 (cp k (S.1 81) (S.1 108))) = some (sA S 81 (cp 24 (S.1 81) (S.1 108))) := by
  intro n
  induction n with
  | zero => intro k S h1 h2; omega
  | succ n ih =>
    intro k S h1 h2
    rw [lp_X12_undo_160]
    by_cases w : k = 24
    · subst w
      exact if_pos (show (24 : Int32) ≤ nI 24 by decide)
    have hk : k < 24 := by omega
    rw [if_neg (nle_l (k := 24) hk (by decide)), nI_1]
    simp only [gdN hk (show 24 < 2 ^ 31 by decide), nI_clamp (show k < 2 ^ 31 by omega), gdM hk (show k < 2 ^ 31 by omega)]
    have key := ih (k + 1) S (by omega) (by omega)
    have e : (sA (sA S 81 (cp k (S.1 81) (S.1 108))) 81 (upd (cp k (S.1 81) (S.1 108)) k (S.1 108 k))) = sA S 81 (cp (k + 1) (S.1 81) (S.1 108)) := by
      rw [cp_s, sA_sA]
    show lp_X12_undo_160 n (nI (k + 1)) (sA (sA S 81 (cp k (S.1 81) (S.1 108))) 81 (upd (cp k (S.1 81) (S.1 108)) k (S.1 108 k))) = _
    rw [e]
    exact key
theorem cc_lp_X12_undo_160 (S : St) : lp_X12_undo_160 4000 0 S = some (sA S 81 (cp 24 (S.1 81) (S.1 108))) := by
  have := c_lp_X12_undo_160 4000 0 S (by omega) (by omega)
  rw [cp_0, sA_self] at this
  exact this
theorem c_lp_X12_undo_186 : ∀ n k S, k ≤ 48 → 48 < n + k → lp_X12_undo_186 n (nI k) (sA (sA S 82 (cp k (S.1 82) (S.1 109))) 83 (cp k (S.1 83) (S.1 110))) = some (sA (sA S 82 (cp 48 (S.1 82) (S.1 109))) 83 (cp 48 (S.1 83) (S.1 110))) := by
  intro n
  induction n with
  | zero => intro k S h1 h2; omega
  | succ n ih =>
    intro k S h1 h2
    rw [lp_X12_undo_186]
    by_cases w : k = 48
    · subst w
      exact if_pos (show (48 : Int32) ≤ nI 48 by decide)
    have hk : k < 48 := by omega
    rw [if_neg (nle_l (k := 48) hk (by decide)), nI_1]
    simp only [gdN hk (show 48 < 2 ^ 31 by decide), nI_clamp (show k < 2 ^ 31 by omega), gdM hk (show k < 2 ^ 31 by omega)]
    have key := ih (k + 1) S (by omega) (by omega)
    have e : (sA (sA (sA (sA S 82 (cp k (S.1 82) (S.1 109))) 83 (cp k (S.1 83) (S.1 110))) 82 (upd (cp k (S.1 82) (S.1 109)) k (S.1 109 k))) 83 (upd (cp k (S.1 83) (S.1 110)) k (S.1 110 k))) = sA (sA S 82 (cp (k + 1) (S.1 82) (S.1 109))) 83 (cp (k + 1) (S.1 83) (S.1 110)) := by
      rw [cp_s, cp_s, sA_sw _ (a := 83) (b := 82) (by decide), sA_sA, sA_sA]
    show lp_X12_undo_186 n (nI (k + 1)) (sA (sA (sA (sA S 82 (cp k (S.1 82) (S.1 109))) 83 (cp k (S.1 83) (S.1 110))) 82 (upd (cp k (S.1 82) (S.1 109)) k (S.1 109 k))) 83 (upd (cp k (S.1 83) (S.1 110)) k (S.1 110 k))) = _
    rw [e]
    exact key
theorem cc_lp_X12_undo_186 (S : St) : lp_X12_undo_186 4000 0 S = some (sA (sA S 82 (cp 48 (S.1 82) (S.1 109))) 83 (cp 48 (S.1 83) (S.1 110))) := by
  have := c_lp_X12_undo_186 4000 0 S (by omega) (by omega)
  rw [cp_0, cp_0, sA_self, sA_self] at this
  exact this
theorem c_lp_X12_undo_224 : ∀ n k S, k ≤ 10 → 10 < n + k → lp_X12_undo_224 n (nI k) (sA S 103 (cp k (S.1 103) (S.1 113))) = some (sA S 103 (cp 10 (S.1 103) (S.1 113))) := by
  intro n
  induction n with
  | zero => intro k S h1 h2; omega
  | succ n ih =>
    intro k S h1 h2
    rw [lp_X12_undo_224]
    by_cases w : k = 10
    · subst w
      exact if_pos (show (10 : Int32) ≤ nI 10 by decide)
    have hk : k < 10 := by omega
    rw [if_neg (nle_l (k := 10) hk (by decide)), nI_1]
    simp only [gdN hk (show 10 < 2 ^ 31 by decide), nI_clamp (show k < 2 ^ 31 by omega), gdM hk (show k < 2 ^ 31 by omega)]
    have key := ih (k + 1) S (by omega) (by omega)
    have e : (sA (sA S 103 (cp k (S.1 103) (S.1 113))) 103 (upd (cp k (S.1 103) (S.1 113)) k (S.1 113 k))) = sA S 103 (cp (k + 1) (S.1 103) (S.1 113)) := by
      rw [cp_s, sA_sA]
    show lp_X12_undo_224 n (nI (k + 1)) (sA (sA S 103 (cp k (S.1 103) (S.1 113))) 103 (upd (cp k (S.1 103) (S.1 113)) k (S.1 113 k))) = _
    rw [e]
    exact key
theorem cc_lp_X12_undo_224 (S : St) : lp_X12_undo_224 4000 0 S = some (sA S 103 (cp 10 (S.1 103) (S.1 113))) := by
  have := c_lp_X12_undo_224 4000 0 S (by omega) (by omega)
  rw [cp_0, sA_self] at this
  exact this
def mun0 (S : St) : St := (sI (sI (sI (sI (sI (sI S 76 11 (S.1 76 43)) 76 0 (S.1 76 44)) 76 1 (S.1 76 45)) 76 2 (S.1 76 46)) 76 37 (S.1 76 47)) 76 40 (S.1 76 48))
def mun1 (S : St) : St := (sA (sA (mun0 S) 77 (cp 8 (S.1 77) (S.1 104))) 78 (cp 8 (S.1 78) (S.1 105)))
theorem s_mun1 (S : St) : lp_X12_undo_60 4000 0 (mun0 S) = some (mun1 S) := cc_lp_X12_undo_60 (mun0 S)
def mun2 (S : St) : St := (sA (sA (sA (sA (mun1 S) 79 (cp 6 (S.1 79) (S.1 106))) 80 (cp 6 (S.1 80) (S.1 107))) 101 (cp 6 (S.1 101) (S.1 111))) 102 (cp 6 (S.1 102) (S.1 112)))
theorem s_mun2 (S : St) : lp_X12_undo_98 4000 0 (mun1 S) = some (mun2 S) := cc_lp_X12_undo_98 (mun1 S)
def mun3 (S : St) : St := (sA (mun2 S) 81 (cp 24 (S.1 81) (S.1 108)))
theorem s_mun3 (S : St) : lp_X12_undo_160 4000 0 (mun2 S) = some (mun3 S) := cc_lp_X12_undo_160 (mun2 S)
def mun4 (S : St) : St := (sA (sA (mun3 S) 82 (cp 48 (S.1 82) (S.1 109))) 83 (cp 48 (S.1 83) (S.1 110)))
theorem s_mun4 (S : St) : lp_X12_undo_186 4000 0 (mun3 S) = some (mun4 S) := cc_lp_X12_undo_186 (mun3 S)
def mun5 (S : St) : St := (sA (mun4 S) 103 (cp 10 (S.1 103) (S.1 113)))
theorem s_mun5 (S : St) : lp_X12_undo_224 4000 0 (mun4 S) = some (mun5 S) := cc_lp_X12_undo_224 (mun4 S)
theorem c_lp_X12_save_10 : ∀ n k S, k ≤ 48 → 48 < n + k → lp_X12_save_10 n (nI k) (sA (sA S 95 (cp k (S.1 95) (S.1 82))) 96 (cp k (S.1 96) (S.1 83))) = some (sA (sA S 95 (cp 48 (S.1 95) (S.1 82))) 96 (cp 48 (S.1 96) (S.1 83))) := by
  intro n
  induction n with
  | zero => intro k S h1 h2; omega
  | succ n ih =>
    intro k S h1 h2
    rw [lp_X12_save_10]
    by_cases w : k = 48
    · subst w
      exact if_pos (show (48 : Int32) ≤ nI 48 by decide)
    have hk : k < 48 := by omega
    rw [if_neg (nle_l (k := 48) hk (by decide)), nI_1]
    simp only [gdN hk (show 48 < 2 ^ 31 by decide), nI_clamp (show k < 2 ^ 31 by omega), gdM hk (show k < 2 ^ 31 by omega)]
    have key := ih (k + 1) S (by omega) (by omega)
    have e : (sA (sA (sA (sA S 95 (cp k (S.1 95) (S.1 82))) 96 (cp k (S.1 96) (S.1 83))) 95 (upd (cp k (S.1 95) (S.1 82)) k (S.1 82 k))) 96 (upd (cp k (S.1 96) (S.1 83)) k (S.1 83 k))) = sA (sA S 95 (cp (k + 1) (S.1 95) (S.1 82))) 96 (cp (k + 1) (S.1 96) (S.1 83)) := by
      rw [cp_s, cp_s, sA_sw _ (a := 96) (b := 95) (by decide), sA_sA, sA_sA]
    show lp_X12_save_10 n (nI (k + 1)) (sA (sA (sA (sA S 95 (cp k (S.1 95) (S.1 82))) 96 (cp k (S.1 96) (S.1 83))) 95 (upd (cp k (S.1 95) (S.1 82)) k (S.1 82 k))) 96 (upd (cp k (S.1 96) (S.1 83)) k (S.1 83 k))) = _
    rw [e]
    exact key
theorem cc_lp_X12_save_10 (S : St) : lp_X12_save_10 4000 0 S = some (sA (sA S 95 (cp 48 (S.1 95) (S.1 82))) 96 (cp 48 (S.1 96) (S.1 83))) := by
  have := c_lp_X12_save_10 4000 0 S (by omega) (by omega)
  rw [cp_0, cp_0, sA_self, sA_self] at this
  exact this
theorem c_lp_X12_putBack_10 : ∀ n k S, k ≤ 48 → 48 < n + k → lp_X12_putBack_10 n (nI k) (sA (sA S 82 (cp k (S.1 82) (S.1 95))) 83 (cp k (S.1 83) (S.1 96))) = some (sA (sA S 82 (cp 48 (S.1 82) (S.1 95))) 83 (cp 48 (S.1 83) (S.1 96))) := by
  intro n
  induction n with
  | zero => intro k S h1 h2; omega
  | succ n ih =>
    intro k S h1 h2
    rw [lp_X12_putBack_10]
    by_cases w : k = 48
    · subst w
      exact if_pos (show (48 : Int32) ≤ nI 48 by decide)
    have hk : k < 48 := by omega
    rw [if_neg (nle_l (k := 48) hk (by decide)), nI_1]
    simp only [gdN hk (show 48 < 2 ^ 31 by decide), nI_clamp (show k < 2 ^ 31 by omega), gdM hk (show k < 2 ^ 31 by omega)]
    have key := ih (k + 1) S (by omega) (by omega)
    have e : (sA (sA (sA (sA S 82 (cp k (S.1 82) (S.1 95))) 83 (cp k (S.1 83) (S.1 96))) 82 (upd (cp k (S.1 82) (S.1 95)) k (S.1 95 k))) 83 (upd (cp k (S.1 83) (S.1 96)) k (S.1 96 k))) = sA (sA S 82 (cp (k + 1) (S.1 82) (S.1 95))) 83 (cp (k + 1) (S.1 83) (S.1 96)) := by
      rw [cp_s, cp_s, sA_sw _ (a := 83) (b := 82) (by decide), sA_sA, sA_sA]
    show lp_X12_putBack_10 n (nI (k + 1)) (sA (sA (sA (sA S 82 (cp k (S.1 82) (S.1 95))) 83 (cp k (S.1 83) (S.1 96))) 82 (upd (cp k (S.1 82) (S.1 95)) k (S.1 95 k))) 83 (upd (cp k (S.1 83) (S.1 96)) k (S.1 96 k))) = _
    rw [e]
    exact key
theorem cc_lp_X12_putBack_10 (S : St) : lp_X12_putBack_10 4000 0 S = some (sA (sA S 82 (cp 48 (S.1 82) (S.1 95))) 83 (cp 48 (S.1 83) (S.1 96))) := by
  have := c_lp_X12_putBack_10 4000 0 S (by omega) (by omega)
  rw [cp_0, cp_0, sA_self, sA_self] at this
  exact this
theorem mi_im (S : St) : r_X12_image S = some ((mim5 S).1 76 1, mim5 S) := by
  unfold r_X12_image
  refine ob_step (s_mim1 S) ?_
  refine ob_step (s_mim2 S) ?_
  refine ob_step (s_mim3 S) ?_
  refine ob_step (s_mim4 S) ?_
  refine ob_step (s_mim5 S) ?_
  exact rfl
theorem mu_un (S : St) (h : ¬ S.1 76 42 = 0) : r_X12_undo S = some ((mun5 S).1 76 1, mun5 S) := by
  unfold r_X12_undo
  rw [if_neg h]
  refine ob_step (s_mun1 S) ?_
  refine ob_step (s_mun2 S) ?_
  refine ob_step (s_mun3 S) ?_
  refine ob_step (s_mun4 S) ?_
  refine ob_step (s_mun5 S) ?_
  exact rfl
def ec6 {f g : Nat → Int32} (h0 : f 0 = g 0) (h1 : f 1 = g 1) (h2 : f 2 = g 2) (h3 : f 3 = g 3) (h4 : f 4 = g 4) (h5 : f 5 = g 5) : ∀ j, j < 6 → f j = g j := by
  intro j hj
  match j, hj with
  | 0, _ => exact h0
  | 1, _ => exact h1
  | 2, _ => exact h2
  | 3, _ => exact h3
  | 4, _ => exact h4
  | 5, _ => exact h5
  | j + 6, h => exact absurd h (by omega)
theorem k_image : K30 Inv := by
  intro S hs hI
  obtain ⟨nb, hB, ⟨ns, nh, nd, nf, ne, ⟨⟨c1, c2, c3⟩, ⟨d1, d2, d3⟩, ⟨y1, y2, y3⟩, ⟨f1, f2, f3⟩, ⟨b1, b2, b3⟩, t1, t2⟩, hA, hT, hR, hF, hK, hW⟩, hIm, hTx, hTr, hTp, hHo, hL⟩ := id hI
  refine ⟨nI nh, sI (cim9 S) 7 2 1, mim5 (sI (cim9 S) 7 2 1), ?_, ?_, ?_⟩
  · unfold r_X11_image
    rw [be_cim S hW.2]
    show some (S.1 8 3, sI (cim9 S) 7 2 1) = _
    rw [d2]
  · rw [mi_im]
    show some (S.1 76 1, _) = _
    rw [d3]
  · refine ⟨nb, hB, ⟨ns, nh, nd, nf, ne, ⟨⟨c1, c2, c3⟩, ⟨d1, d2, d3⟩, ⟨y1, y2, y3⟩, ⟨f1, f2, f3⟩, ⟨b1, b2, b3⟩, t1, t2⟩, hA, hT, hR, hF, hK, hW⟩, Or.inr ⟨rfl, rfl, ?_⟩, hTx, hTr, hTp, hHo, hL⟩
    refine Core.tr (cs := S.1 8) (g9 := S.1 9) (g10 := S.1 10) (g12 := S.1 12) (g13 := S.1 13) (g14 := S.1 14) (g15 := S.1 15) (g16 := S.1 16) (g17 := S.1 17) (who := S.2.2 11) (g77 := S.1 77) (g78 := S.1 78) (g79 := S.1 79) (g80 := S.1 80) (g81 := S.1 81) (g82 := S.1 82) (g83 := S.1 83) (g101 := S.1 101) (g102 := S.1 102) (g103 := S.1 103) ⟨ns, nh, nd, nf, ne, ⟨⟨c1, c2, c3⟩, ⟨d1, d2, d3⟩, ⟨y1, y2, y3⟩, ⟨f1, f2, f3⟩, ⟨b1, b2, b3⟩, t1, t2⟩, hA, hT, hR, hF, hK, hW⟩ (ec6 rfl rfl rfl rfl rfl rfl) (cp_eq _ _ _) (cp_eq _ _ _) (cp_eq _ _ _) (cp_eq _ _ _) (cp_eq _ _ _) (cp_eq _ _ _) (cp_eq _ _ _) (cp_eq _ _ _) (fun j hj => if_pos hj) (cp_eq _ _ _) (cp_eq _ _ _) (cp_eq _ _ _) (cp_eq _ _ _) (cp_eq _ _ _) (cp_eq _ _ _) (cp_eq _ _ _) (cp_eq _ _ _) (cp_eq _ _ _) (cp_eq _ _ _)
theorem k_undo : K31 Inv := by
  intro S hs hI
  have hI0 := hI
  obtain ⟨nb, hB, hN, hIm, hTx, hTr, hTp, hHo, hL⟩ := hI
  rcases hIm with ⟨h1, h2⟩ | ⟨h1, h2, hK⟩
  · refine ⟨-3, S, S, ?_, ?_, hI0⟩
    · unfold r_X11_undo
      rw [if_pos h1]
    · unfold r_X12_undo
      rw [if_pos h2]
  · have hK2 := hK
    obtain ⟨ns, nh, nd, nf, ne, ⟨-, ⟨d1, d2, d3⟩, -, -, -, -, -⟩, -, -, -, -, -, hW⟩ := hK
    refine ⟨nI nh, cun9 S, mun5 (cun9 S), ?_, ?_, ?_⟩
    · unfold r_X11_undo
      rw [if_neg (by rw [h1]; decide), be_cun S hW.2]
      show some (S.1 18 3, cun9 S) = _
      rw [d2]
    · rw [mu_un]
      · show some (S.1 76 45, _) = _
        rw [d3]
      · show ¬ S.1 76 42 = 0
        rw [h2]
        decide
    · refine ⟨nb, hB, ?_, Or.inr ⟨h1, h2, hK2⟩, hTx, hTr, hTp, hHo, hL⟩
      exact Core.tr hK2 (ec6 rfl rfl rfl rfl rfl rfl) (cp_eq _ _ _) (cp_eq _ _ _) (cp_eq _ _ _) (cp_eq _ _ _) (cp_eq _ _ _) (cp_eq _ _ _) (cp_eq _ _ _) (cp_eq _ _ _) (fun j hj => if_pos hj) (cp_eq _ _ _) (cp_eq _ _ _) (cp_eq _ _ _) (cp_eq _ _ _) (cp_eq _ _ _) (cp_eq _ _ _) (cp_eq _ _ _) (cp_eq _ _ _) (cp_eq _ _ _) (cp_eq _ _ _)
