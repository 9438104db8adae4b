/-! LOOP: the law over the whole script, with any invariant that the 40 cases keep; written by gen30.py -/
abbrev K0 (I : St → List Hr → Prop) : Prop := ∀ (S : St) (hs : List Hr) (a1 : Int32) (a2 : Int32), I S hs → ∃ (v : Int32) (S1 : St) (S2 : St), r_X11_story S a1 a2 = some (v, S1) ∧ r_X12_story S1 a1 a2 = some (v, S2) ∧ I S2 hs
abbrev K1 (I : St → List Hr → Prop) : Prop := ∀ (S : St) (hs : List Hr) (a1 : Int32) (a2 : Int32), I S hs → ∃ (v : Int32) (S1 : St) (hs1 : List Hr) (S2 : St), r_X11_hearer S hs a1 a2 = some (v, S1, hs1) ∧ r_X12_hearer S1 a1 a2 = some (v, S2) ∧ I S2 hs1
abbrev K2 (I : St → List Hr → Prop) : Prop := ∀ (S : St) (hs : List Hr) (a1 : Int32) (a2 : Int32), I S hs → ∃ (v : Int32) (S1 : St) (S2 : St), r_X11_of S hs a1 a2 = some (v, S1) ∧ r_X12_of S1 a1 a2 = some (v, S2) ∧ I S2 hs
abbrev K3 (I : St → List Hr → Prop) : Prop := ∀ (S : St) (hs : List Hr) (a1 : Int32) (a2 : Int32), I S hs → ∃ (v : Int32), r_X11_at S a1 a2 = some v ∧ r_X12_at S a1 a2 = some v
abbrev K4 (I : St → List Hr → Prop) : Prop := ∀ (S : St) (hs : List Hr) (a1 : Int32) (a2 : Int32), I S hs → ∃ (v : Int32) (S1 : St) (S2 : St), r_X11_good S a1 a2 = some (v, S1) ∧ r_X12_good S1 a1 a2 = some (v, S2) ∧ I S2 hs
abbrev K5 (I : St → List Hr → Prop) : Prop := ∀ (S : St) (hs : List Hr) (a1 : Int32) (a2 : Int32) (a3 : Int32), I S hs → ∃ (v : Int32) (S1 : St) (S2 : St), r_X11_had S hs a1 a2 a3 = some (v, S1) ∧ r_X12_had S1 a1 a2 a3 = some (v, S2) ∧ I S2 hs
abbrev K6 (I : St → List Hr → Prop) : Prop := ∀ (S : St) (hs : List Hr) (a1 : Int32) (a2 : Int32) (a3 : Int32), I S hs → ∃ (v : Int32) (S1 : St) (S2 : St), r_X11_row S hs a1 a2 a3 = some (v, S1) ∧ r_X12_row S1 a1 a2 a3 = some (v, S2) ∧ I S2 hs
abbrev K7 (I : St → List Hr → Prop) : Prop := ∀ (S : St) (hs : List Hr) (a1 : Int32), I S hs → ∃ (v : Int32) (S1 : St) (S2 : St), r_X11_feed S a1 = some (v, S1) ∧ r_X12_feed S1 a1 = some (v, S2) ∧ I S2 hs
abbrev K8 (I : St → List Hr → Prop) : Prop := ∀ (S : St) (hs : List Hr) , I S hs → ∃ (v : Int32) (S1 : St) (S2 : St), r_X11_house S = some (v, S1) ∧ r_X12_house S1 = some (v, S2) ∧ I S2 hs
abbrev K9 (I : St → List Hr → Prop) : Prop := ∀ (S : St) (hs : List Hr) (a1 : Int32), I S hs → ∃ (v : Int32), r_X11_told S a1 = some v ∧ r_X12_told S a1 = some v
abbrev K10 (I : St → List Hr → Prop) : Prop := ∀ (S : St) (hs : List Hr) (a1 : Int32), I S hs → ∃ (v : Int32) (S1 : St) (S2 : St), r_X11_pass S a1 = some (v, S1) ∧ r_X12_pass S1 a1 = some (v, S2) ∧ I S2 hs
abbrev K11 (I : St → List Hr → Prop) : Prop := ∀ (S : St) (hs : List Hr) (a1 : Int32) (a2 : Int32), I S hs → ∃ (v : Int32) (S1 : St) (S2 : St), r_X11_tell S hs a1 a2 = some (v, S1) ∧ r_X12_tell S1 a1 a2 = some (v, S2) ∧ I S2 hs
abbrev K12 (I : St → List Hr → Prop) : Prop := ∀ (S : St) (hs : List Hr) (a1 : Int32) (a2 : Int32), I S hs → ∃ (v : Int32) (S1 : St) (S2 : St), r_X11_laugh S hs a1 a2 = some (v, S1) ∧ r_X12_laugh S1 a1 a2 = some (v, S2) ∧ I S2 hs
abbrev K13 (I : St → List Hr → Prop) : Prop := ∀ (S : St) (hs : List Hr) (a1 : Int32) (a2 : Int32) (a3 : Int32), I S hs → ∃ (v : Int32) (S1 : St) (S2 : St), r_X11_would S hs a1 a2 a3 = some (v, S1) ∧ r_X12_would S1 a1 a2 a3 = some (v, S2) ∧ I S2 hs
abbrev K14 (I : St → List Hr → Prop) : Prop := ∀ (S : St) (hs : List Hr) (a1 : Int32) (a2 : Int32), I S hs → ∃ (v : Int32) (S1 : St) (S2 : St), r_X11_best S hs a1 a2 = some (v, S1) ∧ r_X12_best S1 a1 a2 = some (v, S2) ∧ I S2 hs
abbrev K15 (I : St → List Hr → Prop) : Prop := ∀ (S : St) (hs : List Hr) (a1 : Int32), I S hs → ∃ (v : Int32), r_X11_fresh S hs a1 = some v ∧ r_X12_fresh S a1 = some v
abbrev K16 (I : St → List Hr → Prop) : Prop := ∀ (S : St) (hs : List Hr) (a1 : Int32) (a2 : Int32), I S hs → ∃ (v : Int32) (S2 : St), r_X11_again S hs a1 a2 = some v ∧ r_X12_again S a1 a2 = some (v, S2) ∧ I S2 hs
abbrev K17 (I : St → List Hr → Prop) : Prop := ∀ (S : St) (hs : List Hr) (a1 : Int32) (a2 : Int32) (a3 : Int32), I S hs → ∃ (v : Int32) (S1 : St) (S2 : St), r_X11_evening S hs a1 a2 a3 = some (v, S1) ∧ r_X12_evening S1 a1 a2 a3 = some (v, S2) ∧ I S2 hs
abbrev K18 (I : St → List Hr → Prop) : Prop := ∀ (S : St) (hs : List Hr) (a1 : Int32) (a2 : Int32), I S hs → ∃ (v : Int32) (S1 : St) (S2 : St), r_X11_coffee S hs a1 a2 = some (v, S1) ∧ r_X12_coffee S1 a1 a2 = some (v, S2) ∧ I S2 hs
abbrev K19 (I : St → List Hr → Prop) : Prop := ∀ (S : St) (hs : List Hr) (a1 : Int32) (a2 : Int32) (a3 : Int32) (a4 : Int32), I S hs → ∃ (v : Int32) (S1 : St) (S2 : St), r_X11_keep S hs a1 a2 a3 a4 = some (v, S1) ∧ r_X12_keep S1 a1 a2 a3 a4 = some (v, S2) ∧ I S2 hs
abbrev K20 (I : St → List Hr → Prop) : Prop := ∀ (S : St) (hs : List Hr) (a1 : Int32) (a2 : Int32) (a3 : Int32) (a4 : Int32), I S hs → ∃ (v : Int32) (S1 : St) (S2 : St), r_X11_suppers S hs a1 a2 a3 a4 = some (v, S1) ∧ r_X12_suppers S1 a1 a2 a3 a4 = some (v, S2) ∧ I S2 hs
abbrev K21 (I : St → List Hr → Prop) : Prop := ∀ (S : St) (hs : List Hr) (a1 : Int32) (a2 : Int32), I S hs → ∃ (v : Int32) (S1 : St) (S2 : St), r_X11_seats S hs a1 a2 = some (v, S1) ∧ r_X12_seats S1 a1 a2 = some (v, S2) ∧ I S2 hs
abbrev K22 (I : St → List Hr → Prop) : Prop := ∀ (S : St) (hs : List Hr) (a1 : Int32) (a2 : Int32), I S hs → ∃ (v : Int32) (S1 : St) (S2 : St), r_X11_spared S hs a1 a2 = some (v, S1) ∧ r_X12_spared S1 a1 a2 = some (v, S2) ∧ I S2 hs
abbrev K23 (I : St → List Hr → Prop) : Prop := ∀ (S : St) (hs : List Hr) (a1 : Int32) (a2 : Int32), I S hs → ∃ (v : Int32) (S1 : St) (S2 : St), r_X11_see S a1 a2 = some (v, S1) ∧ r_X12_see S1 a1 a2 = some (v, S2) ∧ I S2 hs
abbrev K24 (I : St → List Hr → Prop) : Prop := ∀ (S : St) (hs : List Hr) (a1 : Int32), I S hs → ∃ (v : Int32) (S1 : St) (S2 : St), r_X11_guess S hs a1 = some (v, S1) ∧ r_X12_guess S1 a1 = some (v, S2) ∧ I S2 hs
abbrev K25 (I : St → List Hr → Prop) : Prop := ∀ (S : St) (hs : List Hr) (a1 : Int32) (a2 : Int32), I S hs → ∃ (v : Int64) (S1 : St) (S2 : St), r_X11_odds S hs a1 a2 = some (v, S1) ∧ r_X12_odds S1 a1 a2 = some (v, S2) ∧ I S2 hs
abbrev K26 (I : St → List Hr → Prop) : Prop := ∀ (S : St) (hs : List Hr) (a1 : Int32) (a2 : Int32), I S hs → ∃ (v : Int64) (S1 : St) (S2 : St), r_X11_mean S hs a1 a2 = some (v, S1) ∧ r_X12_mean S1 a1 a2 = some (v, S2) ∧ I S2 hs
abbrev K27 (I : St → List Hr → Prop) : Prop := ∀ (S : St) (hs : List Hr) (a1 : Int32), I S hs → ∃ (v : Int32) (S1 : St) (S2 : St), r_X11_book S a1 = some (v, S1) ∧ r_X12_book S1 a1 = some (v, S2) ∧ I S2 hs
abbrev K28 (I : St → List Hr → Prop) : Prop := ∀ (S : St) (hs : List Hr) , I S hs → ∃ (v : Int32) (S1 : St) (S2 : St), r_X11_looked S hs = some (v, S1) ∧ r_X12_looked S1 = some (v, S2) ∧ I S2 hs
abbrev K29 (I : St → List Hr → Prop) : Prop := ∀ (S : St) (hs : List Hr) (a1 : Int32) (a2 : Int32), I S hs → ∃ (v : Int32), r_X11_judge S a1 a2 = some v ∧ r_X12_judge S a1 a2 = some v
abbrev K30 (I : St → List Hr → Prop) : Prop := ∀ (S : St) (hs : List Hr) , I S hs → ∃ (v : Int32) (S1 : St) (S2 : St), r_X11_image S hs = some (v, S1) ∧ r_X12_image S1 = some (v, S2) ∧ I S2 hs
abbrev K31 (I : St → List Hr → Prop) : Prop := ∀ (S : St) (hs : List Hr) , I S hs → ∃ (v : Int32) (S1 : St) (S2 : St), r_X11_undo S hs = some (v, S1) ∧ r_X12_undo S1 = some (v, S2) ∧ I S2 hs
abbrev K32 (I : St → List Hr → Prop) : Prop := ∀ (S : St) (hs : List Hr) (a1 : Int32) (a2 : Int32) (a3 : Int32), I S hs → ∃ (v : Int32) (S1 : St) (S2 : St), r_X11_act S hs a1 a2 a3 = some (v, S1) ∧ r_X12_act S1 a1 a2 a3 = some (v, S2) ∧ I S2 hs
abbrev K33 (I : St → List Hr → Prop) : Prop := ∀ (S : St) (hs : List Hr) (a1 : Int32), I S hs → ∃ (v : Int32), r_X11_trace S a1 = some v ∧ r_X12_trace S a1 = some v
abbrev K34 (I : St → List Hr → Prop) : Prop := ∀ (S : St) (hs : List Hr) (a1 : Int32) (a2 : Int32), I S hs → ∃ (v : Int32), r_X11_taken S hs a1 a2 = some v ∧ r_X12_taken S a1 a2 = some v
abbrev K35 (I : St → List Hr → Prop) : Prop := ∀ (S : St) (hs : List Hr) (a1 : Int32), I S hs → r_X11_count S a1 = r_X12_count S a1
abbrev K36 (I : St → List Hr → Prop) : Prop := ∀ (S : St) (hs : List Hr) (a1 : Int32) (a2 : Int32) (a3 : Int32), I S hs → ∃ (v : Int32) (S1 : St) (S2 : St), r_X11_tape S a1 a2 a3 = some (v, S1) ∧ r_X12_tape S1 a1 a2 a3 = some (v, S2) ∧ I S2 hs
abbrev K37 (I : St → List Hr → Prop) : Prop := ∀ (S : St) (hs : List Hr) (a1 : Int32) (a2 : Int32) (a3 : Int64), I S hs → ∃ (v : Int32) (S1 : St) (S2 : St), r_X11_item S a1 a2 a3 = some (v, S1) ∧ r_X12_item S1 a1 a2 a3 = some (v, S2) ∧ I S2 hs
abbrev K38 (I : St → List Hr → Prop) : Prop := ∀ (S : St) (hs : List Hr) (a1 : Int32) (a2 : Int32), I S hs → ∃ (v : Int64), r_X11_read S a1 a2 = some v ∧ r_X12_read S a1 a2 = some v
abbrev K39 (I : St → List Hr → Prop) : Prop := ∀ (S : St) (hs : List Hr) (a1 : Int32) (a2 : Int32) (a3 : Int32) (a4 : Int32) (a5 : Int32), I S hs → ∃ (v : Int32) (S1 : St) (S2 : St), r_X11_shift S a1 a2 a3 a4 a5 = some (v, S1) ∧ r_X12_shift S1 a1 a2 a3 a4 a5 = some (v, S2) ∧ I S2 hs
theorem lo_lt {L i : Nat} (hL : L ≤ 3072) (hi : i ≤ 4000) (h : ¬ Int32.ofNat L - 6 < Int32.ofNat i) : i + 6 ≤ L := by
  rw [Int32.lt_iff_toInt_lt] at h
  have h1 : (Int32.ofNat L - 6).toInt = (L : Int) - 6 := by
    have h2 : (Int32.ofNat L).toInt = (L : Int) := Int32.toInt_ofNat_of_lt (by omega)
    have h3 : (6 : Int32).toInt = 6 := by decide
    rw [Int32.toInt_sub, h2, h3, Int.bmod_def]
    omega
  have h4 : (Int32.ofNat i).toInt = (i : Int) := Int32.toInt_ofNat_of_lt (by omega)
  rw [h1, h4] at h
  omega
theorem lo_in {L i k : Nat} (hL : L ≤ 3072) (h : i + 6 ≤ L) (hk : k < 6) : vp_in (Int32.ofNat i + Int32.ofNat k) L := by
  rw [← Int32.ofNat_add]
  intro q
  rcases q with q | q
  · rw [Int32.lt_iff_toInt_lt, Int32.toInt_ofNat_of_lt (by omega)] at q
    have : (0 : Int32).toInt = 0 := by decide
    omega
  · rw [Int32.toNatClampNeg_ofNat_of_lt (by omega)] at q
    omega
set_option maxRecDepth 20000 in
set_option maxHeartbeats 4000000 in
theorem lo_next (L : Nat) (xs : Nat → Int32) (i : Nat) (S : St) (hs : List Hr) (c m : Nat) (P : Option Value → Hp → Prop) (h : Wp mi_law (Ev 22) (some (L, xs)) (600000, 7302250) P (18, [some (.ref 0), some (.ref 7), some (.ref 76), some (.int (Int32.ofNat (i + 6)))], [], st S hs, c, m)) : Wp mi_law (Ev 22) (some (L, xs)) (600000, 7302250) P (1541, [some (.ref 0), some (.ref 7), some (.ref 76), some (.int (Int32.ofNat i))], [], st S hs, c, m) := by
  refine Wp.stepsG 2 (fun cal X P' hk hX hP => ?_)
  show X (18, [some (.ref 0), some (.ref 7), some (.ref 76), some (.int (Int32.ofNat i + 6))], [], st S hs, c, m)
  rw [show Int32.ofNat i + 6 = Int32.ofNat (i + 6) from (Int32.ofNat_add i 6).symm]
  exact hX _ h
set_option maxRecDepth 20000 in
set_option maxHeartbeats 16000000 in
theorem law_loop (I : St → List Hr → Prop) (k0 : K0 I) (k1 : K1 I) (k2 : K2 I) (k3 : K3 I) (k4 : K4 I) (k5 : K5 I) (k6 : K6 I) (k7 : K7 I) (k8 : K8 I) (k9 : K9 I) (k10 : K10 I) (k11 : K11 I) (k12 : K12 I) (k13 : K13 I) (k14 : K14 I) (k15 : K15 I) (k16 : K16 I) (k17 : K17 I) (k18 : K18 I) (k19 : K19 I) (k20 : K20 I) (k21 : K21 I) (k22 : K22 I) (k23 : K23 I) (k24 : K24 I) (k25 : K25 I) (k26 : K26 I) (k27 : K27 I) (k28 : K28 I) (k29 : K29 I) (k30 : K30 I) (k31 : K31 I) (k32 : K32 I) (k33 : K33 I) (k34 : K34 I) (k35 : K35 I) (k36 : K36 I) (k37 : K37 I) (k38 : K38 I) (k39 : K39 I) (L : Nat) (xs : Nat → Int32) (hL : L ≤ 3072) : ∀ (n i : Nat) (S : St) (hs : List Hr) (c m : Nat), I S hs → L ≤ i + 6 * n → i ≤ L + 6 → c + n ≤ 600000 → m + 4 * n ≤ 7302250 →
    Wp mi_law (Ev 22) (some (L, xs)) (600000, 7302250) (fun v _ => v = some (.int 1)) (18, [some (.ref 0), some (.ref 7), some (.ref 76), some (.int (Int32.ofNat i))], [], st S hs, c, m) := by
  intro n
  induction n with
  | zero =>
    intro i S hs c m hI h1 h2 h3 h4
    refine Wp.stepsG 6 (fun cal X P' hk hX hP => ?_)
    show (Int32.ofNat L - 6 < Int32.ofNat i → X (1547, [some (.ref 0), some (.ref 7), some (.ref 76), some (.int (Int32.ofNat i))], [], st S hs, c, m)) ∧ (¬ Int32.ofNat L - 6 < Int32.ofNat i → X (27, [some (.ref 0), some (.ref 7), some (.ref 76), some (.int (Int32.ofNat i))], [], st S hs, c, m))
    refine ⟨fun _ => hX _ ?_, fun hq => absurd (lo_lt hL (by omega) hq) (by omega)⟩
    clear hP hX hk P' X cal
    refine Wp.stepsG 2 (fun cal X P' hk hX hP => ?_)
    exact ⟨Or.inr rfl, hP _ _ rfl⟩
  | succ n ih =>
    intro i S hs c m hI h1 h2 h3 h4
    refine Wp.stepsG 6 (fun cal X P' hk hX hP => ?_)
    show (Int32.ofNat L - 6 < Int32.ofNat i → X (1547, [some (.ref 0), some (.ref 7), some (.ref 76), some (.int (Int32.ofNat i))], [], st S hs, c, m)) ∧ (¬ Int32.ofNat L - 6 < Int32.ofNat i → X (27, [some (.ref 0), some (.ref 7), some (.ref 76), some (.int (Int32.ofNat i))], [], st S hs, c, m))
    refine ⟨fun _ => hX _ ?_, fun hq => hX _ ?_⟩
    · clear hP hX hk P' X cal
      refine Wp.stepsG 2 (fun cal X P' hk hX hP => ?_)
      exact ⟨Or.inr rfl, hP _ _ rfl⟩
    · clear hP hX hk P' X cal
      have hil := lo_lt hL (by omega) hq
      have w0 : vp_in (Int32.ofNat i) L := by
        have z := lo_in (k := 0) hL hil (by decide)
        rwa [show Int32.ofNat i + Int32.ofNat 0 = Int32.ofNat i from by rw [← Int32.ofNat_add]; rfl] at z
      have w1 : vp_in (Int32.ofNat i + 1) L := lo_in (k := 1) hL hil (by decide)
      have w2 : vp_in (Int32.ofNat i + 2) L := lo_in (k := 2) hL hil (by decide)
      have w3 : vp_in (Int32.ofNat i + 3) L := lo_in (k := 3) hL hil (by decide)
      have w4 : vp_in (Int32.ofNat i + 4) L := lo_in (k := 4) hL hil (by decide)
      have w5 : vp_in (Int32.ofNat i + 5) L := lo_in (k := 5) hL hil (by decide)
      have nx : ∀ (S2 : St) (hs2 : List Hr) (c2 m2 : Nat), I S2 hs2 → c2 ≤ c + 1 → m2 ≤ m + 4 → Wp mi_law (Ev 22) (some (L, xs)) (600000, 7302250) (fun v _ => v = some (.int 1)) (1541, [some (.ref 0), some (.ref 7), some (.ref 76), some (.int (Int32.ofNat i))], [], st S2 hs2, c2, m2) := fun S2 hs2 c2 m2 q1 q2 q3 =>
        lo_next L xs i S2 hs2 c2 m2 _ (ih (i + 6) S2 hs2 c2 m2 q1 (by omega) (by omega) (by omega) (by omega))
      have hc : c + 1 ≤ 600000 := by omega
      have hm : m + 4 ≤ 7302250 := by omega
      have hc0 : c ≤ 600000 := by omega
      have hm0 : m ≤ 7302250 := by omega
      refine Wp.stepsG 3 (fun cal X P' hk hX hP => ?_)
      show vp_in (Int32.ofNat i) L ∧ X (30, [some (.ref 0), some (.ref 7), some (.ref 76), some (.int (Int32.ofNat i))], [.int (xs (Int32.ofNat i).toNatClampNeg)], st S hs, c, m)
      refine ⟨w0, hX _ ?_⟩
      clear hP hX hk P' X cal
      generalize xs (Int32.ofNat i).toNatClampNeg = op
      refine Wp.stepsG 3 (fun cal X P' hk hX hP => ?_)
      show ((op &&& 63) = 0 → X (208, [some (.ref 0), some (.ref 7), some (.ref 76), some (.int (Int32.ofNat i))], [], st S hs, c, m)) ∧ (¬ (op &&& 63) = 0 → ((op &&& 63) = 1 → X (241, [some (.ref 0), some (.ref 7), some (.ref 76), some (.int (Int32.ofNat i))], [], st S hs, c, m)) ∧ (¬ (op &&& 63) = 1 → ((op &&& 63) = 2 → X (274, [some (.ref 0), some (.ref 7), some (.ref 76), some (.int (Int32.ofNat i))], [], st S hs, c, m)) ∧ (¬ (op &&& 63) = 2 → ((op &&& 63) = 3 → X (307, [some (.ref 0), some (.ref 7), some (.ref 76), some (.int (Int32.ofNat i))], [], st S hs, c, m)) ∧ (¬ (op &&& 63) = 3 → ((op &&& 63) = 4 → X (340, [some (.ref 0), some (.ref 7), some (.ref 76), some (.int (Int32.ofNat i))], [], st S hs, c, m)) ∧ (¬ (op &&& 63) = 4 → ((op &&& 63) = 5 → X (373, [some (.ref 0), some (.ref 7), some (.ref 76), some (.int (Int32.ofNat i))], [], st S hs, c, m)) ∧ (¬ (op &&& 63) = 5 → ((op &&& 63) = 6 → X (416, [some (.ref 0), some (.ref 7), some (.ref 76), some (.int (Int32.ofNat i))], [], st S hs, c, m)) ∧ (¬ (op &&& 63) = 6 → ((op &&& 63) = 7 → X (459, [some (.ref 0), some (.ref 7), some (.ref 76), some (.int (Int32.ofNat i))], [], st S hs, c, m)) ∧ (¬ (op &&& 63) = 7 → ((op &&& 63) = 8 → X (482, [some (.ref 0), some (.ref 7), some (.ref 76), some (.int (Int32.ofNat i))], [], st S hs, c, m)) ∧ (¬ (op &&& 63) = 8 → ((op &&& 63) = 9 → X (495, [some (.ref 0), some (.ref 7), some (.ref 76), some (.int (Int32.ofNat i))], [], st S hs, c, m)) ∧ (¬ (op &&& 63) = 9 → ((op &&& 63) = 10 → X (518, [some (.ref 0), some (.ref 7), some (.ref 76), some (.int (Int32.ofNat i))], [], st S hs, c, m)) ∧ (¬ (op &&& 63) = 10 → ((op &&& 63) = 11 → X (541, [some (.ref 0), some (.ref 7), some (.ref 76), some (.int (Int32.ofNat i))], [], st S hs, c, m)) ∧ (¬ (op &&& 63) = 11 → ((op &&& 63) = 12 → X (574, [some (.ref 0), some (.ref 7), some (.ref 76), some (.int (Int32.ofNat i))], [], st S hs, c, m)) ∧ (¬ (op &&& 63) = 12 → ((op &&& 63) = 13 → X (607, [some (.ref 0), some (.ref 7), some (.ref 76), some (.int (Int32.ofNat i))], [], st S hs, c, m)) ∧ (¬ (op &&& 63) = 13 → ((op &&& 63) = 14 → X (650, [some (.ref 0), some (.ref 7), some (.ref 76), some (.int (Int32.ofNat i))], [], st S hs, c, m)) ∧ (¬ (op &&& 63) = 14 → ((op &&& 63) = 15 → X (683, [some (.ref 0), some (.ref 7), some (.ref 76), some (.int (Int32.ofNat i))], [], st S hs, c, m)) ∧ (¬ (op &&& 63) = 15 → ((op &&& 63) = 16 → X (706, [some (.ref 0), some (.ref 7), some (.ref 76), some (.int (Int32.ofNat i))], [], st S hs, c, m)) ∧ (¬ (op &&& 63) = 16 → ((op &&& 63) = 17 → X (739, [some (.ref 0), some (.ref 7), some (.ref 76), some (.int (Int32.ofNat i))], [], st S hs, c, m)) ∧ (¬ (op &&& 63) = 17 → ((op &&& 63) = 18 → X (782, [some (.ref 0), some (.ref 7), some (.ref 76), some (.int (Int32.ofNat i))], [], st S hs, c, m)) ∧ (¬ (op &&& 63) = 18 → ((op &&& 63) = 19 → X (815, [some (.ref 0), some (.ref 7), some (.ref 76), some (.int (Int32.ofNat i))], [], st S hs, c, m)) ∧ (¬ (op &&& 63) = 19 → ((op &&& 63) = 20 → X (868, [some (.ref 0), some (.ref 7), some (.ref 76), some (.int (Int32.ofNat i))], [], st S hs, c, m)) ∧ (¬ (op &&& 63) = 20 → ((op &&& 63) = 21 → X (921, [some (.ref 0), some (.ref 7), some (.ref 76), some (.int (Int32.ofNat i))], [], st S hs, c, m)) ∧ (¬ (op &&& 63) = 21 → ((op &&& 63) = 22 → X (954, [some (.ref 0), some (.ref 7), some (.ref 76), some (.int (Int32.ofNat i))], [], st S hs, c, m)) ∧ (¬ (op &&& 63) = 22 → ((op &&& 63) = 23 → X (987, [some (.ref 0), some (.ref 7), some (.ref 76), some (.int (Int32.ofNat i))], [], st S hs, c, m)) ∧ (¬ (op &&& 63) = 23 → ((op &&& 63) = 24 → X (1020, [some (.ref 0), some (.ref 7), some (.ref 76), some (.int (Int32.ofNat i))], [], st S hs, c, m)) ∧ (¬ (op &&& 63) = 24 → ((op &&& 63) = 25 → X (1043, [some (.ref 0), some (.ref 7), some (.ref 76), some (.int (Int32.ofNat i))], [], st S hs, c, m)) ∧ (¬ (op &&& 63) = 25 → ((op &&& 63) = 26 → X (1077, [some (.ref 0), some (.ref 7), some (.ref 76), some (.int (Int32.ofNat i))], [], st S hs, c, m)) ∧ (¬ (op &&& 63) = 26 → ((op &&& 63) = 27 → X (1111, [some (.ref 0), some (.ref 7), some (.ref 76), some (.int (Int32.ofNat i))], [], st S hs, c, m)) ∧ (¬ (op &&& 63) = 27 → ((op &&& 63) = 28 → X (1134, [some (.ref 0), some (.ref 7), some (.ref 76), some (.int (Int32.ofNat i))], [], st S hs, c, m)) ∧ (¬ (op &&& 63) = 28 → ((op &&& 63) = 29 → X (1147, [some (.ref 0), some (.ref 7), some (.ref 76), some (.int (Int32.ofNat i))], [], st S hs, c, m)) ∧ (¬ (op &&& 63) = 29 → ((op &&& 63) = 30 → X (1180, [some (.ref 0), some (.ref 7), some (.ref 76), some (.int (Int32.ofNat i))], [], st S hs, c, m)) ∧ (¬ (op &&& 63) = 30 → ((op &&& 63) = 31 → X (1193, [some (.ref 0), some (.ref 7), some (.ref 76), some (.int (Int32.ofNat i))], [], st S hs, c, m)) ∧ (¬ (op &&& 63) = 31 → ((op &&& 63) = 32 → X (1206, [some (.ref 0), some (.ref 7), some (.ref 76), some (.int (Int32.ofNat i))], [], st S hs, c, m)) ∧ (¬ (op &&& 63) = 32 → ((op &&& 63) = 33 → X (1249, [some (.ref 0), some (.ref 7), some (.ref 76), some (.int (Int32.ofNat i))], [], st S hs, c, m)) ∧ (¬ (op &&& 63) = 33 → ((op &&& 63) = 34 → X (1272, [some (.ref 0), some (.ref 7), some (.ref 76), some (.int (Int32.ofNat i))], [], st S hs, c, m)) ∧ (¬ (op &&& 63) = 34 → ((op &&& 63) = 35 → X (1305, [some (.ref 0), some (.ref 7), some (.ref 76), some (.int (Int32.ofNat i))], [], st S hs, c, m)) ∧ (¬ (op &&& 63) = 35 → ((op &&& 63) = 36 → X (1328, [some (.ref 0), some (.ref 7), some (.ref 76), some (.int (Int32.ofNat i))], [], st S hs, c, m)) ∧ (¬ (op &&& 63) = 36 → ((op &&& 63) = 37 → X (1371, [some (.ref 0), some (.ref 7), some (.ref 76), some (.int (Int32.ofNat i))], [], st S hs, c, m)) ∧ (¬ (op &&& 63) = 37 → ((op &&& 63) = 38 → X (1444, [some (.ref 0), some (.ref 7), some (.ref 76), some (.int (Int32.ofNat i))], [], st S hs, c, m)) ∧ (¬ (op &&& 63) = 38 → ((op &&& 63) = 39 → X (1478, [some (.ref 0), some (.ref 7), some (.ref 76), some (.int (Int32.ofNat i))], [], st S hs, c, m)) ∧ (¬ (op &&& 63) = 39 → X (1541, [some (.ref 0), some (.ref 7), some (.ref 76), some (.int (Int32.ofNat i))], [], st S hs, c, m)))))))))))))))))))))))))))))))))))))))))
      refine ⟨fun h0 => hX _ ?_, fun n0 => ⟨fun h1 => hX _ ?_, fun n1 => ⟨fun h2 => hX _ ?_, fun n2 => ⟨fun h3 => hX _ ?_, fun n3 => ⟨fun h4 => hX _ ?_, fun n4 => ⟨fun h5 => hX _ ?_, fun n5 => ⟨fun h6 => hX _ ?_, fun n6 => ⟨fun h7 => hX _ ?_, fun n7 => ⟨fun h8 => hX _ ?_, fun n8 => ⟨fun h9 => hX _ ?_, fun n9 => ⟨fun h10 => hX _ ?_, fun n10 => ⟨fun h11 => hX _ ?_, fun n11 => ⟨fun h12 => hX _ ?_, fun n12 => ⟨fun h13 => hX _ ?_, fun n13 => ⟨fun h14 => hX _ ?_, fun n14 => ⟨fun h15 => hX _ ?_, fun n15 => ⟨fun h16 => hX _ ?_, fun n16 => ⟨fun h17 => hX _ ?_, fun n17 => ⟨fun h18 => hX _ ?_, fun n18 => ⟨fun h19 => hX _ ?_, fun n19 => ⟨fun h20 => hX _ ?_, fun n20 => ⟨fun h21 => hX _ ?_, fun n21 => ⟨fun h22 => hX _ ?_, fun n22 => ⟨fun h23 => hX _ ?_, fun n23 => ⟨fun h24 => hX _ ?_, fun n24 => ⟨fun h25 => hX _ ?_, fun n25 => ⟨fun h26 => hX _ ?_, fun n26 => ⟨fun h27 => hX _ ?_, fun n27 => ⟨fun h28 => hX _ ?_, fun n28 => ⟨fun h29 => hX _ ?_, fun n29 => ⟨fun h30 => hX _ ?_, fun n30 => ⟨fun h31 => hX _ ?_, fun n31 => ⟨fun h32 => hX _ ?_, fun n32 => ⟨fun h33 => hX _ ?_, fun n33 => ⟨fun h34 => hX _ ?_, fun n34 => ⟨fun h35 => hX _ ?_, fun n35 => ⟨fun h36 => hX _ ?_, fun n36 => ⟨fun h37 => hX _ ?_, fun n37 => ⟨fun h38 => hX _ ?_, fun n38 => ⟨fun h39 => hX _ ?_, fun n39 => hX _ ?_⟩⟩⟩⟩⟩⟩⟩⟩⟩⟩⟩⟩⟩⟩⟩⟩⟩⟩⟩⟩⟩⟩⟩⟩⟩⟩⟩⟩⟩⟩⟩⟩⟩⟩⟩⟩⟩⟩⟩⟩
      · clear hP hX hk P' X cal
        obtain ⟨v, S1, S2, e1, e2, hJ⟩ := k0 S hs (xs (Int32.ofNat i + 1).toNatClampNeg) (xs (Int32.ofNat i + 2).toNatClampNeg) hI
        exact lw_c0 L xs _ S hs c m hc0 hm0 w1 w2 v S1 S2 e1 e2 _ (nx _ _ _ _ hJ (by omega) (by omega))
      · clear hP hX hk P' X cal
        obtain ⟨v, S1, hs1, S2, e1, e2, hJ⟩ := k1 S hs (xs (Int32.ofNat i + 1).toNatClampNeg) (xs (Int32.ofNat i + 2).toNatClampNeg) hI
        exact lw_c1 L xs _ S hs c m hc hm w1 w2 v S1 S2 hs1 e1 e2 _ (nx _ _ _ _ hJ (by omega) (by omega))
      · clear hP hX hk P' X cal
        obtain ⟨v, S1, S2, e1, e2, hJ⟩ := k2 S hs (xs (Int32.ofNat i + 1).toNatClampNeg) (xs (Int32.ofNat i + 2).toNatClampNeg) hI
        exact lw_c2 L xs _ S hs c m hc0 hm0 w1 w2 v S1 S2 e1 e2 _ (nx _ _ _ _ hJ (by omega) (by omega))
      · clear hP hX hk P' X cal
        obtain ⟨v, e1, e2⟩ := k3 S hs (xs (Int32.ofNat i + 1).toNatClampNeg) (xs (Int32.ofNat i + 2).toNatClampNeg) hI
        exact lw_c3 L xs _ S hs c m hc0 hm0 w1 w2 v e1 e2 _ (nx _ _ _ _ hI (by omega) (by omega))
      · clear hP hX hk P' X cal
        obtain ⟨v, S1, S2, e1, e2, hJ⟩ := k4 S hs (xs (Int32.ofNat i + 1).toNatClampNeg) (xs (Int32.ofNat i + 2).toNatClampNeg) hI
        exact lw_c4 L xs _ S hs c m hc0 hm0 w1 w2 v S1 S2 e1 e2 _ (nx _ _ _ _ hJ (by omega) (by omega))
      · clear hP hX hk P' X cal
        obtain ⟨v, S1, S2, e1, e2, hJ⟩ := k5 S hs (xs (Int32.ofNat i + 1).toNatClampNeg) (xs (Int32.ofNat i + 2).toNatClampNeg) (xs (Int32.ofNat i + 3).toNatClampNeg) hI
        exact lw_c5 L xs _ S hs c m hc0 hm0 w1 w2 w3 v S1 S2 e1 e2 _ (nx _ _ _ _ hJ (by omega) (by omega))
      · clear hP hX hk P' X cal
        obtain ⟨v, S1, S2, e1, e2, hJ⟩ := k6 S hs (xs (Int32.ofNat i + 1).toNatClampNeg) (xs (Int32.ofNat i + 2).toNatClampNeg) (xs (Int32.ofNat i + 3).toNatClampNeg) hI
        exact lw_c6 L xs _ S hs c m hc0 hm0 w1 w2 w3 v S1 S2 e1 e2 _ (nx _ _ _ _ hJ (by omega) (by omega))
      · clear hP hX hk P' X cal
        obtain ⟨v, S1, S2, e1, e2, hJ⟩ := k7 S hs (xs (Int32.ofNat i + 1).toNatClampNeg) hI
        exact lw_c7 L xs _ S hs c m hc0 hm0 w1 v S1 S2 e1 e2 _ (nx _ _ _ _ hJ (by omega) (by omega))
      · clear hP hX hk P' X cal
        obtain ⟨v, S1, S2, e1, e2, hJ⟩ := k8 S hs  hI
        exact lw_c8 L xs _ S hs c m hc0 hm0 v S1 S2 e1 e2 _ (nx _ _ _ _ hJ (by omega) (by omega))
      · clear hP hX hk P' X cal
        obtain ⟨v, e1, e2⟩ := k9 S hs (xs (Int32.ofNat i + 1).toNatClampNeg) hI
        exact lw_c9 L xs _ S hs c m hc0 hm0 w1 v e1 e2 _ (nx _ _ _ _ hI (by omega) (by omega))
      · clear hP hX hk P' X cal
        obtain ⟨v, S1, S2, e1, e2, hJ⟩ := k10 S hs (xs (Int32.ofNat i + 1).toNatClampNeg) hI
        exact lw_c10 L xs _ S hs c m hc0 hm0 w1 v S1 S2 e1 e2 _ (nx _ _ _ _ hJ (by omega) (by omega))
      · clear hP hX hk P' X cal
        obtain ⟨v, S1, S2, e1, e2, hJ⟩ := k11 S hs (xs (Int32.ofNat i + 1).toNatClampNeg) (xs (Int32.ofNat i + 2).toNatClampNeg) hI
        exact lw_c11 L xs _ S hs c m hc0 hm0 w1 w2 v S1 S2 e1 e2 _ (nx _ _ _ _ hJ (by omega) (by omega))
      · clear hP hX hk P' X cal
        obtain ⟨v, S1, S2, e1, e2, hJ⟩ := k12 S hs (xs (Int32.ofNat i + 1).toNatClampNeg) (xs (Int32.ofNat i + 2).toNatClampNeg) hI
        exact lw_c12 L xs _ S hs c m hc0 hm0 w1 w2 v S1 S2 e1 e2 _ (nx _ _ _ _ hJ (by omega) (by omega))
      · clear hP hX hk P' X cal
        obtain ⟨v, S1, S2, e1, e2, hJ⟩ := k13 S hs (xs (Int32.ofNat i + 1).toNatClampNeg) (xs (Int32.ofNat i + 2).toNatClampNeg) (xs (Int32.ofNat i + 3).toNatClampNeg) hI
        exact lw_c13 L xs _ S hs c m hc0 hm0 w1 w2 w3 v S1 S2 e1 e2 _ (nx _ _ _ _ hJ (by omega) (by omega))
      · clear hP hX hk P' X cal
        obtain ⟨v, S1, S2, e1, e2, hJ⟩ := k14 S hs (xs (Int32.ofNat i + 1).toNatClampNeg) (xs (Int32.ofNat i + 2).toNatClampNeg) hI
        exact lw_c14 L xs _ S hs c m hc0 hm0 w1 w2 v S1 S2 e1 e2 _ (nx _ _ _ _ hJ (by omega) (by omega))
      · clear hP hX hk P' X cal
        obtain ⟨v, e1, e2⟩ := k15 S hs (xs (Int32.ofNat i + 1).toNatClampNeg) hI
        exact lw_c15 L xs _ S hs c m hc0 hm0 w1 v e1 e2 _ (nx _ _ _ _ hI (by omega) (by omega))
      · clear hP hX hk P' X cal
        obtain ⟨v, S2, e1, e2, hJ⟩ := k16 S hs (xs (Int32.ofNat i + 1).toNatClampNeg) (xs (Int32.ofNat i + 2).toNatClampNeg) hI
        exact lw_c16 L xs _ S hs c m hc0 hm0 w1 w2 v S2 e1 e2 _ (nx _ _ _ _ hJ (by omega) (by omega))
      · clear hP hX hk P' X cal
        obtain ⟨v, S1, S2, e1, e2, hJ⟩ := k17 S hs (xs (Int32.ofNat i + 1).toNatClampNeg) (xs (Int32.ofNat i + 2).toNatClampNeg) (xs (Int32.ofNat i + 3).toNatClampNeg) hI
        exact lw_c17 L xs _ S hs c m hc0 hm0 w1 w2 w3 v S1 S2 e1 e2 _ (nx _ _ _ _ hJ (by omega) (by omega))
      · clear hP hX hk P' X cal
        obtain ⟨v, S1, S2, e1, e2, hJ⟩ := k18 S hs (xs (Int32.ofNat i + 1).toNatClampNeg) (xs (Int32.ofNat i + 2).toNatClampNeg) hI
        exact lw_c18 L xs _ S hs c m hc0 hm0 w1 w2 v S1 S2 e1 e2 _ (nx _ _ _ _ hJ (by omega) (by omega))
      · clear hP hX hk P' X cal
        obtain ⟨v, S1, S2, e1, e2, hJ⟩ := k19 S hs (xs (Int32.ofNat i + 1).toNatClampNeg) (xs (Int32.ofNat i + 2).toNatClampNeg) (xs (Int32.ofNat i + 3).toNatClampNeg) (xs (Int32.ofNat i + 4).toNatClampNeg) hI
        exact lw_c19 L xs _ S hs c m hc0 hm0 w1 w2 w3 w4 v S1 S2 e1 e2 _ (nx _ _ _ _ hJ (by omega) (by omega))
      · clear hP hX hk P' X cal
        obtain ⟨v, S1, S2, e1, e2, hJ⟩ := k20 S hs (xs (Int32.ofNat i + 1).toNatClampNeg) (xs (Int32.ofNat i + 2).toNatClampNeg) (xs (Int32.ofNat i + 3).toNatClampNeg) (xs (Int32.ofNat i + 4).toNatClampNeg) hI
        exact lw_c20 L xs _ S hs c m hc0 hm0 w1 w2 w3 w4 v S1 S2 e1 e2 _ (nx _ _ _ _ hJ (by omega) (by omega))
      · clear hP hX hk P' X cal
        obtain ⟨v, S1, S2, e1, e2, hJ⟩ := k21 S hs (xs (Int32.ofNat i + 1).toNatClampNeg) (xs (Int32.ofNat i + 2).toNatClampNeg) hI
        exact lw_c21 L xs _ S hs c m hc0 hm0 w1 w2 v S1 S2 e1 e2 _ (nx _ _ _ _ hJ (by omega) (by omega))
      · clear hP hX hk P' X cal
        obtain ⟨v, S1, S2, e1, e2, hJ⟩ := k22 S hs (xs (Int32.ofNat i + 1).toNatClampNeg) (xs (Int32.ofNat i + 2).toNatClampNeg) hI
        exact lw_c22 L xs _ S hs c m hc0 hm0 w1 w2 v S1 S2 e1 e2 _ (nx _ _ _ _ hJ (by omega) (by omega))
      · clear hP hX hk P' X cal
        obtain ⟨v, S1, S2, e1, e2, hJ⟩ := k23 S hs (xs (Int32.ofNat i + 1).toNatClampNeg) (xs (Int32.ofNat i + 2).toNatClampNeg) hI
        exact lw_c23 L xs _ S hs c m hc0 hm0 w1 w2 v S1 S2 e1 e2 _ (nx _ _ _ _ hJ (by omega) (by omega))
      · clear hP hX hk P' X cal
        obtain ⟨v, S1, S2, e1, e2, hJ⟩ := k24 S hs (xs (Int32.ofNat i + 1).toNatClampNeg) hI
        exact lw_c24 L xs _ S hs c m hc0 hm0 w1 v S1 S2 e1 e2 _ (nx _ _ _ _ hJ (by omega) (by omega))
      · clear hP hX hk P' X cal
        obtain ⟨v, S1, S2, e1, e2, hJ⟩ := k25 S hs (xs (Int32.ofNat i + 1).toNatClampNeg) (xs (Int32.ofNat i + 2).toNatClampNeg) hI
        exact lw_c25 L xs _ S hs c m hc0 hm0 w1 w2 v S1 S2 e1 e2 _ (nx _ _ _ _ hJ (by omega) (by omega))
      · clear hP hX hk P' X cal
        obtain ⟨v, S1, S2, e1, e2, hJ⟩ := k26 S hs (xs (Int32.ofNat i + 1).toNatClampNeg) (xs (Int32.ofNat i + 2).toNatClampNeg) hI
        exact lw_c26 L xs _ S hs c m hc0 hm0 w1 w2 v S1 S2 e1 e2 _ (nx _ _ _ _ hJ (by omega) (by omega))
      · clear hP hX hk P' X cal
        obtain ⟨v, S1, S2, e1, e2, hJ⟩ := k27 S hs (xs (Int32.ofNat i + 1).toNatClampNeg) hI
        exact lw_c27 L xs _ S hs c m hc0 hm0 w1 v S1 S2 e1 e2 _ (nx _ _ _ _ hJ (by omega) (by omega))
      · clear hP hX hk P' X cal
        obtain ⟨v, S1, S2, e1, e2, hJ⟩ := k28 S hs  hI
        exact lw_c28 L xs _ S hs c m hc0 hm0 v S1 S2 e1 e2 _ (nx _ _ _ _ hJ (by omega) (by omega))
      · clear hP hX hk P' X cal
        obtain ⟨v, e1, e2⟩ := k29 S hs (xs (Int32.ofNat i + 1).toNatClampNeg) (xs (Int32.ofNat i + 2).toNatClampNeg) hI
        exact lw_c29 L xs _ S hs c m hc0 hm0 w1 w2 v e1 e2 _ (nx _ _ _ _ hI (by omega) (by omega))
      · clear hP hX hk P' X cal
        obtain ⟨v, S1, S2, e1, e2, hJ⟩ := k30 S hs  hI
        exact lw_c30 L xs _ S hs c m hc0 hm0 v S1 S2 e1 e2 _ (nx _ _ _ _ hJ (by omega) (by omega))
      · clear hP hX hk P' X cal
        obtain ⟨v, S1, S2, e1, e2, hJ⟩ := k31 S hs  hI
        exact lw_c31 L xs _ S hs c m hc0 hm0 v S1 S2 e1 e2 _ (nx _ _ _ _ hJ (by omega) (by omega))
      · clear hP hX hk P' X cal
        obtain ⟨v, S1, S2, e1, e2, hJ⟩ := k32 S hs (xs (Int32.ofNat i + 1).toNatClampNeg) (xs (Int32.ofNat i + 2).toNatClampNeg) (xs (Int32.ofNat i + 3).toNatClampNeg) hI
        exact lw_c32 L xs _ S hs c m hc0 hm0 w1 w2 w3 v S1 S2 e1 e2 _ (nx _ _ _ _ hJ (by omega) (by omega))
      · clear hP hX hk P' X cal
        obtain ⟨v, e1, e2⟩ := k33 S hs (xs (Int32.ofNat i + 1).toNatClampNeg) hI
        exact lw_c33 L xs _ S hs c m hc0 hm0 w1 v e1 e2 _ (nx _ _ _ _ hI (by omega) (by omega))
      · clear hP hX hk P' X cal
        obtain ⟨v, e1, e2⟩ := k34 S hs (xs (Int32.ofNat i + 1).toNatClampNeg) (xs (Int32.ofNat i + 2).toNatClampNeg) hI
        exact lw_c34 L xs _ S hs c m hc0 hm0 w1 w2 v e1 e2 _ (nx _ _ _ _ hI (by omega) (by omega))
      · clear hP hX hk P' X cal
        exact lw_c35 L xs _ S hs c m hc0 hm0 w1 (k35 S hs _ hI) _ (nx _ _ _ _ hI (by omega) (by omega))
      · clear hP hX hk P' X cal
        obtain ⟨v, S1, S2, e1, e2, hJ⟩ := k36 S hs (xs (Int32.ofNat i + 1).toNatClampNeg) (xs (Int32.ofNat i + 2).toNatClampNeg) (xs (Int32.ofNat i + 3).toNatClampNeg) hI
        exact lw_c36 L xs _ S hs c m hc0 hm0 w1 w2 w3 v S1 S2 e1 e2 _ (nx _ _ _ _ hJ (by omega) (by omega))
      · clear hP hX hk P' X cal
        obtain ⟨v, S1, S2, e1, e2, hJ⟩ := k37 S hs (xs (Int32.ofNat i + 1).toNatClampNeg) (xs (Int32.ofNat i + 2).toNatClampNeg) (((xs (Int32.ofNat i + 3).toNatClampNeg).toInt64 <<< ((32 : Int32).toInt64 &&& 63)) ||| ((xs (Int32.ofNat i + 4).toNatClampNeg).toInt64 &&& 4294967295)) hI
        exact lw_c37 L xs _ S hs c m hc0 hm0 w1 w2 w3 w4 v S1 S2 e1 e2 _ (nx _ _ _ _ hJ (by omega) (by omega))
      · clear hP hX hk P' X cal
        obtain ⟨v, e1, e2⟩ := k38 S hs (xs (Int32.ofNat i + 1).toNatClampNeg) (xs (Int32.ofNat i + 2).toNatClampNeg) hI
        exact lw_c38 L xs _ S hs c m hc0 hm0 w1 w2 v e1 e2 _ (nx _ _ _ _ hI (by omega) (by omega))
      · clear hP hX hk P' X cal
        obtain ⟨v, S1, S2, e1, e2, hJ⟩ := k39 S hs (xs (Int32.ofNat i + 1).toNatClampNeg) (xs (Int32.ofNat i + 2).toNatClampNeg) (xs (Int32.ofNat i + 3).toNatClampNeg) (xs (Int32.ofNat i + 4).toNatClampNeg) (xs (Int32.ofNat i + 5).toNatClampNeg) hI
        exact lw_c39 L xs _ S hs c m hc0 hm0 w1 w2 w3 w4 w5 v S1 S2 e1 e2 _ (nx _ _ _ _ hJ (by omega) (by omega))
      · clear hP hX hk P' X cal
        exact nx _ _ _ _ hI (by omega) (by omega)
