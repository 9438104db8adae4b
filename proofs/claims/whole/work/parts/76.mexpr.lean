/-! HOUSE: the model's expressions -/
theorem ps_r_f {k : Nat → Nat} {g : Nat → PR} {ch : Nat} {tok : Int32} : ∀ n (r : PR), r.1 = false → ps_r k g ch tok n r = r
  | 0, _, _ => rfl
  | n + 1, r, h => if_neg fun z => by
    rw [h] at z
    cases z.1
def me_F (S0 : St) (t c N n : Nat) (v : Int32) (S : St) (q : Nat) : Prop := ∃ tag S' M' W', lp_X12_takesE_22 (nI c) n v S = some (tag, S') ∧ ¬ tag = 2 ∧ ms_M S0 t c N S' q M' W'
/-- a piece of the model's reading does what a plain function says; what waits is settled by f -/
def me_Q (S0 : St) (t c N : Nat) (T : List Nat → Prop) (f : List Int32 → List Nat → List Int32 × List Nat) (g : Nat → PR) (q : Nat) : Prop := ∀ W n S p M, T W → ms_M S0 t c N S p M W → p ≤ N → M.length + W.length ≤ p → opn W = q → 300 ≤ n + p → ((g p).1 = true → ∃ n' S' M' W', lp_X12_takesE_22 (nI c) n 1 S = lp_X12_takesE_22 (nI c) n' 0 S' ∧ ms_M S0 t c N S' (g p).2.1 M' W' ∧ f M' W' = (M ++ (g p).2.2, W) ∧ n + p ≤ n' + (g p).2.1 ∧ M'.length + W'.length ≤ (g p).2.1) ∧ ((g p).1 = false → me_F S0 t c N n 1 S (g p).2.1)
def me_P (S0 : St) (t c N : Nat) (g : Nat → PR) (q : Nat) : Prop := ∀ W n S p M, ms_M S0 t c N S p M W → p ≤ N → M.length + W.length ≤ p → opn W = q → 300 ≤ n + p → ((g p).1 = true → ∃ n' S', lp_X12_takesE_22 (nI c) n 1 S = lp_X12_takesE_22 (nI c) n' 0 S' ∧ ms_M S0 t c N S' (g p).2.1 (wh (M ++ (g p).2.2) W).1 (wh (M ++ (g p).2.2) W).2 ∧ n + p ≤ n' + (g p).2.1 ∧ (M ++ (g p).2.2).length + W.length ≤ (g p).2.1) ∧ ((g p).1 = false → me_F S0 t c N n 1 S (g p).2.1)
section
variable {S0 : St} {t c N q : Nat} {k : Nat → Nat}
theorem me_loop (hT : ms_T S0 N k) {T0 T1 : List Nat → Prop} {f0 f1 : List Int32 → List Nat → List Int32 × List Nat} {g : Nat → PR} {ch : Nat} {tok : Int32} (hg : PG N g) (hI : me_Q S0 t c N T0 f0 g q) (hch : ch ≤ 127) (hop : ∀ n S p M' W' M1 W, ms_M S0 t c N S p M' W' → p ≤ N → k p = ch → M'.length + W'.length ≤ 99 → f1 M' W' = (M1, W) → ∃ S1, lp_X12_takesE_22 (nI c) (n + 1) 0 S = lp_X12_takesE_22 (nI c) n 1 S1 ∧ ms_M S0 t c N S1 (p + 1) M1 (ch :: W)) (hab : ∀ M W, f1 (f0 M W).1 (f0 M W).2 = f1 M W) (hpu : ∀ M W, T1 W → f1 M (ch :: W) = (M ++ [tok], W)) (hTT : ∀ W, T1 W → T0 (ch :: W)) (hopn : ∀ W, opn (ch :: W) = opn W) (hlen : ∀ M W, (f1 M W).1.length + (f1 M W).2.length = M.length + W.length) {M : List Int32} {W : List Nat} (hTW : T1 W) (hq : opn W = q) : ∀ m (r : PR) n S M' W', r.1 = true → ms_M S0 t c N S r.2.1 M' W' → f1 M' W' = (M ++ r.2.2, W) → r.2.1 ≤ N → M'.length + W'.length ≤ r.2.1 → 300 ≤ n + r.2.1 → ((ps_r k g ch tok m r).1 = true → ∃ n' S' M'' W'', lp_X12_takesE_22 (nI c) n 0 S = lp_X12_takesE_22 (nI c) n' 0 S' ∧ ms_M S0 t c N S' (ps_r k g ch tok m r).2.1 M'' W'' ∧ f1 M'' W'' = (M ++ (ps_r k g ch tok m r).2.2, W) ∧ n + r.2.1 ≤ n' + (ps_r k g ch tok m r).2.1 ∧ M''.length + W''.length ≤ (ps_r k g ch tok m r).2.1) ∧ ((ps_r k g ch tok m r).1 = false → me_F S0 t c N n 0 S (ps_r k g ch tok m r).2.1) := by
  have hN := hT.2.1
  intro m
  induction m with
  | zero =>
    intro r n S M' W' hr h1 h2 h3 h4 h5
    refine ⟨fun _ => ⟨n, S, M', W', rfl, h1, h2, Nat.le_refl _, h4⟩, fun z => ?_⟩
    have z' : r.1 = false := z
    rw [hr] at z'
    cases z'
  | succ m ih =>
    intro r n S M' W' hr h1 h2 h3 h4 h5
    obtain ⟨b, pp, E⟩ := r
    have hb : b = true := hr
    subst hb
    have h3' : pp ≤ N := h3
    have h4' : M'.length + W'.length ≤ pp := h4
    have h5' : 300 ≤ n + pp := h5
    have e : ps_r k g ch tok (m + 1) (true, pp, E) = if true = true ∧ k pp = ch then ps_r k g ch tok m ((g (pp + 1)).1, (g (pp + 1)).2.1, E ++ (g (pp + 1)).2.2 ++ [tok]) else (true, pp, E) := rfl
    rw [e]
    by_cases d : k pp = ch
    · rw [if_pos ⟨rfl, d⟩]
      have hp1 : pp < N := hT.1.lt d hch
      obtain ⟨n, rfl⟩ : ∃ n', n = n' + 1 := ⟨n - 1, by omega⟩
      obtain ⟨S1, a1, a2⟩ := hop n S pp M' W' (M ++ E) W h1 h3' d (by omega) h2
      have hll := hlen M' W'
      rw [h2] at hll
      have hll' : (M ++ E).length + W.length = M'.length + W'.length := hll
      obtain ⟨g1, g2, g3⟩ := hg (pp + 1) hp1
      obtain ⟨b1, b2⟩ := hI (ch :: W) n S1 (pp + 1) (M ++ E) (hTT W hTW) a2 hp1 (by show (M ++ E).length + (W.length + 1) ≤ pp + 1; omega) ((hopn W).trans hq) (by omega)
      cases d2 : (g (pp + 1)).1 with
      | false =>
        rw [ps_r_f m (false, (g (pp + 1)).2.1, E ++ (g (pp + 1)).2.2 ++ [tok]) rfl]
        refine ⟨fun z => by (cases z), fun _ => ?_⟩
        obtain ⟨tag, S', M2, W2, c1, c2, c3⟩ := b2 d2
        exact ⟨tag, S', M2, W2, a1.trans c1, c2, c3⟩
      | true =>
        obtain ⟨n', S', M2, W2, c1, c2, c3, c4, c5⟩ := b1 d2
        have f1e : f1 M2 W2 = (M ++ (E ++ (g (pp + 1)).2.2 ++ [tok]), W) := by
          rw [← hab, c3]
          show f1 (M ++ E ++ (g (pp + 1)).2.2) (ch :: W) = _
          rw [hpu _ _ hTW, List.append_assoc, List.append_assoc, List.append_assoc]
        obtain ⟨u1, u2⟩ := ih (true, (g (pp + 1)).2.1, E ++ (g (pp + 1)).2.2 ++ [tok]) n' S' M2 W2 rfl c2 f1e g2 c5 (by show 300 ≤ n' + (g (pp + 1)).2.1; omega)
        refine ⟨fun z => ?_, fun z => ?_⟩
        · obtain ⟨n2, S2, M3, W3, v1, v2, v3, v4, v5⟩ := u1 z
          refine ⟨n2, S2, M3, W3, a1.trans (c1.trans v1), v2, v3, ?_, v5⟩
          have v4' : n' + (g (pp + 1)).2.1 ≤ n2 + (ps_r k g ch tok m (true, (g (pp + 1)).2.1, E ++ (g (pp + 1)).2.2 ++ [tok])).2.1 := v4
          show n + 1 + pp ≤ _
          omega
        · obtain ⟨tag, S2, M3, W3, v1, v2, v3⟩ := u2 z
          exact ⟨tag, S2, M3, W3, a1.trans (c1.trans v1), v2, v3⟩
    · rw [if_neg (fun z => d z.2)]
      exact ⟨fun _ => ⟨n, S, M', W', rfl, h1, h2, Nat.le_refl _, h4⟩, fun z => by cases z⟩
theorem me_all (hT : ms_T S0 N k) {T0 T1 : List Nat → Prop} {f0 f1 : List Int32 → List Nat → List Int32 × List Nat} {g : Nat → PR} {ch : Nat} {tok : Int32} (hg : PG N g) (hI : me_Q S0 t c N T0 f0 g q) (hch : ch ≤ 127) (hop : ∀ n S p M' W' M1 W, ms_M S0 t c N S p M' W' → p ≤ N → k p = ch → M'.length + W'.length ≤ 99 → f1 M' W' = (M1, W) → ∃ S1, lp_X12_takesE_22 (nI c) (n + 1) 0 S = lp_X12_takesE_22 (nI c) n 1 S1 ∧ ms_M S0 t c N S1 (p + 1) M1 (ch :: W)) (hab : ∀ M W, f1 (f0 M W).1 (f0 M W).2 = f1 M W) (hpu : ∀ M W, T1 W → f1 M (ch :: W) = (M ++ [tok], W)) (hTT : ∀ W, T1 W → T0 (ch :: W)) (hT0 : ∀ W, T1 W → T0 W) (hid : ∀ M W, T1 W → f1 M W = (M, W)) (hopn : ∀ W, opn (ch :: W) = opn W) (hlen : ∀ M W, (f1 M W).1.length + (f1 M W).2.length = M.length + W.length) : me_Q S0 t c N T1 f1 (fun p => ps_r k g ch tok 100 (g p)) q := by
  intro W n S p M hTW h1 hp hl hq hn
  obtain ⟨g1, g2, g3⟩ := hg p hp
  obtain ⟨b1, b2⟩ := hI W n S p M (hT0 W hTW) h1 hp hl hq hn
  show ((ps_r k g ch tok 100 (g p)).1 = true → ∃ n' S' M' W', lp_X12_takesE_22 (nI c) n 1 S = lp_X12_takesE_22 (nI c) n' 0 S' ∧ ms_M S0 t c N S' (ps_r k g ch tok 100 (g p)).2.1 M' W' ∧ f1 M' W' = (M ++ (ps_r k g ch tok 100 (g p)).2.2, W) ∧ n + p ≤ n' + (ps_r k g ch tok 100 (g p)).2.1 ∧ M'.length + W'.length ≤ (ps_r k g ch tok 100 (g p)).2.1) ∧ ((ps_r k g ch tok 100 (g p)).1 = false → me_F S0 t c N n 1 S (ps_r k g ch tok 100 (g p)).2.1)
  cases d : (g p).1 with
  | false =>
    rw [ps_r_f 100 (g p) d]
    refine ⟨fun z => ?_, fun _ => b2 d⟩
    rw [d] at z
    cases z
  | true =>
    obtain ⟨n', S', M2, W2, c1, c2, c3, c4, c5⟩ := b1 d
    have f1e : f1 M2 W2 = (M ++ (g p).2.2, W) := by
      rw [← hab, c3]
      exact hid _ _ hTW
    obtain ⟨u1, u2⟩ := me_loop hT hg hI hch hop hab hpu hTT hopn hlen hTW hq 100 (g p) n' S' M2 W2 d c2 f1e g2 c5 (by omega)
    refine ⟨fun z => ?_, fun z => ?_⟩
    · obtain ⟨n2, S2, M3, W3, v1, v2, v3, v4, v5⟩ := u1 z
      refine ⟨n2, S2, M3, W3, c1.trans v1, v2, v3, ?_, v5⟩
      omega
    · obtain ⟨tag, S2, M3, W3, v1, v2, v3⟩ := u2 z
      exact ⟨tag, S2, M3, W3, c1.trans v1, v2, v3⟩
def T_0 : List Nat → Prop
  | [] => True
  | x :: _ => x ≠ 33
def T_1 : List Nat → Prop
  | [] => True
  | x :: _ => x ≠ 33 ∧ x ≠ 38
def T_2 : List Nat → Prop
  | [] => True
  | x :: _ => x ≠ 33 ∧ x ≠ 38 ∧ x ≠ 124
theorem wh_T {M : List Int32} : ∀ {W : List Nat}, T_0 W → wh M W = (M, W)
  | [], _ => rfl
  | _ :: _, h => if_neg h
theorem se_F {M : List Int32} : ∀ {W : List Nat}, T_1 W → se false M W = (M, W)
  | [], _ => rfl
  | x :: r, h => by
    show (if x = 38 then se false (M ++ [-38]) r else if x = 124 ∧ false = true then se false (M ++ [-124]) r else (M, x :: r)) = _
    rw [if_neg h.2, if_neg (fun z => by cases z.2)]
theorem se_T {M : List Int32} : ∀ {W : List Nat}, T_2 W → se true M W = (M, W)
  | [], _ => rfl
  | x :: r, h => by
    show (if x = 38 then se true (M ++ [-38]) r else if x = 124 ∧ true = true then se true (M ++ [-124]) r else (M, x :: r)) = _
    rw [if_neg h.2.1, if_neg (fun z => h.2.2 z.1)]
theorem se_tf : ∀ (W : List Nat) (M : List Int32), se true (se false M W).1 (se false M W).2 = se true M W
  | [], _ => rfl
  | x :: r, M => by
    have e1 : se false M (x :: r) = if x = 38 then se false (M ++ [-38]) r else if x = 124 ∧ false = true then se false (M ++ [-124]) r else (M, x :: r) := rfl
    have e2 : se true M (x :: r) = if x = 38 then se true (M ++ [-38]) r else if x = 124 ∧ true = true then se true (M ++ [-124]) r else (M, x :: r) := rfl
    by_cases c : x = 38
    · rw [e1, e2, if_pos c, if_pos c]
      exact se_tf r _
    · rw [e1, if_neg c, if_neg (fun z => by cases z.2)]
theorem ms_M.pq {S : St} {p : Nat} {M : List Int32} {W : List Nat} (h : ms_M S0 t c N S p M W) (x : Nat) (hx : x = 38 ∨ x = 124) : ms_M S0 t c N (sI (sI (sA S 91 (upd (S.1 91) W.length (nI x))) 76 24 (nI (W.length + 1))) 76 13 (nI (p + 1))) (p + 1) M (x :: W) := by
  obtain ⟨h1, h2, h3, h4, h5, h6, h7, h8, h9, h10, h11, h12⟩ := h
  refine ⟨rfl, h2, h3, rfl, ?_, h6, ⟨upd_at _ _ _, by omega, stk_put (Nat.le_refl _) h7⟩, h8, fun j a b d e => ?_, h10, fun j a b d e f => ?_, h12⟩
  · show S.1 76 25 = nI (opn W + if x = 38 ∨ x = 124 then 0 else 1)
    rw [if_pos hx]
    exact h5
  · rw [sI_ne a, sI_ne a, sA_ne e]
    exact h9 j a b d e
  · rw [sI_sl a, sI_sl e, sA_ne (by decide)]
    exact h11 j a b d e f
theorem op_38 (ht : t < 6) (hT : ms_T S0 N k) : ∀ n S p M' W' M1 W, ms_M S0 t c N S p M' W' → p ≤ N → k p = 38 → M'.length + W'.length ≤ 99 → se false M' W' = (M1, W) → ∃ S1, lp_X12_takesE_22 (nI c) (n + 1) 0 S = lp_X12_takesE_22 (nI c) n 1 S1 ∧ ms_M S0 t c N S1 (p + 1) M1 (38 :: W) := by
  intro n S p M' W' M1 W h hp hk hl he
  have es : sg N k p = 38 := (sg_eq hT.1 (a := 38) (by decide)).mpr hk
  obtain ⟨S1, a1, a2⟩ := settle_m ht (f1 := 38) (b := false) ⟨fun _ => rfl, fun _ => rfl⟩ W' 4000 S M' h (by omega) (by omega)
  have hlen := se_len false W' M'
  rw [he] at a2 hlen
  have hlen' : M1.length + W.length = M'.length + W'.length := hlen
  have a2' : ms_M S0 t c N S1 p M1 W := a2
  refine ⟨_, ?_, a2'.pq 38 (Or.inl rfl)⟩
  rw [lp_X12_takesE_22]
  refine ob_step (sign_m hT h hp) ?_
  rw [if_pos rfl, es, if_pos rfl]
  refine ob_step (a := (0, S1)) (ob_step a1 rfl) ?_
  show gd (¬ (S1.1 76 24 < 0 ∨ 101 ≤ (S1.1 76 24).toNatClampNeg)) (lp_X12_takesE_22 (nI c) n 1 (sI (sI (sA S1 91 (upd (S1.1 91) (S1.1 76 24).toNatClampNeg 38)) 76 24 (S1.1 76 24 + 1)) 76 13 (S1.1 76 13 + 1))) = _
  rw [a2'.2.2.2.1, a2'.1, gdN (show W.length < 101 by omega) (by decide), nI_clamp (by omega), nI_1, nI_1]
  rfl
theorem op_124 (ht : t < 6) (hT : ms_T S0 N k) : ∀ n S p M' W' M1 W, ms_M S0 t c N S p M' W' → p ≤ N → k p = 124 → M'.length + W'.length ≤ 99 → se true M' W' = (M1, W) → ∃ S1, lp_X12_takesE_22 (nI c) (n + 1) 0 S = lp_X12_takesE_22 (nI c) n 1 S1 ∧ ms_M S0 t c N S1 (p + 1) M1 (124 :: W) := by
  intro n S p M' W' M1 W h hp hk hl he
  have es : sg N k p = 124 := (sg_eq hT.1 (a := 124) (by decide)).mpr hk
  obtain ⟨S1, a1, a2⟩ := settle_m ht (f1 := 124) (b := true) ⟨fun z => absurd z (by decide), fun z => by cases z⟩ W' 4000 S M' h (by omega) (by omega)
  have hlen := se_len true W' M'
  rw [he] at a2 hlen
  have hlen' : M1.length + W.length = M'.length + W'.length := hlen
  have a2' : ms_M S0 t c N S1 p M1 W := a2
  refine ⟨_, ?_, a2'.pq 124 (Or.inr rfl)⟩
  rw [lp_X12_takesE_22]
  refine ob_step (sign_m hT h hp) ?_
  rw [if_pos rfl, es, if_neg (by decide), if_pos rfl]
  refine ob_step (a := (0, S1)) (ob_step a1 rfl) ?_
  show gd (¬ (S1.1 76 24 < 0 ∨ 101 ≤ (S1.1 76 24).toNatClampNeg)) (lp_X12_takesE_22 (nI c) n 1 (sI (sI (sA S1 91 (upd (S1.1 91) (S1.1 76 24).toNatClampNeg 124)) 76 24 (S1.1 76 24 + 1)) 76 13 (S1.1 76 13 + 1))) = _
  rw [a2'.2.2.2.1, a2'.1, gdN (show W.length < 101 by omega) (by decide), nI_clamp (by omega), nI_1, nI_1]
  rfl
theorem both_m (ht : t < 6) (hT : ms_T S0 N k) {g : Nat → PR} (hg : PG N g) (hI : me_P S0 t c N g q) : me_Q S0 t c N T_1 (se false) (ps_B k g) q := by
  refine me_all (T0 := T_0) (f0 := fun M W => (M, W)) (ch := 38) (tok := -38) hT hg ?_ (by decide) (op_38 ht hT) (fun _ _ => rfl) (fun M W hW => ?_) (fun W hW => by show (38 : Nat) ≠ 33; decide) (fun W hW => ?_) (fun M W hW => se_F hW) (fun _ => rfl) (fun M W => se_len false W M)
  · intro W n S p M hW h1 hp hl hq hn
    obtain ⟨b1, b2⟩ := hI W n S p M h1 hp hl hq hn
    refine ⟨fun z => ?_, b2⟩
    obtain ⟨n', S', c1, c2, c3, c4⟩ := b1 z
    rw [wh_T hW] at c2
    exact ⟨n', S', _, _, c1, c2, rfl, c3, c4⟩
  · show se false (M ++ [-38]) W = _
    exact se_F hW
  · match W, hW with
    | [], _ => exact True.intro
    | _ :: _, h => exact h.1
theorem either_m (ht : t < 6) (hT : ms_T S0 N k) {g : Nat → PR} (hg : PG N g) (hI : me_P S0 t c N g q) : me_Q S0 t c N T_2 (se true) (ps_E k g) q := by
  refine me_all (T0 := T_1) (f0 := se false) (ch := 124) (tok := -124) hT (ps_B_ok hT.1 hg) (both_m ht hT hg hI) (by decide) (op_124 ht hT) (fun M W => se_tf W M) (fun M W hW => ?_) (fun W hW => by show (124 : Nat) ≠ 33 ∧ (124 : Nat) ≠ 38; decide) (fun W hW => ?_) (fun M W hW => se_T hW) (fun _ => rfl) (fun M W => se_len true W M)
  · show se true (M ++ [-124]) W = _
    exact se_T hW
  · match W, hW with
    | [], _ => exact True.intro
    | _ :: _, h => exact ⟨h.1, h.2.1⟩
end
