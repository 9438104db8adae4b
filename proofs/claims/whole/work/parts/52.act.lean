/-! ACT -/
def TR (B : St) (n : Nat) (T U : St) : Prop := T.1 30 1 = nI n ∧ U.1 76 59 = nI n ∧ EqB 20 (T.1 31) (U.1 114) ∧ (∀ o, o ≠ 30 → o ≠ 31 → T.1 o = B.1 o) ∧ T.2 = B.2 ∧ (∀ o, o ≠ 76 → o ≠ 114 → o ≠ 30 → o ≠ 31 → U.1 o = B.1 o) ∧ (∀ j, j ≠ 59 → U.1 76 j = B.1 76 j) ∧ U.2.1 = B.2.1 ∧ U.2.2 = B.2.2
def Twn (B : St) (k : Nat) (f g : St → Option (Int32 × St)) : Prop := ∀ T U n, TR B n T U → n + k ≤ 1000 → ∃ v T' U' n', f T = some (v, T') ∧ g U = some (v, U') ∧ TR B n' T' U' ∧ n' ≤ n + k ∧ U'.1 30 = U.1 30 ∧ U'.1 31 = U.1 31
theorem Twn.ret {B : St} {w : Int32} {g : St → Option (Int32 × St)} (h : ∀ T U n, TR B n T U → g U = some (w, U)) : Twn B 0 (fun T => some (w, T)) g := fun T U n hT _ => ⟨w, T, U, n, rfl, h T U n hT, hT, Nat.le_refl _, rfl, rfl⟩
theorem Twn.seq {B : St} {k1 k2 : Nat} {f1 g1 : St → Option (Int32 × St)} {f2 g2 : Int32 → St → Option (Int32 × St)} (h1 : Twn B k1 f1 g1) (h2 : ∀ v, Twn B k2 (f2 v) (g2 v)) : Twn B (k1 + k2) (fun T => (f1 T).bind fun q => f2 q.1 q.2) (fun U => (g1 U).bind fun q => g2 q.1 q.2) := by
  intro T U n hT hn
  obtain ⟨v, T', U', n', x1, x2, x3, x4, x5, x6⟩ := h1 T U n hT (by omega)
  obtain ⟨v', T'', U'', n'', y1, y2, y3, y4, y5, y6⟩ := h2 v T' U' n' x3 (by omega)
  exact ⟨v', T'', U'', n'', ob_step x1 y1, ob_step x2 y2, y3, by omega, y5.trans x5, y6.trans x6⟩
theorem Twn.cg {B : St} {k : Nat} {f g g' : St → Option (Int32 × St)} (h : ∀ T U n, TR B n T U → g U = g' U) (hs : Twn B k f g') : Twn B k f g := by
  intro T U n hT hn
  obtain ⟨v, T', U', n', x1, x2, x3⟩ := hs T U n hT hn
  exact ⟨v, T', U', n', x1, (h T U n hT).trans x2, x3⟩
theorem Twn.body (B : St) (c : Int32) : Twn B 1 (fun T => r_X10_begin_30 T c) (fun U => r_X12_body U c) := by
  intro T U n hT hn
  obtain ⟨t1, t2, t3, t4, t5, t6, t7, t8, t9⟩ := hT
  show ∃ v T' U' n', r_X10_begin_30 T c = some (v, T') ∧ r_X12_body U c = some (v, U') ∧ TR B n' T' U' ∧ n' ≤ n + 1 ∧ U'.1 30 = U.1 30 ∧ U'.1 31 = U.1 31
  unfold r_X10_begin_30 r_X12_body
  rw [t1, t2]
  by_cases w : 20 ≤ n
  · rw [if_pos (le_l (k := 20) w (by omega)), if_pos (le_l (k := 20) w (by omega))]
    refine ⟨0, _, _, n + 1, rfl, rfl, ⟨?_, ?_, t3, fun o a b => ?_, t5, fun o a b c d => ?_, fun j hj => ?_, t8, t9⟩, by omega, ?_, ?_⟩
    · show nI n + 1 = _
      rw [nI_1]
    · show nI n + 1 = _
      rw [nI_1]
    · rw [sI_ne a]
      exact t4 o a b
    · rw [sI_ne a]
      exact t6 o a b c d
    · rw [sI_sl hj]
      exact t7 j hj
    · rw [sI_ne (by decide)]
    · rw [sI_ne (by decide)]
  · have hn20 : n < 20 := by omega
    rw [if_neg (nle_l (k := 20) hn20 (by decide)), if_neg (nle_l (k := 20) hn20 (by decide)), gdN hn20 (by decide), gdN hn20 (by decide), nI_clamp (by omega)]
    refine ⟨0, _, _, n + 1, rfl, rfl, ⟨?_, ?_, ?_, fun o a b => ?_, t5, fun o a b c d => ?_, fun j hj => ?_, t8, t9⟩, by omega, ?_, ?_⟩
    · show nI n + 1 = _
      rw [nI_1]
    · show nI n + 1 = _
      rw [nI_1]
    · exact t3.upd n c
    · rw [sI_ne a, sA_ne b]
      exact t4 o a b
    · rw [sI_ne a, sA_ne b]
      exact t6 o a b c d
    · rw [sI_sl hj]
      exact t7 j hj
    · rw [sI_ne (by decide), sA_ne (by decide)]
    · rw [sI_ne (by decide), sA_ne (by decide)]
theorem Twn.b {B : St} {k : Nat} {c : Int32} {f2 g2 : St → Option (Int32 × St)} (h2 : Twn B k f2 g2) : Twn B (1 + k) (fun T => (r_X10_begin_30 T c).bind fun q => f2 q.2) (fun U => (r_X12_body U c).bind fun q => g2 q.2) := Twn.seq (f2 := fun _ => f2) (g2 := fun _ => g2) (Twn.body B c) (fun _ => h2)
theorem Twn.r {B : St} (w : Int32) : Twn B 0 (fun T => some (w, T)) (fun U => some (w, U)) := Twn.ret (fun _ _ _ _ => rfl)
section ACT
variable {B : St} {h k v : Nat}
theorem TR.kd {B T U : St} {n h w : Nat} (hT : TR B n T U) (e : B.1 79 h = nI w) : U.1 79 h = nI w := by
  rw [hT.2.2.2.2.2.1 79 (by decide) (by decide) (by decide) (by decide)]
  exact e
theorem TR.vl {B T U : St} {n h w : Nat} (hT : TR B n T U) (e : B.1 80 h = nI w) : U.1 80 h = nI w := by
  rw [hT.2.2.2.2.2.1 80 (by decide) (by decide) (by decide) (by decide)]
  exact e
theorem s_hh (a : Int32) : Twn B (1 + 0) (fun T => (r_X10_begin_30 T 10).bind fun q => some (a + nI h, q.2)) (fun U => r_X12_hearerHears U (nI h) a) := Twn.b (Twn.r _)
theorem s_hl {CH : Int32 → St → Option (Int32 × St)} {m : Nat} (hh : h < 6) (e80 : B.1 80 h = nI v) (SH : ∀ a, Twn B m (CH a) (fun U => r_X12_hearsAct U (nI h) a)) (a : Int32) : Twn B (1 + (m + 0)) (fun T => (r_X10_begin_30 T 11).bind fun q => (CH a q.2).bind fun q2 => some (q2.1 - nI v, q2.2)) (fun U => r_X12_hearerLaughs U (nI h) a) := by
  refine Twn.b (f2 := fun T => (CH a T).bind fun q2 => some (q2.1 - nI v, q2.2)) (Twn.seq (f2 := fun x T => some (x - nI v, T)) (g2 := fun x U => gd (¬ (nI h < 0 ∨ 6 ≤ (nI h).toNatClampNeg)) (some (x - (U.1 80) (nI h).toNatClampNeg, U))) (SH a) (fun x => Twn.ret fun T U n hT => ?_))
  rw [gdN hh (by decide), nI_clamp (by omega), hT.vl e80]
theorem s_pl {CL : St → Option (Int32 × St)} {m : Nat} {a : Int32} (SL : Twn B m CL (fun U => r_X12_hearerLaughs U (nI h) a)) : Twn B (1 + (m + 0)) (fun T => (r_X10_begin_30 T 20).bind fun q => (CL q.2).bind fun q2 => some (q2.1 ^^^ 6, q2.2)) (fun U => r_X12_politeLaughs U (nI h) a) :=
  Twn.b (f2 := fun T => (CL T).bind fun q2 => some (q2.1 ^^^ 6, q2.2)) (Twn.seq (f2 := fun x T => some (x ^^^ 6, T)) (g2 := fun x U => some (x ^^^ 6, U)) SL (fun x => Twn.r _))
theorem s_ht {CL : St → Option (Int32 × St)} {m : Nat} {a : Int32} (SL : Twn B m CL (fun U => r_X12_laughsAct U (nI h) a)) : Twn B (1 + (m + 0)) (fun T => (r_X10_begin_30 T 12).bind fun q => (CL q.2).bind fun q2 => some (q2.1 * 2, q2.2)) (fun U => r_X12_hearerTells U (nI h) a) :=
  Twn.b (f2 := fun T => (CL T).bind fun q2 => some (q2.1 * 2, q2.2)) (Twn.seq (f2 := fun x T => some (x * 2, T)) (g2 := fun x U => some (x * 2, U)) SL (fun x => Twn.r _))
theorem bind_id (x : Option (Int32 × St)) : (x.bind fun q => some (q.1, q.2)) = x := by
  cases x <;> rfl
/-- tells: twice at once -/
theorem s_tt {CT : St → Option (Int32 × St)} {CL : St → Option (Int32 × St)} {m m' : Nat} {a : Int32} (ST : Twn B m CT (fun U => r_X12_hearerTells U (nI h) a)) (SL : Twn B m' CL (fun U => r_X12_laughsAct U (nI h) 1)) : Twn B (1 + (m + (m' + 0))) (fun T => (r_X10_begin_30 T 40).bind fun q => (CT q.2).bind fun q2 => (CL q2.2).bind fun q3 => some (q2.1 + q3.1, q3.2)) (fun U => (r_X12_body U 40).bind fun q1 => (r_X12_hearerTells q1.2 (nI h) a).bind fun q2 => (r_X12_laughsAct q2.2 (nI h) 1).bind fun q3 => some (q2.1 + q3.1, q3.2)) :=
  Twn.b (f2 := fun T => (CT T).bind fun q2 => (CL q2.2).bind fun q3 => some (q2.1 + q3.1, q3.2)) (g2 := fun U => (r_X12_hearerTells U (nI h) a).bind fun q2 => (r_X12_laughsAct q2.2 (nI h) 1).bind fun q3 => some (q2.1 + q3.1, q3.2)) (Twn.seq (f2 := fun x T => (CL T).bind fun q3 => some (x + q3.1, q3.2)) (g2 := fun x U => (r_X12_laughsAct U (nI h) 1).bind fun q3 => some (x + q3.1, q3.2)) ST (fun x => Twn.seq (f2 := fun y T => some (x + y, T)) (g2 := fun y U => some (x + y, U)) SL (fun y => Twn.r _)))
theorem ha_k (hh : h < 6) (hk : k ≤ 6) (e79 : B.1 79 h = nI k) (a : Int32) {T U : St} {n : Nat} (hT : TR B n T U) : r_X12_hearsAct U (nI h) a = if k = 2 ∨ k = 5 then (r_X12_body U 30).bind fun q => r_X12_hearerHears q.2 (nI h) (a * 3) else if k = 4 then (r_X12_body U 50).bind fun q => (r_X12_hearerHears q.2 (nI h) a).bind fun q5 => some (-q5.1, q5.2) else if k = 6 then (r_X12_body U 71).bind fun q => (r_X12_hearerHears q.2 (nI h) a).bind fun q9 => gd (¬ (nI h < 0 ∨ 6 ≤ (nI h).toNatClampNeg)) (some (q9.1 ^^^ ((q9.2.1 80) (nI h).toNatClampNeg), q9.2)) else r_X12_hearerHears U (nI h) a := by
  unfold r_X12_hearsAct
  rw [gdN hh (by decide), nI_clamp (by omega), hT.kd e79]
  clear e79 hT
  simp only [bind_id]
  rcases (show k = 0 ∨ k = 1 ∨ k = 2 ∨ k = 3 ∨ k = 4 ∨ k = 5 ∨ k = 6 by omega) with rfl | rfl | rfl | rfl | rfl | rfl | rfl <;> rfl
theorem la_k (hh : h < 6) (hk : k ≤ 6) (e79 : B.1 79 h = nI k) (a : Int32) {T U : St} {n : Nat} (hT : TR B n T U) : r_X12_laughsAct U (nI h) a = if k = 1 then r_X12_politeLaughs U (nI h) a else if k = 4 then (r_X12_body U 51).bind fun q => r_X12_politeLaughs q.2 (nI h) (a + 1) else if k = 6 then (r_X12_body U 70).bind fun q => (r_X12_hearerLaughs q.2 (nI h) a).bind fun q5 => (r_X12_hearerHears q5.2 (nI h) 2).bind fun q6 => some (q5.1 + q6.1, q6.2) else r_X12_hearerLaughs U (nI h) a := by
  unfold r_X12_laughsAct
  rw [gdN hh (by decide), nI_clamp (by omega), hT.kd e79]
  clear e79 hT
  simp only [bind_id]
  rcases (show k = 0 ∨ k = 1 ∨ k = 2 ∨ k = 3 ∨ k = 4 ∨ k = 5 ∨ k = 6 by omega) with rfl | rfl | rfl | rfl | rfl | rfl | rfl <;> rfl
theorem te_k (hh : h < 6) (hk : k ≤ 6) (e79 : B.1 79 h = nI k) (a : Int32) {T U : St} {n : Nat} (hT : TR B n T U) : r_X12_tellsAct U (nI h) a = if k = 3 ∨ k = 6 then (r_X12_body U 40).bind fun q1 => (r_X12_hearerTells q1.2 (nI h) a).bind fun q2 => (r_X12_laughsAct q2.2 (nI h) 1).bind fun q3 => some (q2.1 + q3.1, q3.2) else if k = 5 then (r_X12_body U 60).bind fun q => r_X12_hearerTells q.2 (nI h) (a - nI h) else r_X12_hearerTells U (nI h) a := by
  unfold r_X12_tellsAct
  rw [gdN hh (by decide), nI_clamp (by omega), hT.kd e79]
  clear e79 hT
  simp only [bind_id]
  rcases (show k = 0 ∨ k = 1 ∨ k = 2 ∨ k = 3 ∨ k = 4 ∨ k = 5 ∨ k = 6 by omega) with rfl | rfl | rfl | rfl | rfl | rfl | rfl <;> rfl
theorem s_kind (hh : h < 6) (v9 : v ≤ 9) (e80 : B.1 80 h = nI v) : ∀ k, k ≤ 6 → B.1 79 h = nI k → (∀ a, Twn B 3 (fun T => r_sel_hears T (kC (nI k), nI k, nI h, nI v) a) (fun U => r_X12_hearsAct U (nI h) a)) ∧ (∀ a, Twn B 9 (fun T => r_sel_laughs T (kC (nI k), nI k, nI h, nI v) a) (fun U => r_X12_laughsAct U (nI h) a)) ∧ (∀ a, Twn B 30 (fun T => r_sel_tells T (kC (nI k), nI k, nI h, nI v) a) (fun U => r_X12_tellsAct U (nI h) a)) := by
  have mono : ∀ {m m' : Nat} {f g : St → Option (Int32 × St)}, m ≤ m' → Twn B m f g → Twn B m' f g := by
    intro m m' f g hm hs T U n hT hn
    obtain ⟨v, T', U', n', x1, x2, x3, x4, x5⟩ := hs T U n hT (by omega)
    exact ⟨v, T', U', n', x1, x2, x3, by omega, x5⟩
  refine sel6 ?_ ?_ ?_ ?_ ?_ ?_ ?_
  · intro e
    have H : ∀ a, Twn B 1 (fun T => r_X3_hears_h3 T (nI 0) (nI h) (nI v) a) (fun U => r_X12_hearsAct U (nI h) a) := fun a => Twn.cg (fun T U n hT => ha_k hh (by decide) e a hT) (s_hh a)
    have L : ∀ a, Twn B 2 (fun T => r_X3_laughs_h3 T (nI 0) (nI h) (nI v) a) (fun U => r_X12_laughsAct U (nI h) a) := fun a => Twn.cg (fun T U n hT => la_k hh (by decide) e a hT) (s_hl hh e80 H a)
    have W : ∀ a, Twn B 3 (fun T => r_X3_tells_h3 T (nI 0) (nI h) (nI v) a) (fun U => r_X12_tellsAct U (nI h) a) := fun a => Twn.cg (fun T U n hT => te_k hh (by decide) e a hT) (s_ht (L a))
    exact ⟨fun a => mono (by decide) (H a), fun a => mono (by decide) (L a), fun a => mono (by decide) (W a)⟩
  · intro e
    have H : ∀ a, Twn B 1 (fun T => r_X3_hears_h6 T (nI 1) (nI h) (nI v) a) (fun U => r_X12_hearsAct U (nI h) a) := fun a => Twn.cg (fun T U n hT => ha_k hh (by decide) e a hT) (s_hh a)
    have L : ∀ a, Twn B 3 (fun T => r_X6_laughs_h6 T (nI 1) (nI h) (nI v) a) (fun U => r_X12_laughsAct U (nI h) a) := fun a => Twn.cg (fun T U n hT => la_k hh (by decide) e a hT) (s_pl (s_hl hh e80 H a))
    have W : ∀ a, Twn B 4 (fun T => r_X3_tells_h6 T (nI 1) (nI h) (nI v) a) (fun U => r_X12_tellsAct U (nI h) a) := fun a => Twn.cg (fun T U n hT => te_k hh (by decide) e a hT) (s_ht (L a))
    exact ⟨fun a => mono (by decide) (H a), fun a => mono (by decide) (L a), fun a => mono (by decide) (W a)⟩
  · intro e
    have H : ∀ a, Twn B 2 (fun T => r_X0_hears_h0 T (nI 2) (nI h) (nI v) a) (fun U => r_X12_hearsAct U (nI h) a) := fun a => Twn.cg (fun T U n hT => ha_k hh (by decide) e a hT) (by
      have := Twn.b (c := 30) (s_hh (B := B) (h := h) (a * 3))
      intro T U n hT hn
      obtain ⟨v, T', U', n', x1, x2, x3⟩ := this T U n hT hn
      exact ⟨v, T', U', n', (by
        show ((r_X10_begin_30 T 30).bind fun q1 => ((r_X10_begin_30 q1.2 10).bind fun q => some (a * 3 + nI h, q.2)).bind fun q2 => some (q2.1, q2.2)) = _
        simp only [bind_id]
        exact x1), x2, x3⟩)
    have L : ∀ a, Twn B 3 (fun T => r_X3_laughs_h0 T (nI 2) (nI h) (nI v) a) (fun U => r_X12_laughsAct U (nI h) a) := fun a => Twn.cg (fun T U n hT => la_k hh (by decide) e a hT) (s_hl hh e80 H a)
    have W : ∀ a, Twn B 4 (fun T => r_X3_tells_h0 T (nI 2) (nI h) (nI v) a) (fun U => r_X12_tellsAct U (nI h) a) := fun a => Twn.cg (fun T U n hT => te_k hh (by decide) e a hT) (s_ht (L a))
    exact ⟨fun a => mono (by decide) (H a), fun a => mono (by decide) (L a), fun a => mono (by decide) (W a)⟩
  · intro e
    have H : ∀ a, Twn B 1 (fun T => r_X3_hears_h2 T (nI 3) (nI h) (nI v) a) (fun U => r_X12_hearsAct U (nI h) a) := fun a => Twn.cg (fun T U n hT => ha_k hh (by decide) e a hT) (s_hh a)
    have L : ∀ a, Twn B 2 (fun T => r_X3_laughs_h2 T (nI 3) (nI h) (nI v) a) (fun U => r_X12_laughsAct U (nI h) a) := fun a => Twn.cg (fun T U n hT => la_k hh (by decide) e a hT) (s_hl hh e80 H a)
    have W : ∀ a, Twn B 6 (fun T => r_X2_tells_h2 T (nI 3) (nI h) (nI v) a) (fun U => r_X12_tellsAct U (nI h) a) := fun a => Twn.cg (fun T U n hT => te_k hh (by decide) e a hT) (s_tt (s_ht (L a)) (L 1))
    exact ⟨fun a => mono (by decide) (H a), fun a => mono (by decide) (L a), fun a => mono (by decide) (W a)⟩
  · intro e
    have H : ∀ a, Twn B 2 (fun T => r_X4_hears_h4 T (nI 4) (nI h) (nI v) a) (fun U => r_X12_hearsAct U (nI h) a) := fun a => Twn.cg (fun T U n hT => ha_k hh (by decide) e a hT) (Twn.b (c := 50) (f2 := fun T => (r_X3_hears_h4 T (nI 4) (nI h) (nI v) a).bind fun q2 => some (-q2.1, q2.2)) (g2 := fun U => (r_X12_hearerHears U (nI h) a).bind fun q5 => some (-q5.1, q5.2)) (Twn.seq (f2 := fun x T => some (-x, T)) (g2 := fun x U => some (-x, U)) (s_hh a) (fun x => Twn.r _)))
    have L : ∀ a, Twn B 5 (fun T => r_X4_laughs_h4 T (nI 4) (nI h) (nI v) a) (fun U => r_X12_laughsAct U (nI h) a) := fun a => Twn.cg (fun T U n hT => la_k hh (by decide) e a hT) (by
      have := Twn.b (c := 51) (s_pl (s_hl (B := B) hh e80 H (a + 1)))
      intro T U n hT hn
      obtain ⟨v', T', U', n', x1, x2, x3⟩ := this T U n hT hn
      refine ⟨v', T', U', n', ?_, x2, x3⟩
      show ((r_X10_begin_30 T 51).bind fun q1 => (r_X6_laughs_h4 q1.2 (nI 4) (nI h) (nI v) (a + 1)).bind fun q2 => some (q2.1, q2.2)) = _
      simp only [bind_id]
      exact x1)
    have W : ∀ a, Twn B 6 (fun T => r_X3_tells_h4 T (nI 4) (nI h) (nI v) a) (fun U => r_X12_tellsAct U (nI h) a) := fun a => Twn.cg (fun T U n hT => te_k hh (by decide) e a hT) (s_ht (L a))
    exact ⟨fun a => mono (by decide) (H a), fun a => mono (by decide) (L a), fun a => mono (by decide) (W a)⟩
  · intro e
    have H : ∀ a, Twn B 2 (fun T => r_X0_hears_h1 T (nI 5) (nI h) (nI v) a) (fun U => r_X12_hearsAct U (nI h) a) := fun a => Twn.cg (fun T U n hT => ha_k hh (by decide) e a hT) (by
      have := Twn.b (c := 30) (s_hh (B := B) (h := h) (a * 3))
      intro T U n hT hn
      obtain ⟨v, T', U', n', x1, x2, x3⟩ := this T U n hT hn
      exact ⟨v, T', U', n', (by
        show ((r_X10_begin_30 T 30).bind fun q1 => ((r_X10_begin_30 q1.2 10).bind fun q => some (a * 3 + nI h, q.2)).bind fun q2 => some (q2.1, q2.2)) = _
        simp only [bind_id]
        exact x1), x2, x3⟩)
    have L : ∀ a, Twn B 3 (fun T => r_X3_laughs_h1 T (nI 5) (nI h) (nI v) a) (fun U => r_X12_laughsAct U (nI h) a) := fun a => Twn.cg (fun T U n hT => la_k hh (by decide) e a hT) (s_hl hh e80 H a)
    have W : ∀ a, Twn B 5 (fun T => r_X1_tells_h1 T (nI 5) (nI h) (nI v) a) (fun U => r_X12_tellsAct U (nI h) a) := fun a => Twn.cg (fun T U n hT => te_k hh (by decide) e a hT) (by
      have := Twn.b (c := 60) (s_ht (L (a - nI h)))
      intro T U n hT hn
      obtain ⟨v', T', U', n', x1, x2, x3⟩ := this T U n hT hn
      refine ⟨v', T', U', n', ?_, x2, x3⟩
      show ((r_X10_begin_30 T 60).bind fun q1 => (r_X3_tells_h1 q1.2 (nI 5) (nI h) (nI v) (a - nI h)).bind fun q2 => some (q2.1, q2.2)) = _
      simp only [bind_id]
      exact x1)
    exact ⟨fun a => mono (by decide) (H a), fun a => mono (by decide) (L a), fun a => mono (by decide) (W a)⟩
  · intro e
    have H : ∀ a, Twn B 2 (fun T => r_X9_hears_h9 T (nI 6) (nI h) (nI v) a) (fun U => r_X12_hearsAct U (nI h) a) := fun a => Twn.cg (fun T U n hT => ha_k hh (by decide) e a hT) (Twn.b (c := 71) (f2 := fun T => (r_X3_hears_h9 T (nI 6) (nI h) (nI v) a).bind fun q2 => some (q2.1 ^^^ nI v, q2.2)) (g2 := fun U => (r_X12_hearerHears U (nI h) a).bind fun q9 => gd (¬ (nI h < 0 ∨ 6 ≤ (nI h).toNatClampNeg)) (some (q9.1 ^^^ ((q9.2.1 80) (nI h).toNatClampNeg), q9.2))) (Twn.seq (f2 := fun x T => some (x ^^^ nI v, T)) (g2 := fun x U => gd (¬ (nI h < 0 ∨ 6 ≤ (nI h).toNatClampNeg)) (some (x ^^^ ((U.1 80) (nI h).toNatClampNeg), U))) (s_hh a) (fun x => Twn.ret fun T U n hT => by rw [gdN hh (by decide), nI_clamp (by omega), hT.vl e80])))
    have L : ∀ a, Twn B 5 (fun T => r_X9_laughs_h9 T (nI 6) (nI h) (nI v) a) (fun U => r_X12_laughsAct U (nI h) a) := fun a => Twn.cg (fun T U n hT => la_k hh (by decide) e a hT) (Twn.b (c := 70) (f2 := fun T => (r_X3_laughs_h9 T (nI 6) (nI h) (nI v) a).bind fun q2 => (r_X3_hears_h9 q2.2 (nI 6) (nI h) (nI v) 2).bind fun q3 => some (q2.1 + q3.1, q3.2)) (g2 := fun U => (r_X12_hearerLaughs U (nI h) a).bind fun q5 => (r_X12_hearerHears q5.2 (nI h) 2).bind fun q6 => some (q5.1 + q6.1, q6.2)) (Twn.seq (f2 := fun x T => (r_X3_hears_h9 T (nI 6) (nI h) (nI v) 2).bind fun q3 => some (x + q3.1, q3.2)) (g2 := fun x U => (r_X12_hearerHears U (nI h) 2).bind fun q6 => some (x + q6.1, q6.2)) (s_hl hh e80 H a) (fun x => Twn.seq (f2 := fun y T => some (x + y, T)) (g2 := fun y U => some (x + y, U)) (s_hh 2) (fun y => Twn.r _))))
    have W : ∀ a, Twn B 12 (fun T => r_X2_tells_h9 T (nI 6) (nI h) (nI v) a) (fun U => r_X12_tellsAct U (nI h) a) := fun a => Twn.cg (fun T U n hT => te_k hh (by decide) e a hT) (s_tt (s_ht (L a)) (L 1))
    exact ⟨fun a => mono (by decide) (H a), fun a => mono (by decide) (L a), fun a => mono (by decide) (W a)⟩
end ACT
theorem act_inv {S U : St} {hs : List Hr} {n : Nat} {T : St} (hI : Inv S hs) (hT : TR (sI S 30 1 0) n T U) (hn : n ≤ 1000) (e30 : U.1 30 = T.1 30) (e31 : U.1 31 = T.1 31) : Inv U hs := by
  obtain ⟨t1, t2, t3, t4, t5, t6, t7, t8, t9⟩ := hT
  have fr : ∀ o, o ≠ 76 → o ≠ 114 → o ≠ 30 → o ≠ 31 → U.1 o = S.1 o := fun o a b c d => by
    rw [t6 o a b c d, sI_ne c]
  obtain ⟨nb, hB, hN, hIm, hTx, hTr, hTp, hHo, hL⟩ := id hI
  refine hI.of (fun o h1 h2 => fr o h1 (fun z => h2 (by rw [z]; decide)) (fun z => h2 (by rw [z]; decide)) (fun z => h2 (by rw [z]; decide))) (fun j hj => ?_) t9 ?_ ?_
  · rw [t7 j (fun z => hj (by rw [z]; decide)), sI_ne (by decide)]
  · rw [e30, e31]
    exact ⟨n, hn, t1, t2, t3⟩
  · unfold Tps at hTp ⊢
    rw [t8, fr 64 (by decide) (by decide) (by decide) (by decide), fr 66 (by decide) (by decide) (by decide) (by decide), fr 68 (by decide) (by decide) (by decide) (by decide), fr 70 (by decide) (by decide) (by decide) (by decide), fr 72 (by decide) (by decide) (by decide) (by decide), fr 74 (by decide) (by decide) (by decide) (by decide), fr 115 (by decide) (by decide) (by decide) (by decide), fr 116 (by decide) (by decide) (by decide) (by decide)]
    exact hTp
theorem act_0 {S T : St} {hs : List Hr} (hI : Inv S hs) (f1 : ∀ o, o ≠ 30 → o ≠ 31 → T.1 o = (sI S 30 1 0).1 o) (f2 : T.2 = (sI S 30 1 0).2) : TR (sI S 30 1 0) 0 (sI S 30 1 0) (sI T 76 59 0) := by
  obtain ⟨nb, hB, hN, hIm, hTx, ⟨n, h1, h2, h3, h4⟩, hTp, hHo, hL⟩ := id hI
  refine ⟨rfl, rfl, ?_, fun _ _ _ => rfl, rfl, fun o a b c d => ?_, fun j hj => ?_, ?_, ?_⟩
  · show EqB 20 (S.1 31) (T.1 114)
    rw [f1 114 (by decide) (by decide)]
    exact h4
  · rw [sI_ne a]
    exact f1 o c d
  · rw [sI_sl hj, f1 76 (by decide) (by decide)]
  · show T.2.1 = _
    rw [f2]
  · show T.2.2 = _
    rw [f2]
theorem act_run {S : St} {hs : List Hr} {f g : St → Option (Int32 × St)} (hI : Inv S hs) {m : Nat} (hm : m ≤ 1000) (hS : Twn (sI S 30 1 0) m f g) : ∃ v T U, f (sI S 30 1 0) = some (v, T) ∧ g (sI T 76 59 0) = some (v, U) ∧ Inv U hs ∧ T.1 76 = (sI S 30 1 0).1 76 := by
  obtain ⟨v, T, U, n, x1, x2, x3, x4, x5, x6⟩ := hS _ _ 0 (act_0 hI (T := sI S 30 1 0) (fun _ _ _ => rfl) rfl) (by omega)
  obtain ⟨v', T', U', n', y1, y2, y3, y4, y5, y6⟩ := hS _ _ 0 (act_0 hI (T := T) x3.2.2.2.1 x3.2.2.2.2.1) (by omega)
  have e := Option.some.inj (x1.symm.trans y1)
  have e1 : v = v' := congrArg Prod.fst e
  have e2 : T = T' := congrArg Prod.snd e
  subst e1
  subst e2
  exact ⟨v, T, U', x1, y2, act_inv hI y3 (by omega) y5 y6, x3.2.2.2.1 76 (by decide) (by decide)⟩
theorem k_act : K32 Inv := by
  intro S hs a1 a2 a3 hI
  obtain ⟨nb, hB, ⟨ns, nh, nd, nf, ne, ⟨⟨c1, c2, c3⟩, ⟨d1, d2, d3⟩, ⟨y1, y2, y3⟩, ⟨f1, f2, f3⟩, ⟨b1, b2, b3⟩, t1, t2⟩, hA, hT, hR, hF, hK, hW⟩, hIm, hTx, hTr, hTp, hHo, hL⟩ := id hI
  have hI0 : Inv (sI (sI S 30 1 0) 76 59 0) hs := act_inv hI (act_0 hI (T := sI S 30 1 0) (fun _ _ _ => rfl) rfl) (by omega) rfl rfl
  by_cases q : r_X12_in a1 0 (nI nh - 1) = 0
  · refine ⟨0, sI S 30 1 0, sI (sI S 30 1 0) 76 59 0, ?_, ?_, hI0⟩
    · unfold r_X11_act
      refine ob_step (show r_X10_clear_30 S = some (0, sI S 30 1 0) from rfl) ?_
      exact at_no (S := sI S 30 1 0) d2 q _ _
    · unfold r_X12_act r_X12_isHearer
      refine if_pos ?_
      show r_X12_in a1 0 (S.1 76 1 - 1) = 0
      rw [d3]
      exact q
  obtain ⟨h, hh, rfl⟩ := ii_lt (by omega) q
  obtain ⟨k, v, k6, v9, ek, ev, hat⟩ := at_yes (S := sI S 30 1 0) d1 d2 hW hh
  obtain ⟨s1, s2, s3⟩ := s_kind (B := sI S 30 1 0) (by omega) v9 ev k k6 ek
  have qm : ¬ r_X12_isHearer (sI (sI S 30 1 0) 76 59 0) (nI h) = 0 := by
    unfold r_X12_isHearer
    show ¬ r_X12_in (nI h) 0 (S.1 76 1 - 1) = 0
    rw [d3]
    exact q
  have qm' : ∀ T : St, T.1 76 = (sI S 30 1 0).1 76 → ¬ r_X12_isHearer (sI T 76 59 0) (nI h) = 0 := by
    intro T e
    unfold r_X12_isHearer
    show ¬ r_X12_in (nI h) 0 (T.1 76 1 - 1) = 0
    rw [e]
    show ¬ r_X12_in (nI h) 0 (S.1 76 1 - 1) = 0
    rw [d3]
    exact q
  have cls : ∀ y, (if a2 = 0 then (r_sel_hears (sI S 30 1 0) (kC (nI k), nI k, nI h, nI v) a3).bind (fun q4 => some (q4.1, q4.2)) else if a2 = 1 then (r_sel_laughs (sI S 30 1 0) (kC (nI k), nI k, nI h, nI v) a3).bind (fun q5 => some (q5.1, q5.2)) else if a2 = 2 then (r_sel_tells (sI S 30 1 0) (kC (nI k), nI k, nI h, nI v) a3).bind (fun q6 => some (q6.1, q6.2)) else some (0, sI S 30 1 0)) = y → r_X11_act S hs (nI h) a2 a3 = y := by
    intro y hy
    unfold r_X11_act
    refine ob_step (show r_X10_clear_30 S = some (0, sI S 30 1 0) from rfl) ?_
    refine (hat _ _).trans ?_
    exact hy
  have go : ∀ {f g : St → Option (Int32 × St)} {m : Nat}, m ≤ 1000 → Twn (sI S 30 1 0) m f g → (∀ y, f (sI S 30 1 0) = y → r_X11_act S hs (nI h) a2 a3 = y) → (∀ T y, T.1 76 = (sI S 30 1 0).1 76 → g (sI T 76 59 0) = y → r_X12_act T (nI h) a2 a3 = y) → ∃ (v : Int32) (S1 : St) (S2 : St), r_X11_act S hs (nI h) a2 a3 = some (v, S1) ∧ r_X12_act S1 (nI h) a2 a3 = some (v, S2) ∧ Inv S2 hs := by
    intro f g m hm hS h1 h2
    obtain ⟨v, T, U, x1, x2, x3, x4⟩ := act_run hI hm hS
    exact ⟨v, T, U, h1 _ x1, h2 T _ x4 x2, x3⟩
  by_cases z0 : a2 = 0
  · refine go (by decide) (s1 a3) (fun y hy => cls y ?_) (fun T y e hy => ?_)
    · rw [if_pos z0, bind_id]
      exact hy
    · unfold r_X12_act
      refine (if_neg (qm' T e)).trans ((if_neg ?_).trans ((if_pos z0).trans ?_))
      · rw [z0]
        decide
      · rw [bind_id]
        exact hy
  by_cases z1 : a2 = 1
  · refine go (by decide) (s2 a3) (fun y hy => cls y ?_) (fun T y e hy => ?_)
    · rw [if_neg z0, if_pos z1, bind_id]
      exact hy
    · unfold r_X12_act
      refine (if_neg (qm' T e)).trans ((if_neg ?_).trans ((if_neg z0).trans ((if_pos z1).trans ?_)))
      · rw [z1]
        decide
      · rw [bind_id]
        exact hy
  by_cases z2 : a2 = 2
  · refine go (by decide) (s3 a3) (fun y hy => cls y ?_) (fun T y e hy => ?_)
    · rw [if_neg z0, if_neg z1, if_pos z2, bind_id]
      exact hy
    · unfold r_X12_act
      refine (if_neg (qm' T e)).trans ((if_neg ?_).trans ((if_neg z0).trans ((if_neg z1).trans ?_)))
      · rw [z2]
        decide
      · rw [bind_id]
        exact hy
  · refine ⟨0, sI S 30 1 0, sI (sI S 30 1 0) 76 59 0, cls _ ?_, ?_, hI0⟩
    · rw [if_neg z0, if_neg z1, if_neg z2]
    · unfold r_X12_act
      refine (if_neg qm).trans (if_pos ?_)
      by_cases y : r_X12_in a2 0 2 = 0
      · exact y
      · obtain ⟨w, -, w2, rfl⟩ := ii_nat (l := 0) (h := 2) (by decide) (by decide) y
        exfalso
        rcases (show w = 0 ∨ w = 1 ∨ w = 2 by omega) with rfl | rfl | rfl
        · exact z0 rfl
        · exact z1 rfl
        · exact z2 rfl
