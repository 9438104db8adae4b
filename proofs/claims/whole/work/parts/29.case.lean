/-! CASES: each case of the law's switch, to its end; written by gen29.py -/
theorem lg_cmp_self (v : Int64) : lg_cmp v v = 0 := by
  unfold lg_cmp
  rw [if_neg (Int64.lt_irrefl), if_pos rfl]
set_option maxRecDepth 20000 in
set_option maxHeartbeats 4000000 in
theorem lw_c0 (L : Nat) (xs : Nat → Int32) (i : Int32) (S : St) (hs : List Hr) (c m : Nat) (hc : c ≤ 600000) (hm : m ≤ 7302250) (w1 : vp_in (i + 1) L) (w2 : vp_in (i + 2) L) (v : Int32) (S1 S2 : St) (h11 : r_X11_story S (xs (i + 1).toNatClampNeg) (xs (i + 2).toNatClampNeg) = some (v, S1)) (h12 : r_X12_story S1 (xs (i + 1).toNatClampNeg) (xs (i + 2).toNatClampNeg) = some (v, S2)) (P : Option Value → Hp → Prop) (h : Wp mi_law (Ev 22) (some (L, xs)) (600000, 7302250) P (1541, [some (.ref 0), some (.ref 7), some (.ref 76), some (.int i)], [], st S2 hs, c, m)) : Wp mi_law (Ev 22) (some (L, xs)) (600000, 7302250) P (208, [some (.ref 0), some (.ref 7), some (.ref 76), some (.int i)], [], st S hs, c, m) := by
  refine Wp.stepsG 6 (fun cal X P' hk hX hP => ?_)
  show vp_in (i + 1) L ∧ X (214, [some (.ref 0), some (.ref 7), some (.ref 76), some (.int i)], [.int (xs (i + 1).toNatClampNeg), .ref 7], st S hs, c, m)
  refine ⟨w1, hX _ ?_⟩
  clear hP hX hk P' X cal
  refine Wp.stepsG 5 (fun cal X P' hk hX hP => ?_)
  show vp_in (i + 2) L ∧ X (219, [some (.ref 0), some (.ref 7), some (.ref 76), some (.int i)], [.int (xs (i + 2).toNatClampNeg), .int (xs (i + 1).toNatClampNeg), .ref 7], st S hs, c, m)
  refine ⟨w2, hX _ ?_⟩
  clear hP hX hk P' X cal
  refine Wp.stepsG 1 (fun cal X P' hk hX hP => ?_)
  show kcall cal ix_X11_story [.ref 7, .int (xs (i + 1).toNatClampNeg), .int (xs (i + 2).toNatClampNeg)] (st S hs) [] c m (600000, 7302250) (fun vv σ' c' m' => X (222, [some (.ref 0), some (.ref 7), some (.ref 76), some (.int i)], vv.toList ++ [], σ', c', m'))
  refine kcallM 0 0 rfl ⟨hc, hm⟩ (hk _ _ _ _ _ _ (e_X11_story 19 S hs (xs (i + 1).toNatClampNeg) (xs (i + 2).toNatClampNeg) (v, S1) h11 _ ?_))
  show X (222, [some (.ref 0), some (.ref 7), some (.ref 76), some (.int i)], [.int v], st S1 hs, c, m)
  refine hX _ ?_
  clear hP hX hk P' X cal
  refine Wp.stepsG 6 (fun cal X P' hk hX hP => ?_)
  show vp_in (i + 1) L ∧ X (228, [some (.ref 0), some (.ref 7), some (.ref 76), some (.int i)], [.int (xs (i + 1).toNatClampNeg), .ref 76, .int v], st S1 hs, c, m)
  refine ⟨w1, hX _ ?_⟩
  clear hP hX hk P' X cal
  refine Wp.stepsG 5 (fun cal X P' hk hX hP => ?_)
  show vp_in (i + 2) L ∧ X (233, [some (.ref 0), some (.ref 7), some (.ref 76), some (.int i)], [.int (xs (i + 2).toNatClampNeg), .int (xs (i + 1).toNatClampNeg), .ref 76, .int v], st S1 hs, c, m)
  refine ⟨w2, hX _ ?_⟩
  clear hP hX hk P' X cal
  refine Wp.stepsG 1 (fun cal X P' hk hX hP => ?_)
  show kcall cal ix_X12_story [.ref 76, .int (xs (i + 1).toNatClampNeg), .int (xs (i + 2).toNatClampNeg)] (st S1 hs) [.int v] c m (600000, 7302250) (fun vv σ' c' m' => X (236, [some (.ref 0), some (.ref 7), some (.ref 76), some (.int i)], vv.toList ++ [.int v], σ', c', m'))
  refine kcallM 0 0 rfl ⟨hc, hm⟩ (hk _ _ _ _ _ _ (e_X12_story 20 S1 hs (xs (i + 1).toNatClampNeg) (xs (i + 2).toNatClampNeg) (v, S2) h12 _ ?_))
  show X (236, [some (.ref 0), some (.ref 7), some (.ref 76), some (.int i)], [.int v, .int v], st S2 hs, c, m)
  refine hX _ ?_
  clear hP hX hk P' X cal
  refine Wp.stepsG 1 (fun cal X P' hk hX hP => ?_)
  show (v = v → X (1541, [some (.ref 0), some (.ref 7), some (.ref 76), some (.int i)], [], st S2 hs, c, m)) ∧ (¬ v = v → X (239, [some (.ref 0), some (.ref 7), some (.ref 76), some (.int i)], [], st S2 hs, c, m))
  refine ⟨fun _ => hX _ h, fun hq => absurd (rfl) hq⟩
set_option maxRecDepth 20000 in
set_option maxHeartbeats 4000000 in
theorem lw_c1 (L : Nat) (xs : Nat → Int32) (i : Int32) (S : St) (hs : List Hr) (c m : Nat) (hc : c + 1 ≤ 600000) (hm : m + 4 ≤ 7302250) (w1 : vp_in (i + 1) L) (w2 : vp_in (i + 2) L) (v : Int32) (S1 S2 : St) (hs1 : List Hr) (h11 : r_X11_hearer S hs (xs (i + 1).toNatClampNeg) (xs (i + 2).toNatClampNeg) = some (v, S1, hs1)) (h12 : r_X12_hearer S1 (xs (i + 1).toNatClampNeg) (xs (i + 2).toNatClampNeg) = some (v, S2)) (P : Option Value → Hp → Prop) (h : Wp mi_law (Ev 22) (some (L, xs)) (600000, 7302250) P (1541, [some (.ref 0), some (.ref 7), some (.ref 76), some (.int i)], [], st S2 hs1, (c + 1), (m + 4))) : Wp mi_law (Ev 22) (some (L, xs)) (600000, 7302250) P (241, [some (.ref 0), some (.ref 7), some (.ref 76), some (.int i)], [], st S hs, c, m) := by
  refine Wp.stepsG 6 (fun cal X P' hk hX hP => ?_)
  show vp_in (i + 1) L ∧ X (247, [some (.ref 0), some (.ref 7), some (.ref 76), some (.int i)], [.int (xs (i + 1).toNatClampNeg), .ref 7], st S hs, c, m)
  refine ⟨w1, hX _ ?_⟩
  clear hP hX hk P' X cal
  refine Wp.stepsG 5 (fun cal X P' hk hX hP => ?_)
  show vp_in (i + 2) L ∧ X (252, [some (.ref 0), some (.ref 7), some (.ref 76), some (.int i)], [.int (xs (i + 2).toNatClampNeg), .int (xs (i + 1).toNatClampNeg), .ref 7], st S hs, c, m)
  refine ⟨w2, hX _ ?_⟩
  clear hP hX hk P' X cal
  refine Wp.stepsG 1 (fun cal X P' hk hX hP => ?_)
  show kcall cal ix_X11_hearer [.ref 7, .int (xs (i + 1).toNatClampNeg), .int (xs (i + 2).toNatClampNeg)] (st S hs) [] c m (600000, 7302250) (fun vv σ' c' m' => X (255, [some (.ref 0), some (.ref 7), some (.ref 76), some (.int i)], vv.toList ++ [], σ', c', m'))
  refine kcallM 1 4 rfl ⟨hc, hm⟩ (hk _ _ _ _ _ _ (e_X11_hearer 17 S hs (xs (i + 1).toNatClampNeg) (xs (i + 2).toNatClampNeg) (v, S1, hs1) h11 _ ?_))
  show X (255, [some (.ref 0), some (.ref 7), some (.ref 76), some (.int i)], [.int v], st S1 hs1, (c + 1), (m + 4))
  refine hX _ ?_
  clear hP hX hk P' X cal
  refine Wp.stepsG 6 (fun cal X P' hk hX hP => ?_)
  show vp_in (i + 1) L ∧ X (261, [some (.ref 0), some (.ref 7), some (.ref 76), some (.int i)], [.int (xs (i + 1).toNatClampNeg), .ref 76, .int v], st S1 hs1, (c + 1), (m + 4))
  refine ⟨w1, hX _ ?_⟩
  clear hP hX hk P' X cal
  refine Wp.stepsG 5 (fun cal X P' hk hX hP => ?_)
  show vp_in (i + 2) L ∧ X (266, [some (.ref 0), some (.ref 7), some (.ref 76), some (.int i)], [.int (xs (i + 2).toNatClampNeg), .int (xs (i + 1).toNatClampNeg), .ref 76, .int v], st S1 hs1, (c + 1), (m + 4))
  refine ⟨w2, hX _ ?_⟩
  clear hP hX hk P' X cal
  refine Wp.stepsG 1 (fun cal X P' hk hX hP => ?_)
  show kcall cal ix_X12_hearer [.ref 76, .int (xs (i + 1).toNatClampNeg), .int (xs (i + 2).toNatClampNeg)] (st S1 hs1) [.int v] (c + 1) (m + 4) (600000, 7302250) (fun vv σ' c' m' => X (269, [some (.ref 0), some (.ref 7), some (.ref 76), some (.int i)], vv.toList ++ [.int v], σ', c', m'))
  refine kcallM 0 0 rfl ⟨hc, hm⟩ (hk _ _ _ _ _ _ (e_X12_hearer 20 S1 hs1 (xs (i + 1).toNatClampNeg) (xs (i + 2).toNatClampNeg) (v, S2) h12 _ ?_))
  show X (269, [some (.ref 0), some (.ref 7), some (.ref 76), some (.int i)], [.int v, .int v], st S2 hs1, (c + 1), (m + 4))
  refine hX _ ?_
  clear hP hX hk P' X cal
  refine Wp.stepsG 1 (fun cal X P' hk hX hP => ?_)
  show (v = v → X (1541, [some (.ref 0), some (.ref 7), some (.ref 76), some (.int i)], [], st S2 hs1, (c + 1), (m + 4))) ∧ (¬ v = v → X (272, [some (.ref 0), some (.ref 7), some (.ref 76), some (.int i)], [], st S2 hs1, (c + 1), (m + 4)))
  refine ⟨fun _ => hX _ h, fun hq => absurd (rfl) hq⟩
set_option maxRecDepth 20000 in
set_option maxHeartbeats 4000000 in
theorem lw_c2 (L : Nat) (xs : Nat → Int32) (i : Int32) (S : St) (hs : List Hr) (c m : Nat) (hc : c ≤ 600000) (hm : m ≤ 7302250) (w1 : vp_in (i + 1) L) (w2 : vp_in (i + 2) L) (v : Int32) (S1 S2 : St) (h11 : r_X11_of S hs (xs (i + 1).toNatClampNeg) (xs (i + 2).toNatClampNeg) = some (v, S1)) (h12 : r_X12_of S1 (xs (i + 1).toNatClampNeg) (xs (i + 2).toNatClampNeg) = some (v, S2)) (P : Option Value → Hp → Prop) (h : Wp mi_law (Ev 22) (some (L, xs)) (600000, 7302250) P (1541, [some (.ref 0), some (.ref 7), some (.ref 76), some (.int i)], [], st S2 hs, c, m)) : Wp mi_law (Ev 22) (some (L, xs)) (600000, 7302250) P (274, [some (.ref 0), some (.ref 7), some (.ref 76), some (.int i)], [], st S hs, c, m) := by
  refine Wp.stepsG 6 (fun cal X P' hk hX hP => ?_)
  show vp_in (i + 1) L ∧ X (280, [some (.ref 0), some (.ref 7), some (.ref 76), some (.int i)], [.int (xs (i + 1).toNatClampNeg), .ref 7], st S hs, c, m)
  refine ⟨w1, hX _ ?_⟩
  clear hP hX hk P' X cal
  refine Wp.stepsG 5 (fun cal X P' hk hX hP => ?_)
  show vp_in (i + 2) L ∧ X (285, [some (.ref 0), some (.ref 7), some (.ref 76), some (.int i)], [.int (xs (i + 2).toNatClampNeg), .int (xs (i + 1).toNatClampNeg), .ref 7], st S hs, c, m)
  refine ⟨w2, hX _ ?_⟩
  clear hP hX hk P' X cal
  refine Wp.stepsG 1 (fun cal X P' hk hX hP => ?_)
  show kcall cal ix_X11_of [.ref 7, .int (xs (i + 1).toNatClampNeg), .int (xs (i + 2).toNatClampNeg)] (st S hs) [] c m (600000, 7302250) (fun vv σ' c' m' => X (288, [some (.ref 0), some (.ref 7), some (.ref 76), some (.int i)], vv.toList ++ [], σ', c', m'))
  refine kcallM 0 0 rfl ⟨hc, hm⟩ (hk _ _ _ _ _ _ (e_X11_of 16 S hs (xs (i + 1).toNatClampNeg) (xs (i + 2).toNatClampNeg) (v, S1) h11 _ ?_))
  show X (288, [some (.ref 0), some (.ref 7), some (.ref 76), some (.int i)], [.int v], st S1 hs, c, m)
  refine hX _ ?_
  clear hP hX hk P' X cal
  refine Wp.stepsG 6 (fun cal X P' hk hX hP => ?_)
  show vp_in (i + 1) L ∧ X (294, [some (.ref 0), some (.ref 7), some (.ref 76), some (.int i)], [.int (xs (i + 1).toNatClampNeg), .ref 76, .int v], st S1 hs, c, m)
  refine ⟨w1, hX _ ?_⟩
  clear hP hX hk P' X cal
  refine Wp.stepsG 5 (fun cal X P' hk hX hP => ?_)
  show vp_in (i + 2) L ∧ X (299, [some (.ref 0), some (.ref 7), some (.ref 76), some (.int i)], [.int (xs (i + 2).toNatClampNeg), .int (xs (i + 1).toNatClampNeg), .ref 76, .int v], st S1 hs, c, m)
  refine ⟨w2, hX _ ?_⟩
  clear hP hX hk P' X cal
  refine Wp.stepsG 1 (fun cal X P' hk hX hP => ?_)
  show kcall cal ix_X12_of [.ref 76, .int (xs (i + 1).toNatClampNeg), .int (xs (i + 2).toNatClampNeg)] (st S1 hs) [.int v] c m (600000, 7302250) (fun vv σ' c' m' => X (302, [some (.ref 0), some (.ref 7), some (.ref 76), some (.int i)], vv.toList ++ [.int v], σ', c', m'))
  refine kcallM 0 0 rfl ⟨hc, hm⟩ (hk _ _ _ _ _ _ (e_X12_of 17 S1 hs (xs (i + 1).toNatClampNeg) (xs (i + 2).toNatClampNeg) (v, S2) h12 _ ?_))
  show X (302, [some (.ref 0), some (.ref 7), some (.ref 76), some (.int i)], [.int v, .int v], st S2 hs, c, m)
  refine hX _ ?_
  clear hP hX hk P' X cal
  refine Wp.stepsG 1 (fun cal X P' hk hX hP => ?_)
  show (v = v → X (1541, [some (.ref 0), some (.ref 7), some (.ref 76), some (.int i)], [], st S2 hs, c, m)) ∧ (¬ v = v → X (305, [some (.ref 0), some (.ref 7), some (.ref 76), some (.int i)], [], st S2 hs, c, m))
  refine ⟨fun _ => hX _ h, fun hq => absurd (rfl) hq⟩
set_option maxRecDepth 20000 in
set_option maxHeartbeats 4000000 in
theorem lw_c3 (L : Nat) (xs : Nat → Int32) (i : Int32) (S : St) (hs : List Hr) (c m : Nat) (hc : c ≤ 600000) (hm : m ≤ 7302250) (w1 : vp_in (i + 1) L) (w2 : vp_in (i + 2) L) (v : Int32) (h11 : r_X11_at S (xs (i + 1).toNatClampNeg) (xs (i + 2).toNatClampNeg) = some v) (h12 : r_X12_at S (xs (i + 1).toNatClampNeg) (xs (i + 2).toNatClampNeg) = some v) (P : Option Value → Hp → Prop) (h : Wp mi_law (Ev 22) (some (L, xs)) (600000, 7302250) P (1541, [some (.ref 0), some (.ref 7), some (.ref 76), some (.int i)], [], st S hs, c, m)) : Wp mi_law (Ev 22) (some (L, xs)) (600000, 7302250) P (307, [some (.ref 0), some (.ref 7), some (.ref 76), some (.int i)], [], st S hs, c, m) := by
  refine Wp.stepsG 6 (fun cal X P' hk hX hP => ?_)
  show vp_in (i + 1) L ∧ X (313, [some (.ref 0), some (.ref 7), some (.ref 76), some (.int i)], [.int (xs (i + 1).toNatClampNeg), .ref 7], st S hs, c, m)
  refine ⟨w1, hX _ ?_⟩
  clear hP hX hk P' X cal
  refine Wp.stepsG 5 (fun cal X P' hk hX hP => ?_)
  show vp_in (i + 2) L ∧ X (318, [some (.ref 0), some (.ref 7), some (.ref 76), some (.int i)], [.int (xs (i + 2).toNatClampNeg), .int (xs (i + 1).toNatClampNeg), .ref 7], st S hs, c, m)
  refine ⟨w2, hX _ ?_⟩
  clear hP hX hk P' X cal
  refine Wp.stepsG 1 (fun cal X P' hk hX hP => ?_)
  show kcall cal ix_X11_at [.ref 7, .int (xs (i + 1).toNatClampNeg), .int (xs (i + 2).toNatClampNeg)] (st S hs) [] c m (600000, 7302250) (fun vv σ' c' m' => X (321, [some (.ref 0), some (.ref 7), some (.ref 76), some (.int i)], vv.toList ++ [], σ', c', m'))
  refine kcallM 0 0 rfl ⟨hc, hm⟩ (hk _ _ _ _ _ _ (e_X11_at 19 S hs (xs (i + 1).toNatClampNeg) (xs (i + 2).toNatClampNeg) v h11 _ ?_))
  show X (321, [some (.ref 0), some (.ref 7), some (.ref 76), some (.int i)], [.int v], st S hs, c, m)
  refine hX _ ?_
  clear hP hX hk P' X cal
  refine Wp.stepsG 6 (fun cal X P' hk hX hP => ?_)
  show vp_in (i + 1) L ∧ X (327, [some (.ref 0), some (.ref 7), some (.ref 76), some (.int i)], [.int (xs (i + 1).toNatClampNeg), .ref 76, .int v], st S hs, c, m)
  refine ⟨w1, hX _ ?_⟩
  clear hP hX hk P' X cal
  refine Wp.stepsG 5 (fun cal X P' hk hX hP => ?_)
  show vp_in (i + 2) L ∧ X (332, [some (.ref 0), some (.ref 7), some (.ref 76), some (.int i)], [.int (xs (i + 2).toNatClampNeg), .int (xs (i + 1).toNatClampNeg), .ref 76, .int v], st S hs, c, m)
  refine ⟨w2, hX _ ?_⟩
  clear hP hX hk P' X cal
  refine Wp.stepsG 1 (fun cal X P' hk hX hP => ?_)
  show kcall cal ix_X12_at [.ref 76, .int (xs (i + 1).toNatClampNeg), .int (xs (i + 2).toNatClampNeg)] (st S hs) [.int v] c m (600000, 7302250) (fun vv σ' c' m' => X (335, [some (.ref 0), some (.ref 7), some (.ref 76), some (.int i)], vv.toList ++ [.int v], σ', c', m'))
  refine kcallM 0 0 rfl ⟨hc, hm⟩ (hk _ _ _ _ _ _ (e_X12_at 19 S hs (xs (i + 1).toNatClampNeg) (xs (i + 2).toNatClampNeg) v h12 _ ?_))
  show X (335, [some (.ref 0), some (.ref 7), some (.ref 76), some (.int i)], [.int v, .int v], st S hs, c, m)
  refine hX _ ?_
  clear hP hX hk P' X cal
  refine Wp.stepsG 1 (fun cal X P' hk hX hP => ?_)
  show (v = v → X (1541, [some (.ref 0), some (.ref 7), some (.ref 76), some (.int i)], [], st S hs, c, m)) ∧ (¬ v = v → X (338, [some (.ref 0), some (.ref 7), some (.ref 76), some (.int i)], [], st S hs, c, m))
  refine ⟨fun _ => hX _ h, fun hq => absurd (rfl) hq⟩
set_option maxRecDepth 20000 in
set_option maxHeartbeats 4000000 in
theorem lw_c4 (L : Nat) (xs : Nat → Int32) (i : Int32) (S : St) (hs : List Hr) (c m : Nat) (hc : c ≤ 600000) (hm : m ≤ 7302250) (w1 : vp_in (i + 1) L) (w2 : vp_in (i + 2) L) (v : Int32) (S1 S2 : St) (h11 : r_X11_good S (xs (i + 1).toNatClampNeg) (xs (i + 2).toNatClampNeg) = some (v, S1)) (h12 : r_X12_good S1 (xs (i + 1).toNatClampNeg) (xs (i + 2).toNatClampNeg) = some (v, S2)) (P : Option Value → Hp → Prop) (h : Wp mi_law (Ev 22) (some (L, xs)) (600000, 7302250) P (1541, [some (.ref 0), some (.ref 7), some (.ref 76), some (.int i)], [], st S2 hs, c, m)) : Wp mi_law (Ev 22) (some (L, xs)) (600000, 7302250) P (340, [some (.ref 0), some (.ref 7), some (.ref 76), some (.int i)], [], st S hs, c, m) := by
  refine Wp.stepsG 6 (fun cal X P' hk hX hP => ?_)
  show vp_in (i + 1) L ∧ X (346, [some (.ref 0), some (.ref 7), some (.ref 76), some (.int i)], [.int (xs (i + 1).toNatClampNeg), .ref 7], st S hs, c, m)
  refine ⟨w1, hX _ ?_⟩
  clear hP hX hk P' X cal
  refine Wp.stepsG 5 (fun cal X P' hk hX hP => ?_)
  show vp_in (i + 2) L ∧ X (351, [some (.ref 0), some (.ref 7), some (.ref 76), some (.int i)], [.int (xs (i + 2).toNatClampNeg), .int (xs (i + 1).toNatClampNeg), .ref 7], st S hs, c, m)
  refine ⟨w2, hX _ ?_⟩
  clear hP hX hk P' X cal
  refine Wp.stepsG 1 (fun cal X P' hk hX hP => ?_)
  show kcall cal ix_X11_good [.ref 7, .int (xs (i + 1).toNatClampNeg), .int (xs (i + 2).toNatClampNeg)] (st S hs) [] c m (600000, 7302250) (fun vv σ' c' m' => X (354, [some (.ref 0), some (.ref 7), some (.ref 76), some (.int i)], vv.toList ++ [], σ', c', m'))
  refine kcallM 0 0 rfl ⟨hc, hm⟩ (hk _ _ _ _ _ _ (e_X11_good 19 S hs (xs (i + 1).toNatClampNeg) (xs (i + 2).toNatClampNeg) (v, S1) h11 _ ?_))
  show X (354, [some (.ref 0), some (.ref 7), some (.ref 76), some (.int i)], [.int v], st S1 hs, c, m)
  refine hX _ ?_
  clear hP hX hk P' X cal
  refine Wp.stepsG 6 (fun cal X P' hk hX hP => ?_)
  show vp_in (i + 1) L ∧ X (360, [some (.ref 0), some (.ref 7), some (.ref 76), some (.int i)], [.int (xs (i + 1).toNatClampNeg), .ref 76, .int v], st S1 hs, c, m)
  refine ⟨w1, hX _ ?_⟩
  clear hP hX hk P' X cal
  refine Wp.stepsG 5 (fun cal X P' hk hX hP => ?_)
  show vp_in (i + 2) L ∧ X (365, [some (.ref 0), some (.ref 7), some (.ref 76), some (.int i)], [.int (xs (i + 2).toNatClampNeg), .int (xs (i + 1).toNatClampNeg), .ref 76, .int v], st S1 hs, c, m)
  refine ⟨w2, hX _ ?_⟩
  clear hP hX hk P' X cal
  refine Wp.stepsG 1 (fun cal X P' hk hX hP => ?_)
  show kcall cal ix_X12_good [.ref 76, .int (xs (i + 1).toNatClampNeg), .int (xs (i + 2).toNatClampNeg)] (st S1 hs) [.int v] c m (600000, 7302250) (fun vv σ' c' m' => X (368, [some (.ref 0), some (.ref 7), some (.ref 76), some (.int i)], vv.toList ++ [.int v], σ', c', m'))
  refine kcallM 0 0 rfl ⟨hc, hm⟩ (hk _ _ _ _ _ _ (e_X12_good 19 S1 hs (xs (i + 1).toNatClampNeg) (xs (i + 2).toNatClampNeg) (v, S2) h12 _ ?_))
  show X (368, [some (.ref 0), some (.ref 7), some (.ref 76), some (.int i)], [.int v, .int v], st S2 hs, c, m)
  refine hX _ ?_
  clear hP hX hk P' X cal
  refine Wp.stepsG 1 (fun cal X P' hk hX hP => ?_)
  show (v = v → X (1541, [some (.ref 0), some (.ref 7), some (.ref 76), some (.int i)], [], st S2 hs, c, m)) ∧ (¬ v = v → X (371, [some (.ref 0), some (.ref 7), some (.ref 76), some (.int i)], [], st S2 hs, c, m))
  refine ⟨fun _ => hX _ h, fun hq => absurd (rfl) hq⟩
set_option maxRecDepth 20000 in
set_option maxHeartbeats 4000000 in
theorem lw_c5 (L : Nat) (xs : Nat → Int32) (i : Int32) (S : St) (hs : List Hr) (c m : Nat) (hc : c ≤ 600000) (hm : m ≤ 7302250) (w1 : vp_in (i + 1) L) (w2 : vp_in (i + 2) L) (w3 : vp_in (i + 3) L) (v : Int32) (S1 S2 : St) (h11 : r_X11_had S hs (xs (i + 1).toNatClampNeg) (xs (i + 2).toNatClampNeg) (xs (i + 3).toNatClampNeg) = some (v, S1)) (h12 : r_X12_had S1 (xs (i + 1).toNatClampNeg) (xs (i + 2).toNatClampNeg) (xs (i + 3).toNatClampNeg) = some (v, S2)) (P : Option Value → Hp → Prop) (h : Wp mi_law (Ev 22) (some (L, xs)) (600000, 7302250) P (1541, [some (.ref 0), some (.ref 7), some (.ref 76), some (.int i)], [], st S2 hs, c, m)) : Wp mi_law (Ev 22) (some (L, xs)) (600000, 7302250) P (373, [some (.ref 0), some (.ref 7), some (.ref 76), some (.int i)], [], st S hs, c, m) := by
  refine Wp.stepsG 6 (fun cal X P' hk hX hP => ?_)
  show vp_in (i + 1) L ∧ X (379, [some (.ref 0), some (.ref 7), some (.ref 76), some (.int i)], [.int (xs (i + 1).toNatClampNeg), .ref 7], st S hs, c, m)
  refine ⟨w1, hX _ ?_⟩
  clear hP hX hk P' X cal
  refine Wp.stepsG 5 (fun cal X P' hk hX hP => ?_)
  show vp_in (i + 2) L ∧ X (384, [some (.ref 0), some (.ref 7), some (.ref 76), some (.int i)], [.int (xs (i + 2).toNatClampNeg), .int (xs (i + 1).toNatClampNeg), .ref 7], st S hs, c, m)
  refine ⟨w2, hX _ ?_⟩
  clear hP hX hk P' X cal
  refine Wp.stepsG 5 (fun cal X P' hk hX hP => ?_)
  show vp_in (i + 3) L ∧ X (389, [some (.ref 0), some (.ref 7), some (.ref 76), some (.int i)], [.int (xs (i + 3).toNatClampNeg), .int (xs (i + 2).toNatClampNeg), .int (xs (i + 1).toNatClampNeg), .ref 7], st S hs, c, m)
  refine ⟨w3, hX _ ?_⟩
  clear hP hX hk P' X cal
  refine Wp.stepsG 1 (fun cal X P' hk hX hP => ?_)
  show kcall cal ix_X11_had [.ref 7, .int (xs (i + 1).toNatClampNeg), .int (xs (i + 2).toNatClampNeg), .int (xs (i + 3).toNatClampNeg)] (st S hs) [] c m (600000, 7302250) (fun vv σ' c' m' => X (392, [some (.ref 0), some (.ref 7), some (.ref 76), some (.int i)], vv.toList ++ [], σ', c', m'))
  refine kcallM 0 0 rfl ⟨hc, hm⟩ (hk _ _ _ _ _ _ (e_X11_had 19 S hs (xs (i + 1).toNatClampNeg) (xs (i + 2).toNatClampNeg) (xs (i + 3).toNatClampNeg) (v, S1) h11 _ ?_))
  show X (392, [some (.ref 0), some (.ref 7), some (.ref 76), some (.int i)], [.int v], st S1 hs, c, m)
  refine hX _ ?_
  clear hP hX hk P' X cal
  refine Wp.stepsG 6 (fun cal X P' hk hX hP => ?_)
  show vp_in (i + 1) L ∧ X (398, [some (.ref 0), some (.ref 7), some (.ref 76), some (.int i)], [.int (xs (i + 1).toNatClampNeg), .ref 76, .int v], st S1 hs, c, m)
  refine ⟨w1, hX _ ?_⟩
  clear hP hX hk P' X cal
  refine Wp.stepsG 5 (fun cal X P' hk hX hP => ?_)
  show vp_in (i + 2) L ∧ X (403, [some (.ref 0), some (.ref 7), some (.ref 76), some (.int i)], [.int (xs (i + 2).toNatClampNeg), .int (xs (i + 1).toNatClampNeg), .ref 76, .int v], st S1 hs, c, m)
  refine ⟨w2, hX _ ?_⟩
  clear hP hX hk P' X cal
  refine Wp.stepsG 5 (fun cal X P' hk hX hP => ?_)
  show vp_in (i + 3) L ∧ X (408, [some (.ref 0), some (.ref 7), some (.ref 76), some (.int i)], [.int (xs (i + 3).toNatClampNeg), .int (xs (i + 2).toNatClampNeg), .int (xs (i + 1).toNatClampNeg), .ref 76, .int v], st S1 hs, c, m)
  refine ⟨w3, hX _ ?_⟩
  clear hP hX hk P' X cal
  refine Wp.stepsG 1 (fun cal X P' hk hX hP => ?_)
  show kcall cal ix_X12_had [.ref 76, .int (xs (i + 1).toNatClampNeg), .int (xs (i + 2).toNatClampNeg), .int (xs (i + 3).toNatClampNeg)] (st S1 hs) [.int v] c m (600000, 7302250) (fun vv σ' c' m' => X (411, [some (.ref 0), some (.ref 7), some (.ref 76), some (.int i)], vv.toList ++ [.int v], σ', c', m'))
  refine kcallM 0 0 rfl ⟨hc, hm⟩ (hk _ _ _ _ _ _ (e_X12_had 19 S1 hs (xs (i + 1).toNatClampNeg) (xs (i + 2).toNatClampNeg) (xs (i + 3).toNatClampNeg) (v, S2) h12 _ ?_))
  show X (411, [some (.ref 0), some (.ref 7), some (.ref 76), some (.int i)], [.int v, .int v], st S2 hs, c, m)
  refine hX _ ?_
  clear hP hX hk P' X cal
  refine Wp.stepsG 1 (fun cal X P' hk hX hP => ?_)
  show (v = v → X (1541, [some (.ref 0), some (.ref 7), some (.ref 76), some (.int i)], [], st S2 hs, c, m)) ∧ (¬ v = v → X (414, [some (.ref 0), some (.ref 7), some (.ref 76), some (.int i)], [], st S2 hs, c, m))
  refine ⟨fun _ => hX _ h, fun hq => absurd (rfl) hq⟩
set_option maxRecDepth 20000 in
set_option maxHeartbeats 4000000 in
theorem lw_c6 (L : Nat) (xs : Nat → Int32) (i : Int32) (S : St) (hs : List Hr) (c m : Nat) (hc : c ≤ 600000) (hm : m ≤ 7302250) (w1 : vp_in (i + 1) L) (w2 : vp_in (i + 2) L) (w3 : vp_in (i + 3) L) (v : Int32) (S1 S2 : St) (h11 : r_X11_row S hs (xs (i + 1).toNatClampNeg) (xs (i + 2).toNatClampNeg) (xs (i + 3).toNatClampNeg) = some (v, S1)) (h12 : r_X12_row S1 (xs (i + 1).toNatClampNeg) (xs (i + 2).toNatClampNeg) (xs (i + 3).toNatClampNeg) = some (v, S2)) (P : Option Value → Hp → Prop) (h : Wp mi_law (Ev 22) (some (L, xs)) (600000, 7302250) P (1541, [some (.ref 0), some (.ref 7), some (.ref 76), some (.int i)], [], st S2 hs, c, m)) : Wp mi_law (Ev 22) (some (L, xs)) (600000, 7302250) P (416, [some (.ref 0), some (.ref 7), some (.ref 76), some (.int i)], [], st S hs, c, m) := by
  refine Wp.stepsG 6 (fun cal X P' hk hX hP => ?_)
  show vp_in (i + 1) L ∧ X (422, [some (.ref 0), some (.ref 7), some (.ref 76), some (.int i)], [.int (xs (i + 1).toNatClampNeg), .ref 7], st S hs, c, m)
  refine ⟨w1, hX _ ?_⟩
  clear hP hX hk P' X cal
  refine Wp.stepsG 5 (fun cal X P' hk hX hP => ?_)
  show vp_in (i + 2) L ∧ X (427, [some (.ref 0), some (.ref 7), some (.ref 76), some (.int i)], [.int (xs (i + 2).toNatClampNeg), .int (xs (i + 1).toNatClampNeg), .ref 7], st S hs, c, m)
  refine ⟨w2, hX _ ?_⟩
  clear hP hX hk P' X cal
  refine Wp.stepsG 5 (fun cal X P' hk hX hP => ?_)
  show vp_in (i + 3) L ∧ X (432, [some (.ref 0), some (.ref 7), some (.ref 76), some (.int i)], [.int (xs (i + 3).toNatClampNeg), .int (xs (i + 2).toNatClampNeg), .int (xs (i + 1).toNatClampNeg), .ref 7], st S hs, c, m)
  refine ⟨w3, hX _ ?_⟩
  clear hP hX hk P' X cal
  refine Wp.stepsG 1 (fun cal X P' hk hX hP => ?_)
  show kcall cal ix_X11_row [.ref 7, .int (xs (i + 1).toNatClampNeg), .int (xs (i + 2).toNatClampNeg), .int (xs (i + 3).toNatClampNeg)] (st S hs) [] c m (600000, 7302250) (fun vv σ' c' m' => X (435, [some (.ref 0), some (.ref 7), some (.ref 76), some (.int i)], vv.toList ++ [], σ', c', m'))
  refine kcallM 0 0 rfl ⟨hc, hm⟩ (hk _ _ _ _ _ _ (e_X11_row 19 S hs (xs (i + 1).toNatClampNeg) (xs (i + 2).toNatClampNeg) (xs (i + 3).toNatClampNeg) (v, S1) h11 _ ?_))
  show X (435, [some (.ref 0), some (.ref 7), some (.ref 76), some (.int i)], [.int v], st S1 hs, c, m)
  refine hX _ ?_
  clear hP hX hk P' X cal
  refine Wp.stepsG 6 (fun cal X P' hk hX hP => ?_)
  show vp_in (i + 1) L ∧ X (441, [some (.ref 0), some (.ref 7), some (.ref 76), some (.int i)], [.int (xs (i + 1).toNatClampNeg), .ref 76, .int v], st S1 hs, c, m)
  refine ⟨w1, hX _ ?_⟩
  clear hP hX hk P' X cal
  refine Wp.stepsG 5 (fun cal X P' hk hX hP => ?_)
  show vp_in (i + 2) L ∧ X (446, [some (.ref 0), some (.ref 7), some (.ref 76), some (.int i)], [.int (xs (i + 2).toNatClampNeg), .int (xs (i + 1).toNatClampNeg), .ref 76, .int v], st S1 hs, c, m)
  refine ⟨w2, hX _ ?_⟩
  clear hP hX hk P' X cal
  refine Wp.stepsG 5 (fun cal X P' hk hX hP => ?_)
  show vp_in (i + 3) L ∧ X (451, [some (.ref 0), some (.ref 7), some (.ref 76), some (.int i)], [.int (xs (i + 3).toNatClampNeg), .int (xs (i + 2).toNatClampNeg), .int (xs (i + 1).toNatClampNeg), .ref 76, .int v], st S1 hs, c, m)
  refine ⟨w3, hX _ ?_⟩
  clear hP hX hk P' X cal
  refine Wp.stepsG 1 (fun cal X P' hk hX hP => ?_)
  show kcall cal ix_X12_row [.ref 76, .int (xs (i + 1).toNatClampNeg), .int (xs (i + 2).toNatClampNeg), .int (xs (i + 3).toNatClampNeg)] (st S1 hs) [.int v] c m (600000, 7302250) (fun vv σ' c' m' => X (454, [some (.ref 0), some (.ref 7), some (.ref 76), some (.int i)], vv.toList ++ [.int v], σ', c', m'))
  refine kcallM 0 0 rfl ⟨hc, hm⟩ (hk _ _ _ _ _ _ (e_X12_row 19 S1 hs (xs (i + 1).toNatClampNeg) (xs (i + 2).toNatClampNeg) (xs (i + 3).toNatClampNeg) (v, S2) h12 _ ?_))
  show X (454, [some (.ref 0), some (.ref 7), some (.ref 76), some (.int i)], [.int v, .int v], st S2 hs, c, m)
  refine hX _ ?_
  clear hP hX hk P' X cal
  refine Wp.stepsG 1 (fun cal X P' hk hX hP => ?_)
  show (v = v → X (1541, [some (.ref 0), some (.ref 7), some (.ref 76), some (.int i)], [], st S2 hs, c, m)) ∧ (¬ v = v → X (457, [some (.ref 0), some (.ref 7), some (.ref 76), some (.int i)], [], st S2 hs, c, m))
  refine ⟨fun _ => hX _ h, fun hq => absurd (rfl) hq⟩
set_option maxRecDepth 20000 in
set_option maxHeartbeats 4000000 in
theorem lw_c7 (L : Nat) (xs : Nat → Int32) (i : Int32) (S : St) (hs : List Hr) (c m : Nat) (hc : c ≤ 600000) (hm : m ≤ 7302250) (w1 : vp_in (i + 1) L) (v : Int32) (S1 S2 : St) (h11 : r_X11_feed S (xs (i + 1).toNatClampNeg) = some (v, S1)) (h12 : r_X12_feed S1 (xs (i + 1).toNatClampNeg) = some (v, S2)) (P : Option Value → Hp → Prop) (h : Wp mi_law (Ev 22) (some (L, xs)) (600000, 7302250) P (1541, [some (.ref 0), some (.ref 7), some (.ref 76), some (.int i)], [], st S2 hs, c, m)) : Wp mi_law (Ev 22) (some (L, xs)) (600000, 7302250) P (459, [some (.ref 0), some (.ref 7), some (.ref 76), some (.int i)], [], st S hs, c, m) := by
  refine Wp.stepsG 6 (fun cal X P' hk hX hP => ?_)
  show vp_in (i + 1) L ∧ X (465, [some (.ref 0), some (.ref 7), some (.ref 76), some (.int i)], [.int (xs (i + 1).toNatClampNeg), .ref 7], st S hs, c, m)
  refine ⟨w1, hX _ ?_⟩
  clear hP hX hk P' X cal
  refine Wp.stepsG 1 (fun cal X P' hk hX hP => ?_)
  show kcall cal ix_X11_feed [.ref 7, .int (xs (i + 1).toNatClampNeg)] (st S hs) [] c m (600000, 7302250) (fun vv σ' c' m' => X (468, [some (.ref 0), some (.ref 7), some (.ref 76), some (.int i)], vv.toList ++ [], σ', c', m'))
  refine kcallM 0 0 rfl ⟨hc, hm⟩ (hk _ _ _ _ _ _ (e_X11_feed 20 S hs (xs (i + 1).toNatClampNeg) (v, S1) h11 _ ?_))
  show X (468, [some (.ref 0), some (.ref 7), some (.ref 76), some (.int i)], [.int v], st S1 hs, c, m)
  refine hX _ ?_
  clear hP hX hk P' X cal
  refine Wp.stepsG 6 (fun cal X P' hk hX hP => ?_)
  show vp_in (i + 1) L ∧ X (474, [some (.ref 0), some (.ref 7), some (.ref 76), some (.int i)], [.int (xs (i + 1).toNatClampNeg), .ref 76, .int v], st S1 hs, c, m)
  refine ⟨w1, hX _ ?_⟩
  clear hP hX hk P' X cal
  refine Wp.stepsG 1 (fun cal X P' hk hX hP => ?_)
  show kcall cal ix_X12_feed [.ref 76, .int (xs (i + 1).toNatClampNeg)] (st S1 hs) [.int v] c m (600000, 7302250) (fun vv σ' c' m' => X (477, [some (.ref 0), some (.ref 7), some (.ref 76), some (.int i)], vv.toList ++ [.int v], σ', c', m'))
  refine kcallM 0 0 rfl ⟨hc, hm⟩ (hk _ _ _ _ _ _ (e_X12_feed 20 S1 hs (xs (i + 1).toNatClampNeg) (v, S2) h12 _ ?_))
  show X (477, [some (.ref 0), some (.ref 7), some (.ref 76), some (.int i)], [.int v, .int v], st S2 hs, c, m)
  refine hX _ ?_
  clear hP hX hk P' X cal
  refine Wp.stepsG 1 (fun cal X P' hk hX hP => ?_)
  show (v = v → X (1541, [some (.ref 0), some (.ref 7), some (.ref 76), some (.int i)], [], st S2 hs, c, m)) ∧ (¬ v = v → X (480, [some (.ref 0), some (.ref 7), some (.ref 76), some (.int i)], [], st S2 hs, c, m))
  refine ⟨fun _ => hX _ h, fun hq => absurd (rfl) hq⟩
set_option maxRecDepth 20000 in
set_option maxHeartbeats 4000000 in
theorem lw_c8 (L : Nat) (xs : Nat → Int32) (i : Int32) (S : St) (hs : List Hr) (c m : Nat) (hc : c ≤ 600000) (hm : m ≤ 7302250)  (v : Int32) (S1 S2 : St) (h11 : r_X11_house S = some (v, S1)) (h12 : r_X12_house S1 = some (v, S2)) (P : Option Value → Hp → Prop) (h : Wp mi_law (Ev 22) (some (L, xs)) (600000, 7302250) P (1541, [some (.ref 0), some (.ref 7), some (.ref 76), some (.int i)], [], st S2 hs, c, m)) : Wp mi_law (Ev 22) (some (L, xs)) (600000, 7302250) P (482, [some (.ref 0), some (.ref 7), some (.ref 76), some (.int i)], [], st S hs, c, m) := by
  refine Wp.stepsG 2 (fun cal X P' hk hX hP => ?_)
  show kcall cal ix_X11_house [.ref 7] (st S hs) [] c m (600000, 7302250) (fun vv σ' c' m' => X (486, [some (.ref 0), some (.ref 7), some (.ref 76), some (.int i)], vv.toList ++ [], σ', c', m'))
  refine kcallM 0 0 rfl ⟨hc, hm⟩ (hk _ _ _ _ _ _ (e_X11_house 2 S hs (v, S1) h11 _ ?_))
  show X (486, [some (.ref 0), some (.ref 7), some (.ref 76), some (.int i)], [.int v], st S1 hs, c, m)
  refine hX _ ?_
  clear hP hX hk P' X cal
  refine Wp.stepsG 2 (fun cal X P' hk hX hP => ?_)
  show kcall cal ix_X12_house [.ref 76] (st S1 hs) [.int v] c m (600000, 7302250) (fun vv σ' c' m' => X (490, [some (.ref 0), some (.ref 7), some (.ref 76), some (.int i)], vv.toList ++ [.int v], σ', c', m'))
  refine kcallM 0 0 rfl ⟨hc, hm⟩ (hk _ _ _ _ _ _ (e_X12_house 14 S1 hs (v, S2) h12 _ ?_))
  show X (490, [some (.ref 0), some (.ref 7), some (.ref 76), some (.int i)], [.int v, .int v], st S2 hs, c, m)
  refine hX _ ?_
  clear hP hX hk P' X cal
  refine Wp.stepsG 1 (fun cal X P' hk hX hP => ?_)
  show (v = v → X (1541, [some (.ref 0), some (.ref 7), some (.ref 76), some (.int i)], [], st S2 hs, c, m)) ∧ (¬ v = v → X (493, [some (.ref 0), some (.ref 7), some (.ref 76), some (.int i)], [], st S2 hs, c, m))
  refine ⟨fun _ => hX _ h, fun hq => absurd (rfl) hq⟩
set_option maxRecDepth 20000 in
set_option maxHeartbeats 4000000 in
theorem lw_c9 (L : Nat) (xs : Nat → Int32) (i : Int32) (S : St) (hs : List Hr) (c m : Nat) (hc : c ≤ 600000) (hm : m ≤ 7302250) (w1 : vp_in (i + 1) L) (v : Int32) (h11 : r_X11_told S (xs (i + 1).toNatClampNeg) = some v) (h12 : r_X12_told S (xs (i + 1).toNatClampNeg) = some v) (P : Option Value → Hp → Prop) (h : Wp mi_law (Ev 22) (some (L, xs)) (600000, 7302250) P (1541, [some (.ref 0), some (.ref 7), some (.ref 76), some (.int i)], [], st S hs, c, m)) : Wp mi_law (Ev 22) (some (L, xs)) (600000, 7302250) P (495, [some (.ref 0), some (.ref 7), some (.ref 76), some (.int i)], [], st S hs, c, m) := by
  refine Wp.stepsG 6 (fun cal X P' hk hX hP => ?_)
  show vp_in (i + 1) L ∧ X (501, [some (.ref 0), some (.ref 7), some (.ref 76), some (.int i)], [.int (xs (i + 1).toNatClampNeg), .ref 7], st S hs, c, m)
  refine ⟨w1, hX _ ?_⟩
  clear hP hX hk P' X cal
  refine Wp.stepsG 1 (fun cal X P' hk hX hP => ?_)
  show kcall cal ix_X11_told [.ref 7, .int (xs (i + 1).toNatClampNeg)] (st S hs) [] c m (600000, 7302250) (fun vv σ' c' m' => X (504, [some (.ref 0), some (.ref 7), some (.ref 76), some (.int i)], vv.toList ++ [], σ', c', m'))
  refine kcallM 0 0 rfl ⟨hc, hm⟩ (hk _ _ _ _ _ _ (e_X11_told 18 S hs (xs (i + 1).toNatClampNeg) v h11 _ ?_))
  show X (504, [some (.ref 0), some (.ref 7), some (.ref 76), some (.int i)], [.int v], st S hs, c, m)
  refine hX _ ?_
  clear hP hX hk P' X cal
  refine Wp.stepsG 6 (fun cal X P' hk hX hP => ?_)
  show vp_in (i + 1) L ∧ X (510, [some (.ref 0), some (.ref 7), some (.ref 76), some (.int i)], [.int (xs (i + 1).toNatClampNeg), .ref 76, .int v], st S hs, c, m)
  refine ⟨w1, hX _ ?_⟩
  clear hP hX hk P' X cal
  refine Wp.stepsG 1 (fun cal X P' hk hX hP => ?_)
  show kcall cal ix_X12_told [.ref 76, .int (xs (i + 1).toNatClampNeg)] (st S hs) [.int v] c m (600000, 7302250) (fun vv σ' c' m' => X (513, [some (.ref 0), some (.ref 7), some (.ref 76), some (.int i)], vv.toList ++ [.int v], σ', c', m'))
  refine kcallM 0 0 rfl ⟨hc, hm⟩ (hk _ _ _ _ _ _ (e_X12_told 19 S hs (xs (i + 1).toNatClampNeg) v h12 _ ?_))
  show X (513, [some (.ref 0), some (.ref 7), some (.ref 76), some (.int i)], [.int v, .int v], st S hs, c, m)
  refine hX _ ?_
  clear hP hX hk P' X cal
  refine Wp.stepsG 1 (fun cal X P' hk hX hP => ?_)
  show (v = v → X (1541, [some (.ref 0), some (.ref 7), some (.ref 76), some (.int i)], [], st S hs, c, m)) ∧ (¬ v = v → X (516, [some (.ref 0), some (.ref 7), some (.ref 76), some (.int i)], [], st S hs, c, m))
  refine ⟨fun _ => hX _ h, fun hq => absurd (rfl) hq⟩
set_option maxRecDepth 20000 in
set_option maxHeartbeats 4000000 in
theorem lw_c10 (L : Nat) (xs : Nat → Int32) (i : Int32) (S : St) (hs : List Hr) (c m : Nat) (hc : c ≤ 600000) (hm : m ≤ 7302250) (w1 : vp_in (i + 1) L) (v : Int32) (S1 S2 : St) (h11 : r_X11_pass S (xs (i + 1).toNatClampNeg) = some (v, S1)) (h12 : r_X12_pass S1 (xs (i + 1).toNatClampNeg) = some (v, S2)) (P : Option Value → Hp → Prop) (h : Wp mi_law (Ev 22) (some (L, xs)) (600000, 7302250) P (1541, [some (.ref 0), some (.ref 7), some (.ref 76), some (.int i)], [], st S2 hs, c, m)) : Wp mi_law (Ev 22) (some (L, xs)) (600000, 7302250) P (518, [some (.ref 0), some (.ref 7), some (.ref 76), some (.int i)], [], st S hs, c, m) := by
  refine Wp.stepsG 6 (fun cal X P' hk hX hP => ?_)
  show vp_in (i + 1) L ∧ X (524, [some (.ref 0), some (.ref 7), some (.ref 76), some (.int i)], [.int (xs (i + 1).toNatClampNeg), .ref 7], st S hs, c, m)
  refine ⟨w1, hX _ ?_⟩
  clear hP hX hk P' X cal
  refine Wp.stepsG 1 (fun cal X P' hk hX hP => ?_)
  show kcall cal ix_X11_pass [.ref 7, .int (xs (i + 1).toNatClampNeg)] (st S hs) [] c m (600000, 7302250) (fun vv σ' c' m' => X (527, [some (.ref 0), some (.ref 7), some (.ref 76), some (.int i)], vv.toList ++ [], σ', c', m'))
  refine kcallM 0 0 rfl ⟨hc, hm⟩ (hk _ _ _ _ _ _ (e_X11_pass 20 S hs (xs (i + 1).toNatClampNeg) (v, S1) h11 _ ?_))
  show X (527, [some (.ref 0), some (.ref 7), some (.ref 76), some (.int i)], [.int v], st S1 hs, c, m)
  refine hX _ ?_
  clear hP hX hk P' X cal
  refine Wp.stepsG 6 (fun cal X P' hk hX hP => ?_)
  show vp_in (i + 1) L ∧ X (533, [some (.ref 0), some (.ref 7), some (.ref 76), some (.int i)], [.int (xs (i + 1).toNatClampNeg), .ref 76, .int v], st S1 hs, c, m)
  refine ⟨w1, hX _ ?_⟩
  clear hP hX hk P' X cal
  refine Wp.stepsG 1 (fun cal X P' hk hX hP => ?_)
  show kcall cal ix_X12_pass [.ref 76, .int (xs (i + 1).toNatClampNeg)] (st S1 hs) [.int v] c m (600000, 7302250) (fun vv σ' c' m' => X (536, [some (.ref 0), some (.ref 7), some (.ref 76), some (.int i)], vv.toList ++ [.int v], σ', c', m'))
  refine kcallM 0 0 rfl ⟨hc, hm⟩ (hk _ _ _ _ _ _ (e_X12_pass 20 S1 hs (xs (i + 1).toNatClampNeg) (v, S2) h12 _ ?_))
  show X (536, [some (.ref 0), some (.ref 7), some (.ref 76), some (.int i)], [.int v, .int v], st S2 hs, c, m)
  refine hX _ ?_
  clear hP hX hk P' X cal
  refine Wp.stepsG 1 (fun cal X P' hk hX hP => ?_)
  show (v = v → X (1541, [some (.ref 0), some (.ref 7), some (.ref 76), some (.int i)], [], st S2 hs, c, m)) ∧ (¬ v = v → X (539, [some (.ref 0), some (.ref 7), some (.ref 76), some (.int i)], [], st S2 hs, c, m))
  refine ⟨fun _ => hX _ h, fun hq => absurd (rfl) hq⟩
set_option maxRecDepth 20000 in
set_option maxHeartbeats 4000000 in
theorem lw_c11 (L : Nat) (xs : Nat → Int32) (i : Int32) (S : St) (hs : List Hr) (c m : Nat) (hc : c ≤ 600000) (hm : m ≤ 7302250) (w1 : vp_in (i + 1) L) (w2 : vp_in (i + 2) L) (v : Int32) (S1 S2 : St) (h11 : r_X11_tell S hs (xs (i + 1).toNatClampNeg) (xs (i + 2).toNatClampNeg) = some (v, S1)) (h12 : r_X12_tell S1 (xs (i + 1).toNatClampNeg) (xs (i + 2).toNatClampNeg) = some (v, S2)) (P : Option Value → Hp → Prop) (h : Wp mi_law (Ev 22) (some (L, xs)) (600000, 7302250) P (1541, [some (.ref 0), some (.ref 7), some (.ref 76), some (.int i)], [], st S2 hs, c, m)) : Wp mi_law (Ev 22) (some (L, xs)) (600000, 7302250) P (541, [some (.ref 0), some (.ref 7), some (.ref 76), some (.int i)], [], st S hs, c, m) := by
  refine Wp.stepsG 6 (fun cal X P' hk hX hP => ?_)
  show vp_in (i + 1) L ∧ X (547, [some (.ref 0), some (.ref 7), some (.ref 76), some (.int i)], [.int (xs (i + 1).toNatClampNeg), .ref 7], st S hs, c, m)
  refine ⟨w1, hX _ ?_⟩
  clear hP hX hk P' X cal
  refine Wp.stepsG 5 (fun cal X P' hk hX hP => ?_)
  show vp_in (i + 2) L ∧ X (552, [some (.ref 0), some (.ref 7), some (.ref 76), some (.int i)], [.int (xs (i + 2).toNatClampNeg), .int (xs (i + 1).toNatClampNeg), .ref 7], st S hs, c, m)
  refine ⟨w2, hX _ ?_⟩
  clear hP hX hk P' X cal
  refine Wp.stepsG 1 (fun cal X P' hk hX hP => ?_)
  show kcall cal ix_X11_tell [.ref 7, .int (xs (i + 1).toNatClampNeg), .int (xs (i + 2).toNatClampNeg)] (st S hs) [] c m (600000, 7302250) (fun vv σ' c' m' => X (555, [some (.ref 0), some (.ref 7), some (.ref 76), some (.int i)], vv.toList ++ [], σ', c', m'))
  refine kcallM 0 0 rfl ⟨hc, hm⟩ (hk _ _ _ _ _ _ (e_X11_tell 14 S hs (xs (i + 1).toNatClampNeg) (xs (i + 2).toNatClampNeg) (v, S1) h11 _ ?_))
  show X (555, [some (.ref 0), some (.ref 7), some (.ref 76), some (.int i)], [.int v], st S1 hs, c, m)
  refine hX _ ?_
  clear hP hX hk P' X cal
  refine Wp.stepsG 6 (fun cal X P' hk hX hP => ?_)
  show vp_in (i + 1) L ∧ X (561, [some (.ref 0), some (.ref 7), some (.ref 76), some (.int i)], [.int (xs (i + 1).toNatClampNeg), .ref 76, .int v], st S1 hs, c, m)
  refine ⟨w1, hX _ ?_⟩
  clear hP hX hk P' X cal
  refine Wp.stepsG 5 (fun cal X P' hk hX hP => ?_)
  show vp_in (i + 2) L ∧ X (566, [some (.ref 0), some (.ref 7), some (.ref 76), some (.int i)], [.int (xs (i + 2).toNatClampNeg), .int (xs (i + 1).toNatClampNeg), .ref 76, .int v], st S1 hs, c, m)
  refine ⟨w2, hX _ ?_⟩
  clear hP hX hk P' X cal
  refine Wp.stepsG 1 (fun cal X P' hk hX hP => ?_)
  show kcall cal ix_X12_tell [.ref 76, .int (xs (i + 1).toNatClampNeg), .int (xs (i + 2).toNatClampNeg)] (st S1 hs) [.int v] c m (600000, 7302250) (fun vv σ' c' m' => X (569, [some (.ref 0), some (.ref 7), some (.ref 76), some (.int i)], vv.toList ++ [.int v], σ', c', m'))
  refine kcallM 0 0 rfl ⟨hc, hm⟩ (hk _ _ _ _ _ _ (e_X12_tell 14 S1 hs (xs (i + 1).toNatClampNeg) (xs (i + 2).toNatClampNeg) (v, S2) h12 _ ?_))
  show X (569, [some (.ref 0), some (.ref 7), some (.ref 76), some (.int i)], [.int v, .int v], st S2 hs, c, m)
  refine hX _ ?_
  clear hP hX hk P' X cal
  refine Wp.stepsG 1 (fun cal X P' hk hX hP => ?_)
  show (v = v → X (1541, [some (.ref 0), some (.ref 7), some (.ref 76), some (.int i)], [], st S2 hs, c, m)) ∧ (¬ v = v → X (572, [some (.ref 0), some (.ref 7), some (.ref 76), some (.int i)], [], st S2 hs, c, m))
  refine ⟨fun _ => hX _ h, fun hq => absurd (rfl) hq⟩
set_option maxRecDepth 20000 in
set_option maxHeartbeats 4000000 in
theorem lw_c12 (L : Nat) (xs : Nat → Int32) (i : Int32) (S : St) (hs : List Hr) (c m : Nat) (hc : c ≤ 600000) (hm : m ≤ 7302250) (w1 : vp_in (i + 1) L) (w2 : vp_in (i + 2) L) (v : Int32) (S1 S2 : St) (h11 : r_X11_laugh S hs (xs (i + 1).toNatClampNeg) (xs (i + 2).toNatClampNeg) = some (v, S1)) (h12 : r_X12_laugh S1 (xs (i + 1).toNatClampNeg) (xs (i + 2).toNatClampNeg) = some (v, S2)) (P : Option Value → Hp → Prop) (h : Wp mi_law (Ev 22) (some (L, xs)) (600000, 7302250) P (1541, [some (.ref 0), some (.ref 7), some (.ref 76), some (.int i)], [], st S2 hs, c, m)) : Wp mi_law (Ev 22) (some (L, xs)) (600000, 7302250) P (574, [some (.ref 0), some (.ref 7), some (.ref 76), some (.int i)], [], st S hs, c, m) := by
  refine Wp.stepsG 6 (fun cal X P' hk hX hP => ?_)
  show vp_in (i + 1) L ∧ X (580, [some (.ref 0), some (.ref 7), some (.ref 76), some (.int i)], [.int (xs (i + 1).toNatClampNeg), .ref 7], st S hs, c, m)
  refine ⟨w1, hX _ ?_⟩
  clear hP hX hk P' X cal
  refine Wp.stepsG 5 (fun cal X P' hk hX hP => ?_)
  show vp_in (i + 2) L ∧ X (585, [some (.ref 0), some (.ref 7), some (.ref 76), some (.int i)], [.int (xs (i + 2).toNatClampNeg), .int (xs (i + 1).toNatClampNeg), .ref 7], st S hs, c, m)
  refine ⟨w2, hX _ ?_⟩
  clear hP hX hk P' X cal
  refine Wp.stepsG 1 (fun cal X P' hk hX hP => ?_)
  show kcall cal ix_X11_laugh [.ref 7, .int (xs (i + 1).toNatClampNeg), .int (xs (i + 2).toNatClampNeg)] (st S hs) [] c m (600000, 7302250) (fun vv σ' c' m' => X (588, [some (.ref 0), some (.ref 7), some (.ref 76), some (.int i)], vv.toList ++ [], σ', c', m'))
  refine kcallM 0 0 rfl ⟨hc, hm⟩ (hk _ _ _ _ _ _ (e_X11_laugh 15 S hs (xs (i + 1).toNatClampNeg) (xs (i + 2).toNatClampNeg) (v, S1) h11 _ ?_))
  show X (588, [some (.ref 0), some (.ref 7), some (.ref 76), some (.int i)], [.int v], st S1 hs, c, m)
  refine hX _ ?_
  clear hP hX hk P' X cal
  refine Wp.stepsG 6 (fun cal X P' hk hX hP => ?_)
  show vp_in (i + 1) L ∧ X (594, [some (.ref 0), some (.ref 7), some (.ref 76), some (.int i)], [.int (xs (i + 1).toNatClampNeg), .ref 76, .int v], st S1 hs, c, m)
  refine ⟨w1, hX _ ?_⟩
  clear hP hX hk P' X cal
  refine Wp.stepsG 5 (fun cal X P' hk hX hP => ?_)
  show vp_in (i + 2) L ∧ X (599, [some (.ref 0), some (.ref 7), some (.ref 76), some (.int i)], [.int (xs (i + 2).toNatClampNeg), .int (xs (i + 1).toNatClampNeg), .ref 76, .int v], st S1 hs, c, m)
  refine ⟨w2, hX _ ?_⟩
  clear hP hX hk P' X cal
  refine Wp.stepsG 1 (fun cal X P' hk hX hP => ?_)
  show kcall cal ix_X12_laugh [.ref 76, .int (xs (i + 1).toNatClampNeg), .int (xs (i + 2).toNatClampNeg)] (st S1 hs) [.int v] c m (600000, 7302250) (fun vv σ' c' m' => X (602, [some (.ref 0), some (.ref 7), some (.ref 76), some (.int i)], vv.toList ++ [.int v], σ', c', m'))
  refine kcallM 0 0 rfl ⟨hc, hm⟩ (hk _ _ _ _ _ _ (e_X12_laugh 16 S1 hs (xs (i + 1).toNatClampNeg) (xs (i + 2).toNatClampNeg) (v, S2) h12 _ ?_))
  show X (602, [some (.ref 0), some (.ref 7), some (.ref 76), some (.int i)], [.int v, .int v], st S2 hs, c, m)
  refine hX _ ?_
  clear hP hX hk P' X cal
  refine Wp.stepsG 1 (fun cal X P' hk hX hP => ?_)
  show (v = v → X (1541, [some (.ref 0), some (.ref 7), some (.ref 76), some (.int i)], [], st S2 hs, c, m)) ∧ (¬ v = v → X (605, [some (.ref 0), some (.ref 7), some (.ref 76), some (.int i)], [], st S2 hs, c, m))
  refine ⟨fun _ => hX _ h, fun hq => absurd (rfl) hq⟩
set_option maxRecDepth 20000 in
set_option maxHeartbeats 4000000 in
theorem lw_c13 (L : Nat) (xs : Nat → Int32) (i : Int32) (S : St) (hs : List Hr) (c m : Nat) (hc : c ≤ 600000) (hm : m ≤ 7302250) (w1 : vp_in (i + 1) L) (w2 : vp_in (i + 2) L) (w3 : vp_in (i + 3) L) (v : Int32) (S1 S2 : St) (h11 : r_X11_would S hs (xs (i + 1).toNatClampNeg) (xs (i + 2).toNatClampNeg) (xs (i + 3).toNatClampNeg) = some (v, S1)) (h12 : r_X12_would S1 (xs (i + 1).toNatClampNeg) (xs (i + 2).toNatClampNeg) (xs (i + 3).toNatClampNeg) = some (v, S2)) (P : Option Value → Hp → Prop) (h : Wp mi_law (Ev 22) (some (L, xs)) (600000, 7302250) P (1541, [some (.ref 0), some (.ref 7), some (.ref 76), some (.int i)], [], st S2 hs, c, m)) : Wp mi_law (Ev 22) (some (L, xs)) (600000, 7302250) P (607, [some (.ref 0), some (.ref 7), some (.ref 76), some (.int i)], [], st S hs, c, m) := by
  refine Wp.stepsG 6 (fun cal X P' hk hX hP => ?_)
  show vp_in (i + 1) L ∧ X (613, [some (.ref 0), some (.ref 7), some (.ref 76), some (.int i)], [.int (xs (i + 1).toNatClampNeg), .ref 7], st S hs, c, m)
  refine ⟨w1, hX _ ?_⟩
  clear hP hX hk P' X cal
  refine Wp.stepsG 5 (fun cal X P' hk hX hP => ?_)
  show vp_in (i + 2) L ∧ X (618, [some (.ref 0), some (.ref 7), some (.ref 76), some (.int i)], [.int (xs (i + 2).toNatClampNeg), .int (xs (i + 1).toNatClampNeg), .ref 7], st S hs, c, m)
  refine ⟨w2, hX _ ?_⟩
  clear hP hX hk P' X cal
  refine Wp.stepsG 5 (fun cal X P' hk hX hP => ?_)
  show vp_in (i + 3) L ∧ X (623, [some (.ref 0), some (.ref 7), some (.ref 76), some (.int i)], [.int (xs (i + 3).toNatClampNeg), .int (xs (i + 2).toNatClampNeg), .int (xs (i + 1).toNatClampNeg), .ref 7], st S hs, c, m)
  refine ⟨w3, hX _ ?_⟩
  clear hP hX hk P' X cal
  refine Wp.stepsG 1 (fun cal X P' hk hX hP => ?_)
  show kcall cal ix_X11_would [.ref 7, .int (xs (i + 1).toNatClampNeg), .int (xs (i + 2).toNatClampNeg), .int (xs (i + 3).toNatClampNeg)] (st S hs) [] c m (600000, 7302250) (fun vv σ' c' m' => X (626, [some (.ref 0), some (.ref 7), some (.ref 76), some (.int i)], vv.toList ++ [], σ', c', m'))
  refine kcallM 0 0 rfl ⟨hc, hm⟩ (hk _ _ _ _ _ _ (e_X11_would 14 S hs (xs (i + 1).toNatClampNeg) (xs (i + 2).toNatClampNeg) (xs (i + 3).toNatClampNeg) (v, S1) h11 _ ?_))
  show X (626, [some (.ref 0), some (.ref 7), some (.ref 76), some (.int i)], [.int v], st S1 hs, c, m)
  refine hX _ ?_
  clear hP hX hk P' X cal
  refine Wp.stepsG 6 (fun cal X P' hk hX hP => ?_)
  show vp_in (i + 1) L ∧ X (632, [some (.ref 0), some (.ref 7), some (.ref 76), some (.int i)], [.int (xs (i + 1).toNatClampNeg), .ref 76, .int v], st S1 hs, c, m)
  refine ⟨w1, hX _ ?_⟩
  clear hP hX hk P' X cal
  refine Wp.stepsG 5 (fun cal X P' hk hX hP => ?_)
  show vp_in (i + 2) L ∧ X (637, [some (.ref 0), some (.ref 7), some (.ref 76), some (.int i)], [.int (xs (i + 2).toNatClampNeg), .int (xs (i + 1).toNatClampNeg), .ref 76, .int v], st S1 hs, c, m)
  refine ⟨w2, hX _ ?_⟩
  clear hP hX hk P' X cal
  refine Wp.stepsG 5 (fun cal X P' hk hX hP => ?_)
  show vp_in (i + 3) L ∧ X (642, [some (.ref 0), some (.ref 7), some (.ref 76), some (.int i)], [.int (xs (i + 3).toNatClampNeg), .int (xs (i + 2).toNatClampNeg), .int (xs (i + 1).toNatClampNeg), .ref 76, .int v], st S1 hs, c, m)
  refine ⟨w3, hX _ ?_⟩
  clear hP hX hk P' X cal
  refine Wp.stepsG 1 (fun cal X P' hk hX hP => ?_)
  show kcall cal ix_X12_would [.ref 76, .int (xs (i + 1).toNatClampNeg), .int (xs (i + 2).toNatClampNeg), .int (xs (i + 3).toNatClampNeg)] (st S1 hs) [.int v] c m (600000, 7302250) (fun vv σ' c' m' => X (645, [some (.ref 0), some (.ref 7), some (.ref 76), some (.int i)], vv.toList ++ [.int v], σ', c', m'))
  refine kcallM 0 0 rfl ⟨hc, hm⟩ (hk _ _ _ _ _ _ (e_X12_would 15 S1 hs (xs (i + 1).toNatClampNeg) (xs (i + 2).toNatClampNeg) (xs (i + 3).toNatClampNeg) (v, S2) h12 _ ?_))
  show X (645, [some (.ref 0), some (.ref 7), some (.ref 76), some (.int i)], [.int v, .int v], st S2 hs, c, m)
  refine hX _ ?_
  clear hP hX hk P' X cal
  refine Wp.stepsG 1 (fun cal X P' hk hX hP => ?_)
  show (v = v → X (1541, [some (.ref 0), some (.ref 7), some (.ref 76), some (.int i)], [], st S2 hs, c, m)) ∧ (¬ v = v → X (648, [some (.ref 0), some (.ref 7), some (.ref 76), some (.int i)], [], st S2 hs, c, m))
  refine ⟨fun _ => hX _ h, fun hq => absurd (rfl) hq⟩
set_option maxRecDepth 20000 in
set_option maxHeartbeats 4000000 in
theorem lw_c14 (L : Nat) (xs : Nat → Int32) (i : Int32) (S : St) (hs : List Hr) (c m : Nat) (hc : c ≤ 600000) (hm : m ≤ 7302250) (w1 : vp_in (i + 1) L) (w2 : vp_in (i + 2) L) (v : Int32) (S1 S2 : St) (h11 : r_X11_best S hs (xs (i + 1).toNatClampNeg) (xs (i + 2).toNatClampNeg) = some (v, S1)) (h12 : r_X12_best S1 (xs (i + 1).toNatClampNeg) (xs (i + 2).toNatClampNeg) = some (v, S2)) (P : Option Value → Hp → Prop) (h : Wp mi_law (Ev 22) (some (L, xs)) (600000, 7302250) P (1541, [some (.ref 0), some (.ref 7), some (.ref 76), some (.int i)], [], st S2 hs, c, m)) : Wp mi_law (Ev 22) (some (L, xs)) (600000, 7302250) P (650, [some (.ref 0), some (.ref 7), some (.ref 76), some (.int i)], [], st S hs, c, m) := by
  refine Wp.stepsG 6 (fun cal X P' hk hX hP => ?_)
  show vp_in (i + 1) L ∧ X (656, [some (.ref 0), some (.ref 7), some (.ref 76), some (.int i)], [.int (xs (i + 1).toNatClampNeg), .ref 7], st S hs, c, m)
  refine ⟨w1, hX _ ?_⟩
  clear hP hX hk P' X cal
  refine Wp.stepsG 5 (fun cal X P' hk hX hP => ?_)
  show vp_in (i + 2) L ∧ X (661, [some (.ref 0), some (.ref 7), some (.ref 76), some (.int i)], [.int (xs (i + 2).toNatClampNeg), .int (xs (i + 1).toNatClampNeg), .ref 7], st S hs, c, m)
  refine ⟨w2, hX _ ?_⟩
  clear hP hX hk P' X cal
  refine Wp.stepsG 1 (fun cal X P' hk hX hP => ?_)
  show kcall cal ix_X11_best [.ref 7, .int (xs (i + 1).toNatClampNeg), .int (xs (i + 2).toNatClampNeg)] (st S hs) [] c m (600000, 7302250) (fun vv σ' c' m' => X (664, [some (.ref 0), some (.ref 7), some (.ref 76), some (.int i)], vv.toList ++ [], σ', c', m'))
  refine kcallM 0 0 rfl ⟨hc, hm⟩ (hk _ _ _ _ _ _ (e_X11_best 14 S hs (xs (i + 1).toNatClampNeg) (xs (i + 2).toNatClampNeg) (v, S1) h11 _ ?_))
  show X (664, [some (.ref 0), some (.ref 7), some (.ref 76), some (.int i)], [.int v], st S1 hs, c, m)
  refine hX _ ?_
  clear hP hX hk P' X cal
  refine Wp.stepsG 6 (fun cal X P' hk hX hP => ?_)
  show vp_in (i + 1) L ∧ X (670, [some (.ref 0), some (.ref 7), some (.ref 76), some (.int i)], [.int (xs (i + 1).toNatClampNeg), .ref 76, .int v], st S1 hs, c, m)
  refine ⟨w1, hX _ ?_⟩
  clear hP hX hk P' X cal
  refine Wp.stepsG 5 (fun cal X P' hk hX hP => ?_)
  show vp_in (i + 2) L ∧ X (675, [some (.ref 0), some (.ref 7), some (.ref 76), some (.int i)], [.int (xs (i + 2).toNatClampNeg), .int (xs (i + 1).toNatClampNeg), .ref 76, .int v], st S1 hs, c, m)
  refine ⟨w2, hX _ ?_⟩
  clear hP hX hk P' X cal
  refine Wp.stepsG 1 (fun cal X P' hk hX hP => ?_)
  show kcall cal ix_X12_best [.ref 76, .int (xs (i + 1).toNatClampNeg), .int (xs (i + 2).toNatClampNeg)] (st S1 hs) [.int v] c m (600000, 7302250) (fun vv σ' c' m' => X (678, [some (.ref 0), some (.ref 7), some (.ref 76), some (.int i)], vv.toList ++ [.int v], σ', c', m'))
  refine kcallM 0 0 rfl ⟨hc, hm⟩ (hk _ _ _ _ _ _ (e_X12_best 14 S1 hs (xs (i + 1).toNatClampNeg) (xs (i + 2).toNatClampNeg) (v, S2) h12 _ ?_))
  show X (678, [some (.ref 0), some (.ref 7), some (.ref 76), some (.int i)], [.int v, .int v], st S2 hs, c, m)
  refine hX _ ?_
  clear hP hX hk P' X cal
  refine Wp.stepsG 1 (fun cal X P' hk hX hP => ?_)
  show (v = v → X (1541, [some (.ref 0), some (.ref 7), some (.ref 76), some (.int i)], [], st S2 hs, c, m)) ∧ (¬ v = v → X (681, [some (.ref 0), some (.ref 7), some (.ref 76), some (.int i)], [], st S2 hs, c, m))
  refine ⟨fun _ => hX _ h, fun hq => absurd (rfl) hq⟩
set_option maxRecDepth 20000 in
set_option maxHeartbeats 4000000 in
theorem lw_c15 (L : Nat) (xs : Nat → Int32) (i : Int32) (S : St) (hs : List Hr) (c m : Nat) (hc : c ≤ 600000) (hm : m ≤ 7302250) (w1 : vp_in (i + 1) L) (v : Int32) (h11 : r_X11_fresh S hs (xs (i + 1).toNatClampNeg) = some v) (h12 : r_X12_fresh S (xs (i + 1).toNatClampNeg) = some v) (P : Option Value → Hp → Prop) (h : Wp mi_law (Ev 22) (some (L, xs)) (600000, 7302250) P (1541, [some (.ref 0), some (.ref 7), some (.ref 76), some (.int i)], [], st S hs, c, m)) : Wp mi_law (Ev 22) (some (L, xs)) (600000, 7302250) P (683, [some (.ref 0), some (.ref 7), some (.ref 76), some (.int i)], [], st S hs, c, m) := by
  refine Wp.stepsG 6 (fun cal X P' hk hX hP => ?_)
  show vp_in (i + 1) L ∧ X (689, [some (.ref 0), some (.ref 7), some (.ref 76), some (.int i)], [.int (xs (i + 1).toNatClampNeg), .ref 7], st S hs, c, m)
  refine ⟨w1, hX _ ?_⟩
  clear hP hX hk P' X cal
  refine Wp.stepsG 1 (fun cal X P' hk hX hP => ?_)
  show kcall cal ix_X11_fresh [.ref 7, .int (xs (i + 1).toNatClampNeg)] (st S hs) [] c m (600000, 7302250) (fun vv σ' c' m' => X (692, [some (.ref 0), some (.ref 7), some (.ref 76), some (.int i)], vv.toList ++ [], σ', c', m'))
  refine kcallM 0 0 rfl ⟨hc, hm⟩ (hk _ _ _ _ _ _ (e_X11_fresh 16 S hs (xs (i + 1).toNatClampNeg) v h11 _ ?_))
  show X (692, [some (.ref 0), some (.ref 7), some (.ref 76), some (.int i)], [.int v], st S hs, c, m)
  refine hX _ ?_
  clear hP hX hk P' X cal
  refine Wp.stepsG 6 (fun cal X P' hk hX hP => ?_)
  show vp_in (i + 1) L ∧ X (698, [some (.ref 0), some (.ref 7), some (.ref 76), some (.int i)], [.int (xs (i + 1).toNatClampNeg), .ref 76, .int v], st S hs, c, m)
  refine ⟨w1, hX _ ?_⟩
  clear hP hX hk P' X cal
  refine Wp.stepsG 1 (fun cal X P' hk hX hP => ?_)
  show kcall cal ix_X12_fresh [.ref 76, .int (xs (i + 1).toNatClampNeg)] (st S hs) [.int v] c m (600000, 7302250) (fun vv σ' c' m' => X (701, [some (.ref 0), some (.ref 7), some (.ref 76), some (.int i)], vv.toList ++ [.int v], σ', c', m'))
  refine kcallM 0 0 rfl ⟨hc, hm⟩ (hk _ _ _ _ _ _ (e_X12_fresh 16 S hs (xs (i + 1).toNatClampNeg) v h12 _ ?_))
  show X (701, [some (.ref 0), some (.ref 7), some (.ref 76), some (.int i)], [.int v, .int v], st S hs, c, m)
  refine hX _ ?_
  clear hP hX hk P' X cal
  refine Wp.stepsG 1 (fun cal X P' hk hX hP => ?_)
  show (v = v → X (1541, [some (.ref 0), some (.ref 7), some (.ref 76), some (.int i)], [], st S hs, c, m)) ∧ (¬ v = v → X (704, [some (.ref 0), some (.ref 7), some (.ref 76), some (.int i)], [], st S hs, c, m))
  refine ⟨fun _ => hX _ h, fun hq => absurd (rfl) hq⟩
set_option maxRecDepth 20000 in
set_option maxHeartbeats 4000000 in
theorem lw_c16 (L : Nat) (xs : Nat → Int32) (i : Int32) (S : St) (hs : List Hr) (c m : Nat) (hc : c ≤ 600000) (hm : m ≤ 7302250) (w1 : vp_in (i + 1) L) (w2 : vp_in (i + 2) L) (v : Int32) (S2 : St) (h11 : r_X11_again S hs (xs (i + 1).toNatClampNeg) (xs (i + 2).toNatClampNeg) = some v) (h12 : r_X12_again S (xs (i + 1).toNatClampNeg) (xs (i + 2).toNatClampNeg) = some (v, S2)) (P : Option Value → Hp → Prop) (h : Wp mi_law (Ev 22) (some (L, xs)) (600000, 7302250) P (1541, [some (.ref 0), some (.ref 7), some (.ref 76), some (.int i)], [], st S2 hs, c, m)) : Wp mi_law (Ev 22) (some (L, xs)) (600000, 7302250) P (706, [some (.ref 0), some (.ref 7), some (.ref 76), some (.int i)], [], st S hs, c, m) := by
  refine Wp.stepsG 6 (fun cal X P' hk hX hP => ?_)
  show vp_in (i + 1) L ∧ X (712, [some (.ref 0), some (.ref 7), some (.ref 76), some (.int i)], [.int (xs (i + 1).toNatClampNeg), .ref 7], st S hs, c, m)
  refine ⟨w1, hX _ ?_⟩
  clear hP hX hk P' X cal
  refine Wp.stepsG 5 (fun cal X P' hk hX hP => ?_)
  show vp_in (i + 2) L ∧ X (717, [some (.ref 0), some (.ref 7), some (.ref 76), some (.int i)], [.int (xs (i + 2).toNatClampNeg), .int (xs (i + 1).toNatClampNeg), .ref 7], st S hs, c, m)
  refine ⟨w2, hX _ ?_⟩
  clear hP hX hk P' X cal
  refine Wp.stepsG 1 (fun cal X P' hk hX hP => ?_)
  show kcall cal ix_X11_again [.ref 7, .int (xs (i + 1).toNatClampNeg), .int (xs (i + 2).toNatClampNeg)] (st S hs) [] c m (600000, 7302250) (fun vv σ' c' m' => X (720, [some (.ref 0), some (.ref 7), some (.ref 76), some (.int i)], vv.toList ++ [], σ', c', m'))
  refine kcallM 0 0 rfl ⟨hc, hm⟩ (hk _ _ _ _ _ _ (e_X11_again 16 S hs (xs (i + 1).toNatClampNeg) (xs (i + 2).toNatClampNeg) v h11 _ ?_))
  show X (720, [some (.ref 0), some (.ref 7), some (.ref 76), some (.int i)], [.int v], st S hs, c, m)
  refine hX _ ?_
  clear hP hX hk P' X cal
  refine Wp.stepsG 6 (fun cal X P' hk hX hP => ?_)
  show vp_in (i + 1) L ∧ X (726, [some (.ref 0), some (.ref 7), some (.ref 76), some (.int i)], [.int (xs (i + 1).toNatClampNeg), .ref 76, .int v], st S hs, c, m)
  refine ⟨w1, hX _ ?_⟩
  clear hP hX hk P' X cal
  refine Wp.stepsG 5 (fun cal X P' hk hX hP => ?_)
  show vp_in (i + 2) L ∧ X (731, [some (.ref 0), some (.ref 7), some (.ref 76), some (.int i)], [.int (xs (i + 2).toNatClampNeg), .int (xs (i + 1).toNatClampNeg), .ref 76, .int v], st S hs, c, m)
  refine ⟨w2, hX _ ?_⟩
  clear hP hX hk P' X cal
  refine Wp.stepsG 1 (fun cal X P' hk hX hP => ?_)
  show kcall cal ix_X12_again [.ref 76, .int (xs (i + 1).toNatClampNeg), .int (xs (i + 2).toNatClampNeg)] (st S hs) [.int v] c m (600000, 7302250) (fun vv σ' c' m' => X (734, [some (.ref 0), some (.ref 7), some (.ref 76), some (.int i)], vv.toList ++ [.int v], σ', c', m'))
  refine kcallM 0 0 rfl ⟨hc, hm⟩ (hk _ _ _ _ _ _ (e_X12_again 16 S hs (xs (i + 1).toNatClampNeg) (xs (i + 2).toNatClampNeg) (v, S2) h12 _ ?_))
  show X (734, [some (.ref 0), some (.ref 7), some (.ref 76), some (.int i)], [.int v, .int v], st S2 hs, c, m)
  refine hX _ ?_
  clear hP hX hk P' X cal
  refine Wp.stepsG 1 (fun cal X P' hk hX hP => ?_)
  show (v = v → X (1541, [some (.ref 0), some (.ref 7), some (.ref 76), some (.int i)], [], st S2 hs, c, m)) ∧ (¬ v = v → X (737, [some (.ref 0), some (.ref 7), some (.ref 76), some (.int i)], [], st S2 hs, c, m))
  refine ⟨fun _ => hX _ h, fun hq => absurd (rfl) hq⟩
set_option maxRecDepth 20000 in
set_option maxHeartbeats 4000000 in
theorem lw_c17 (L : Nat) (xs : Nat → Int32) (i : Int32) (S : St) (hs : List Hr) (c m : Nat) (hc : c ≤ 600000) (hm : m ≤ 7302250) (w1 : vp_in (i + 1) L) (w2 : vp_in (i + 2) L) (w3 : vp_in (i + 3) L) (v : Int32) (S1 S2 : St) (h11 : r_X11_evening S hs (xs (i + 1).toNatClampNeg) (xs (i + 2).toNatClampNeg) (xs (i + 3).toNatClampNeg) = some (v, S1)) (h12 : r_X12_evening S1 (xs (i + 1).toNatClampNeg) (xs (i + 2).toNatClampNeg) (xs (i + 3).toNatClampNeg) = some (v, S2)) (P : Option Value → Hp → Prop) (h : Wp mi_law (Ev 22) (some (L, xs)) (600000, 7302250) P (1541, [some (.ref 0), some (.ref 7), some (.ref 76), some (.int i)], [], st S2 hs, c, m)) : Wp mi_law (Ev 22) (some (L, xs)) (600000, 7302250) P (739, [some (.ref 0), some (.ref 7), some (.ref 76), some (.int i)], [], st S hs, c, m) := by
  refine Wp.stepsG 6 (fun cal X P' hk hX hP => ?_)
  show vp_in (i + 1) L ∧ X (745, [some (.ref 0), some (.ref 7), some (.ref 76), some (.int i)], [.int (xs (i + 1).toNatClampNeg), .ref 7], st S hs, c, m)
  refine ⟨w1, hX _ ?_⟩
  clear hP hX hk P' X cal
  refine Wp.stepsG 5 (fun cal X P' hk hX hP => ?_)
  show vp_in (i + 2) L ∧ X (750, [some (.ref 0), some (.ref 7), some (.ref 76), some (.int i)], [.int (xs (i + 2).toNatClampNeg), .int (xs (i + 1).toNatClampNeg), .ref 7], st S hs, c, m)
  refine ⟨w2, hX _ ?_⟩
  clear hP hX hk P' X cal
  refine Wp.stepsG 5 (fun cal X P' hk hX hP => ?_)
  show vp_in (i + 3) L ∧ X (755, [some (.ref 0), some (.ref 7), some (.ref 76), some (.int i)], [.int (xs (i + 3).toNatClampNeg), .int (xs (i + 2).toNatClampNeg), .int (xs (i + 1).toNatClampNeg), .ref 7], st S hs, c, m)
  refine ⟨w3, hX _ ?_⟩
  clear hP hX hk P' X cal
  refine Wp.stepsG 1 (fun cal X P' hk hX hP => ?_)
  show kcall cal ix_X11_evening [.ref 7, .int (xs (i + 1).toNatClampNeg), .int (xs (i + 2).toNatClampNeg), .int (xs (i + 3).toNatClampNeg)] (st S hs) [] c m (600000, 7302250) (fun vv σ' c' m' => X (758, [some (.ref 0), some (.ref 7), some (.ref 76), some (.int i)], vv.toList ++ [], σ', c', m'))
  refine kcallM 0 0 rfl ⟨hc, hm⟩ (hk _ _ _ _ _ _ (e_X11_evening 14 S hs (xs (i + 1).toNatClampNeg) (xs (i + 2).toNatClampNeg) (xs (i + 3).toNatClampNeg) (v, S1) h11 _ ?_))
  show X (758, [some (.ref 0), some (.ref 7), some (.ref 76), some (.int i)], [.int v], st S1 hs, c, m)
  refine hX _ ?_
  clear hP hX hk P' X cal
  refine Wp.stepsG 6 (fun cal X P' hk hX hP => ?_)
  show vp_in (i + 1) L ∧ X (764, [some (.ref 0), some (.ref 7), some (.ref 76), some (.int i)], [.int (xs (i + 1).toNatClampNeg), .ref 76, .int v], st S1 hs, c, m)
  refine ⟨w1, hX _ ?_⟩
  clear hP hX hk P' X cal
  refine Wp.stepsG 5 (fun cal X P' hk hX hP => ?_)
  show vp_in (i + 2) L ∧ X (769, [some (.ref 0), some (.ref 7), some (.ref 76), some (.int i)], [.int (xs (i + 2).toNatClampNeg), .int (xs (i + 1).toNatClampNeg), .ref 76, .int v], st S1 hs, c, m)
  refine ⟨w2, hX _ ?_⟩
  clear hP hX hk P' X cal
  refine Wp.stepsG 5 (fun cal X P' hk hX hP => ?_)
  show vp_in (i + 3) L ∧ X (774, [some (.ref 0), some (.ref 7), some (.ref 76), some (.int i)], [.int (xs (i + 3).toNatClampNeg), .int (xs (i + 2).toNatClampNeg), .int (xs (i + 1).toNatClampNeg), .ref 76, .int v], st S1 hs, c, m)
  refine ⟨w3, hX _ ?_⟩
  clear hP hX hk P' X cal
  refine Wp.stepsG 1 (fun cal X P' hk hX hP => ?_)
  show kcall cal ix_X12_evening [.ref 76, .int (xs (i + 1).toNatClampNeg), .int (xs (i + 2).toNatClampNeg), .int (xs (i + 3).toNatClampNeg)] (st S1 hs) [.int v] c m (600000, 7302250) (fun vv σ' c' m' => X (777, [some (.ref 0), some (.ref 7), some (.ref 76), some (.int i)], vv.toList ++ [.int v], σ', c', m'))
  refine kcallM 0 0 rfl ⟨hc, hm⟩ (hk _ _ _ _ _ _ (e_X12_evening 14 S1 hs (xs (i + 1).toNatClampNeg) (xs (i + 2).toNatClampNeg) (xs (i + 3).toNatClampNeg) (v, S2) h12 _ ?_))
  show X (777, [some (.ref 0), some (.ref 7), some (.ref 76), some (.int i)], [.int v, .int v], st S2 hs, c, m)
  refine hX _ ?_
  clear hP hX hk P' X cal
  refine Wp.stepsG 1 (fun cal X P' hk hX hP => ?_)
  show (v = v → X (1541, [some (.ref 0), some (.ref 7), some (.ref 76), some (.int i)], [], st S2 hs, c, m)) ∧ (¬ v = v → X (780, [some (.ref 0), some (.ref 7), some (.ref 76), some (.int i)], [], st S2 hs, c, m))
  refine ⟨fun _ => hX _ h, fun hq => absurd (rfl) hq⟩
set_option maxRecDepth 20000 in
set_option maxHeartbeats 4000000 in
theorem lw_c18 (L : Nat) (xs : Nat → Int32) (i : Int32) (S : St) (hs : List Hr) (c m : Nat) (hc : c ≤ 600000) (hm : m ≤ 7302250) (w1 : vp_in (i + 1) L) (w2 : vp_in (i + 2) L) (v : Int32) (S1 S2 : St) (h11 : r_X11_coffee S hs (xs (i + 1).toNatClampNeg) (xs (i + 2).toNatClampNeg) = some (v, S1)) (h12 : r_X12_coffee S1 (xs (i + 1).toNatClampNeg) (xs (i + 2).toNatClampNeg) = some (v, S2)) (P : Option Value → Hp → Prop) (h : Wp mi_law (Ev 22) (some (L, xs)) (600000, 7302250) P (1541, [some (.ref 0), some (.ref 7), some (.ref 76), some (.int i)], [], st S2 hs, c, m)) : Wp mi_law (Ev 22) (some (L, xs)) (600000, 7302250) P (782, [some (.ref 0), some (.ref 7), some (.ref 76), some (.int i)], [], st S hs, c, m) := by
  refine Wp.stepsG 6 (fun cal X P' hk hX hP => ?_)
  show vp_in (i + 1) L ∧ X (788, [some (.ref 0), some (.ref 7), some (.ref 76), some (.int i)], [.int (xs (i + 1).toNatClampNeg), .ref 7], st S hs, c, m)
  refine ⟨w1, hX _ ?_⟩
  clear hP hX hk P' X cal
  refine Wp.stepsG 5 (fun cal X P' hk hX hP => ?_)
  show vp_in (i + 2) L ∧ X (793, [some (.ref 0), some (.ref 7), some (.ref 76), some (.int i)], [.int (xs (i + 2).toNatClampNeg), .int (xs (i + 1).toNatClampNeg), .ref 7], st S hs, c, m)
  refine ⟨w2, hX _ ?_⟩
  clear hP hX hk P' X cal
  refine Wp.stepsG 1 (fun cal X P' hk hX hP => ?_)
  show kcall cal ix_X11_coffee [.ref 7, .int (xs (i + 1).toNatClampNeg), .int (xs (i + 2).toNatClampNeg)] (st S hs) [] c m (600000, 7302250) (fun vv σ' c' m' => X (796, [some (.ref 0), some (.ref 7), some (.ref 76), some (.int i)], vv.toList ++ [], σ', c', m'))
  refine kcallM 0 0 rfl ⟨hc, hm⟩ (hk _ _ _ _ _ _ (e_X11_coffee 14 S hs (xs (i + 1).toNatClampNeg) (xs (i + 2).toNatClampNeg) (v, S1) h11 _ ?_))
  show X (796, [some (.ref 0), some (.ref 7), some (.ref 76), some (.int i)], [.int v], st S1 hs, c, m)
  refine hX _ ?_
  clear hP hX hk P' X cal
  refine Wp.stepsG 6 (fun cal X P' hk hX hP => ?_)
  show vp_in (i + 1) L ∧ X (802, [some (.ref 0), some (.ref 7), some (.ref 76), some (.int i)], [.int (xs (i + 1).toNatClampNeg), .ref 76, .int v], st S1 hs, c, m)
  refine ⟨w1, hX _ ?_⟩
  clear hP hX hk P' X cal
  refine Wp.stepsG 5 (fun cal X P' hk hX hP => ?_)
  show vp_in (i + 2) L ∧ X (807, [some (.ref 0), some (.ref 7), some (.ref 76), some (.int i)], [.int (xs (i + 2).toNatClampNeg), .int (xs (i + 1).toNatClampNeg), .ref 76, .int v], st S1 hs, c, m)
  refine ⟨w2, hX _ ?_⟩
  clear hP hX hk P' X cal
  refine Wp.stepsG 1 (fun cal X P' hk hX hP => ?_)
  show kcall cal ix_X12_coffee [.ref 76, .int (xs (i + 1).toNatClampNeg), .int (xs (i + 2).toNatClampNeg)] (st S1 hs) [.int v] c m (600000, 7302250) (fun vv σ' c' m' => X (810, [some (.ref 0), some (.ref 7), some (.ref 76), some (.int i)], vv.toList ++ [.int v], σ', c', m'))
  refine kcallM 0 0 rfl ⟨hc, hm⟩ (hk _ _ _ _ _ _ (e_X12_coffee 14 S1 hs (xs (i + 1).toNatClampNeg) (xs (i + 2).toNatClampNeg) (v, S2) h12 _ ?_))
  show X (810, [some (.ref 0), some (.ref 7), some (.ref 76), some (.int i)], [.int v, .int v], st S2 hs, c, m)
  refine hX _ ?_
  clear hP hX hk P' X cal
  refine Wp.stepsG 1 (fun cal X P' hk hX hP => ?_)
  show (v = v → X (1541, [some (.ref 0), some (.ref 7), some (.ref 76), some (.int i)], [], st S2 hs, c, m)) ∧ (¬ v = v → X (813, [some (.ref 0), some (.ref 7), some (.ref 76), some (.int i)], [], st S2 hs, c, m))
  refine ⟨fun _ => hX _ h, fun hq => absurd (rfl) hq⟩
set_option maxRecDepth 20000 in
set_option maxHeartbeats 4000000 in
theorem lw_c19 (L : Nat) (xs : Nat → Int32) (i : Int32) (S : St) (hs : List Hr) (c m : Nat) (hc : c ≤ 600000) (hm : m ≤ 7302250) (w1 : vp_in (i + 1) L) (w2 : vp_in (i + 2) L) (w3 : vp_in (i + 3) L) (w4 : vp_in (i + 4) L) (v : Int32) (S1 S2 : St) (h11 : r_X11_keep S hs (xs (i + 1).toNatClampNeg) (xs (i + 2).toNatClampNeg) (xs (i + 3).toNatClampNeg) (xs (i + 4).toNatClampNeg) = some (v, S1)) (h12 : r_X12_keep S1 (xs (i + 1).toNatClampNeg) (xs (i + 2).toNatClampNeg) (xs (i + 3).toNatClampNeg) (xs (i + 4).toNatClampNeg) = some (v, S2)) (P : Option Value → Hp → Prop) (h : Wp mi_law (Ev 22) (some (L, xs)) (600000, 7302250) P (1541, [some (.ref 0), some (.ref 7), some (.ref 76), some (.int i)], [], st S2 hs, c, m)) : Wp mi_law (Ev 22) (some (L, xs)) (600000, 7302250) P (815, [some (.ref 0), some (.ref 7), some (.ref 76), some (.int i)], [], st S hs, c, m) := by
  refine Wp.stepsG 6 (fun cal X P' hk hX hP => ?_)
  show vp_in (i + 1) L ∧ X (821, [some (.ref 0), some (.ref 7), some (.ref 76), some (.int i)], [.int (xs (i + 1).toNatClampNeg), .ref 7], st S hs, c, m)
  refine ⟨w1, hX _ ?_⟩
  clear hP hX hk P' X cal
  refine Wp.stepsG 5 (fun cal X P' hk hX hP => ?_)
  show vp_in (i + 2) L ∧ X (826, [some (.ref 0), some (.ref 7), some (.ref 76), some (.int i)], [.int (xs (i + 2).toNatClampNeg), .int (xs (i + 1).toNatClampNeg), .ref 7], st S hs, c, m)
  refine ⟨w2, hX _ ?_⟩
  clear hP hX hk P' X cal
  refine Wp.stepsG 5 (fun cal X P' hk hX hP => ?_)
  show vp_in (i + 3) L ∧ X (831, [some (.ref 0), some (.ref 7), some (.ref 76), some (.int i)], [.int (xs (i + 3).toNatClampNeg), .int (xs (i + 2).toNatClampNeg), .int (xs (i + 1).toNatClampNeg), .ref 7], st S hs, c, m)
  refine ⟨w3, hX _ ?_⟩
  clear hP hX hk P' X cal
  refine Wp.stepsG 5 (fun cal X P' hk hX hP => ?_)
  show vp_in (i + 4) L ∧ X (836, [some (.ref 0), some (.ref 7), some (.ref 76), some (.int i)], [.int (xs (i + 4).toNatClampNeg), .int (xs (i + 3).toNatClampNeg), .int (xs (i + 2).toNatClampNeg), .int (xs (i + 1).toNatClampNeg), .ref 7], st S hs, c, m)
  refine ⟨w4, hX _ ?_⟩
  clear hP hX hk P' X cal
  refine Wp.stepsG 1 (fun cal X P' hk hX hP => ?_)
  show kcall cal ix_X11_keep [.ref 7, .int (xs (i + 1).toNatClampNeg), .int (xs (i + 2).toNatClampNeg), .int (xs (i + 3).toNatClampNeg), .int (xs (i + 4).toNatClampNeg)] (st S hs) [] c m (600000, 7302250) (fun vv σ' c' m' => X (839, [some (.ref 0), some (.ref 7), some (.ref 76), some (.int i)], vv.toList ++ [], σ', c', m'))
  refine kcallM 0 0 rfl ⟨hc, hm⟩ (hk _ _ _ _ _ _ (e_X11_keep 14 S hs (xs (i + 1).toNatClampNeg) (xs (i + 2).toNatClampNeg) (xs (i + 3).toNatClampNeg) (xs (i + 4).toNatClampNeg) (v, S1) h11 _ ?_))
  show X (839, [some (.ref 0), some (.ref 7), some (.ref 76), some (.int i)], [.int v], st S1 hs, c, m)
  refine hX _ ?_
  clear hP hX hk P' X cal
  refine Wp.stepsG 6 (fun cal X P' hk hX hP => ?_)
  show vp_in (i + 1) L ∧ X (845, [some (.ref 0), some (.ref 7), some (.ref 76), some (.int i)], [.int (xs (i + 1).toNatClampNeg), .ref 76, .int v], st S1 hs, c, m)
  refine ⟨w1, hX _ ?_⟩
  clear hP hX hk P' X cal
  refine Wp.stepsG 5 (fun cal X P' hk hX hP => ?_)
  show vp_in (i + 2) L ∧ X (850, [some (.ref 0), some (.ref 7), some (.ref 76), some (.int i)], [.int (xs (i + 2).toNatClampNeg), .int (xs (i + 1).toNatClampNeg), .ref 76, .int v], st S1 hs, c, m)
  refine ⟨w2, hX _ ?_⟩
  clear hP hX hk P' X cal
  refine Wp.stepsG 5 (fun cal X P' hk hX hP => ?_)
  show vp_in (i + 3) L ∧ X (855, [some (.ref 0), some (.ref 7), some (.ref 76), some (.int i)], [.int (xs (i + 3).toNatClampNeg), .int (xs (i + 2).toNatClampNeg), .int (xs (i + 1).toNatClampNeg), .ref 76, .int v], st S1 hs, c, m)
  refine ⟨w3, hX _ ?_⟩
  clear hP hX hk P' X cal
  refine Wp.stepsG 5 (fun cal X P' hk hX hP => ?_)
  show vp_in (i + 4) L ∧ X (860, [some (.ref 0), some (.ref 7), some (.ref 76), some (.int i)], [.int (xs (i + 4).toNatClampNeg), .int (xs (i + 3).toNatClampNeg), .int (xs (i + 2).toNatClampNeg), .int (xs (i + 1).toNatClampNeg), .ref 76, .int v], st S1 hs, c, m)
  refine ⟨w4, hX _ ?_⟩
  clear hP hX hk P' X cal
  refine Wp.stepsG 1 (fun cal X P' hk hX hP => ?_)
  show kcall cal ix_X12_keep [.ref 76, .int (xs (i + 1).toNatClampNeg), .int (xs (i + 2).toNatClampNeg), .int (xs (i + 3).toNatClampNeg), .int (xs (i + 4).toNatClampNeg)] (st S1 hs) [.int v] c m (600000, 7302250) (fun vv σ' c' m' => X (863, [some (.ref 0), some (.ref 7), some (.ref 76), some (.int i)], vv.toList ++ [.int v], σ', c', m'))
  refine kcallM 0 0 rfl ⟨hc, hm⟩ (hk _ _ _ _ _ _ (e_X12_keep 14 S1 hs (xs (i + 1).toNatClampNeg) (xs (i + 2).toNatClampNeg) (xs (i + 3).toNatClampNeg) (xs (i + 4).toNatClampNeg) (v, S2) h12 _ ?_))
  show X (863, [some (.ref 0), some (.ref 7), some (.ref 76), some (.int i)], [.int v, .int v], st S2 hs, c, m)
  refine hX _ ?_
  clear hP hX hk P' X cal
  refine Wp.stepsG 1 (fun cal X P' hk hX hP => ?_)
  show (v = v → X (1541, [some (.ref 0), some (.ref 7), some (.ref 76), some (.int i)], [], st S2 hs, c, m)) ∧ (¬ v = v → X (866, [some (.ref 0), some (.ref 7), some (.ref 76), some (.int i)], [], st S2 hs, c, m))
  refine ⟨fun _ => hX _ h, fun hq => absurd (rfl) hq⟩
set_option maxRecDepth 20000 in
set_option maxHeartbeats 4000000 in
theorem lw_c20 (L : Nat) (xs : Nat → Int32) (i : Int32) (S : St) (hs : List Hr) (c m : Nat) (hc : c ≤ 600000) (hm : m ≤ 7302250) (w1 : vp_in (i + 1) L) (w2 : vp_in (i + 2) L) (w3 : vp_in (i + 3) L) (w4 : vp_in (i + 4) L) (v : Int32) (S1 S2 : St) (h11 : r_X11_suppers S hs (xs (i + 1).toNatClampNeg) (xs (i + 2).toNatClampNeg) (xs (i + 3).toNatClampNeg) (xs (i + 4).toNatClampNeg) = some (v, S1)) (h12 : r_X12_suppers S1 (xs (i + 1).toNatClampNeg) (xs (i + 2).toNatClampNeg) (xs (i + 3).toNatClampNeg) (xs (i + 4).toNatClampNeg) = some (v, S2)) (P : Option Value → Hp → Prop) (h : Wp mi_law (Ev 22) (some (L, xs)) (600000, 7302250) P (1541, [some (.ref 0), some (.ref 7), some (.ref 76), some (.int i)], [], st S2 hs, c, m)) : Wp mi_law (Ev 22) (some (L, xs)) (600000, 7302250) P (868, [some (.ref 0), some (.ref 7), some (.ref 76), some (.int i)], [], st S hs, c, m) := by
  refine Wp.stepsG 6 (fun cal X P' hk hX hP => ?_)
  show vp_in (i + 1) L ∧ X (874, [some (.ref 0), some (.ref 7), some (.ref 76), some (.int i)], [.int (xs (i + 1).toNatClampNeg), .ref 7], st S hs, c, m)
  refine ⟨w1, hX _ ?_⟩
  clear hP hX hk P' X cal
  refine Wp.stepsG 5 (fun cal X P' hk hX hP => ?_)
  show vp_in (i + 2) L ∧ X (879, [some (.ref 0), some (.ref 7), some (.ref 76), some (.int i)], [.int (xs (i + 2).toNatClampNeg), .int (xs (i + 1).toNatClampNeg), .ref 7], st S hs, c, m)
  refine ⟨w2, hX _ ?_⟩
  clear hP hX hk P' X cal
  refine Wp.stepsG 5 (fun cal X P' hk hX hP => ?_)
  show vp_in (i + 3) L ∧ X (884, [some (.ref 0), some (.ref 7), some (.ref 76), some (.int i)], [.int (xs (i + 3).toNatClampNeg), .int (xs (i + 2).toNatClampNeg), .int (xs (i + 1).toNatClampNeg), .ref 7], st S hs, c, m)
  refine ⟨w3, hX _ ?_⟩
  clear hP hX hk P' X cal
  refine Wp.stepsG 5 (fun cal X P' hk hX hP => ?_)
  show vp_in (i + 4) L ∧ X (889, [some (.ref 0), some (.ref 7), some (.ref 76), some (.int i)], [.int (xs (i + 4).toNatClampNeg), .int (xs (i + 3).toNatClampNeg), .int (xs (i + 2).toNatClampNeg), .int (xs (i + 1).toNatClampNeg), .ref 7], st S hs, c, m)
  refine ⟨w4, hX _ ?_⟩
  clear hP hX hk P' X cal
  refine Wp.stepsG 1 (fun cal X P' hk hX hP => ?_)
  show kcall cal ix_X11_suppers [.ref 7, .int (xs (i + 1).toNatClampNeg), .int (xs (i + 2).toNatClampNeg), .int (xs (i + 3).toNatClampNeg), .int (xs (i + 4).toNatClampNeg)] (st S hs) [] c m (600000, 7302250) (fun vv σ' c' m' => X (892, [some (.ref 0), some (.ref 7), some (.ref 76), some (.int i)], vv.toList ++ [], σ', c', m'))
  refine kcallM 0 0 rfl ⟨hc, hm⟩ (hk _ _ _ _ _ _ (e_X11_suppers 14 S hs (xs (i + 1).toNatClampNeg) (xs (i + 2).toNatClampNeg) (xs (i + 3).toNatClampNeg) (xs (i + 4).toNatClampNeg) (v, S1) h11 _ ?_))
  show X (892, [some (.ref 0), some (.ref 7), some (.ref 76), some (.int i)], [.int v], st S1 hs, c, m)
  refine hX _ ?_
  clear hP hX hk P' X cal
  refine Wp.stepsG 6 (fun cal X P' hk hX hP => ?_)
  show vp_in (i + 1) L ∧ X (898, [some (.ref 0), some (.ref 7), some (.ref 76), some (.int i)], [.int (xs (i + 1).toNatClampNeg), .ref 76, .int v], st S1 hs, c, m)
  refine ⟨w1, hX _ ?_⟩
  clear hP hX hk P' X cal
  refine Wp.stepsG 5 (fun cal X P' hk hX hP => ?_)
  show vp_in (i + 2) L ∧ X (903, [some (.ref 0), some (.ref 7), some (.ref 76), some (.int i)], [.int (xs (i + 2).toNatClampNeg), .int (xs (i + 1).toNatClampNeg), .ref 76, .int v], st S1 hs, c, m)
  refine ⟨w2, hX _ ?_⟩
  clear hP hX hk P' X cal
  refine Wp.stepsG 5 (fun cal X P' hk hX hP => ?_)
  show vp_in (i + 3) L ∧ X (908, [some (.ref 0), some (.ref 7), some (.ref 76), some (.int i)], [.int (xs (i + 3).toNatClampNeg), .int (xs (i + 2).toNatClampNeg), .int (xs (i + 1).toNatClampNeg), .ref 76, .int v], st S1 hs, c, m)
  refine ⟨w3, hX _ ?_⟩
  clear hP hX hk P' X cal
  refine Wp.stepsG 5 (fun cal X P' hk hX hP => ?_)
  show vp_in (i + 4) L ∧ X (913, [some (.ref 0), some (.ref 7), some (.ref 76), some (.int i)], [.int (xs (i + 4).toNatClampNeg), .int (xs (i + 3).toNatClampNeg), .int (xs (i + 2).toNatClampNeg), .int (xs (i + 1).toNatClampNeg), .ref 76, .int v], st S1 hs, c, m)
  refine ⟨w4, hX _ ?_⟩
  clear hP hX hk P' X cal
  refine Wp.stepsG 1 (fun cal X P' hk hX hP => ?_)
  show kcall cal ix_X12_suppers [.ref 76, .int (xs (i + 1).toNatClampNeg), .int (xs (i + 2).toNatClampNeg), .int (xs (i + 3).toNatClampNeg), .int (xs (i + 4).toNatClampNeg)] (st S1 hs) [.int v] c m (600000, 7302250) (fun vv σ' c' m' => X (916, [some (.ref 0), some (.ref 7), some (.ref 76), some (.int i)], vv.toList ++ [.int v], σ', c', m'))
  refine kcallM 0 0 rfl ⟨hc, hm⟩ (hk _ _ _ _ _ _ (e_X12_suppers 13 S1 hs (xs (i + 1).toNatClampNeg) (xs (i + 2).toNatClampNeg) (xs (i + 3).toNatClampNeg) (xs (i + 4).toNatClampNeg) (v, S2) h12 _ ?_))
  show X (916, [some (.ref 0), some (.ref 7), some (.ref 76), some (.int i)], [.int v, .int v], st S2 hs, c, m)
  refine hX _ ?_
  clear hP hX hk P' X cal
  refine Wp.stepsG 1 (fun cal X P' hk hX hP => ?_)
  show (v = v → X (1541, [some (.ref 0), some (.ref 7), some (.ref 76), some (.int i)], [], st S2 hs, c, m)) ∧ (¬ v = v → X (919, [some (.ref 0), some (.ref 7), some (.ref 76), some (.int i)], [], st S2 hs, c, m))
  refine ⟨fun _ => hX _ h, fun hq => absurd (rfl) hq⟩
set_option maxRecDepth 20000 in
set_option maxHeartbeats 4000000 in
theorem lw_c21 (L : Nat) (xs : Nat → Int32) (i : Int32) (S : St) (hs : List Hr) (c m : Nat) (hc : c ≤ 600000) (hm : m ≤ 7302250) (w1 : vp_in (i + 1) L) (w2 : vp_in (i + 2) L) (v : Int32) (S1 S2 : St) (h11 : r_X11_seats S hs (xs (i + 1).toNatClampNeg) (xs (i + 2).toNatClampNeg) = some (v, S1)) (h12 : r_X12_seats S1 (xs (i + 1).toNatClampNeg) (xs (i + 2).toNatClampNeg) = some (v, S2)) (P : Option Value → Hp → Prop) (h : Wp mi_law (Ev 22) (some (L, xs)) (600000, 7302250) P (1541, [some (.ref 0), some (.ref 7), some (.ref 76), some (.int i)], [], st S2 hs, c, m)) : Wp mi_law (Ev 22) (some (L, xs)) (600000, 7302250) P (921, [some (.ref 0), some (.ref 7), some (.ref 76), some (.int i)], [], st S hs, c, m) := by
  refine Wp.stepsG 6 (fun cal X P' hk hX hP => ?_)
  show vp_in (i + 1) L ∧ X (927, [some (.ref 0), some (.ref 7), some (.ref 76), some (.int i)], [.int (xs (i + 1).toNatClampNeg), .ref 7], st S hs, c, m)
  refine ⟨w1, hX _ ?_⟩
  clear hP hX hk P' X cal
  refine Wp.stepsG 5 (fun cal X P' hk hX hP => ?_)
  show vp_in (i + 2) L ∧ X (932, [some (.ref 0), some (.ref 7), some (.ref 76), some (.int i)], [.int (xs (i + 2).toNatClampNeg), .int (xs (i + 1).toNatClampNeg), .ref 7], st S hs, c, m)
  refine ⟨w2, hX _ ?_⟩
  clear hP hX hk P' X cal
  refine Wp.stepsG 1 (fun cal X P' hk hX hP => ?_)
  show kcall cal ix_X11_seats [.ref 7, .int (xs (i + 1).toNatClampNeg), .int (xs (i + 2).toNatClampNeg)] (st S hs) [] c m (600000, 7302250) (fun vv σ' c' m' => X (935, [some (.ref 0), some (.ref 7), some (.ref 76), some (.int i)], vv.toList ++ [], σ', c', m'))
  refine kcallM 0 0 rfl ⟨hc, hm⟩ (hk _ _ _ _ _ _ (e_X11_seats 16 S hs (xs (i + 1).toNatClampNeg) (xs (i + 2).toNatClampNeg) (v, S1) h11 _ ?_))
  show X (935, [some (.ref 0), some (.ref 7), some (.ref 76), some (.int i)], [.int v], st S1 hs, c, m)
  refine hX _ ?_
  clear hP hX hk P' X cal
  refine Wp.stepsG 6 (fun cal X P' hk hX hP => ?_)
  show vp_in (i + 1) L ∧ X (941, [some (.ref 0), some (.ref 7), some (.ref 76), some (.int i)], [.int (xs (i + 1).toNatClampNeg), .ref 76, .int v], st S1 hs, c, m)
  refine ⟨w1, hX _ ?_⟩
  clear hP hX hk P' X cal
  refine Wp.stepsG 5 (fun cal X P' hk hX hP => ?_)
  show vp_in (i + 2) L ∧ X (946, [some (.ref 0), some (.ref 7), some (.ref 76), some (.int i)], [.int (xs (i + 2).toNatClampNeg), .int (xs (i + 1).toNatClampNeg), .ref 76, .int v], st S1 hs, c, m)
  refine ⟨w2, hX _ ?_⟩
  clear hP hX hk P' X cal
  refine Wp.stepsG 1 (fun cal X P' hk hX hP => ?_)
  show kcall cal ix_X12_seats [.ref 76, .int (xs (i + 1).toNatClampNeg), .int (xs (i + 2).toNatClampNeg)] (st S1 hs) [.int v] c m (600000, 7302250) (fun vv σ' c' m' => X (949, [some (.ref 0), some (.ref 7), some (.ref 76), some (.int i)], vv.toList ++ [.int v], σ', c', m'))
  refine kcallM 0 0 rfl ⟨hc, hm⟩ (hk _ _ _ _ _ _ (e_X12_seats 16 S1 hs (xs (i + 1).toNatClampNeg) (xs (i + 2).toNatClampNeg) (v, S2) h12 _ ?_))
  show X (949, [some (.ref 0), some (.ref 7), some (.ref 76), some (.int i)], [.int v, .int v], st S2 hs, c, m)
  refine hX _ ?_
  clear hP hX hk P' X cal
  refine Wp.stepsG 1 (fun cal X P' hk hX hP => ?_)
  show (v = v → X (1541, [some (.ref 0), some (.ref 7), some (.ref 76), some (.int i)], [], st S2 hs, c, m)) ∧ (¬ v = v → X (952, [some (.ref 0), some (.ref 7), some (.ref 76), some (.int i)], [], st S2 hs, c, m))
  refine ⟨fun _ => hX _ h, fun hq => absurd (rfl) hq⟩
set_option maxRecDepth 20000 in
set_option maxHeartbeats 4000000 in
theorem lw_c22 (L : Nat) (xs : Nat → Int32) (i : Int32) (S : St) (hs : List Hr) (c m : Nat) (hc : c ≤ 600000) (hm : m ≤ 7302250) (w1 : vp_in (i + 1) L) (w2 : vp_in (i + 2) L) (v : Int32) (S1 S2 : St) (h11 : r_X11_spared S hs (xs (i + 1).toNatClampNeg) (xs (i + 2).toNatClampNeg) = some (v, S1)) (h12 : r_X12_spared S1 (xs (i + 1).toNatClampNeg) (xs (i + 2).toNatClampNeg) = some (v, S2)) (P : Option Value → Hp → Prop) (h : Wp mi_law (Ev 22) (some (L, xs)) (600000, 7302250) P (1541, [some (.ref 0), some (.ref 7), some (.ref 76), some (.int i)], [], st S2 hs, c, m)) : Wp mi_law (Ev 22) (some (L, xs)) (600000, 7302250) P (954, [some (.ref 0), some (.ref 7), some (.ref 76), some (.int i)], [], st S hs, c, m) := by
  refine Wp.stepsG 6 (fun cal X P' hk hX hP => ?_)
  show vp_in (i + 1) L ∧ X (960, [some (.ref 0), some (.ref 7), some (.ref 76), some (.int i)], [.int (xs (i + 1).toNatClampNeg), .ref 7], st S hs, c, m)
  refine ⟨w1, hX _ ?_⟩
  clear hP hX hk P' X cal
  refine Wp.stepsG 5 (fun cal X P' hk hX hP => ?_)
  show vp_in (i + 2) L ∧ X (965, [some (.ref 0), some (.ref 7), some (.ref 76), some (.int i)], [.int (xs (i + 2).toNatClampNeg), .int (xs (i + 1).toNatClampNeg), .ref 7], st S hs, c, m)
  refine ⟨w2, hX _ ?_⟩
  clear hP hX hk P' X cal
  refine Wp.stepsG 1 (fun cal X P' hk hX hP => ?_)
  show kcall cal ix_X11_spared [.ref 7, .int (xs (i + 1).toNatClampNeg), .int (xs (i + 2).toNatClampNeg)] (st S hs) [] c m (600000, 7302250) (fun vv σ' c' m' => X (968, [some (.ref 0), some (.ref 7), some (.ref 76), some (.int i)], vv.toList ++ [], σ', c', m'))
  refine kcallM 0 0 rfl ⟨hc, hm⟩ (hk _ _ _ _ _ _ (e_X11_spared 14 S hs (xs (i + 1).toNatClampNeg) (xs (i + 2).toNatClampNeg) (v, S1) h11 _ ?_))
  show X (968, [some (.ref 0), some (.ref 7), some (.ref 76), some (.int i)], [.int v], st S1 hs, c, m)
  refine hX _ ?_
  clear hP hX hk P' X cal
  refine Wp.stepsG 6 (fun cal X P' hk hX hP => ?_)
  show vp_in (i + 1) L ∧ X (974, [some (.ref 0), some (.ref 7), some (.ref 76), some (.int i)], [.int (xs (i + 1).toNatClampNeg), .ref 76, .int v], st S1 hs, c, m)
  refine ⟨w1, hX _ ?_⟩
  clear hP hX hk P' X cal
  refine Wp.stepsG 5 (fun cal X P' hk hX hP => ?_)
  show vp_in (i + 2) L ∧ X (979, [some (.ref 0), some (.ref 7), some (.ref 76), some (.int i)], [.int (xs (i + 2).toNatClampNeg), .int (xs (i + 1).toNatClampNeg), .ref 76, .int v], st S1 hs, c, m)
  refine ⟨w2, hX _ ?_⟩
  clear hP hX hk P' X cal
  refine Wp.stepsG 1 (fun cal X P' hk hX hP => ?_)
  show kcall cal ix_X12_spared [.ref 76, .int (xs (i + 1).toNatClampNeg), .int (xs (i + 2).toNatClampNeg)] (st S1 hs) [.int v] c m (600000, 7302250) (fun vv σ' c' m' => X (982, [some (.ref 0), some (.ref 7), some (.ref 76), some (.int i)], vv.toList ++ [.int v], σ', c', m'))
  refine kcallM 0 0 rfl ⟨hc, hm⟩ (hk _ _ _ _ _ _ (e_X12_spared 16 S1 hs (xs (i + 1).toNatClampNeg) (xs (i + 2).toNatClampNeg) (v, S2) h12 _ ?_))
  show X (982, [some (.ref 0), some (.ref 7), some (.ref 76), some (.int i)], [.int v, .int v], st S2 hs, c, m)
  refine hX _ ?_
  clear hP hX hk P' X cal
  refine Wp.stepsG 1 (fun cal X P' hk hX hP => ?_)
  show (v = v → X (1541, [some (.ref 0), some (.ref 7), some (.ref 76), some (.int i)], [], st S2 hs, c, m)) ∧ (¬ v = v → X (985, [some (.ref 0), some (.ref 7), some (.ref 76), some (.int i)], [], st S2 hs, c, m))
  refine ⟨fun _ => hX _ h, fun hq => absurd (rfl) hq⟩
set_option maxRecDepth 20000 in
set_option maxHeartbeats 4000000 in
theorem lw_c23 (L : Nat) (xs : Nat → Int32) (i : Int32) (S : St) (hs : List Hr) (c m : Nat) (hc : c ≤ 600000) (hm : m ≤ 7302250) (w1 : vp_in (i + 1) L) (w2 : vp_in (i + 2) L) (v : Int32) (S1 S2 : St) (h11 : r_X11_see S (xs (i + 1).toNatClampNeg) (xs (i + 2).toNatClampNeg) = some (v, S1)) (h12 : r_X12_see S1 (xs (i + 1).toNatClampNeg) (xs (i + 2).toNatClampNeg) = some (v, S2)) (P : Option Value → Hp → Prop) (h : Wp mi_law (Ev 22) (some (L, xs)) (600000, 7302250) P (1541, [some (.ref 0), some (.ref 7), some (.ref 76), some (.int i)], [], st S2 hs, c, m)) : Wp mi_law (Ev 22) (some (L, xs)) (600000, 7302250) P (987, [some (.ref 0), some (.ref 7), some (.ref 76), some (.int i)], [], st S hs, c, m) := by
  refine Wp.stepsG 6 (fun cal X P' hk hX hP => ?_)
  show vp_in (i + 1) L ∧ X (993, [some (.ref 0), some (.ref 7), some (.ref 76), some (.int i)], [.int (xs (i + 1).toNatClampNeg), .ref 7], st S hs, c, m)
  refine ⟨w1, hX _ ?_⟩
  clear hP hX hk P' X cal
  refine Wp.stepsG 5 (fun cal X P' hk hX hP => ?_)
  show vp_in (i + 2) L ∧ X (998, [some (.ref 0), some (.ref 7), some (.ref 76), some (.int i)], [.int (xs (i + 2).toNatClampNeg), .int (xs (i + 1).toNatClampNeg), .ref 7], st S hs, c, m)
  refine ⟨w2, hX _ ?_⟩
  clear hP hX hk P' X cal
  refine Wp.stepsG 1 (fun cal X P' hk hX hP => ?_)
  show kcall cal ix_X11_see [.ref 7, .int (xs (i + 1).toNatClampNeg), .int (xs (i + 2).toNatClampNeg)] (st S hs) [] c m (600000, 7302250) (fun vv σ' c' m' => X (1001, [some (.ref 0), some (.ref 7), some (.ref 76), some (.int i)], vv.toList ++ [], σ', c', m'))
  refine kcallM 0 0 rfl ⟨hc, hm⟩ (hk _ _ _ _ _ _ (e_X11_see 19 S hs (xs (i + 1).toNatClampNeg) (xs (i + 2).toNatClampNeg) (v, S1) h11 _ ?_))
  show X (1001, [some (.ref 0), some (.ref 7), some (.ref 76), some (.int i)], [.int v], st S1 hs, c, m)
  refine hX _ ?_
  clear hP hX hk P' X cal
  refine Wp.stepsG 6 (fun cal X P' hk hX hP => ?_)
  show vp_in (i + 1) L ∧ X (1007, [some (.ref 0), some (.ref 7), some (.ref 76), some (.int i)], [.int (xs (i + 1).toNatClampNeg), .ref 76, .int v], st S1 hs, c, m)
  refine ⟨w1, hX _ ?_⟩
  clear hP hX hk P' X cal
  refine Wp.stepsG 5 (fun cal X P' hk hX hP => ?_)
  show vp_in (i + 2) L ∧ X (1012, [some (.ref 0), some (.ref 7), some (.ref 76), some (.int i)], [.int (xs (i + 2).toNatClampNeg), .int (xs (i + 1).toNatClampNeg), .ref 76, .int v], st S1 hs, c, m)
  refine ⟨w2, hX _ ?_⟩
  clear hP hX hk P' X cal
  refine Wp.stepsG 1 (fun cal X P' hk hX hP => ?_)
  show kcall cal ix_X12_see [.ref 76, .int (xs (i + 1).toNatClampNeg), .int (xs (i + 2).toNatClampNeg)] (st S1 hs) [.int v] c m (600000, 7302250) (fun vv σ' c' m' => X (1015, [some (.ref 0), some (.ref 7), some (.ref 76), some (.int i)], vv.toList ++ [.int v], σ', c', m'))
  refine kcallM 0 0 rfl ⟨hc, hm⟩ (hk _ _ _ _ _ _ (e_X12_see 19 S1 hs (xs (i + 1).toNatClampNeg) (xs (i + 2).toNatClampNeg) (v, S2) h12 _ ?_))
  show X (1015, [some (.ref 0), some (.ref 7), some (.ref 76), some (.int i)], [.int v, .int v], st S2 hs, c, m)
  refine hX _ ?_
  clear hP hX hk P' X cal
  refine Wp.stepsG 1 (fun cal X P' hk hX hP => ?_)
  show (v = v → X (1541, [some (.ref 0), some (.ref 7), some (.ref 76), some (.int i)], [], st S2 hs, c, m)) ∧ (¬ v = v → X (1018, [some (.ref 0), some (.ref 7), some (.ref 76), some (.int i)], [], st S2 hs, c, m))
  refine ⟨fun _ => hX _ h, fun hq => absurd (rfl) hq⟩
set_option maxRecDepth 20000 in
set_option maxHeartbeats 4000000 in
theorem lw_c24 (L : Nat) (xs : Nat → Int32) (i : Int32) (S : St) (hs : List Hr) (c m : Nat) (hc : c ≤ 600000) (hm : m ≤ 7302250) (w1 : vp_in (i + 1) L) (v : Int32) (S1 S2 : St) (h11 : r_X11_guess S hs (xs (i + 1).toNatClampNeg) = some (v, S1)) (h12 : r_X12_guess S1 (xs (i + 1).toNatClampNeg) = some (v, S2)) (P : Option Value → Hp → Prop) (h : Wp mi_law (Ev 22) (some (L, xs)) (600000, 7302250) P (1541, [some (.ref 0), some (.ref 7), some (.ref 76), some (.int i)], [], st S2 hs, c, m)) : Wp mi_law (Ev 22) (some (L, xs)) (600000, 7302250) P (1020, [some (.ref 0), some (.ref 7), some (.ref 76), some (.int i)], [], st S hs, c, m) := by
  refine Wp.stepsG 6 (fun cal X P' hk hX hP => ?_)
  show vp_in (i + 1) L ∧ X (1026, [some (.ref 0), some (.ref 7), some (.ref 76), some (.int i)], [.int (xs (i + 1).toNatClampNeg), .ref 7], st S hs, c, m)
  refine ⟨w1, hX _ ?_⟩
  clear hP hX hk P' X cal
  refine Wp.stepsG 1 (fun cal X P' hk hX hP => ?_)
  show kcall cal ix_X11_guess [.ref 7, .int (xs (i + 1).toNatClampNeg)] (st S hs) [] c m (600000, 7302250) (fun vv σ' c' m' => X (1029, [some (.ref 0), some (.ref 7), some (.ref 76), some (.int i)], vv.toList ++ [], σ', c', m'))
  refine kcallM 0 0 rfl ⟨hc, hm⟩ (hk _ _ _ _ _ _ (e_X11_guess 15 S hs (xs (i + 1).toNatClampNeg) (v, S1) h11 _ ?_))
  show X (1029, [some (.ref 0), some (.ref 7), some (.ref 76), some (.int i)], [.int v], st S1 hs, c, m)
  refine hX _ ?_
  clear hP hX hk P' X cal
  refine Wp.stepsG 6 (fun cal X P' hk hX hP => ?_)
  show vp_in (i + 1) L ∧ X (1035, [some (.ref 0), some (.ref 7), some (.ref 76), some (.int i)], [.int (xs (i + 1).toNatClampNeg), .ref 76, .int v], st S1 hs, c, m)
  refine ⟨w1, hX _ ?_⟩
  clear hP hX hk P' X cal
  refine Wp.stepsG 1 (fun cal X P' hk hX hP => ?_)
  show kcall cal ix_X12_guess [.ref 76, .int (xs (i + 1).toNatClampNeg)] (st S1 hs) [.int v] c m (600000, 7302250) (fun vv σ' c' m' => X (1038, [some (.ref 0), some (.ref 7), some (.ref 76), some (.int i)], vv.toList ++ [.int v], σ', c', m'))
  refine kcallM 0 0 rfl ⟨hc, hm⟩ (hk _ _ _ _ _ _ (e_X12_guess 16 S1 hs (xs (i + 1).toNatClampNeg) (v, S2) h12 _ ?_))
  show X (1038, [some (.ref 0), some (.ref 7), some (.ref 76), some (.int i)], [.int v, .int v], st S2 hs, c, m)
  refine hX _ ?_
  clear hP hX hk P' X cal
  refine Wp.stepsG 1 (fun cal X P' hk hX hP => ?_)
  show (v = v → X (1541, [some (.ref 0), some (.ref 7), some (.ref 76), some (.int i)], [], st S2 hs, c, m)) ∧ (¬ v = v → X (1041, [some (.ref 0), some (.ref 7), some (.ref 76), some (.int i)], [], st S2 hs, c, m))
  refine ⟨fun _ => hX _ h, fun hq => absurd (rfl) hq⟩
set_option maxRecDepth 20000 in
set_option maxHeartbeats 4000000 in
theorem lw_c25 (L : Nat) (xs : Nat → Int32) (i : Int32) (S : St) (hs : List Hr) (c m : Nat) (hc : c ≤ 600000) (hm : m ≤ 7302250) (w1 : vp_in (i + 1) L) (w2 : vp_in (i + 2) L) (v : Int64) (S1 S2 : St) (h11 : r_X11_odds S hs (xs (i + 1).toNatClampNeg) (xs (i + 2).toNatClampNeg) = some (v, S1)) (h12 : r_X12_odds S1 (xs (i + 1).toNatClampNeg) (xs (i + 2).toNatClampNeg) = some (v, S2)) (P : Option Value → Hp → Prop) (h : Wp mi_law (Ev 22) (some (L, xs)) (600000, 7302250) P (1541, [some (.ref 0), some (.ref 7), some (.ref 76), some (.int i)], [], st S2 hs, c, m)) : Wp mi_law (Ev 22) (some (L, xs)) (600000, 7302250) P (1043, [some (.ref 0), some (.ref 7), some (.ref 76), some (.int i)], [], st S hs, c, m) := by
  refine Wp.stepsG 6 (fun cal X P' hk hX hP => ?_)
  show vp_in (i + 1) L ∧ X (1049, [some (.ref 0), some (.ref 7), some (.ref 76), some (.int i)], [.int (xs (i + 1).toNatClampNeg), .ref 7], st S hs, c, m)
  refine ⟨w1, hX _ ?_⟩
  clear hP hX hk P' X cal
  refine Wp.stepsG 5 (fun cal X P' hk hX hP => ?_)
  show vp_in (i + 2) L ∧ X (1054, [some (.ref 0), some (.ref 7), some (.ref 76), some (.int i)], [.int (xs (i + 2).toNatClampNeg), .int (xs (i + 1).toNatClampNeg), .ref 7], st S hs, c, m)
  refine ⟨w2, hX _ ?_⟩
  clear hP hX hk P' X cal
  refine Wp.stepsG 1 (fun cal X P' hk hX hP => ?_)
  show kcall cal ix_X11_odds [.ref 7, .int (xs (i + 1).toNatClampNeg), .int (xs (i + 2).toNatClampNeg)] (st S hs) [] c m (600000, 7302250) (fun vv σ' c' m' => X (1057, [some (.ref 0), some (.ref 7), some (.ref 76), some (.int i)], vv.toList ++ [], σ', c', m'))
  refine kcallM 0 0 rfl ⟨hc, hm⟩ (hk _ _ _ _ _ _ (e_X11_odds 15 S hs (xs (i + 1).toNatClampNeg) (xs (i + 2).toNatClampNeg) (v, S1) h11 _ ?_))
  show X (1057, [some (.ref 0), some (.ref 7), some (.ref 76), some (.int i)], [.long v], st S1 hs, c, m)
  refine hX _ ?_
  clear hP hX hk P' X cal
  refine Wp.stepsG 6 (fun cal X P' hk hX hP => ?_)
  show vp_in (i + 1) L ∧ X (1063, [some (.ref 0), some (.ref 7), some (.ref 76), some (.int i)], [.int (xs (i + 1).toNatClampNeg), .ref 76, .long v], st S1 hs, c, m)
  refine ⟨w1, hX _ ?_⟩
  clear hP hX hk P' X cal
  refine Wp.stepsG 5 (fun cal X P' hk hX hP => ?_)
  show vp_in (i + 2) L ∧ X (1068, [some (.ref 0), some (.ref 7), some (.ref 76), some (.int i)], [.int (xs (i + 2).toNatClampNeg), .int (xs (i + 1).toNatClampNeg), .ref 76, .long v], st S1 hs, c, m)
  refine ⟨w2, hX _ ?_⟩
  clear hP hX hk P' X cal
  refine Wp.stepsG 1 (fun cal X P' hk hX hP => ?_)
  show kcall cal ix_X12_odds [.ref 76, .int (xs (i + 1).toNatClampNeg), .int (xs (i + 2).toNatClampNeg)] (st S1 hs) [.long v] c m (600000, 7302250) (fun vv σ' c' m' => X (1071, [some (.ref 0), some (.ref 7), some (.ref 76), some (.int i)], vv.toList ++ [.long v], σ', c', m'))
  refine kcallM 0 0 rfl ⟨hc, hm⟩ (hk _ _ _ _ _ _ (e_X12_odds 15 S1 hs (xs (i + 1).toNatClampNeg) (xs (i + 2).toNatClampNeg) (v, S2) h12 _ ?_))
  show X (1071, [some (.ref 0), some (.ref 7), some (.ref 76), some (.int i)], [.long v, .long v], st S2 hs, c, m)
  refine hX _ ?_
  clear hP hX hk P' X cal
  refine Wp.stepsG 2 (fun cal X P' hk hX hP => ?_)
  show (lg_cmp (v) (v) = 0 → X (1541, [some (.ref 0), some (.ref 7), some (.ref 76), some (.int i)], [], st S2 hs, c, m)) ∧ (¬ lg_cmp (v) (v) = 0 → X (1075, [some (.ref 0), some (.ref 7), some (.ref 76), some (.int i)], [], st S2 hs, c, m))
  refine ⟨fun _ => hX _ h, fun hq => absurd (lg_cmp_self v) hq⟩
set_option maxRecDepth 20000 in
set_option maxHeartbeats 4000000 in
theorem lw_c26 (L : Nat) (xs : Nat → Int32) (i : Int32) (S : St) (hs : List Hr) (c m : Nat) (hc : c ≤ 600000) (hm : m ≤ 7302250) (w1 : vp_in (i + 1) L) (w2 : vp_in (i + 2) L) (v : Int64) (S1 S2 : St) (h11 : r_X11_mean S hs (xs (i + 1).toNatClampNeg) (xs (i + 2).toNatClampNeg) = some (v, S1)) (h12 : r_X12_mean S1 (xs (i + 1).toNatClampNeg) (xs (i + 2).toNatClampNeg) = some (v, S2)) (P : Option Value → Hp → Prop) (h : Wp mi_law (Ev 22) (some (L, xs)) (600000, 7302250) P (1541, [some (.ref 0), some (.ref 7), some (.ref 76), some (.int i)], [], st S2 hs, c, m)) : Wp mi_law (Ev 22) (some (L, xs)) (600000, 7302250) P (1077, [some (.ref 0), some (.ref 7), some (.ref 76), some (.int i)], [], st S hs, c, m) := by
  refine Wp.stepsG 6 (fun cal X P' hk hX hP => ?_)
  show vp_in (i + 1) L ∧ X (1083, [some (.ref 0), some (.ref 7), some (.ref 76), some (.int i)], [.int (xs (i + 1).toNatClampNeg), .ref 7], st S hs, c, m)
  refine ⟨w1, hX _ ?_⟩
  clear hP hX hk P' X cal
  refine Wp.stepsG 5 (fun cal X P' hk hX hP => ?_)
  show vp_in (i + 2) L ∧ X (1088, [some (.ref 0), some (.ref 7), some (.ref 76), some (.int i)], [.int (xs (i + 2).toNatClampNeg), .int (xs (i + 1).toNatClampNeg), .ref 7], st S hs, c, m)
  refine ⟨w2, hX _ ?_⟩
  clear hP hX hk P' X cal
  refine Wp.stepsG 1 (fun cal X P' hk hX hP => ?_)
  show kcall cal ix_X11_mean [.ref 7, .int (xs (i + 1).toNatClampNeg), .int (xs (i + 2).toNatClampNeg)] (st S hs) [] c m (600000, 7302250) (fun vv σ' c' m' => X (1091, [some (.ref 0), some (.ref 7), some (.ref 76), some (.int i)], vv.toList ++ [], σ', c', m'))
  refine kcallM 0 0 rfl ⟨hc, hm⟩ (hk _ _ _ _ _ _ (e_X11_mean 14 S hs (xs (i + 1).toNatClampNeg) (xs (i + 2).toNatClampNeg) (v, S1) h11 _ ?_))
  show X (1091, [some (.ref 0), some (.ref 7), some (.ref 76), some (.int i)], [.long v], st S1 hs, c, m)
  refine hX _ ?_
  clear hP hX hk P' X cal
  refine Wp.stepsG 6 (fun cal X P' hk hX hP => ?_)
  show vp_in (i + 1) L ∧ X (1097, [some (.ref 0), some (.ref 7), some (.ref 76), some (.int i)], [.int (xs (i + 1).toNatClampNeg), .ref 76, .long v], st S1 hs, c, m)
  refine ⟨w1, hX _ ?_⟩
  clear hP hX hk P' X cal
  refine Wp.stepsG 5 (fun cal X P' hk hX hP => ?_)
  show vp_in (i + 2) L ∧ X (1102, [some (.ref 0), some (.ref 7), some (.ref 76), some (.int i)], [.int (xs (i + 2).toNatClampNeg), .int (xs (i + 1).toNatClampNeg), .ref 76, .long v], st S1 hs, c, m)
  refine ⟨w2, hX _ ?_⟩
  clear hP hX hk P' X cal
  refine Wp.stepsG 1 (fun cal X P' hk hX hP => ?_)
  show kcall cal ix_X12_mean [.ref 76, .int (xs (i + 1).toNatClampNeg), .int (xs (i + 2).toNatClampNeg)] (st S1 hs) [.long v] c m (600000, 7302250) (fun vv σ' c' m' => X (1105, [some (.ref 0), some (.ref 7), some (.ref 76), some (.int i)], vv.toList ++ [.long v], σ', c', m'))
  refine kcallM 0 0 rfl ⟨hc, hm⟩ (hk _ _ _ _ _ _ (e_X12_mean 15 S1 hs (xs (i + 1).toNatClampNeg) (xs (i + 2).toNatClampNeg) (v, S2) h12 _ ?_))
  show X (1105, [some (.ref 0), some (.ref 7), some (.ref 76), some (.int i)], [.long v, .long v], st S2 hs, c, m)
  refine hX _ ?_
  clear hP hX hk P' X cal
  refine Wp.stepsG 2 (fun cal X P' hk hX hP => ?_)
  show (lg_cmp (v) (v) = 0 → X (1541, [some (.ref 0), some (.ref 7), some (.ref 76), some (.int i)], [], st S2 hs, c, m)) ∧ (¬ lg_cmp (v) (v) = 0 → X (1109, [some (.ref 0), some (.ref 7), some (.ref 76), some (.int i)], [], st S2 hs, c, m))
  refine ⟨fun _ => hX _ h, fun hq => absurd (lg_cmp_self v) hq⟩
set_option maxRecDepth 20000 in
set_option maxHeartbeats 4000000 in
theorem lw_c27 (L : Nat) (xs : Nat → Int32) (i : Int32) (S : St) (hs : List Hr) (c m : Nat) (hc : c ≤ 600000) (hm : m ≤ 7302250) (w1 : vp_in (i + 1) L) (v : Int32) (S1 S2 : St) (h11 : r_X11_book S (xs (i + 1).toNatClampNeg) = some (v, S1)) (h12 : r_X12_book S1 (xs (i + 1).toNatClampNeg) = some (v, S2)) (P : Option Value → Hp → Prop) (h : Wp mi_law (Ev 22) (some (L, xs)) (600000, 7302250) P (1541, [some (.ref 0), some (.ref 7), some (.ref 76), some (.int i)], [], st S2 hs, c, m)) : Wp mi_law (Ev 22) (some (L, xs)) (600000, 7302250) P (1111, [some (.ref 0), some (.ref 7), some (.ref 76), some (.int i)], [], st S hs, c, m) := by
  refine Wp.stepsG 6 (fun cal X P' hk hX hP => ?_)
  show vp_in (i + 1) L ∧ X (1117, [some (.ref 0), some (.ref 7), some (.ref 76), some (.int i)], [.int (xs (i + 1).toNatClampNeg), .ref 7], st S hs, c, m)
  refine ⟨w1, hX _ ?_⟩
  clear hP hX hk P' X cal
  refine Wp.stepsG 1 (fun cal X P' hk hX hP => ?_)
  show kcall cal ix_X11_book [.ref 7, .int (xs (i + 1).toNatClampNeg)] (st S hs) [] c m (600000, 7302250) (fun vv σ' c' m' => X (1120, [some (.ref 0), some (.ref 7), some (.ref 76), some (.int i)], vv.toList ++ [], σ', c', m'))
  refine kcallM 0 0 rfl ⟨hc, hm⟩ (hk _ _ _ _ _ _ (e_X11_book 19 S hs (xs (i + 1).toNatClampNeg) (v, S1) h11 _ ?_))
  show X (1120, [some (.ref 0), some (.ref 7), some (.ref 76), some (.int i)], [.int v], st S1 hs, c, m)
  refine hX _ ?_
  clear hP hX hk P' X cal
  refine Wp.stepsG 6 (fun cal X P' hk hX hP => ?_)
  show vp_in (i + 1) L ∧ X (1126, [some (.ref 0), some (.ref 7), some (.ref 76), some (.int i)], [.int (xs (i + 1).toNatClampNeg), .ref 76, .int v], st S1 hs, c, m)
  refine ⟨w1, hX _ ?_⟩
  clear hP hX hk P' X cal
  refine Wp.stepsG 1 (fun cal X P' hk hX hP => ?_)
  show kcall cal ix_X12_book [.ref 76, .int (xs (i + 1).toNatClampNeg)] (st S1 hs) [.int v] c m (600000, 7302250) (fun vv σ' c' m' => X (1129, [some (.ref 0), some (.ref 7), some (.ref 76), some (.int i)], vv.toList ++ [.int v], σ', c', m'))
  refine kcallM 0 0 rfl ⟨hc, hm⟩ (hk _ _ _ _ _ _ (e_X12_book 19 S1 hs (xs (i + 1).toNatClampNeg) (v, S2) h12 _ ?_))
  show X (1129, [some (.ref 0), some (.ref 7), some (.ref 76), some (.int i)], [.int v, .int v], st S2 hs, c, m)
  refine hX _ ?_
  clear hP hX hk P' X cal
  refine Wp.stepsG 1 (fun cal X P' hk hX hP => ?_)
  show (v = v → X (1541, [some (.ref 0), some (.ref 7), some (.ref 76), some (.int i)], [], st S2 hs, c, m)) ∧ (¬ v = v → X (1132, [some (.ref 0), some (.ref 7), some (.ref 76), some (.int i)], [], st S2 hs, c, m))
  refine ⟨fun _ => hX _ h, fun hq => absurd (rfl) hq⟩
set_option maxRecDepth 20000 in
set_option maxHeartbeats 4000000 in
theorem lw_c28 (L : Nat) (xs : Nat → Int32) (i : Int32) (S : St) (hs : List Hr) (c m : Nat) (hc : c ≤ 600000) (hm : m ≤ 7302250)  (v : Int32) (S1 S2 : St) (h11 : r_X11_looked S hs = some (v, S1)) (h12 : r_X12_looked S1 = some (v, S2)) (P : Option Value → Hp → Prop) (h : Wp mi_law (Ev 22) (some (L, xs)) (600000, 7302250) P (1541, [some (.ref 0), some (.ref 7), some (.ref 76), some (.int i)], [], st S2 hs, c, m)) : Wp mi_law (Ev 22) (some (L, xs)) (600000, 7302250) P (1134, [some (.ref 0), some (.ref 7), some (.ref 76), some (.int i)], [], st S hs, c, m) := by
  refine Wp.stepsG 2 (fun cal X P' hk hX hP => ?_)
  show kcall cal ix_X11_looked [.ref 7] (st S hs) [] c m (600000, 7302250) (fun vv σ' c' m' => X (1138, [some (.ref 0), some (.ref 7), some (.ref 76), some (.int i)], vv.toList ++ [], σ', c', m'))
  refine kcallM 0 0 rfl ⟨hc, hm⟩ (hk _ _ _ _ _ _ (e_X11_looked 15 S hs (v, S1) h11 _ ?_))
  show X (1138, [some (.ref 0), some (.ref 7), some (.ref 76), some (.int i)], [.int v], st S1 hs, c, m)
  refine hX _ ?_
  clear hP hX hk P' X cal
  refine Wp.stepsG 2 (fun cal X P' hk hX hP => ?_)
  show kcall cal ix_X12_looked [.ref 76] (st S1 hs) [.int v] c m (600000, 7302250) (fun vv σ' c' m' => X (1142, [some (.ref 0), some (.ref 7), some (.ref 76), some (.int i)], vv.toList ++ [.int v], σ', c', m'))
  refine kcallM 0 0 rfl ⟨hc, hm⟩ (hk _ _ _ _ _ _ (e_X12_looked 14 S1 hs (v, S2) h12 _ ?_))
  show X (1142, [some (.ref 0), some (.ref 7), some (.ref 76), some (.int i)], [.int v, .int v], st S2 hs, c, m)
  refine hX _ ?_
  clear hP hX hk P' X cal
  refine Wp.stepsG 1 (fun cal X P' hk hX hP => ?_)
  show (v = v → X (1541, [some (.ref 0), some (.ref 7), some (.ref 76), some (.int i)], [], st S2 hs, c, m)) ∧ (¬ v = v → X (1145, [some (.ref 0), some (.ref 7), some (.ref 76), some (.int i)], [], st S2 hs, c, m))
  refine ⟨fun _ => hX _ h, fun hq => absurd (rfl) hq⟩
set_option maxRecDepth 20000 in
set_option maxHeartbeats 4000000 in
theorem lw_c29 (L : Nat) (xs : Nat → Int32) (i : Int32) (S : St) (hs : List Hr) (c m : Nat) (hc : c ≤ 600000) (hm : m ≤ 7302250) (w1 : vp_in (i + 1) L) (w2 : vp_in (i + 2) L) (v : Int32) (h11 : r_X11_judge S (xs (i + 1).toNatClampNeg) (xs (i + 2).toNatClampNeg) = some v) (h12 : r_X12_judge S (xs (i + 1).toNatClampNeg) (xs (i + 2).toNatClampNeg) = some v) (P : Option Value → Hp → Prop) (h : Wp mi_law (Ev 22) (some (L, xs)) (600000, 7302250) P (1541, [some (.ref 0), some (.ref 7), some (.ref 76), some (.int i)], [], st S hs, c, m)) : Wp mi_law (Ev 22) (some (L, xs)) (600000, 7302250) P (1147, [some (.ref 0), some (.ref 7), some (.ref 76), some (.int i)], [], st S hs, c, m) := by
  refine Wp.stepsG 6 (fun cal X P' hk hX hP => ?_)
  show vp_in (i + 1) L ∧ X (1153, [some (.ref 0), some (.ref 7), some (.ref 76), some (.int i)], [.int (xs (i + 1).toNatClampNeg), .ref 7], st S hs, c, m)
  refine ⟨w1, hX _ ?_⟩
  clear hP hX hk P' X cal
  refine Wp.stepsG 5 (fun cal X P' hk hX hP => ?_)
  show vp_in (i + 2) L ∧ X (1158, [some (.ref 0), some (.ref 7), some (.ref 76), some (.int i)], [.int (xs (i + 2).toNatClampNeg), .int (xs (i + 1).toNatClampNeg), .ref 7], st S hs, c, m)
  refine ⟨w2, hX _ ?_⟩
  clear hP hX hk P' X cal
  refine Wp.stepsG 1 (fun cal X P' hk hX hP => ?_)
  show kcall cal ix_X11_judge [.ref 7, .int (xs (i + 1).toNatClampNeg), .int (xs (i + 2).toNatClampNeg)] (st S hs) [] c m (600000, 7302250) (fun vv σ' c' m' => X (1161, [some (.ref 0), some (.ref 7), some (.ref 76), some (.int i)], vv.toList ++ [], σ', c', m'))
  refine kcallM 0 0 rfl ⟨hc, hm⟩ (hk _ _ _ _ _ _ (e_X11_judge 19 S hs (xs (i + 1).toNatClampNeg) (xs (i + 2).toNatClampNeg) v h11 _ ?_))
  show X (1161, [some (.ref 0), some (.ref 7), some (.ref 76), some (.int i)], [.int v], st S hs, c, m)
  refine hX _ ?_
  clear hP hX hk P' X cal
  refine Wp.stepsG 6 (fun cal X P' hk hX hP => ?_)
  show vp_in (i + 1) L ∧ X (1167, [some (.ref 0), some (.ref 7), some (.ref 76), some (.int i)], [.int (xs (i + 1).toNatClampNeg), .ref 76, .int v], st S hs, c, m)
  refine ⟨w1, hX _ ?_⟩
  clear hP hX hk P' X cal
  refine Wp.stepsG 5 (fun cal X P' hk hX hP => ?_)
  show vp_in (i + 2) L ∧ X (1172, [some (.ref 0), some (.ref 7), some (.ref 76), some (.int i)], [.int (xs (i + 2).toNatClampNeg), .int (xs (i + 1).toNatClampNeg), .ref 76, .int v], st S hs, c, m)
  refine ⟨w2, hX _ ?_⟩
  clear hP hX hk P' X cal
  refine Wp.stepsG 1 (fun cal X P' hk hX hP => ?_)
  show kcall cal ix_X12_judge [.ref 76, .int (xs (i + 1).toNatClampNeg), .int (xs (i + 2).toNatClampNeg)] (st S hs) [.int v] c m (600000, 7302250) (fun vv σ' c' m' => X (1175, [some (.ref 0), some (.ref 7), some (.ref 76), some (.int i)], vv.toList ++ [.int v], σ', c', m'))
  refine kcallM 0 0 rfl ⟨hc, hm⟩ (hk _ _ _ _ _ _ (e_X12_judge 19 S hs (xs (i + 1).toNatClampNeg) (xs (i + 2).toNatClampNeg) v h12 _ ?_))
  show X (1175, [some (.ref 0), some (.ref 7), some (.ref 76), some (.int i)], [.int v, .int v], st S hs, c, m)
  refine hX _ ?_
  clear hP hX hk P' X cal
  refine Wp.stepsG 1 (fun cal X P' hk hX hP => ?_)
  show (v = v → X (1541, [some (.ref 0), some (.ref 7), some (.ref 76), some (.int i)], [], st S hs, c, m)) ∧ (¬ v = v → X (1178, [some (.ref 0), some (.ref 7), some (.ref 76), some (.int i)], [], st S hs, c, m))
  refine ⟨fun _ => hX _ h, fun hq => absurd (rfl) hq⟩
set_option maxRecDepth 20000 in
set_option maxHeartbeats 4000000 in
theorem lw_c30 (L : Nat) (xs : Nat → Int32) (i : Int32) (S : St) (hs : List Hr) (c m : Nat) (hc : c ≤ 600000) (hm : m ≤ 7302250)  (v : Int32) (S1 S2 : St) (h11 : r_X11_image S hs = some (v, S1)) (h12 : r_X12_image S1 = some (v, S2)) (P : Option Value → Hp → Prop) (h : Wp mi_law (Ev 22) (some (L, xs)) (600000, 7302250) P (1541, [some (.ref 0), some (.ref 7), some (.ref 76), some (.int i)], [], st S2 hs, c, m)) : Wp mi_law (Ev 22) (some (L, xs)) (600000, 7302250) P (1180, [some (.ref 0), some (.ref 7), some (.ref 76), some (.int i)], [], st S hs, c, m) := by
  refine Wp.stepsG 2 (fun cal X P' hk hX hP => ?_)
  show kcall cal ix_X11_image [.ref 7] (st S hs) [] c m (600000, 7302250) (fun vv σ' c' m' => X (1184, [some (.ref 0), some (.ref 7), some (.ref 76), some (.int i)], vv.toList ++ [], σ', c', m'))
  refine kcallM 0 0 rfl ⟨hc, hm⟩ (hk _ _ _ _ _ _ (e_X11_image 19 S hs (v, S1) h11 _ ?_))
  show X (1184, [some (.ref 0), some (.ref 7), some (.ref 76), some (.int i)], [.int v], st S1 hs, c, m)
  refine hX _ ?_
  clear hP hX hk P' X cal
  refine Wp.stepsG 2 (fun cal X P' hk hX hP => ?_)
  show kcall cal ix_X12_image [.ref 76] (st S1 hs) [.int v] c m (600000, 7302250) (fun vv σ' c' m' => X (1188, [some (.ref 0), some (.ref 7), some (.ref 76), some (.int i)], vv.toList ++ [.int v], σ', c', m'))
  refine kcallM 0 0 rfl ⟨hc, hm⟩ (hk _ _ _ _ _ _ (e_X12_image 21 S1 hs (v, S2) h12 _ ?_))
  show X (1188, [some (.ref 0), some (.ref 7), some (.ref 76), some (.int i)], [.int v, .int v], st S2 hs, c, m)
  refine hX _ ?_
  clear hP hX hk P' X cal
  refine Wp.stepsG 1 (fun cal X P' hk hX hP => ?_)
  show (v = v → X (1541, [some (.ref 0), some (.ref 7), some (.ref 76), some (.int i)], [], st S2 hs, c, m)) ∧ (¬ v = v → X (1191, [some (.ref 0), some (.ref 7), some (.ref 76), some (.int i)], [], st S2 hs, c, m))
  refine ⟨fun _ => hX _ h, fun hq => absurd (rfl) hq⟩
set_option maxRecDepth 20000 in
set_option maxHeartbeats 4000000 in
theorem lw_c31 (L : Nat) (xs : Nat → Int32) (i : Int32) (S : St) (hs : List Hr) (c m : Nat) (hc : c ≤ 600000) (hm : m ≤ 7302250)  (v : Int32) (S1 S2 : St) (h11 : r_X11_undo S hs = some (v, S1)) (h12 : r_X12_undo S1 = some (v, S2)) (P : Option Value → Hp → Prop) (h : Wp mi_law (Ev 22) (some (L, xs)) (600000, 7302250) P (1541, [some (.ref 0), some (.ref 7), some (.ref 76), some (.int i)], [], st S2 hs, c, m)) : Wp mi_law (Ev 22) (some (L, xs)) (600000, 7302250) P (1193, [some (.ref 0), some (.ref 7), some (.ref 76), some (.int i)], [], st S hs, c, m) := by
  refine Wp.stepsG 2 (fun cal X P' hk hX hP => ?_)
  show kcall cal ix_X11_undo [.ref 7] (st S hs) [] c m (600000, 7302250) (fun vv σ' c' m' => X (1197, [some (.ref 0), some (.ref 7), some (.ref 76), some (.int i)], vv.toList ++ [], σ', c', m'))
  refine kcallM 0 0 rfl ⟨hc, hm⟩ (hk _ _ _ _ _ _ (e_X11_undo 19 S hs (v, S1) h11 _ ?_))
  show X (1197, [some (.ref 0), some (.ref 7), some (.ref 76), some (.int i)], [.int v], st S1 hs, c, m)
  refine hX _ ?_
  clear hP hX hk P' X cal
  refine Wp.stepsG 2 (fun cal X P' hk hX hP => ?_)
  show kcall cal ix_X12_undo [.ref 76] (st S1 hs) [.int v] c m (600000, 7302250) (fun vv σ' c' m' => X (1201, [some (.ref 0), some (.ref 7), some (.ref 76), some (.int i)], vv.toList ++ [.int v], σ', c', m'))
  refine kcallM 0 0 rfl ⟨hc, hm⟩ (hk _ _ _ _ _ _ (e_X12_undo 21 S1 hs (v, S2) h12 _ ?_))
  show X (1201, [some (.ref 0), some (.ref 7), some (.ref 76), some (.int i)], [.int v, .int v], st S2 hs, c, m)
  refine hX _ ?_
  clear hP hX hk P' X cal
  refine Wp.stepsG 1 (fun cal X P' hk hX hP => ?_)
  show (v = v → X (1541, [some (.ref 0), some (.ref 7), some (.ref 76), some (.int i)], [], st S2 hs, c, m)) ∧ (¬ v = v → X (1204, [some (.ref 0), some (.ref 7), some (.ref 76), some (.int i)], [], st S2 hs, c, m))
  refine ⟨fun _ => hX _ h, fun hq => absurd (rfl) hq⟩
set_option maxRecDepth 20000 in
set_option maxHeartbeats 4000000 in
theorem lw_c32 (L : Nat) (xs : Nat → Int32) (i : Int32) (S : St) (hs : List Hr) (c m : Nat) (hc : c ≤ 600000) (hm : m ≤ 7302250) (w1 : vp_in (i + 1) L) (w2 : vp_in (i + 2) L) (w3 : vp_in (i + 3) L) (v : Int32) (S1 S2 : St) (h11 : r_X11_act S hs (xs (i + 1).toNatClampNeg) (xs (i + 2).toNatClampNeg) (xs (i + 3).toNatClampNeg) = some (v, S1)) (h12 : r_X12_act S1 (xs (i + 1).toNatClampNeg) (xs (i + 2).toNatClampNeg) (xs (i + 3).toNatClampNeg) = some (v, S2)) (P : Option Value → Hp → Prop) (h : Wp mi_law (Ev 22) (some (L, xs)) (600000, 7302250) P (1541, [some (.ref 0), some (.ref 7), some (.ref 76), some (.int i)], [], st S2 hs, c, m)) : Wp mi_law (Ev 22) (some (L, xs)) (600000, 7302250) P (1206, [some (.ref 0), some (.ref 7), some (.ref 76), some (.int i)], [], st S hs, c, m) := by
  refine Wp.stepsG 6 (fun cal X P' hk hX hP => ?_)
  show vp_in (i + 1) L ∧ X (1212, [some (.ref 0), some (.ref 7), some (.ref 76), some (.int i)], [.int (xs (i + 1).toNatClampNeg), .ref 7], st S hs, c, m)
  refine ⟨w1, hX _ ?_⟩
  clear hP hX hk P' X cal
  refine Wp.stepsG 5 (fun cal X P' hk hX hP => ?_)
  show vp_in (i + 2) L ∧ X (1217, [some (.ref 0), some (.ref 7), some (.ref 76), some (.int i)], [.int (xs (i + 2).toNatClampNeg), .int (xs (i + 1).toNatClampNeg), .ref 7], st S hs, c, m)
  refine ⟨w2, hX _ ?_⟩
  clear hP hX hk P' X cal
  refine Wp.stepsG 5 (fun cal X P' hk hX hP => ?_)
  show vp_in (i + 3) L ∧ X (1222, [some (.ref 0), some (.ref 7), some (.ref 76), some (.int i)], [.int (xs (i + 3).toNatClampNeg), .int (xs (i + 2).toNatClampNeg), .int (xs (i + 1).toNatClampNeg), .ref 7], st S hs, c, m)
  refine ⟨w3, hX _ ?_⟩
  clear hP hX hk P' X cal
  refine Wp.stepsG 1 (fun cal X P' hk hX hP => ?_)
  show kcall cal ix_X11_act [.ref 7, .int (xs (i + 1).toNatClampNeg), .int (xs (i + 2).toNatClampNeg), .int (xs (i + 3).toNatClampNeg)] (st S hs) [] c m (600000, 7302250) (fun vv σ' c' m' => X (1225, [some (.ref 0), some (.ref 7), some (.ref 76), some (.int i)], vv.toList ++ [], σ', c', m'))
  refine kcallM 0 0 rfl ⟨hc, hm⟩ (hk _ _ _ _ _ _ (e_X11_act 14 S hs (xs (i + 1).toNatClampNeg) (xs (i + 2).toNatClampNeg) (xs (i + 3).toNatClampNeg) (v, S1) h11 _ ?_))
  show X (1225, [some (.ref 0), some (.ref 7), some (.ref 76), some (.int i)], [.int v], st S1 hs, c, m)
  refine hX _ ?_
  clear hP hX hk P' X cal
  refine Wp.stepsG 6 (fun cal X P' hk hX hP => ?_)
  show vp_in (i + 1) L ∧ X (1231, [some (.ref 0), some (.ref 7), some (.ref 76), some (.int i)], [.int (xs (i + 1).toNatClampNeg), .ref 76, .int v], st S1 hs, c, m)
  refine ⟨w1, hX _ ?_⟩
  clear hP hX hk P' X cal
  refine Wp.stepsG 5 (fun cal X P' hk hX hP => ?_)
  show vp_in (i + 2) L ∧ X (1236, [some (.ref 0), some (.ref 7), some (.ref 76), some (.int i)], [.int (xs (i + 2).toNatClampNeg), .int (xs (i + 1).toNatClampNeg), .ref 76, .int v], st S1 hs, c, m)
  refine ⟨w2, hX _ ?_⟩
  clear hP hX hk P' X cal
  refine Wp.stepsG 5 (fun cal X P' hk hX hP => ?_)
  show vp_in (i + 3) L ∧ X (1241, [some (.ref 0), some (.ref 7), some (.ref 76), some (.int i)], [.int (xs (i + 3).toNatClampNeg), .int (xs (i + 2).toNatClampNeg), .int (xs (i + 1).toNatClampNeg), .ref 76, .int v], st S1 hs, c, m)
  refine ⟨w3, hX _ ?_⟩
  clear hP hX hk P' X cal
  refine Wp.stepsG 1 (fun cal X P' hk hX hP => ?_)
  show kcall cal ix_X12_act [.ref 76, .int (xs (i + 1).toNatClampNeg), .int (xs (i + 2).toNatClampNeg), .int (xs (i + 3).toNatClampNeg)] (st S1 hs) [.int v] c m (600000, 7302250) (fun vv σ' c' m' => X (1244, [some (.ref 0), some (.ref 7), some (.ref 76), some (.int i)], vv.toList ++ [.int v], σ', c', m'))
  refine kcallM 0 0 rfl ⟨hc, hm⟩ (hk _ _ _ _ _ _ (e_X12_act 13 S1 hs (xs (i + 1).toNatClampNeg) (xs (i + 2).toNatClampNeg) (xs (i + 3).toNatClampNeg) (v, S2) h12 _ ?_))
  show X (1244, [some (.ref 0), some (.ref 7), some (.ref 76), some (.int i)], [.int v, .int v], st S2 hs, c, m)
  refine hX _ ?_
  clear hP hX hk P' X cal
  refine Wp.stepsG 1 (fun cal X P' hk hX hP => ?_)
  show (v = v → X (1541, [some (.ref 0), some (.ref 7), some (.ref 76), some (.int i)], [], st S2 hs, c, m)) ∧ (¬ v = v → X (1247, [some (.ref 0), some (.ref 7), some (.ref 76), some (.int i)], [], st S2 hs, c, m))
  refine ⟨fun _ => hX _ h, fun hq => absurd (rfl) hq⟩
set_option maxRecDepth 20000 in
set_option maxHeartbeats 4000000 in
theorem lw_c33 (L : Nat) (xs : Nat → Int32) (i : Int32) (S : St) (hs : List Hr) (c m : Nat) (hc : c ≤ 600000) (hm : m ≤ 7302250) (w1 : vp_in (i + 1) L) (v : Int32) (h11 : r_X11_trace S (xs (i + 1).toNatClampNeg) = some v) (h12 : r_X12_trace S (xs (i + 1).toNatClampNeg) = some v) (P : Option Value → Hp → Prop) (h : Wp mi_law (Ev 22) (some (L, xs)) (600000, 7302250) P (1541, [some (.ref 0), some (.ref 7), some (.ref 76), some (.int i)], [], st S hs, c, m)) : Wp mi_law (Ev 22) (some (L, xs)) (600000, 7302250) P (1249, [some (.ref 0), some (.ref 7), some (.ref 76), some (.int i)], [], st S hs, c, m) := by
  refine Wp.stepsG 6 (fun cal X P' hk hX hP => ?_)
  show vp_in (i + 1) L ∧ X (1255, [some (.ref 0), some (.ref 7), some (.ref 76), some (.int i)], [.int (xs (i + 1).toNatClampNeg), .ref 7], st S hs, c, m)
  refine ⟨w1, hX _ ?_⟩
  clear hP hX hk P' X cal
  refine Wp.stepsG 1 (fun cal X P' hk hX hP => ?_)
  show kcall cal ix_X11_trace [.ref 7, .int (xs (i + 1).toNatClampNeg)] (st S hs) [] c m (600000, 7302250) (fun vv σ' c' m' => X (1258, [some (.ref 0), some (.ref 7), some (.ref 76), some (.int i)], vv.toList ++ [], σ', c', m'))
  refine kcallM 0 0 rfl ⟨hc, hm⟩ (hk _ _ _ _ _ _ (e_X11_trace 20 S hs (xs (i + 1).toNatClampNeg) v h11 _ ?_))
  show X (1258, [some (.ref 0), some (.ref 7), some (.ref 76), some (.int i)], [.int v], st S hs, c, m)
  refine hX _ ?_
  clear hP hX hk P' X cal
  refine Wp.stepsG 6 (fun cal X P' hk hX hP => ?_)
  show vp_in (i + 1) L ∧ X (1264, [some (.ref 0), some (.ref 7), some (.ref 76), some (.int i)], [.int (xs (i + 1).toNatClampNeg), .ref 76, .int v], st S hs, c, m)
  refine ⟨w1, hX _ ?_⟩
  clear hP hX hk P' X cal
  refine Wp.stepsG 1 (fun cal X P' hk hX hP => ?_)
  show kcall cal ix_X12_trace [.ref 76, .int (xs (i + 1).toNatClampNeg)] (st S hs) [.int v] c m (600000, 7302250) (fun vv σ' c' m' => X (1267, [some (.ref 0), some (.ref 7), some (.ref 76), some (.int i)], vv.toList ++ [.int v], σ', c', m'))
  refine kcallM 0 0 rfl ⟨hc, hm⟩ (hk _ _ _ _ _ _ (e_X12_trace 20 S hs (xs (i + 1).toNatClampNeg) v h12 _ ?_))
  show X (1267, [some (.ref 0), some (.ref 7), some (.ref 76), some (.int i)], [.int v, .int v], st S hs, c, m)
  refine hX _ ?_
  clear hP hX hk P' X cal
  refine Wp.stepsG 1 (fun cal X P' hk hX hP => ?_)
  show (v = v → X (1541, [some (.ref 0), some (.ref 7), some (.ref 76), some (.int i)], [], st S hs, c, m)) ∧ (¬ v = v → X (1270, [some (.ref 0), some (.ref 7), some (.ref 76), some (.int i)], [], st S hs, c, m))
  refine ⟨fun _ => hX _ h, fun hq => absurd (rfl) hq⟩
set_option maxRecDepth 20000 in
set_option maxHeartbeats 4000000 in
theorem lw_c34 (L : Nat) (xs : Nat → Int32) (i : Int32) (S : St) (hs : List Hr) (c m : Nat) (hc : c ≤ 600000) (hm : m ≤ 7302250) (w1 : vp_in (i + 1) L) (w2 : vp_in (i + 2) L) (v : Int32) (h11 : r_X11_taken S hs (xs (i + 1).toNatClampNeg) (xs (i + 2).toNatClampNeg) = some v) (h12 : r_X12_taken S (xs (i + 1).toNatClampNeg) (xs (i + 2).toNatClampNeg) = some v) (P : Option Value → Hp → Prop) (h : Wp mi_law (Ev 22) (some (L, xs)) (600000, 7302250) P (1541, [some (.ref 0), some (.ref 7), some (.ref 76), some (.int i)], [], st S hs, c, m)) : Wp mi_law (Ev 22) (some (L, xs)) (600000, 7302250) P (1272, [some (.ref 0), some (.ref 7), some (.ref 76), some (.int i)], [], st S hs, c, m) := by
  refine Wp.stepsG 6 (fun cal X P' hk hX hP => ?_)
  show vp_in (i + 1) L ∧ X (1278, [some (.ref 0), some (.ref 7), some (.ref 76), some (.int i)], [.int (xs (i + 1).toNatClampNeg), .ref 7], st S hs, c, m)
  refine ⟨w1, hX _ ?_⟩
  clear hP hX hk P' X cal
  refine Wp.stepsG 5 (fun cal X P' hk hX hP => ?_)
  show vp_in (i + 2) L ∧ X (1283, [some (.ref 0), some (.ref 7), some (.ref 76), some (.int i)], [.int (xs (i + 2).toNatClampNeg), .int (xs (i + 1).toNatClampNeg), .ref 7], st S hs, c, m)
  refine ⟨w2, hX _ ?_⟩
  clear hP hX hk P' X cal
  refine Wp.stepsG 1 (fun cal X P' hk hX hP => ?_)
  show kcall cal ix_X11_taken [.ref 7, .int (xs (i + 1).toNatClampNeg), .int (xs (i + 2).toNatClampNeg)] (st S hs) [] c m (600000, 7302250) (fun vv σ' c' m' => X (1286, [some (.ref 0), some (.ref 7), some (.ref 76), some (.int i)], vv.toList ++ [], σ', c', m'))
  refine kcallM 0 0 rfl ⟨hc, hm⟩ (hk _ _ _ _ _ _ (e_X11_taken 19 S hs (xs (i + 1).toNatClampNeg) (xs (i + 2).toNatClampNeg) v h11 _ ?_))
  show X (1286, [some (.ref 0), some (.ref 7), some (.ref 76), some (.int i)], [.int v], st S hs, c, m)
  refine hX _ ?_
  clear hP hX hk P' X cal
  refine Wp.stepsG 6 (fun cal X P' hk hX hP => ?_)
  show vp_in (i + 1) L ∧ X (1292, [some (.ref 0), some (.ref 7), some (.ref 76), some (.int i)], [.int (xs (i + 1).toNatClampNeg), .ref 76, .int v], st S hs, c, m)
  refine ⟨w1, hX _ ?_⟩
  clear hP hX hk P' X cal
  refine Wp.stepsG 5 (fun cal X P' hk hX hP => ?_)
  show vp_in (i + 2) L ∧ X (1297, [some (.ref 0), some (.ref 7), some (.ref 76), some (.int i)], [.int (xs (i + 2).toNatClampNeg), .int (xs (i + 1).toNatClampNeg), .ref 76, .int v], st S hs, c, m)
  refine ⟨w2, hX _ ?_⟩
  clear hP hX hk P' X cal
  refine Wp.stepsG 1 (fun cal X P' hk hX hP => ?_)
  show kcall cal ix_X12_taken [.ref 76, .int (xs (i + 1).toNatClampNeg), .int (xs (i + 2).toNatClampNeg)] (st S hs) [.int v] c m (600000, 7302250) (fun vv σ' c' m' => X (1300, [some (.ref 0), some (.ref 7), some (.ref 76), some (.int i)], vv.toList ++ [.int v], σ', c', m'))
  refine kcallM 0 0 rfl ⟨hc, hm⟩ (hk _ _ _ _ _ _ (e_X12_taken 19 S hs (xs (i + 1).toNatClampNeg) (xs (i + 2).toNatClampNeg) v h12 _ ?_))
  show X (1300, [some (.ref 0), some (.ref 7), some (.ref 76), some (.int i)], [.int v, .int v], st S hs, c, m)
  refine hX _ ?_
  clear hP hX hk P' X cal
  refine Wp.stepsG 1 (fun cal X P' hk hX hP => ?_)
  show (v = v → X (1541, [some (.ref 0), some (.ref 7), some (.ref 76), some (.int i)], [], st S hs, c, m)) ∧ (¬ v = v → X (1303, [some (.ref 0), some (.ref 7), some (.ref 76), some (.int i)], [], st S hs, c, m))
  refine ⟨fun _ => hX _ h, fun hq => absurd (rfl) hq⟩
set_option maxRecDepth 20000 in
set_option maxHeartbeats 4000000 in
theorem lw_c35 (L : Nat) (xs : Nat → Int32) (i : Int32) (S : St) (hs : List Hr) (c m : Nat) (hc : c ≤ 600000) (hm : m ≤ 7302250) (w1 : vp_in (i + 1) L) (h11 : r_X11_count S (xs (i + 1).toNatClampNeg) = r_X12_count S (xs (i + 1).toNatClampNeg)) (P : Option Value → Hp → Prop) (h : Wp mi_law (Ev 22) (some (L, xs)) (600000, 7302250) P (1541, [some (.ref 0), some (.ref 7), some (.ref 76), some (.int i)], [], st S hs, c, m)) : Wp mi_law (Ev 22) (some (L, xs)) (600000, 7302250) P (1305, [some (.ref 0), some (.ref 7), some (.ref 76), some (.int i)], [], st S hs, c, m) := by
  refine Wp.stepsG 6 (fun cal X P' hk hX hP => ?_)
  show vp_in (i + 1) L ∧ X (1311, [some (.ref 0), some (.ref 7), some (.ref 76), some (.int i)], [.int (xs (i + 1).toNatClampNeg), .ref 7], st S hs, c, m)
  refine ⟨w1, hX _ ?_⟩
  clear hP hX hk P' X cal
  refine Wp.stepsG 1 (fun cal X P' hk hX hP => ?_)
  show kcall cal ix_X11_count [.ref 7, .int (xs (i + 1).toNatClampNeg)] (st S hs) [] c m (600000, 7302250) (fun vv σ' c' m' => X (1314, [some (.ref 0), some (.ref 7), some (.ref 76), some (.int i)], vv.toList ++ [], σ', c', m'))
  refine kcallM 0 0 rfl ⟨hc, hm⟩ (hk _ _ _ _ _ _ (e_X11_count 21 S hs (xs (i + 1).toNatClampNeg) _ ?_))
  show X (1314, [some (.ref 0), some (.ref 7), some (.ref 76), some (.int i)], [.int (r_X11_count S (xs (i + 1).toNatClampNeg))], st S hs, c, m)
  refine hX _ ?_
  clear hP hX hk P' X cal
  refine Wp.stepsG 6 (fun cal X P' hk hX hP => ?_)
  show vp_in (i + 1) L ∧ X (1320, [some (.ref 0), some (.ref 7), some (.ref 76), some (.int i)], [.int (xs (i + 1).toNatClampNeg), .ref 76, .int (r_X11_count S (xs (i + 1).toNatClampNeg))], st S hs, c, m)
  refine ⟨w1, hX _ ?_⟩
  clear hP hX hk P' X cal
  refine Wp.stepsG 1 (fun cal X P' hk hX hP => ?_)
  show kcall cal ix_X12_count [.ref 76, .int (xs (i + 1).toNatClampNeg)] (st S hs) [.int (r_X11_count S (xs (i + 1).toNatClampNeg))] c m (600000, 7302250) (fun vv σ' c' m' => X (1323, [some (.ref 0), some (.ref 7), some (.ref 76), some (.int i)], vv.toList ++ [.int (r_X11_count S (xs (i + 1).toNatClampNeg))], σ', c', m'))
  refine kcallM 0 0 rfl ⟨hc, hm⟩ (hk _ _ _ _ _ _ (e_X12_count 21 S hs (xs (i + 1).toNatClampNeg) _ ?_))
  show X (1323, [some (.ref 0), some (.ref 7), some (.ref 76), some (.int i)], [.int (r_X12_count S (xs (i + 1).toNatClampNeg)), .int (r_X11_count S (xs (i + 1).toNatClampNeg))], st S hs, c, m)
  refine hX _ ?_
  clear hP hX hk P' X cal
  refine Wp.stepsG 1 (fun cal X P' hk hX hP => ?_)
  show (r_X11_count S (xs (i + 1).toNatClampNeg) = r_X12_count S (xs (i + 1).toNatClampNeg) → X (1541, [some (.ref 0), some (.ref 7), some (.ref 76), some (.int i)], [], st S hs, c, m)) ∧ (¬ r_X11_count S (xs (i + 1).toNatClampNeg) = r_X12_count S (xs (i + 1).toNatClampNeg) → X (1326, [some (.ref 0), some (.ref 7), some (.ref 76), some (.int i)], [], st S hs, c, m))
  refine ⟨fun _ => hX _ h, fun hq => absurd (h11) hq⟩
set_option maxRecDepth 20000 in
set_option maxHeartbeats 4000000 in
theorem lw_c36 (L : Nat) (xs : Nat → Int32) (i : Int32) (S : St) (hs : List Hr) (c m : Nat) (hc : c ≤ 600000) (hm : m ≤ 7302250) (w1 : vp_in (i + 1) L) (w2 : vp_in (i + 2) L) (w3 : vp_in (i + 3) L) (v : Int32) (S1 S2 : St) (h11 : r_X11_tape S (xs (i + 1).toNatClampNeg) (xs (i + 2).toNatClampNeg) (xs (i + 3).toNatClampNeg) = some (v, S1)) (h12 : r_X12_tape S1 (xs (i + 1).toNatClampNeg) (xs (i + 2).toNatClampNeg) (xs (i + 3).toNatClampNeg) = some (v, S2)) (P : Option Value → Hp → Prop) (h : Wp mi_law (Ev 22) (some (L, xs)) (600000, 7302250) P (1541, [some (.ref 0), some (.ref 7), some (.ref 76), some (.int i)], [], st S2 hs, c, m)) : Wp mi_law (Ev 22) (some (L, xs)) (600000, 7302250) P (1328, [some (.ref 0), some (.ref 7), some (.ref 76), some (.int i)], [], st S hs, c, m) := by
  refine Wp.stepsG 6 (fun cal X P' hk hX hP => ?_)
  show vp_in (i + 1) L ∧ X (1334, [some (.ref 0), some (.ref 7), some (.ref 76), some (.int i)], [.int (xs (i + 1).toNatClampNeg), .ref 7], st S hs, c, m)
  refine ⟨w1, hX _ ?_⟩
  clear hP hX hk P' X cal
  refine Wp.stepsG 5 (fun cal X P' hk hX hP => ?_)
  show vp_in (i + 2) L ∧ X (1339, [some (.ref 0), some (.ref 7), some (.ref 76), some (.int i)], [.int (xs (i + 2).toNatClampNeg), .int (xs (i + 1).toNatClampNeg), .ref 7], st S hs, c, m)
  refine ⟨w2, hX _ ?_⟩
  clear hP hX hk P' X cal
  refine Wp.stepsG 5 (fun cal X P' hk hX hP => ?_)
  show vp_in (i + 3) L ∧ X (1344, [some (.ref 0), some (.ref 7), some (.ref 76), some (.int i)], [.int (xs (i + 3).toNatClampNeg), .int (xs (i + 2).toNatClampNeg), .int (xs (i + 1).toNatClampNeg), .ref 7], st S hs, c, m)
  refine ⟨w3, hX _ ?_⟩
  clear hP hX hk P' X cal
  refine Wp.stepsG 1 (fun cal X P' hk hX hP => ?_)
  show kcall cal ix_X11_tape [.ref 7, .int (xs (i + 1).toNatClampNeg), .int (xs (i + 2).toNatClampNeg), .int (xs (i + 3).toNatClampNeg)] (st S hs) [] c m (600000, 7302250) (fun vv σ' c' m' => X (1347, [some (.ref 0), some (.ref 7), some (.ref 76), some (.int i)], vv.toList ++ [], σ', c', m'))
  refine kcallM 0 0 rfl ⟨hc, hm⟩ (hk _ _ _ _ _ _ (e_X11_tape 19 S hs (xs (i + 1).toNatClampNeg) (xs (i + 2).toNatClampNeg) (xs (i + 3).toNatClampNeg) (v, S1) h11 _ ?_))
  show X (1347, [some (.ref 0), some (.ref 7), some (.ref 76), some (.int i)], [.int v], st S1 hs, c, m)
  refine hX _ ?_
  clear hP hX hk P' X cal
  refine Wp.stepsG 6 (fun cal X P' hk hX hP => ?_)
  show vp_in (i + 1) L ∧ X (1353, [some (.ref 0), some (.ref 7), some (.ref 76), some (.int i)], [.int (xs (i + 1).toNatClampNeg), .ref 76, .int v], st S1 hs, c, m)
  refine ⟨w1, hX _ ?_⟩
  clear hP hX hk P' X cal
  refine Wp.stepsG 5 (fun cal X P' hk hX hP => ?_)
  show vp_in (i + 2) L ∧ X (1358, [some (.ref 0), some (.ref 7), some (.ref 76), some (.int i)], [.int (xs (i + 2).toNatClampNeg), .int (xs (i + 1).toNatClampNeg), .ref 76, .int v], st S1 hs, c, m)
  refine ⟨w2, hX _ ?_⟩
  clear hP hX hk P' X cal
  refine Wp.stepsG 5 (fun cal X P' hk hX hP => ?_)
  show vp_in (i + 3) L ∧ X (1363, [some (.ref 0), some (.ref 7), some (.ref 76), some (.int i)], [.int (xs (i + 3).toNatClampNeg), .int (xs (i + 2).toNatClampNeg), .int (xs (i + 1).toNatClampNeg), .ref 76, .int v], st S1 hs, c, m)
  refine ⟨w3, hX _ ?_⟩
  clear hP hX hk P' X cal
  refine Wp.stepsG 1 (fun cal X P' hk hX hP => ?_)
  show kcall cal ix_X12_tape [.ref 76, .int (xs (i + 1).toNatClampNeg), .int (xs (i + 2).toNatClampNeg), .int (xs (i + 3).toNatClampNeg)] (st S1 hs) [.int v] c m (600000, 7302250) (fun vv σ' c' m' => X (1366, [some (.ref 0), some (.ref 7), some (.ref 76), some (.int i)], vv.toList ++ [.int v], σ', c', m'))
  refine kcallM 0 0 rfl ⟨hc, hm⟩ (hk _ _ _ _ _ _ (e_X12_tape 19 S1 hs (xs (i + 1).toNatClampNeg) (xs (i + 2).toNatClampNeg) (xs (i + 3).toNatClampNeg) (v, S2) h12 _ ?_))
  show X (1366, [some (.ref 0), some (.ref 7), some (.ref 76), some (.int i)], [.int v, .int v], st S2 hs, c, m)
  refine hX _ ?_
  clear hP hX hk P' X cal
  refine Wp.stepsG 1 (fun cal X P' hk hX hP => ?_)
  show (v = v → X (1541, [some (.ref 0), some (.ref 7), some (.ref 76), some (.int i)], [], st S2 hs, c, m)) ∧ (¬ v = v → X (1369, [some (.ref 0), some (.ref 7), some (.ref 76), some (.int i)], [], st S2 hs, c, m))
  refine ⟨fun _ => hX _ h, fun hq => absurd (rfl) hq⟩
set_option maxRecDepth 20000 in
set_option maxHeartbeats 4000000 in
theorem lw_c37 (L : Nat) (xs : Nat → Int32) (i : Int32) (S : St) (hs : List Hr) (c m : Nat) (hc : c ≤ 600000) (hm : m ≤ 7302250) (w1 : vp_in (i + 1) L) (w2 : vp_in (i + 2) L) (w3 : vp_in (i + 3) L) (w4 : vp_in (i + 4) L) (v : Int32) (S1 S2 : St) (h11 : r_X11_item S (xs (i + 1).toNatClampNeg) (xs (i + 2).toNatClampNeg) (((xs (i + 3).toNatClampNeg).toInt64 <<< ((32 : Int32).toInt64 &&& 63)) ||| ((xs (i + 4).toNatClampNeg).toInt64 &&& 4294967295)) = some (v, S1)) (h12 : r_X12_item S1 (xs (i + 1).toNatClampNeg) (xs (i + 2).toNatClampNeg) (((xs (i + 3).toNatClampNeg).toInt64 <<< ((32 : Int32).toInt64 &&& 63)) ||| ((xs (i + 4).toNatClampNeg).toInt64 &&& 4294967295)) = some (v, S2)) (P : Option Value → Hp → Prop) (h : Wp mi_law (Ev 22) (some (L, xs)) (600000, 7302250) P (1541, [some (.ref 0), some (.ref 7), some (.ref 76), some (.int i)], [], st S2 hs, c, m)) : Wp mi_law (Ev 22) (some (L, xs)) (600000, 7302250) P (1371, [some (.ref 0), some (.ref 7), some (.ref 76), some (.int i)], [], st S hs, c, m) := by
  refine Wp.stepsG 6 (fun cal X P' hk hX hP => ?_)
  show vp_in (i + 1) L ∧ X (1377, [some (.ref 0), some (.ref 7), some (.ref 76), some (.int i)], [.int (xs (i + 1).toNatClampNeg), .ref 7], st S hs, c, m)
  refine ⟨w1, hX _ ?_⟩
  clear hP hX hk P' X cal
  refine Wp.stepsG 5 (fun cal X P' hk hX hP => ?_)
  show vp_in (i + 2) L ∧ X (1382, [some (.ref 0), some (.ref 7), some (.ref 76), some (.int i)], [.int (xs (i + 2).toNatClampNeg), .int (xs (i + 1).toNatClampNeg), .ref 7], st S hs, c, m)
  refine ⟨w2, hX _ ?_⟩
  clear hP hX hk P' X cal
  refine Wp.stepsG 5 (fun cal X P' hk hX hP => ?_)
  show vp_in (i + 3) L ∧ X (1387, [some (.ref 0), some (.ref 7), some (.ref 76), some (.int i)], [.int (xs (i + 3).toNatClampNeg), .int (xs (i + 2).toNatClampNeg), .int (xs (i + 1).toNatClampNeg), .ref 7], st S hs, c, m)
  refine ⟨w3, hX _ ?_⟩
  clear hP hX hk P' X cal
  refine Wp.stepsG 8 (fun cal X P' hk hX hP => ?_)
  show vp_in (i + 4) L ∧ X (1396, [some (.ref 0), some (.ref 7), some (.ref 76), some (.int i)], [.int (xs (i + 4).toNatClampNeg), .long ((xs (i + 3).toNatClampNeg).toInt64 <<< ((32 : Int32).toInt64 &&& 63)), .int (xs (i + 2).toNatClampNeg), .int (xs (i + 1).toNatClampNeg), .ref 7], st S hs, c, m)
  refine ⟨w4, hX _ ?_⟩
  clear hP hX hk P' X cal
  refine Wp.stepsG 5 (fun cal X P' hk hX hP => ?_)
  show kcall cal ix_X11_item [.ref 7, .int (xs (i + 1).toNatClampNeg), .int (xs (i + 2).toNatClampNeg), .long (((xs (i + 3).toNatClampNeg).toInt64 <<< ((32 : Int32).toInt64 &&& 63)) ||| ((xs (i + 4).toNatClampNeg).toInt64 &&& 4294967295))] (st S hs) [] c m (600000, 7302250) (fun vv σ' c' m' => X (1405, [some (.ref 0), some (.ref 7), some (.ref 76), some (.int i)], vv.toList ++ [], σ', c', m'))
  refine kcallM 0 0 rfl ⟨hc, hm⟩ (hk _ _ _ _ _ _ (e_X11_item 19 S hs (xs (i + 1).toNatClampNeg) (xs (i + 2).toNatClampNeg) (((xs (i + 3).toNatClampNeg).toInt64 <<< ((32 : Int32).toInt64 &&& 63)) ||| ((xs (i + 4).toNatClampNeg).toInt64 &&& 4294967295)) (v, S1) h11 _ ?_))
  show X (1405, [some (.ref 0), some (.ref 7), some (.ref 76), some (.int i)], [.int v], st S1 hs, c, m)
  refine hX _ ?_
  clear hP hX hk P' X cal
  refine Wp.stepsG 6 (fun cal X P' hk hX hP => ?_)
  show vp_in (i + 1) L ∧ X (1411, [some (.ref 0), some (.ref 7), some (.ref 76), some (.int i)], [.int (xs (i + 1).toNatClampNeg), .ref 76, .int v], st S1 hs, c, m)
  refine ⟨w1, hX _ ?_⟩
  clear hP hX hk P' X cal
  refine Wp.stepsG 5 (fun cal X P' hk hX hP => ?_)
  show vp_in (i + 2) L ∧ X (1416, [some (.ref 0), some (.ref 7), some (.ref 76), some (.int i)], [.int (xs (i + 2).toNatClampNeg), .int (xs (i + 1).toNatClampNeg), .ref 76, .int v], st S1 hs, c, m)
  refine ⟨w2, hX _ ?_⟩
  clear hP hX hk P' X cal
  refine Wp.stepsG 5 (fun cal X P' hk hX hP => ?_)
  show vp_in (i + 3) L ∧ X (1421, [some (.ref 0), some (.ref 7), some (.ref 76), some (.int i)], [.int (xs (i + 3).toNatClampNeg), .int (xs (i + 2).toNatClampNeg), .int (xs (i + 1).toNatClampNeg), .ref 76, .int v], st S1 hs, c, m)
  refine ⟨w3, hX _ ?_⟩
  clear hP hX hk P' X cal
  refine Wp.stepsG 8 (fun cal X P' hk hX hP => ?_)
  show vp_in (i + 4) L ∧ X (1430, [some (.ref 0), some (.ref 7), some (.ref 76), some (.int i)], [.int (xs (i + 4).toNatClampNeg), .long ((xs (i + 3).toNatClampNeg).toInt64 <<< ((32 : Int32).toInt64 &&& 63)), .int (xs (i + 2).toNatClampNeg), .int (xs (i + 1).toNatClampNeg), .ref 76, .int v], st S1 hs, c, m)
  refine ⟨w4, hX _ ?_⟩
  clear hP hX hk P' X cal
  refine Wp.stepsG 5 (fun cal X P' hk hX hP => ?_)
  show kcall cal ix_X12_item [.ref 76, .int (xs (i + 1).toNatClampNeg), .int (xs (i + 2).toNatClampNeg), .long (((xs (i + 3).toNatClampNeg).toInt64 <<< ((32 : Int32).toInt64 &&& 63)) ||| ((xs (i + 4).toNatClampNeg).toInt64 &&& 4294967295))] (st S1 hs) [.int v] c m (600000, 7302250) (fun vv σ' c' m' => X (1439, [some (.ref 0), some (.ref 7), some (.ref 76), some (.int i)], vv.toList ++ [.int v], σ', c', m'))
  refine kcallM 0 0 rfl ⟨hc, hm⟩ (hk _ _ _ _ _ _ (e_X12_item 19 S1 hs (xs (i + 1).toNatClampNeg) (xs (i + 2).toNatClampNeg) (((xs (i + 3).toNatClampNeg).toInt64 <<< ((32 : Int32).toInt64 &&& 63)) ||| ((xs (i + 4).toNatClampNeg).toInt64 &&& 4294967295)) (v, S2) h12 _ ?_))
  show X (1439, [some (.ref 0), some (.ref 7), some (.ref 76), some (.int i)], [.int v, .int v], st S2 hs, c, m)
  refine hX _ ?_
  clear hP hX hk P' X cal
  refine Wp.stepsG 1 (fun cal X P' hk hX hP => ?_)
  show (v = v → X (1541, [some (.ref 0), some (.ref 7), some (.ref 76), some (.int i)], [], st S2 hs, c, m)) ∧ (¬ v = v → X (1442, [some (.ref 0), some (.ref 7), some (.ref 76), some (.int i)], [], st S2 hs, c, m))
  refine ⟨fun _ => hX _ h, fun hq => absurd (rfl) hq⟩
set_option maxRecDepth 20000 in
set_option maxHeartbeats 4000000 in
theorem lw_c38 (L : Nat) (xs : Nat → Int32) (i : Int32) (S : St) (hs : List Hr) (c m : Nat) (hc : c ≤ 600000) (hm : m ≤ 7302250) (w1 : vp_in (i + 1) L) (w2 : vp_in (i + 2) L) (v : Int64) (h11 : r_X11_read S (xs (i + 1).toNatClampNeg) (xs (i + 2).toNatClampNeg) = some v) (h12 : r_X12_read S (xs (i + 1).toNatClampNeg) (xs (i + 2).toNatClampNeg) = some v) (P : Option Value → Hp → Prop) (h : Wp mi_law (Ev 22) (some (L, xs)) (600000, 7302250) P (1541, [some (.ref 0), some (.ref 7), some (.ref 76), some (.int i)], [], st S hs, c, m)) : Wp mi_law (Ev 22) (some (L, xs)) (600000, 7302250) P (1444, [some (.ref 0), some (.ref 7), some (.ref 76), some (.int i)], [], st S hs, c, m) := by
  refine Wp.stepsG 6 (fun cal X P' hk hX hP => ?_)
  show vp_in (i + 1) L ∧ X (1450, [some (.ref 0), some (.ref 7), some (.ref 76), some (.int i)], [.int (xs (i + 1).toNatClampNeg), .ref 7], st S hs, c, m)
  refine ⟨w1, hX _ ?_⟩
  clear hP hX hk P' X cal
  refine Wp.stepsG 5 (fun cal X P' hk hX hP => ?_)
  show vp_in (i + 2) L ∧ X (1455, [some (.ref 0), some (.ref 7), some (.ref 76), some (.int i)], [.int (xs (i + 2).toNatClampNeg), .int (xs (i + 1).toNatClampNeg), .ref 7], st S hs, c, m)
  refine ⟨w2, hX _ ?_⟩
  clear hP hX hk P' X cal
  refine Wp.stepsG 1 (fun cal X P' hk hX hP => ?_)
  show kcall cal ix_X11_read [.ref 7, .int (xs (i + 1).toNatClampNeg), .int (xs (i + 2).toNatClampNeg)] (st S hs) [] c m (600000, 7302250) (fun vv σ' c' m' => X (1458, [some (.ref 0), some (.ref 7), some (.ref 76), some (.int i)], vv.toList ++ [], σ', c', m'))
  refine kcallM 0 0 rfl ⟨hc, hm⟩ (hk _ _ _ _ _ _ (e_X11_read 19 S hs (xs (i + 1).toNatClampNeg) (xs (i + 2).toNatClampNeg) v h11 _ ?_))
  show X (1458, [some (.ref 0), some (.ref 7), some (.ref 76), some (.int i)], [.long v], st S hs, c, m)
  refine hX _ ?_
  clear hP hX hk P' X cal
  refine Wp.stepsG 6 (fun cal X P' hk hX hP => ?_)
  show vp_in (i + 1) L ∧ X (1464, [some (.ref 0), some (.ref 7), some (.ref 76), some (.int i)], [.int (xs (i + 1).toNatClampNeg), .ref 76, .long v], st S hs, c, m)
  refine ⟨w1, hX _ ?_⟩
  clear hP hX hk P' X cal
  refine Wp.stepsG 5 (fun cal X P' hk hX hP => ?_)
  show vp_in (i + 2) L ∧ X (1469, [some (.ref 0), some (.ref 7), some (.ref 76), some (.int i)], [.int (xs (i + 2).toNatClampNeg), .int (xs (i + 1).toNatClampNeg), .ref 76, .long v], st S hs, c, m)
  refine ⟨w2, hX _ ?_⟩
  clear hP hX hk P' X cal
  refine Wp.stepsG 1 (fun cal X P' hk hX hP => ?_)
  show kcall cal ix_X12_read [.ref 76, .int (xs (i + 1).toNatClampNeg), .int (xs (i + 2).toNatClampNeg)] (st S hs) [.long v] c m (600000, 7302250) (fun vv σ' c' m' => X (1472, [some (.ref 0), some (.ref 7), some (.ref 76), some (.int i)], vv.toList ++ [.long v], σ', c', m'))
  refine kcallM 0 0 rfl ⟨hc, hm⟩ (hk _ _ _ _ _ _ (e_X12_read 19 S hs (xs (i + 1).toNatClampNeg) (xs (i + 2).toNatClampNeg) v h12 _ ?_))
  show X (1472, [some (.ref 0), some (.ref 7), some (.ref 76), some (.int i)], [.long v, .long v], st S hs, c, m)
  refine hX _ ?_
  clear hP hX hk P' X cal
  refine Wp.stepsG 2 (fun cal X P' hk hX hP => ?_)
  show (lg_cmp (v) (v) = 0 → X (1541, [some (.ref 0), some (.ref 7), some (.ref 76), some (.int i)], [], st S hs, c, m)) ∧ (¬ lg_cmp (v) (v) = 0 → X (1476, [some (.ref 0), some (.ref 7), some (.ref 76), some (.int i)], [], st S hs, c, m))
  refine ⟨fun _ => hX _ h, fun hq => absurd (lg_cmp_self v) hq⟩
set_option maxRecDepth 20000 in
set_option maxHeartbeats 4000000 in
theorem lw_c39 (L : Nat) (xs : Nat → Int32) (i : Int32) (S : St) (hs : List Hr) (c m : Nat) (hc : c ≤ 600000) (hm : m ≤ 7302250) (w1 : vp_in (i + 1) L) (w2 : vp_in (i + 2) L) (w3 : vp_in (i + 3) L) (w4 : vp_in (i + 4) L) (w5 : vp_in (i + 5) L) (v : Int32) (S1 S2 : St) (h11 : r_X11_shift S (xs (i + 1).toNatClampNeg) (xs (i + 2).toNatClampNeg) (xs (i + 3).toNatClampNeg) (xs (i + 4).toNatClampNeg) (xs (i + 5).toNatClampNeg) = some (v, S1)) (h12 : r_X12_shift S1 (xs (i + 1).toNatClampNeg) (xs (i + 2).toNatClampNeg) (xs (i + 3).toNatClampNeg) (xs (i + 4).toNatClampNeg) (xs (i + 5).toNatClampNeg) = some (v, S2)) (P : Option Value → Hp → Prop) (h : Wp mi_law (Ev 22) (some (L, xs)) (600000, 7302250) P (1541, [some (.ref 0), some (.ref 7), some (.ref 76), some (.int i)], [], st S2 hs, c, m)) : Wp mi_law (Ev 22) (some (L, xs)) (600000, 7302250) P (1478, [some (.ref 0), some (.ref 7), some (.ref 76), some (.int i)], [], st S hs, c, m) := by
  refine Wp.stepsG 6 (fun cal X P' hk hX hP => ?_)
  show vp_in (i + 1) L ∧ X (1484, [some (.ref 0), some (.ref 7), some (.ref 76), some (.int i)], [.int (xs (i + 1).toNatClampNeg), .ref 7], st S hs, c, m)
  refine ⟨w1, hX _ ?_⟩
  clear hP hX hk P' X cal
  refine Wp.stepsG 5 (fun cal X P' hk hX hP => ?_)
  show vp_in (i + 2) L ∧ X (1489, [some (.ref 0), some (.ref 7), some (.ref 76), some (.int i)], [.int (xs (i + 2).toNatClampNeg), .int (xs (i + 1).toNatClampNeg), .ref 7], st S hs, c, m)
  refine ⟨w2, hX _ ?_⟩
  clear hP hX hk P' X cal
  refine Wp.stepsG 5 (fun cal X P' hk hX hP => ?_)
  show vp_in (i + 3) L ∧ X (1494, [some (.ref 0), some (.ref 7), some (.ref 76), some (.int i)], [.int (xs (i + 3).toNatClampNeg), .int (xs (i + 2).toNatClampNeg), .int (xs (i + 1).toNatClampNeg), .ref 7], st S hs, c, m)
  refine ⟨w3, hX _ ?_⟩
  clear hP hX hk P' X cal
  refine Wp.stepsG 5 (fun cal X P' hk hX hP => ?_)
  show vp_in (i + 4) L ∧ X (1499, [some (.ref 0), some (.ref 7), some (.ref 76), some (.int i)], [.int (xs (i + 4).toNatClampNeg), .int (xs (i + 3).toNatClampNeg), .int (xs (i + 2).toNatClampNeg), .int (xs (i + 1).toNatClampNeg), .ref 7], st S hs, c, m)
  refine ⟨w4, hX _ ?_⟩
  clear hP hX hk P' X cal
  refine Wp.stepsG 5 (fun cal X P' hk hX hP => ?_)
  show vp_in (i + 5) L ∧ X (1504, [some (.ref 0), some (.ref 7), some (.ref 76), some (.int i)], [.int (xs (i + 5).toNatClampNeg), .int (xs (i + 4).toNatClampNeg), .int (xs (i + 3).toNatClampNeg), .int (xs (i + 2).toNatClampNeg), .int (xs (i + 1).toNatClampNeg), .ref 7], st S hs, c, m)
  refine ⟨w5, hX _ ?_⟩
  clear hP hX hk P' X cal
  refine Wp.stepsG 1 (fun cal X P' hk hX hP => ?_)
  show kcall cal ix_X11_shift [.ref 7, .int (xs (i + 1).toNatClampNeg), .int (xs (i + 2).toNatClampNeg), .int (xs (i + 3).toNatClampNeg), .int (xs (i + 4).toNatClampNeg), .int (xs (i + 5).toNatClampNeg)] (st S hs) [] c m (600000, 7302250) (fun vv σ' c' m' => X (1507, [some (.ref 0), some (.ref 7), some (.ref 76), some (.int i)], vv.toList ++ [], σ', c', m'))
  refine kcallM 0 0 rfl ⟨hc, hm⟩ (hk _ _ _ _ _ _ (e_X11_shift 19 S hs (xs (i + 1).toNatClampNeg) (xs (i + 2).toNatClampNeg) (xs (i + 3).toNatClampNeg) (xs (i + 4).toNatClampNeg) (xs (i + 5).toNatClampNeg) (v, S1) h11 _ ?_))
  show X (1507, [some (.ref 0), some (.ref 7), some (.ref 76), some (.int i)], [.int v], st S1 hs, c, m)
  refine hX _ ?_
  clear hP hX hk P' X cal
  refine Wp.stepsG 6 (fun cal X P' hk hX hP => ?_)
  show vp_in (i + 1) L ∧ X (1513, [some (.ref 0), some (.ref 7), some (.ref 76), some (.int i)], [.int (xs (i + 1).toNatClampNeg), .ref 76, .int v], st S1 hs, c, m)
  refine ⟨w1, hX _ ?_⟩
  clear hP hX hk P' X cal
  refine Wp.stepsG 5 (fun cal X P' hk hX hP => ?_)
  show vp_in (i + 2) L ∧ X (1518, [some (.ref 0), some (.ref 7), some (.ref 76), some (.int i)], [.int (xs (i + 2).toNatClampNeg), .int (xs (i + 1).toNatClampNeg), .ref 76, .int v], st S1 hs, c, m)
  refine ⟨w2, hX _ ?_⟩
  clear hP hX hk P' X cal
  refine Wp.stepsG 5 (fun cal X P' hk hX hP => ?_)
  show vp_in (i + 3) L ∧ X (1523, [some (.ref 0), some (.ref 7), some (.ref 76), some (.int i)], [.int (xs (i + 3).toNatClampNeg), .int (xs (i + 2).toNatClampNeg), .int (xs (i + 1).toNatClampNeg), .ref 76, .int v], st S1 hs, c, m)
  refine ⟨w3, hX _ ?_⟩
  clear hP hX hk P' X cal
  refine Wp.stepsG 5 (fun cal X P' hk hX hP => ?_)
  show vp_in (i + 4) L ∧ X (1528, [some (.ref 0), some (.ref 7), some (.ref 76), some (.int i)], [.int (xs (i + 4).toNatClampNeg), .int (xs (i + 3).toNatClampNeg), .int (xs (i + 2).toNatClampNeg), .int (xs (i + 1).toNatClampNeg), .ref 76, .int v], st S1 hs, c, m)
  refine ⟨w4, hX _ ?_⟩
  clear hP hX hk P' X cal
  refine Wp.stepsG 5 (fun cal X P' hk hX hP => ?_)
  show vp_in (i + 5) L ∧ X (1533, [some (.ref 0), some (.ref 7), some (.ref 76), some (.int i)], [.int (xs (i + 5).toNatClampNeg), .int (xs (i + 4).toNatClampNeg), .int (xs (i + 3).toNatClampNeg), .int (xs (i + 2).toNatClampNeg), .int (xs (i + 1).toNatClampNeg), .ref 76, .int v], st S1 hs, c, m)
  refine ⟨w5, hX _ ?_⟩
  clear hP hX hk P' X cal
  refine Wp.stepsG 1 (fun cal X P' hk hX hP => ?_)
  show kcall cal ix_X12_shift [.ref 76, .int (xs (i + 1).toNatClampNeg), .int (xs (i + 2).toNatClampNeg), .int (xs (i + 3).toNatClampNeg), .int (xs (i + 4).toNatClampNeg), .int (xs (i + 5).toNatClampNeg)] (st S1 hs) [.int v] c m (600000, 7302250) (fun vv σ' c' m' => X (1536, [some (.ref 0), some (.ref 7), some (.ref 76), some (.int i)], vv.toList ++ [.int v], σ', c', m'))
  refine kcallM 0 0 rfl ⟨hc, hm⟩ (hk _ _ _ _ _ _ (e_X12_shift 19 S1 hs (xs (i + 1).toNatClampNeg) (xs (i + 2).toNatClampNeg) (xs (i + 3).toNatClampNeg) (xs (i + 4).toNatClampNeg) (xs (i + 5).toNatClampNeg) (v, S2) h12 _ ?_))
  show X (1536, [some (.ref 0), some (.ref 7), some (.ref 76), some (.int i)], [.int v, .int v], st S2 hs, c, m)
  refine hX _ ?_
  clear hP hX hk P' X cal
  refine Wp.stepsG 1 (fun cal X P' hk hX hP => ?_)
  show (v = v → X (1541, [some (.ref 0), some (.ref 7), some (.ref 76), some (.int i)], [], st S2 hs, c, m)) ∧ (¬ v = v → X (1539, [some (.ref 0), some (.ref 7), some (.ref 76), some (.int i)], [], st S2 hs, c, m))
  refine ⟨fun _ => hX _ h, fun hq => absurd (rfl) hq⟩
