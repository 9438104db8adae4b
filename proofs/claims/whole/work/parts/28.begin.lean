def zSt : St := (fun _ _ => 0, fun _ _ => 0, fun _ _ => none)
def S0 : St := sA (sA (sI (sI (sI (sI (sI (sI (sI (sI (sR (sI (sI (sR (sI (sI (sR (sI (sI (sR (sI (sI (sR (sI (sI (sR (sI (sI (sA (sI (sA (sI zSt 8 1 (-1)) 14 g_14) 18 1 (-1)) 24 g_14) 40 3 20) 40 4 5) 40 5 (some 43)) 44 3 20) 44 4 5) 44 5 (some 47)) 48 3 20) 48 4 5) 48 5 (some 51)) 52 3 20) 52 4 5) 52 5 (some 55)) 56 3 20) 56 4 5) 56 5 (some 59)) 60 3 20) 60 4 5) 60 5 (some 63)) 64 1 (-1)) 66 1 (-1)) 68 1 (-1)) 70 1 (-1)) 72 1 (-1)) 74 1 (-1)) 76 11 (-1)) 76 43 (-1)) 92 g_92) 115 g_115
theorem g_29_eq : g_29 = hsF := by
  funext n
  match n with
  | 0 => rfl
  | 1 => rfl
  | 2 => rfl
  | 3 => rfl
  | 4 => rfl
  | 5 => rfl
  | n + 6 => rfl
theorem zc_29 : z29 = cl29 S0 := congrArg (fun f => (Sum.inl (FieldType.object RX5, 6, .inr (.inr (.inr (.inr f)))) : VC)) g_29_eq
theorem g_32_eq : g_32 = tpF := by
  funext n
  match n with
  | 0 => rfl
  | 1 => rfl
  | 2 => rfl
  | 3 => rfl
  | 4 => rfl
  | 5 => rfl
  | n + 6 => rfl
theorem zc_32 : z32 = cl32 S0 := congrArg (fun f => (Sum.inl (FieldType.object RX8, 6, .inr (.inr (.inr (.inr f)))) : VC)) g_32_eq
set_option maxRecDepth 20000 in
set_option maxHeartbeats 4000000 in
theorem heap0 : ([spC, spC, spC, spC, spC, spC, spC, z7, z8, z9, z10, z11, z12, z13, z14, z15, z16, z17, z18, z19, z20, z21, z22, z23, z24, z25, z26, z27, z28, z29, z30, z31, z32, z33, z34, z35, z36, z37, z38, z39, z40, z41, z42, z43, z44, z45, z46, z47, z48, z49, z50, z51, z52, z53, z54, z55, z56, z57, z58, z59, z60, z61, z62, z63, z64, z65, z66, z67, z68, z69, z70, z71, z72, z73, z74, z75, z76, z77, z78, z79, z80, z81, z82, z83, z84, z85, z86, z87, z88, z89, z90, z91, z92, z93, z94, z95, z96, z97, z98, z99, z100, z101, z102, z103, z104, z105, z106, z107, z108, z109, z110, z111, z112, z113, z114, z115, z116, z117, z118] : Hp) = st S0 [] := by
  rw [zc_29, zc_32]
  rfl
set_option maxRecDepth 20000 in
set_option maxHeartbeats 4000000 in
/-- the law as far as its loop -/
theorem law_begin (d : Nat) (scr : Option (Nat × (Nat → Int32))) (P : Option Value → Hp → Prop) (h : Wp mi_law (Ev (d + 2)) scr (600000, 7302250) P (18, [some (.ref 0), some (.ref 7), some (.ref 76), some (.int 0)], [], st S0 [], 112, 4411)) : Wp mi_law (Ev (d + 2)) scr (600000, 7302250) P (0, entL [.ref 0] 4, [], sg0, 0, 0) := by
  rw [← heap0] at h
  refine Wp.stepsG 1 (fun cal X P' hk hX hP => ?_)
  show (0 + 1 ≤ 600000 ∧ 0 + 16 ≤ 7302250) ∧ X (3, [some (.ref 0), none, none, none], [.ref 7], [spC, spC, spC, spC, spC, spC, spC, .inr (11, [.null, .null, .int 0, .null, .int 0, .null, .int 0, .null, .null, .null, .null, .null, .null, .null, .null, .null])], 1, 16)
  refine ⟨⟨Nat.le_of_ble_eq_true rfl, Nat.le_of_ble_eq_true rfl⟩, hX _ ?_⟩
  clear hP hX hk P' X cal
  refine Wp.stepsG 2 (fun cal X P' hk hX hP => ?_)
  show kcall cal ix_X11_init [.ref 7] [spC, spC, spC, spC, spC, spC, spC, .inr (11, [.null, .null, .int 0, .null, .int 0, .null, .int 0, .null, .null, .null, .null, .null, .null, .null, .null, .null])] [.ref 7] 1 16 (600000, 7302250) (fun v σ' c' m' => X (7, [some (.ref 0), none, none, none], v.toList ++ [.ref 7], σ', c', m'))
  refine kcallM 68 2254 rfl ⟨Nat.le_of_ble_eq_true rfl, Nat.le_of_ble_eq_true rfl⟩ (hk _ _ _ _ _ _ (i_7 d _ ?_))
  show X (7, [some (.ref 0), none, none, none], [.ref 7], [spC, spC, spC, spC, spC, spC, spC, z7, z8, z9, z10, z11, z12, z13, z14, z15, z16, z17, z18, z19, z20, z21, z22, z23, z24, z25, z26, z27, z28, z29, z30, z31, z32, z33, z34, z35, z36, z37, z38, z39, z40, z41, z42, z43, z44, z45, z46, z47, z48, z49, z50, z51, z52, z53, z54, z55, z56, z57, z58, z59, z60, z61, z62, z63, z64, z65, z66, z67, z68, z69, z70, z71, z72, z73, z74, z75], 69, 2270)
  refine hX _ ?_
  clear hP hX hk P' X cal
  refine Wp.stepsG 2 (fun cal X P' hk hX hP => ?_)
  show (69 + 1 ≤ 600000 ∧ 2270 + 65 ≤ 7302250) ∧ X (11, [some (.ref 0), some (.ref 7), none, none], [.ref 76], [spC, spC, spC, spC, spC, spC, spC, z7, z8, z9, z10, z11, z12, z13, z14, z15, z16, z17, z18, z19, z20, z21, z22, z23, z24, z25, z26, z27, z28, z29, z30, z31, z32, z33, z34, z35, z36, z37, z38, z39, z40, z41, z42, z43, z44, z45, z46, z47, z48, z49, z50, z51, z52, z53, z54, z55, z56, z57, z58, z59, z60, z61, z62, z63, z64, z65, z66, z67, z68, z69, z70, z71, z72, z73, z74, z75, .inr (12, [.int 0, .int 0, .int 0, .null, .null, .null, .null, .null, .null, .null, .int 0, .int 0, .int 0, .int 0, .int 0, .null, .null, .null, .null, .null, .null, .null, .null, .int 0, .int 0, .int 0, .null, .null, .int 0, .null, .int 0, .null, .null, .null, .null, .null, .null, .int 0, .null, .null, .int 0, .null, .int 0, .int 0, .int 0, .int 0, .int 0, .int 0, .int 0, .null, .null, .null, .null, .null, .null, .null, .null, .null, .null, .int 0, .null, .null, .null, .null, .null])], 70, 2335)
  refine ⟨⟨Nat.le_of_ble_eq_true rfl, Nat.le_of_ble_eq_true rfl⟩, hX _ ?_⟩
  clear hP hX hk P' X cal
  refine Wp.stepsG 2 (fun cal X P' hk hX hP => ?_)
  show kcall cal ix_X12_init [.ref 76] [spC, spC, spC, spC, spC, spC, spC, z7, z8, z9, z10, z11, z12, z13, z14, z15, z16, z17, z18, z19, z20, z21, z22, z23, z24, z25, z26, z27, z28, z29, z30, z31, z32, z33, z34, z35, z36, z37, z38, z39, z40, z41, z42, z43, z44, z45, z46, z47, z48, z49, z50, z51, z52, z53, z54, z55, z56, z57, z58, z59, z60, z61, z62, z63, z64, z65, z66, z67, z68, z69, z70, z71, z72, z73, z74, z75, .inr (12, [.int 0, .int 0, .int 0, .null, .null, .null, .null, .null, .null, .null, .int 0, .int 0, .int 0, .int 0, .int 0, .null, .null, .null, .null, .null, .null, .null, .null, .int 0, .int 0, .int 0, .null, .null, .int 0, .null, .int 0, .null, .null, .null, .null, .null, .null, .int 0, .null, .null, .int 0, .null, .int 0, .int 0, .int 0, .int 0, .int 0, .int 0, .int 0, .null, .null, .null, .null, .null, .null, .null, .null, .null, .null, .int 0, .null, .null, .null, .null, .null])] [.ref 76] 70 2335 (600000, 7302250) (fun v σ' c' m' => X (15, [some (.ref 0), some (.ref 7), none, none], v.toList ++ [.ref 76], σ', c', m'))
  refine kcallM 42 2076 rfl ⟨Nat.le_of_ble_eq_true rfl, Nat.le_of_ble_eq_true rfl⟩ (hk _ _ _ _ _ _ (i_76 (d + 1) _ ?_))
  show X (15, [some (.ref 0), some (.ref 7), none, none], [.ref 76], [spC, spC, spC, spC, spC, spC, spC, z7, z8, z9, z10, z11, z12, z13, z14, z15, z16, z17, z18, z19, z20, z21, z22, z23, z24, z25, z26, z27, z28, z29, z30, z31, z32, z33, z34, z35, z36, z37, z38, z39, z40, z41, z42, z43, z44, z45, z46, z47, z48, z49, z50, z51, z52, z53, z54, z55, z56, z57, z58, z59, z60, z61, z62, z63, z64, z65, z66, z67, z68, z69, z70, z71, z72, z73, z74, z75, z76, z77, z78, z79, z80, z81, z82, z83, z84, z85, z86, z87, z88, z89, z90, z91, z92, z93, z94, z95, z96, z97, z98, z99, z100, z101, z102, z103, z104, z105, z106, z107, z108, z109, z110, z111, z112, z113, z114, z115, z116, z117, z118], 112, 4411)
  refine hX _ ?_
  clear hP hX hk P' X cal
  refine Wp.stepsG 3 (fun cal X P' hk hX hP => ?_)
  show X (18, [some (.ref 0), some (.ref 7), some (.ref 76), some (.int 0)], [], [spC, spC, spC, spC, spC, spC, spC, z7, z8, z9, z10, z11, z12, z13, z14, z15, z16, z17, z18, z19, z20, z21, z22, z23, z24, z25, z26, z27, z28, z29, z30, z31, z32, z33, z34, z35, z36, z37, z38, z39, z40, z41, z42, z43, z44, z45, z46, z47, z48, z49, z50, z51, z52, z53, z54, z55, z56, z57, z58, z59, z60, z61, z62, z63, z64, z65, z66, z67, z68, z69, z70, z71, z72, z73, z74, z75, z76, z77, z78, z79, z80, z81, z82, z83, z84, z85, z86, z87, z88, z89, z90, z91, z92, z93, z94, z95, z96, z97, z98, z99, z100, z101, z102, z103, z104, z105, z106, z107, z108, z109, z110, z111, z112, z113, z114, z115, z116, z117, z118], 112, 4411)
  exact hX _ h
