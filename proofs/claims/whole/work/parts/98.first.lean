/-! what holds behind the two constructors; the law's start -/
theorem g14_1 : ∀ i, i < 24 → g_14 i = 1 := by decide +kernel
theorem inv_S0 : Inv S0 [] := by
  have noH : ∀ h : Nat, ¬ h < 0 := Nat.not_lt_zero
  have tp : ∀ t, t < 6 → ∀ (cs : Nat → Int32), cs 1 = -1 → cs 2 = 0 → Tp1 cs (fun _ => 0) (S0.1 115) (S0.1 116) (S0.2.1 117) t := by
    intro t ht cs e1 e2
    have e : S0.1 115 t = -1 := by
      match t, ht with
      | 0, _ => rfl
      | 1, _ => rfl
      | 2, _ => rfl
      | 3, _ => rfl
      | 4, _ => rfl
      | 5, _ => rfl
      | t + 6, h => exact absurd h (by omega)
    exact ⟨0, by decide, by rw [e, e1], e2, rfl, Or.inl ⟨e, rfl⟩, fun _ _ => rfl⟩
  refine ⟨0, ⟨by decide, rfl, rfl⟩, ⟨0, 0, 0, 0, 0, ⟨⟨by decide, rfl, rfl⟩, ⟨by decide, rfl, rfl⟩, ⟨by decide, rfl, rfl⟩, ⟨by decide, rfl, rfl⟩, ⟨by decide, rfl, rfl⟩, rfl, Or.inl rfl⟩, ⟨fun _ _ => rfl, fun _ _ => rfl, fun s hs => absurd hs (noH s)⟩, ⟨fun _ _ => rfl, fun _ _ => rfl, fun _ _ _ _ _ => rfl, fun _ _ => ⟨0, by decide, rfl⟩⟩, ⟨fun i hi => absurd hi (by omega), fun i hi => absurd hi (by omega), fun i _ hi => g14_1 i hi⟩, ⟨fun _ _ => rfl, fun _ _ => rfl, fun s hs => absurd hs (noH s)⟩, ⟨fun _ _ => rfl, fun s hs => absurd hs (noH s)⟩, ⟨fun h hh => absurd hh (noH h), fun _ _ => Or.inl rfl⟩⟩, Or.inl ⟨rfl, rfl⟩, ⟨0, by decide, rfl, rfl, fun i hi => absurd hi (noH i)⟩, ⟨0, by decide, rfl, rfl, fun _ _ => rfl⟩, ⟨tp 0 (by decide) _ rfl rfl, tp 1 (by decide) _ rfl rfl, tp 2 (by decide) _ rfl rfl, tp 3 (by decide) _ rfl rfl, tp 4 (by decide) _ rfl rfl, tp 5 (by decide) _ rfl rfl⟩, ⟨fun h => absurd h (noH _), fun h => absurd h (noH _), fun h => absurd h (noH _), fun h => absurd h (noH _), fun h => absurd h (noH _), fun h => absurd h (noH _)⟩, ⟨rfl, rfl⟩⟩
theorem whole_start {p : Program} {e : Env} {s : State} {m : MethodId} {below : List Frame} {meth : Method} {c : Code} (l : Launch) (_hflags : l.flags = flags0) {b L : Nat} {xs : Nat → Int32} (hL : L ≤ 3072) (C0 : lw_At p s m meth c b L xs) : W p l e room_1 s m #[Value.ref b] below meth c s.heap [] 0 0 (lw_Z below #[Value.ref b] s) (entryFrame m ([Value.ref b] : List Value).toArray 4) := by
  refine law_of l C0 22 (by decide) (by decide) (law_begin 20 _ _ ?_)
  exact law_loop Inv k_story k_hearer k_of k_at k_good k_had k_row k_feed k_house k_told k_pass k_tell k_laugh k_would k_best k_fresh k_again k_evening k_coffee k_keep k_suppers k_seats k_spared k_see k_guess k_odds k_mean k_book k_looked k_judge k_image k_undo k_act k_trace k_taken k_count k_tape k_item k_read k_shift L xs hL 512 0 S0 [] 112 4411 inv_S0 (by omega) (by omega) (by decide) (by decide)
