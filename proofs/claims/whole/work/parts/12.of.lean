/-! STEP: what the propositions of part 07 give; then each instruction by a row of the kit -/
theorem k1i_of {st : List Value} {f : Int32 → List Value → Prop} (h : k1i st f) : ∃ x r, st = .int x :: r ∧ f x r := by
  unfold k1i at h
  split at h
  · exact ⟨_, _, rfl, h⟩
  · exact h.elim
theorem k2i_of {st : List Value} {f : Int32 → Int32 → List Value → Prop} (h : k2i st f) : ∃ x y r, st = .int y :: .int x :: r ∧ f x y r := by
  unfold k2i at h
  split at h
  · exact ⟨_, _, _, rfl, h⟩
  · exact h.elim
theorem k1l_of {st : List Value} {f : Int64 → List Value → Prop} (h : k1l st f) : ∃ x r, st = .long x :: r ∧ f x r := by
  unfold k1l at h
  split at h
  · exact ⟨_, _, rfl, h⟩
  · exact h.elim
theorem k2l_of {st : List Value} {f : Int64 → Int64 → List Value → Prop} (h : k2l st f) : ∃ x y r, st = .long y :: .long x :: r ∧ f x y r := by
  unfold k2l at h
  split at h
  · exact ⟨_, _, _, rfl, h⟩
  · exact h.elim
theorem kil_of {st : List Value} {f : Int64 → Int32 → List Value → Prop} (h : kil st f) : ∃ x y r, st = .int y :: .long x :: r ∧ f x y r := by
  unfold kil at h
  split at h
  · exact ⟨_, _, _, rfl, h⟩
  · exact h.elim
theorem k1r_of {st : List Value} {f : Nat → List Value → Prop} (h : k1r st f) : ∃ a r, st = .ref a :: r ∧ f a r := by
  unfold k1r at h
  split at h
  · exact ⟨_, _, rfl, h⟩
  · exact h.elim
theorem k1v_of {st : List Value} {f : Value → List Value → Prop} (h : k1v st f) : ∃ v r, st = v :: r ∧ f v r := by
  unfold k1v at h
  split at h
  · exact ⟨_, _, rfl, h⟩
  · exact h.elim
theorem k2v_of {st : List Value} {f : Value → Value → List Value → Prop} (h : k2v st f) : ∃ v w r, st = v :: w :: r ∧ f v w r := by
  unfold k2v at h
  split at h
  · exact ⟨_, _, _, rfl, h⟩
  · exact h.elim
theorem kir_of {st : List Value} {f : Int32 → Nat → List Value → Prop} (h : kir st f) : ∃ i a r, st = .int i :: .ref a :: r ∧ f i a r := by
  unfold kir at h
  split at h
  · exact ⟨_, _, _, rfl, h⟩
  · exact h.elim
theorem kiir_of {st : List Value} {f : Int32 → Int32 → Nat → List Value → Prop} (h : kiir st f) : ∃ x i a r, st = .int x :: .int i :: .ref a :: r ∧ f x i a r := by
  unfold kiir at h
  split at h
  · exact ⟨_, _, _, _, rfl, h⟩
  · exact h.elim
theorem klir_of {st : List Value} {f : Int64 → Int32 → Nat → List Value → Prop} (h : klir st f) : ∃ x i a r, st = .long x :: .int i :: .ref a :: r ∧ f x i a r := by
  unfold klir at h
  split at h
  · exact ⟨_, _, _, _, rfl, h⟩
  · exact h.elim
theorem kvir_of {st : List Value} {f : Value → Int32 → Nat → List Value → Prop} (h : kvir st f) : ∃ x i a r, st = x :: .int i :: .ref a :: r ∧ f x i a r := by
  unfold kvir at h
  split at h
  · exact ⟨_, _, _, _, rfl, h⟩
  · exact h.elim
theorem kvr_of {st : List Value} {f : Value → Nat → List Value → Prop} (h : kvr st f) : ∃ v a r, st = v :: .ref a :: r ∧ f v a r := by
  unfold kvr at h
  split at h
  · exact ⟨_, _, _, rfl, h⟩
  · exact h.elim
theorem kcp_of {st : List Value} {f : Int32 → Int32 → Nat → Int32 → Nat → List Value → Prop} (h : kcp st f) : ∃ n dp b sp a r, st = .int n :: .int dp :: .ref b :: .int sp :: .ref a :: r ∧ f n dp b sp a r := by
  unfold kcp at h
  split at h
  · exact ⟨_, _, _, _, _, _, rfl, h⟩
  · exact h.elim
theorem kObj_of {σ : Hp} {a : Nat} {f : Nat → List Value → Prop} (h : kObj σ a f) : ∃ ci fs, gH σ a = some (.inr (ci, fs)) ∧ f ci fs := by
  unfold kObj at h
  split at h
  · rename_i q
    exact ⟨_, _, q, h⟩
  · exact h.elim
theorem kLen_of {σ : Hp} {a : Nat} {f : Nat → Prop} (h : kLen σ a f) : ∃ ty n g, gH σ a = some (.inl (ty, n, g)) ∧ f n := by
  unfold kLen at h
  split at h
  · rename_i q
    exact ⟨_, _, _, q, h⟩
  · exact h.elim
theorem kAI_of {σ : Hp} {a : Nat} {f : Nat → (Nat → Int32) → Prop} (h : kAI σ a f) : ∃ n g, gH σ a = some (.inl (.int, n, .inl g)) ∧ f n g := by
  unfold kAI at h
  split at h
  · rename_i q
    exact ⟨_, _, q, h⟩
  · exact h.elim
theorem kAL_of {σ : Hp} {a : Nat} {f : Nat → (Nat → Int64) → Prop} (h : kAL σ a f) : ∃ n g, gH σ a = some (.inl (.long, n, .inr (.inl g))) ∧ f n g := by
  unfold kAL at h
  split at h
  · rename_i q
    exact ⟨_, _, q, h⟩
  · exact h.elim
theorem kAR_of {σ : Hp} {a : Nat} {f : String → Nat → (Nat → Option Nat) → Prop} (h : kAR σ a f) : ∃ C n g, gH σ a = some (.inl (.object C, n, .inr (.inr (.inr (.inr g))))) ∧ f C n g := by
  unfold kAR at h
  split at h
  · rename_i q
    exact ⟨_, _, _, q, h⟩
  · exact h.elim
theorem kL_of {L : Lc} {a : Nat} {f : Value → Prop} (h : kL L a f) : ∃ v, gL L a = some v ∧ f v := by
  unfold kL at h
  split at h
  · rename_i q
    exact ⟨_, q, h⟩
  · exact h.elim
theorem kV_of {L : List Value} {a : Nat} {f : Value → Prop} (h : kV L a f) : ∃ v, gV L a = some v ∧ f v := by
  unfold kV at h
  split at h
  · rename_i q
    exact ⟨_, q, h⟩
  · exact h.elim
theorem kAB_of {σ : Hp} {a : Nat} {f : FieldType → Nat → (Nat → Int32) → Prop} (h : kAB σ a f) : ∃ ty n g, (ty = .byte ∨ ty = .boolean) ∧ gH σ a = some (.inl (ty, n, .inl g)) ∧ f ty n g := by
  unfold kAB at h
  split at h
  · rename_i q
    exact ⟨_, _, _, Or.inl rfl, q, h⟩
  · rename_i q
    exact ⟨_, _, _, Or.inr rfl, q, h⟩
  · exact h.elim
theorem kB_of {b : Bool} {f : Prop} (h : kB b f) : b = true ∧ f := by
  unfold kB at h
  split at h
  · exact ⟨rfl, h⟩
  · exact h.elim
theorem kRet_of {ret : Option FieldType} {x : Int32} {f : Prop} (h : kRet ret x f) : (∃ ty, ret = some ty ∧ narrow ty (.int x) = .int x) ∧ f := by
  unfold kRet at h
  split at h
  · exact ⟨⟨_, rfl, rfl⟩, h⟩
  · refine ⟨⟨_, rfl, ?_⟩, h.2⟩
    rcases h.1 with rfl | rfl <;> rfl
  · exact h.elim
theorem putB_of {ty : FieldType} {v : Value} (h : putB ty v = true) : narrow ty v = v ∧ fits ty v = true := by
  unfold putB at h
  split at h
  · exact ⟨rfl, rfl⟩
  · rename_i x
    simp only [Bool.or_eq_true, beq_iff_eq] at h
    rcases h with rfl | rfl <;> exact ⟨rfl, rfl⟩
  · exact ⟨rfl, rfl⟩
  · exact ⟨rfl, rfl⟩
  · exact ⟨rfl, rfl⟩
  · exact ⟨rfl, rfl⟩
  · exact ⟨rfl, rfl⟩
  · cases h
theorem kcall_of {cal : Cal} {mi : Nat} {as : List Value} {σ : Hp} {rest : List Value} {c m : Nat} {bd : Nat × Nat} {K : Option Value → Hp → Nat → Nat → Prop} (h : kcall cal mi as σ rest c m bd K) : (rest.map fun v => v.category).sum ≤ 8 ∧ ∃ mc ms, (c + mc ≤ bd.1 ∧ m + ms ≤ bd.2) ∧ cal mi mc ms as σ (fun v σ' => K v σ' (c + mc) (m + ms)) := by
  obtain ⟨h1, h2⟩ := kB_of h
  exact ⟨Nat.le_of_ble_eq_true h1, h2⟩
theorem kO_of {α : Type} {o : Option α} {f : α → Prop} (h : kO o f) : ∃ v, o = some v ∧ f v := by
  unfold kO at h
  split at h
  · exact ⟨_, rfl, h⟩
  · exact h.elim
theorem kI_of {v : Value} {f : Int32 → Prop} (h : kI v f) : ∃ x, v = .int x ∧ f x := by
  unfold kI at h
  split at h
  · exact ⟨_, rfl, h⟩
  · exact h.elim
theorem kJ_of {v : Value} {f : Int64 → Prop} (h : kJ v f) : ∃ x, v = .long x ∧ f x := by
  unfold kJ at h
  split at h
  · exact ⟨_, rfl, h⟩
  · exact h.elim
theorem kR_of {v : Value} {f : Prop} (h : kR v f) : ((∃ a, v = .ref a) ∨ v = .null) ∧ f := by
  unfold kR at h
  split at h
  · exact ⟨Or.inl ⟨_, rfl⟩, h⟩
  · exact ⟨Or.inr rfl, h⟩
  · exact h.elim
theorem kE_of {st : List Value} {f : Prop} (h : kE st f) : st = [] ∧ f := by
  unfold kE at h
  split at h
  · exact ⟨rfl, h⟩
  · exact h.elim
theorem k1q_of {st : List Value} {f : Nat → List Value → Prop} {g : List Value → Prop} (h : k1q st f g) : (∃ a r, st = .ref a :: r ∧ f a r) ∨ (∃ r, st = .null :: r ∧ g r) := by
  unfold k1q at h
  split at h
  · exact Or.inl ⟨_, _, rfl, h⟩
  · exact Or.inr ⟨_, rfl, h⟩
  · exact h.elim
theorem popA_of : ∀ (n : Nat) (acc st as r : List Value), popA n acc st = some (as, r) → ∃ xs, st = xs ++ r ∧ as = xs.reverse ++ acc ∧ xs.length = n
  | 0, acc, st, as, r, h => by cases h; exact ⟨[], rfl, rfl, rfl⟩
  | n + 1, acc, [], as, r, h => by cases h
  | n + 1, acc, v :: st, as, r, h => by
    obtain ⟨xs, h1, h2, h3⟩ := popA_of n (v :: acc) st as r h
    exact ⟨v :: xs, by rw [h1]; rfl, by rw [h2]; simp, by rw [List.length_cons, h3]⟩
