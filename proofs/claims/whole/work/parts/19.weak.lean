/-! WEAK: locals that are none may hold anything -/
/-- less is known of the left one -/
def leL : Lc → Lc → Prop
  | [], [] => True
  | o :: r, o' :: r' => (o = none ∨ o = o') ∧ leL r r'
  | _, _ => False
theorem leL.rfl' : ∀ (L : Lc), leL L L
  | [] => True.intro
  | _ :: r => ⟨Or.inr rfl, leL.rfl' r⟩
theorem leL.g1 : ∀ {A B : Lc} (n : Nat), leL A B → gL A n = none ∨ gL A n = gL B n
  | [], _, _, _ => Or.inl (by cases ‹Nat› <;> rfl)
  | _ :: _, [], _, h => h.elim
  | _ :: _, _ :: _, 0, h => h.1
  | _ :: _, _ :: _, n + 1, h => leL.g1 n h.2
theorem leL.s1 : ∀ {A B : Lc} (n : Nat) (v : Option Value), leL A B → leL (sL A n v) (sL B n v)
  | [], [], _, _, _ => True.intro
  | [], _ :: _, _, _, h => h.elim
  | _ :: _, [], _, _, h => h.elim
  | _ :: _, _ :: _, 0, _, h => ⟨Or.inr rfl, h.2⟩
  | _ :: _, _ :: _, n + 1, v, h => ⟨h.1, leL.s1 n v h.2⟩
theorem leL.s2 : ∀ {A B : Lc} (n : Nat), leL A B → gL A n = none → leL A (sL B n none)
  | [], [], _, _, _ => True.intro
  | [], _ :: _, _, h, _ => h.elim
  | _ :: _, [], _, h, _ => h.elim
  | _ :: _, _ :: _, 0, h, g => ⟨Or.inl g, h.2⟩
  | _ :: _, _ :: _, n + 1, h, g => ⟨h.1, leL.s2 n h.2 g⟩
theorem leL.c1 {A B : Lc} (n : Nat) (h : leL A B) : leL (cL A n) (cL B n) := by
  cases n with
  | zero => exact h
  | succ n =>
    have e : ∀ L, cL L (n + 1) = (match gL L n with
      | some (.long _) => sL L n none
      | some (.double _) => sL L n none
      | _ => L) := fun _ => rfl
    rw [e, e]
    rcases h.g1 n with g | g
    · rw [g]
      dsimp only
      split
      · exact h.s2 n g
      · exact h.s2 n g
      · exact h
    · rw [g]
      split
      · exact h.s1 n none
      · exact h.s1 n none
      · exact h
theorem kL_weak {A B : Lc} (l : leL A B) {a : Nat} {f g : Value → Prop} (h : ∀ v, f v → g v) (k : kL A a f) : kL B a g := by
  unfold kL at k ⊢
  rcases l.g1 a with z | z
  · rw [z] at k
    exact k.elim
  · rw [← z]
    split at k
    · exact h _ k
    · exact k.elim
theorem goS_weak {cal : Cal} (hc : MonoC cal) {bd : Nat × Nat} {X Y : Cf → Prop} {L L2 : Lc} (hX : ∀ pc st σ c m, X (pc, L, st, σ, c, m) → Y (pc, L2, st, σ, c, m)) {pc : Nat} {st : List Value} {σ : Hp} {c m a b d f : Nat} (h : goS cal bd X pc L st σ c m a b d f) : goS cal bd Y pc L2 st σ c m a b d f := by
  unfold goS at h ⊢
  split at h
  · exact kcp_mono (fun _ _ _ _ _ _ z => kB_mono (fun z => kAL_mono (fun _ _ z => kAL_mono (fun _ _ z => ⟨z.1, hX _ _ _ _ _ z.2⟩) z) z) z) h
  · exact k2i_mono (fun _ _ _ z => kB_mono (fun z => hX _ _ _ _ _ z) z) h
  · exact k2i_mono (fun _ _ _ z => kB_mono (fun z => hX _ _ _ _ _ z) z) h
  · exact kO_mono (fun _ z => kcall_mono hc (fun _ _ _ _ z => hX _ _ _ _ _ z) z) h
theorem goI_weak {cal : Cal} (hc : MonoC cal) {bd : Nat × Nat} {X Y : Cf → Prop} {L L2 : Lc} (hX : ∀ pc st σ c m, X (pc, L, st, σ, c, m) → Y (pc, L2, st, σ, c, m)) {pc : Nat} {st : List Value} {σ : Hp} {c m a b d f : Nat} (h : goI cal bd X pc L st σ c m a b d f) : goI cal bd Y pc L2 st σ c m a b d f := by
  unfold goI at h ⊢
  split at h
  · exact k1r_mono (fun _ _ z => kB_mono (fun z => hX _ _ _ _ _ z) z) h
  · exact kO_mono (fun _ z => k1r_mono (fun _ _ z => kObj_mono (fun _ _ z => kB_mono (fun z => kcall_mono hc (fun _ _ _ _ z => hX _ _ _ _ _ z) z) z) z) z) h
  · exact kO_mono (fun _ z => k1r_mono (fun _ _ z => kcall_mono hc (fun _ _ _ _ z => hX _ _ _ _ _ z) z) z) h
theorem goV_weak {cal : Cal} (hc : MonoC cal) {bd : Nat × Nat} {X Y : Cf → Prop} {L L2 : Lc} (hX : ∀ pc st σ c m, X (pc, L, st, σ, c, m) → Y (pc, L2, st, σ, c, m)) {pc : Nat} {st : List Value} {σ : Hp} {c m a b d f : Nat} (h : goV cal bd X pc L st σ c m a b d f) : goV cal bd Y pc L2 st σ c m a b d f := by
  unfold goV at h ⊢
  split at h
  · exact kO_mono (fun _ z => k1r_mono (fun _ _ z => kObj_mono (fun _ _ z => kB_mono (fun z => kcall_mono hc (fun _ _ _ _ z => hX _ _ _ _ _ z) z) z) z) z) h
  · exact kO_mono (fun _ z => k1r_mono (fun _ _ z => kObj_mono (fun _ _ z => kO_mono (fun _ z => kcall_mono hc (fun _ _ _ _ z => hX _ _ _ _ _ z) z) z) z) z) h
  · exact k1r_mono (fun _ _ z => kB_mono (fun z => hX _ _ _ _ _ z) z) h
  · exact kir_mono (fun _ _ _ z => kB_mono (fun z => ⟨z.1, hX _ _ _ _ _ z.2⟩) z) h
set_option maxHeartbeats 4000000 in
theorem stepE_weak {ret : Option FieldType} {cal : Cal} (hc : MonoC cal) {scr : Option (Nat × (Nat → Int32))} {bd : Nat × Nat} {X Y : Cf → Prop} {P P' : Option Value → Hp → Prop} {L L2 : Lc} (hl : leL L L2) (hX : ∀ pc st σ c m, X (pc, L, st, σ, c, m) → Y (pc, L2, st, σ, c, m)) (hS : ∀ a v pc st σ c m, X (pc, sL (cL L a) a v, st, σ, c, m) → Y (pc, sL (cL L2 a) a v, st, σ, c, m)) (hP : ∀ v σ, P v σ → P' v σ) {pc : Nat} {st : List Value} {σ : Hp} {c m : Nat} {i : Instr} {len a b d f : Nat} {k : Int32} {j : Int64} {s : List (Int32 × Nat)}
    (h : stepE ret cal scr bd X P pc L st σ c m i len a b d f k j s) : stepE ret cal scr bd Y P' pc L2 st σ c m i len a b d f k j s := by
  cases i
  case ifCond cnd off => cases cnd <;> exact k1i_mono (fun _ _ z => ⟨fun y => hX _ _ _ _ _ (z.1 y), fun y => hX _ _ _ _ _ (z.2 y)⟩) h
  case if_icmp cnd off => cases cnd <;> exact k2i_mono (fun _ _ _ z => ⟨fun y => hX _ _ _ _ _ (z.1 y), fun y => hX _ _ _ _ _ (z.2 y)⟩) h
  case tableswitch => exact k1i_mono (fun _ _ z => kS_mono (hX _ _ _ _ _) (fun _ => hX _ _ _ _ _) _ z) h
  case lookupswitch => exact k1i_mono (fun _ _ z => kS_mono (hX _ _ _ _ _) (fun _ => hX _ _ _ _ _) _ z) h
  case ifnull => exact k1q_mono (fun _ _ z => hX _ _ _ _ _ z) (fun _ z => hX _ _ _ _ _ z) h
  case ifnonnull => exact k1q_mono (fun _ _ z => hX _ _ _ _ _ z) (fun _ z => hX _ _ _ _ _ z) h
  case ldc =>
    cases a
    · exact hX _ _ _ _ _ h
    · exact hX _ _ _ _ _ h
  case getfield => exact k1r_mono (fun _ _ z => kObj_mono (fun _ _ z => kB_mono (fun z => kV_mono (fun _ z => hX _ _ _ _ _ z) z) z) z) h
  case putfield => exact kvr_mono (fun _ _ _ z => kObj_mono (fun _ _ z => kB_mono (fun z => kV_mono (fun _ z => hX _ _ _ _ _ z) z) z) z) h
  case new => exact ⟨h.1, hX _ _ _ _ _ h.2⟩
  case newarray => exact k1i_mono (fun _ _ z => kO_mono (fun _ z => ⟨z.1, hX _ _ _ _ _ z.2⟩) z) h
  case anewarray => exact k1i_mono (fun _ _ z => ⟨z.1, hX _ _ _ _ _ z.2⟩) h
  case arraylength =>
    refine k1r_mono (fun q r z => ?_) h
    split at z
    · exact hX _ _ _ _ _ z
    · exact kLen_mono (fun _ z => hX _ _ _ _ _ z) z
  case iaload =>
    refine kir_mono (fun x q r z => ?_) h
    split at z
    · exact ⟨z.1, hX _ _ _ _ _ z.2⟩
    · exact kAI_mono (fun _ _ z => ⟨z.1, hX _ _ _ _ _ z.2⟩) z
  case baload => exact kir_mono (fun _ _ _ z => kAB_mono (fun _ _ _ z => ⟨z.1, hX _ _ _ _ _ z.2⟩) z) h
  case laload => exact kir_mono (fun _ _ _ z => kAL_mono (fun _ _ z => ⟨z.1, hX _ _ _ _ _ z.2⟩) z) h
  case aaload => exact kir_mono (fun _ _ _ z => kAR_mono (fun _ _ _ z => ⟨z.1, hX _ _ _ _ _ z.2⟩) z) h
  case iastore => exact kiir_mono (fun _ _ _ _ z => kAI_mono (fun _ _ z => ⟨z.1, hX _ _ _ _ _ z.2⟩) z) h
  case bastore => exact kiir_mono (fun _ _ _ _ z => kAB_mono (fun _ _ _ z => ⟨z.1, hX _ _ _ _ _ z.2⟩) z) h
  case lastore => exact klir_mono (fun _ _ _ _ z => kAL_mono (fun _ _ z => ⟨z.1, hX _ _ _ _ _ z.2⟩) z) h
  case aastore => exact kvir_mono (fun _ _ _ _ z => kAR_mono (fun _ _ _ z => ⟨z.1, k1q_mono (fun _ _ z => kObj_mono (fun _ _ z => kB_mono (fun z => hX _ _ _ _ _ z) z) z) (fun _ z => hX _ _ _ _ _ z) z.2⟩) z) h
  case instanceof => exact k1r_mono (fun _ _ z => kObj_mono (fun _ _ z => kB_mono (fun z => hX _ _ _ _ _ z) z) z) h
  case invokestatic => exact goS_weak (f := f) hc hX h
  case invokespecial => exact goI_weak (f := f) hc hX h
  case invokevirtual => exact goV_weak (f := f) hc hX h
  case ireturn => exact k1i_mono (fun _ _ z => kE_mono (fun z => kRet_mono (fun z => hP _ _ z) z) z) h
  case lreturn => exact k1l_mono (fun _ _ z => kE_mono (fun z => kB_mono (fun z => hP _ _ z) z) z) h
  case areturn => exact k1v_mono (fun _ _ z => kE_mono (fun z => kR_mono (fun z => kB_mono (fun z => hP _ _ z) z) z) z) h
  case return_ => exact kE_mono (fun z => kB_mono (fun z => hP _ _ z) z) h
  all_goals first
    | exact kL_weak hl (fun _ z => kI_mono (fun _ z => hS _ _ _ _ _ _ _ z) z) h
    | exact k1i_mono (fun _ _ z => hS _ _ _ _ _ _ _ z) h
    | exact k1v_mono (fun _ _ z => kR_mono (fun z => hS _ _ _ _ _ _ _ z) z) h
    | exact hX _ _ _ _ _ h
    | exact kL_weak hl (fun _ z => kI_mono (fun _ z => hX _ _ _ _ _ z) z) h
    | exact kL_weak hl (fun _ z => kJ_mono (fun _ z => hX _ _ _ _ _ z) z) h
    | exact kL_weak hl (fun _ z => kR_mono (fun z => hX _ _ _ _ _ z) z) h
    | exact k1i_mono (fun _ _ z => hX _ _ _ _ _ z) h
    | exact k2i_mono (fun _ _ _ z => hX _ _ _ _ _ z) h
    | exact k2i_mono (fun _ _ _ z => ⟨z.1, hX _ _ _ _ _ z.2⟩) h
    | exact k1l_mono (fun _ _ z => hX _ _ _ _ _ z) h
    | exact k2l_mono (fun _ _ _ z => hX _ _ _ _ _ z) h
    | exact kil_mono (fun _ _ _ z => hX _ _ _ _ _ z) h
    | exact k1v_mono (fun _ _ z => kR_mono (fun z => hX _ _ _ _ _ z) z) h
    | exact k1v_mono (fun _ _ z => kB_mono (fun z => hX _ _ _ _ _ z) z) h
    | exact k2v_mono (fun _ _ _ z => kB_mono (fun z => hX _ _ _ _ _ z) z) h
    | exact h.elim
theorem Wp.weak {M : MI} {d : Nat} {scr : Option (Nat × (Nat → Int32))} {bd : Nat × Nat} {P : Option Value → Hp → Prop} {pc : Nat} {A B : Lc} {st : List Value} {σ : Hp} {c m : Nat} (hl : leL A B) (h : Wp M (Ev d) scr bd P (pc, A, st, σ, c, m)) : Wp M (Ev d) scr bd P (pc, B, st, σ, c, m) := by
  intro X hX
  refine h (fun q => ∀ B, leL q.2.1 B → X (q.1, B, q.2.2)) (fun q z B hl => hX _ ?_) B hl
  obtain ⟨pc, L, st, σ, c, m⟩ := q
  dsimp only [stepP] at z ⊢
  split at z
  · exact stepE_weak (Ev.mono d) hl (fun pc st σ c m z => z _ hl) (fun a v pc st σ c m z => z _ ((hl.c1 a).s1 a v)) (fun _ _ z => z) z
  · exact z.elim
