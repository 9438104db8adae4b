/-! MONO: what an instruction asks of what comes next is monotone -/
theorem k1i_mono {st : List Value} {f g : Int32 → List Value → Prop} (h : ∀ x r, f x r → g x r) (k : k1i st f) : k1i st g := by
  unfold k1i at k ⊢
  split at k
  · exact h _ _ k
  · exact k.elim
theorem k2i_mono {st : List Value} {f g : Int32 → Int32 → List Value → Prop} (h : ∀ x y r, f x y r → g x y r) (k : k2i st f) : k2i st g := by
  unfold k2i at k ⊢
  split at k
  · exact h _ _ _ k
  · exact k.elim
theorem k1l_mono {st : List Value} {f g : Int64 → List Value → Prop} (h : ∀ x r, f x r → g x r) (k : k1l st f) : k1l st g := by
  unfold k1l at k ⊢
  split at k
  · exact h _ _ k
  · exact k.elim
theorem k2l_mono {st : List Value} {f g : Int64 → Int64 → List Value → Prop} (h : ∀ x y r, f x y r → g x y r) (k : k2l st f) : k2l st g := by
  unfold k2l at k ⊢
  split at k
  · exact h _ _ _ k
  · exact k.elim
theorem kil_mono {st : List Value} {f g : Int64 → Int32 → List Value → Prop} (h : ∀ x y r, f x y r → g x y r) (k : kil st f) : kil st g := by
  unfold kil at k ⊢
  split at k
  · exact h _ _ _ k
  · exact k.elim
theorem k1r_mono {st : List Value} {f g : Nat → List Value → Prop} (h : ∀ a r, f a r → g a r) (k : k1r st f) : k1r st g := by
  unfold k1r at k ⊢
  split at k
  · exact h _ _ k
  · exact k.elim
theorem k1v_mono {st : List Value} {f g : Value → List Value → Prop} (h : ∀ v r, f v r → g v r) (k : k1v st f) : k1v st g := by
  unfold k1v at k ⊢
  split at k
  · exact h _ _ k
  · exact k.elim
theorem k2v_mono {st : List Value} {f g : Value → Value → List Value → Prop} (h : ∀ v w r, f v w r → g v w r) (k : k2v st f) : k2v st g := by
  unfold k2v at k ⊢
  split at k
  · exact h _ _ _ k
  · exact k.elim
theorem kir_mono {st : List Value} {f g : Int32 → Nat → List Value → Prop} (h : ∀ i a r, f i a r → g i a r) (k : kir st f) : kir st g := by
  unfold kir at k ⊢
  split at k
  · exact h _ _ _ k
  · exact k.elim
theorem kiir_mono {st : List Value} {f g : Int32 → Int32 → Nat → List Value → Prop} (h : ∀ x i a r, f x i a r → g x i a r) (k : kiir st f) : kiir st g := by
  unfold kiir at k ⊢
  split at k
  · exact h _ _ _ _ k
  · exact k.elim
theorem klir_mono {st : List Value} {f g : Int64 → Int32 → Nat → List Value → Prop} (h : ∀ x i a r, f x i a r → g x i a r) (k : klir st f) : klir st g := by
  unfold klir at k ⊢
  split at k
  · exact h _ _ _ _ k
  · exact k.elim
theorem kvir_mono {st : List Value} {f g : Value → Int32 → Nat → List Value → Prop} (h : ∀ v i a r, f v i a r → g v i a r) (k : kvir st f) : kvir st g := by
  unfold kvir at k ⊢
  split at k
  · exact h _ _ _ _ k
  · exact k.elim
theorem kvr_mono {st : List Value} {f g : Value → Nat → List Value → Prop} (h : ∀ v a r, f v a r → g v a r) (k : kvr st f) : kvr st g := by
  unfold kvr at k ⊢
  split at k
  · exact h _ _ _ k
  · exact k.elim
theorem kcp_mono {st : List Value} {f g : Int32 → Int32 → Nat → Int32 → Nat → List Value → Prop} (h : ∀ n d b s a r, f n d b s a r → g n d b s a r) (k : kcp st f) : kcp st g := by
  unfold kcp at k ⊢
  split at k
  · exact h _ _ _ _ _ _ k
  · exact k.elim
theorem kObj_mono {σ : Hp} {a : Nat} {f g : Nat → List Value → Prop} (h : ∀ ci fs, f ci fs → g ci fs) (k : kObj σ a f) : kObj σ a g := by
  unfold kObj at k ⊢
  split at k
  · exact h _ _ k
  · exact k.elim
theorem kLen_mono {σ : Hp} {a : Nat} {f g : Nat → Prop} (h : ∀ n, f n → g n) (k : kLen σ a f) : kLen σ a g := by
  unfold kLen at k ⊢
  split at k
  · exact h _ k
  · exact k.elim
theorem kAI_mono {σ : Hp} {a : Nat} {f g : Nat → (Nat → Int32) → Prop} (h : ∀ n t, f n t → g n t) (k : kAI σ a f) : kAI σ a g := by
  unfold kAI at k ⊢
  split at k
  · exact h _ _ k
  · exact k.elim
theorem kAL_mono {σ : Hp} {a : Nat} {f g : Nat → (Nat → Int64) → Prop} (h : ∀ n t, f n t → g n t) (k : kAL σ a f) : kAL σ a g := by
  unfold kAL at k ⊢
  split at k
  · exact h _ _ k
  · exact k.elim
theorem kAR_mono {σ : Hp} {a : Nat} {f g : String → Nat → (Nat → Option Nat) → Prop} (h : ∀ C n t, f C n t → g C n t) (k : kAR σ a f) : kAR σ a g := by
  unfold kAR at k ⊢
  split at k
  · exact h _ _ _ k
  · exact k.elim
theorem kL_mono {σ : Lc} {a : Nat} {f g : Value → Prop} (h : ∀ v, f v → g v) (k : kL σ a f) : kL σ a g := by
  unfold kL at k ⊢
  split at k
  · exact h _ k
  · exact k.elim
theorem kV_mono {σ : List Value} {a : Nat} {f g : Value → Prop} (h : ∀ v, f v → g v) (k : kV σ a f) : kV σ a g := by
  unfold kV at k ⊢
  split at k
  · exact h _ k
  · exact k.elim
theorem kAB_mono {σ : Hp} {a : Nat} {f g : FieldType → Nat → (Nat → Int32) → Prop} (h : ∀ ty n t, f ty n t → g ty n t) (k : kAB σ a f) : kAB σ a g := by
  unfold kAB at k ⊢
  split at k
  · exact h _ _ _ k
  · exact h _ _ _ k
  · exact k.elim
theorem kB_mono {b : Bool} {f g : Prop} (h : f → g) (k : kB b f) : kB b g := by
  unfold kB at k ⊢
  split at k
  · exact h k
  · exact k.elim
theorem kRet_mono {ret : Option FieldType} {x : Int32} {f g : Prop} (h : f → g) (k : kRet ret x f) : kRet ret x g := by
  unfold kRet at k ⊢
  split at k
  · exact h k
  · exact ⟨k.1, h k.2⟩
  · exact k.elim
theorem kO_mono {α : Type} {o : Option α} {f g : α → Prop} (h : ∀ v, f v → g v) (k : kO o f) : kO o g := by
  unfold kO at k ⊢
  split at k
  · exact h _ k
  · exact k.elim
theorem kI_mono {v : Value} {f g : Int32 → Prop} (h : ∀ x, f x → g x) (k : kI v f) : kI v g := by
  unfold kI at k ⊢
  split at k
  · exact h _ k
  · exact k.elim
theorem kJ_mono {v : Value} {f g : Int64 → Prop} (h : ∀ x, f x → g x) (k : kJ v f) : kJ v g := by
  unfold kJ at k ⊢
  split at k
  · exact h _ k
  · exact k.elim
theorem kR_mono {v : Value} {f g : Prop} (h : f → g) (k : kR v f) : kR v g := by
  unfold kR at k ⊢
  split at k
  · exact h k
  · exact h k
  · exact k.elim
theorem kE_mono {st : List Value} {f g : Prop} (h : f → g) (k : kE st f) : kE st g := by
  unfold kE at k ⊢
  split at k
  · exact h k
  · exact k.elim
theorem k1q_mono {st : List Value} {f g : Nat → List Value → Prop} {f' g' : List Value → Prop} (h : ∀ a r, f a r → g a r) (h' : ∀ r, f' r → g' r) (k : k1q st f f') : k1q st g g' := by
  unfold k1q at k ⊢
  split at k
  · exact h _ _ k
  · exact h' _ k
  · exact k.elim
theorem kS_mono {x : Int32} {d d' : Prop} {f g : Nat → Prop} (hd : d → d') (h : ∀ t, f t → g t) : ∀ (s : List (Int32 × Nat)), kS x d f s → kS x d' g s
  | [], k => hd k
  | (_, _) :: r, k => ⟨fun z => h _ (k.1 z), fun z => kS_mono hd h r (k.2 z)⟩
theorem kcall_mono {cal : Cal} (hc : MonoC cal) {mi : Nat} {as : List Value} {σ : Hp} {rest : List Value} {c m : Nat} {bd : Nat × Nat} {K K' : Option Value → Hp → Nat → Nat → Prop} (h : ∀ v σ' c' m', K v σ' c' m' → K' v σ' c' m') (k : kcall cal mi as σ rest c m bd K) : kcall cal mi as σ rest c m bd K' := by
  refine kB_mono (fun k => ?_) k
  obtain ⟨mc, ms, h2, h3⟩ := k
  exact ⟨mc, ms, h2, hc _ _ _ _ _ _ _ (fun v σ' z => h _ _ _ _ z) h3⟩
theorem goS_mono {cal : Cal} (hc : MonoC cal) {bd : Nat × Nat} {X Y : Cf → Prop} (hX : ∀ q, X q → Y q) {pc : Nat} {L : Lc} {st : List Value} {σ : Hp} {c m a b d f : Nat} (h : goS cal bd X pc L st σ c m a b d f) : goS cal bd Y pc L st σ c m a b d f := by
  unfold goS at h ⊢
  split at h
  · exact kcp_mono (fun _ _ _ _ _ _ z => kB_mono (fun z => kAL_mono (fun _ _ z => kAL_mono (fun _ _ z => ⟨z.1, hX _ z.2⟩) z) z) z) h
  · exact k2i_mono (fun _ _ _ z => kB_mono (fun z => hX _ z) z) h
  · exact k2i_mono (fun _ _ _ z => kB_mono (fun z => hX _ z) z) h
  · exact kO_mono (fun _ z => kcall_mono hc (fun _ _ _ _ z => hX _ z) z) h
theorem goI_mono {cal : Cal} (hc : MonoC cal) {bd : Nat × Nat} {X Y : Cf → Prop} (hX : ∀ q, X q → Y q) {pc : Nat} {L : Lc} {st : List Value} {σ : Hp} {c m a b d f : Nat} (h : goI cal bd X pc L st σ c m a b d f) : goI cal bd Y pc L st σ c m a b d f := by
  unfold goI at h ⊢
  split at h
  · exact k1r_mono (fun _ _ z => kB_mono (fun z => hX _ z) z) h
  · exact kO_mono (fun _ z => k1r_mono (fun _ _ z => kObj_mono (fun _ _ z => kB_mono (fun z => kcall_mono hc (fun _ _ _ _ z => hX _ z) z) z) z) z) h
  · exact kO_mono (fun _ z => k1r_mono (fun _ _ z => kcall_mono hc (fun _ _ _ _ z => hX _ z) z) z) h
theorem goV_mono {cal : Cal} (hc : MonoC cal) {bd : Nat × Nat} {X Y : Cf → Prop} (hX : ∀ q, X q → Y q) {pc : Nat} {L : Lc} {st : List Value} {σ : Hp} {c m a b d f : Nat} (h : goV cal bd X pc L st σ c m a b d f) : goV cal bd Y pc L st σ c m a b d f := by
  unfold goV at h ⊢
  split at h
  · exact kO_mono (fun _ z => k1r_mono (fun _ _ z => kObj_mono (fun _ _ z => kB_mono (fun z => kcall_mono hc (fun _ _ _ _ z => hX _ z) z) z) z) z) h
  · exact kO_mono (fun _ z => k1r_mono (fun _ _ z => kObj_mono (fun _ _ z => kO_mono (fun _ z => kcall_mono hc (fun _ _ _ _ z => hX _ z) z) z) z) z) h
  · exact k1r_mono (fun _ _ z => kB_mono (fun z => hX _ z) z) h
  · exact kir_mono (fun _ _ _ z => kB_mono (fun z => ⟨z.1, hX _ z.2⟩) z) h
set_option maxHeartbeats 4000000 in
theorem stepE_mono {ret : Option FieldType} {cal : Cal} (hc : MonoC cal) {scr : Option (Nat × (Nat → Int32))} {bd : Nat × Nat} {X Y : Cf → Prop} {P P' : Option Value → Hp → Prop} (hX : ∀ q, X q → Y q) (hP : ∀ v σ, P v σ → P' v σ) {pc : Nat} {L : Lc} {st : List Value} {σ : Hp} {c m : Nat} {i : Instr} {len a b d f : Nat} {k : Int32} {j : Int64} {s : List (Int32 × Nat)}
    (h : stepE ret cal scr bd X P pc L st σ c m i len a b d f k j s) : stepE ret cal scr bd Y P' pc L st σ c m i len a b d f k j s := by
  cases i
  case ifCond cnd off => cases cnd <;> exact k1i_mono (fun _ _ z => ⟨fun y => hX _ (z.1 y), fun y => hX _ (z.2 y)⟩) h
  case if_icmp cnd off => cases cnd <;> exact k2i_mono (fun _ _ _ z => ⟨fun y => hX _ (z.1 y), fun y => hX _ (z.2 y)⟩) h
  case tableswitch => exact k1i_mono (fun _ _ z => kS_mono (hX _) (fun _ => hX _) _ z) h
  case lookupswitch => exact k1i_mono (fun _ _ z => kS_mono (hX _) (fun _ => hX _) _ z) h
  case ifnull => exact k1q_mono (fun _ _ z => hX _ z) (fun _ z => hX _ z) h
  case ifnonnull => exact k1q_mono (fun _ _ z => hX _ z) (fun _ z => hX _ z) h
  case ldc =>
    cases a
    · exact hX _ h
    · exact hX _ h
  case getfield => exact k1r_mono (fun _ _ z => kObj_mono (fun _ _ z => kB_mono (fun z => kV_mono (fun _ z => hX _ z) z) z) z) h
  case putfield => exact kvr_mono (fun _ _ _ z => kObj_mono (fun _ _ z => kB_mono (fun z => kV_mono (fun _ z => hX _ z) z) z) z) h
  case new => exact ⟨h.1, hX _ h.2⟩
  case newarray => exact k1i_mono (fun _ _ z => kO_mono (fun _ z => ⟨z.1, hX _ z.2⟩) z) h
  case anewarray => exact k1i_mono (fun _ _ z => ⟨z.1, hX _ z.2⟩) h
  case arraylength =>
    refine k1r_mono (fun q r z => ?_) h
    split at z
    · exact hX _ z
    · exact kLen_mono (fun _ z => hX _ z) z
  case iaload =>
    refine kir_mono (fun x q r z => ?_) h
    split at z
    · exact ⟨z.1, hX _ z.2⟩
    · exact kAI_mono (fun _ _ z => ⟨z.1, hX _ z.2⟩) z
  case baload => exact kir_mono (fun _ _ _ z => kAB_mono (fun _ _ _ z => ⟨z.1, hX _ z.2⟩) z) h
  case laload => exact kir_mono (fun _ _ _ z => kAL_mono (fun _ _ z => ⟨z.1, hX _ z.2⟩) z) h
  case aaload => exact kir_mono (fun _ _ _ z => kAR_mono (fun _ _ _ z => ⟨z.1, hX _ z.2⟩) z) h
  case iastore => exact kiir_mono (fun _ _ _ _ z => kAI_mono (fun _ _ z => ⟨z.1, hX _ z.2⟩) z) h
  case bastore => exact kiir_mono (fun _ _ _ _ z => kAB_mono (fun _ _ _ z => ⟨z.1, hX _ z.2⟩) z) h
  case lastore => exact klir_mono (fun _ _ _ _ z => kAL_mono (fun _ _ z => ⟨z.1, hX _ z.2⟩) z) h
  case aastore => exact kvir_mono (fun _ _ _ _ z => kAR_mono (fun _ _ _ z => ⟨z.1, k1q_mono (fun _ _ z => kObj_mono (fun _ _ z => kB_mono (fun z => hX _ z) z) z) (fun _ z => hX _ z) z.2⟩) z) h
  case instanceof => exact k1r_mono (fun _ _ z => kObj_mono (fun _ _ z => kB_mono (fun z => hX _ z) z) z) h
  case invokestatic => exact goS_mono (f := f) hc hX h
  case invokespecial => exact goI_mono (f := f) hc hX h
  case invokevirtual => exact goV_mono (f := f) hc hX h
  case ireturn => exact k1i_mono (fun _ _ z => kE_mono (fun z => kRet_mono (fun z => hP _ _ z) z) z) h
  case lreturn => exact k1l_mono (fun _ _ z => kE_mono (fun z => kB_mono (fun z => hP _ _ z) z) z) h
  case areturn => exact k1v_mono (fun _ _ z => kE_mono (fun z => kR_mono (fun z => kB_mono (fun z => hP _ _ z) z) z) z) h
  case return_ => exact kE_mono (fun z => kB_mono (fun z => hP _ _ z) z) h
  all_goals first
    | exact hX _ h
    | exact kL_mono (fun _ z => kI_mono (fun _ z => hX _ z) z) h
    | exact kL_mono (fun _ z => kJ_mono (fun _ z => hX _ z) z) h
    | exact kL_mono (fun _ z => kR_mono (fun z => hX _ z) z) h
    | exact k1i_mono (fun _ _ z => hX _ z) h
    | exact k2i_mono (fun _ _ _ z => hX _ z) h
    | exact k2i_mono (fun _ _ _ z => ⟨z.1, hX _ z.2⟩) h
    | exact k1l_mono (fun _ _ z => hX _ z) h
    | exact k2l_mono (fun _ _ _ z => hX _ z) h
    | exact kil_mono (fun _ _ _ z => hX _ z) h
    | exact k1v_mono (fun _ _ z => kR_mono (fun z => hX _ z) z) h
    | exact k1v_mono (fun _ _ z => kB_mono (fun z => hX _ z) z) h
    | exact k2v_mono (fun _ _ _ z => kB_mono (fun z => hX _ z) z) h
    | exact h.elim
theorem stepP_mono {M : MI} {cal : Cal} (hc : MonoC cal) {scr : Option (Nat × (Nat → Int32))} {bd : Nat × Nat} {X Y : Cf → Prop} {P P' : Option Value → Hp → Prop} (hX : ∀ q, X q → Y q) (hP : ∀ v σ, P v σ → P' v σ) {q : Cf} (h : stepP M cal scr bd X P q) : stepP M cal scr bd Y P' q := by
  obtain ⟨pc, L, st, σ, c, m⟩ := q
  dsimp only [stepP] at h ⊢
  split at h
  · exact stepE_mono hc hX hP h
  · exact h.elim
theorem Wp.mono {M : MI} {cal : Cal} (hc : MonoC cal) {scr : Option (Nat × (Nat → Int32))} {bd : Nat × Nat} {P P' : Option Value → Hp → Prop} (hP : ∀ v σ, P v σ → P' v σ) {q : Cf} (h : Wp M cal scr bd P q) : Wp M cal scr bd P' q :=
  fun X hX => h X (fun q z => hX q (stepP_mono hc (fun _ z => z) hP z))
theorem Wp.step {M : MI} {cal : Cal} (hc : MonoC cal) {scr : Option (Nat × (Nat → Int32))} {bd : Nat × Nat} {P : Option Value → Hp → Prop} {q : Cf} (h : stepP M cal scr bd (Wp M cal scr bd P) P q) : Wp M cal scr bd P q :=
  fun X hX => hX q (stepP_mono hc (fun q z => z X hX) (fun _ _ z => z) h)
theorem Ev.mono : ∀ d, MonoC (Ev d)
  | 0 => fun _ _ _ _ _ _ _ _ h => h.elim
  | d + 1 => fun _ _ _ _ _ _ _ hP h => kO_mono (fun _ z => ⟨z.1, Wp.mono (Ev.mono d) hP z.2⟩) h
/-- n steps -/
def stepN (M : MI) (cal : Cal) (scr : Option (Nat × (Nat → Int32))) (bd : Nat × Nat) (X : Cf → Prop) (P : Option Value → Hp → Prop) : Nat → Cf → Prop
  | 0 => X
  | n + 1 => stepP M cal scr bd (stepN M cal scr bd X P n) P
theorem Wp.steps {M : MI} {d : Nat} {scr : Option (Nat × (Nat → Int32))} {bd : Nat × Nat} {P : Option Value → Hp → Prop} : ∀ (n : Nat) {q : Cf}, stepN M (Ev d) scr bd (Wp M (Ev d) scr bd P) P n q → Wp M (Ev d) scr bd P q
  | 0, _, h => h
  | n + 1, _, h => Wp.step (Ev.mono d) (stepP_mono (Ev.mono d) (fun _ z => Wp.steps n z) (fun _ _ z => z) h)
/-! the same, with the bounds of what is made -/
theorem kcall_bd {cal : Cal} (hc : MonoC cal) {mi : Nat} {as : List Value} {σ : Hp} {rest : List Value} {c m : Nat} {bd : Nat × Nat} {K K' : Option Value → Hp → Nat → Nat → Prop} (h : ∀ v σ' c' m', (c' ≤ bd.1 ∧ m' ≤ bd.2) → K v σ' c' m' → K' v σ' c' m') (k : kcall cal mi as σ rest c m bd K) : kcall cal mi as σ rest c m bd K' := by
  refine kB_mono (fun k => ?_) k
  obtain ⟨mc, ms, h2, h3⟩ := k
  exact ⟨mc, ms, h2, hc _ _ _ _ _ _ _ (fun v σ' z => h _ _ _ _ h2 z) h3⟩
theorem goS_bd {cal : Cal} (hc : MonoC cal) {bd : Nat × Nat} {X Y : Cf → Prop} (hX : ∀ q, (q.2.2.2.2.1 ≤ bd.1 ∧ q.2.2.2.2.2 ≤ bd.2) → X q → Y q) {pc : Nat} {L : Lc} {st : List Value} {σ : Hp} {c m a b d f : Nat} (hb : c ≤ bd.1 ∧ m ≤ bd.2) (h : goS cal bd X pc L st σ c m a b d f) : goS cal bd Y pc L st σ c m a b d f := by
  unfold goS at h ⊢
  split at h
  · exact kcp_mono (fun _ _ _ _ _ _ z => kB_mono (fun z => kAL_mono (fun _ _ z => kAL_mono (fun _ _ z => ⟨z.1, hX _ hb z.2⟩) z) z) z) h
  · exact k2i_mono (fun _ _ _ z => kB_mono (fun z => hX _ hb z) z) h
  · exact k2i_mono (fun _ _ _ z => kB_mono (fun z => hX _ hb z) z) h
  · exact kO_mono (fun _ z => kcall_bd hc (fun _ _ _ _ y z => hX _ y z) z) h
theorem goI_bd {cal : Cal} (hc : MonoC cal) {bd : Nat × Nat} {X Y : Cf → Prop} (hX : ∀ q, (q.2.2.2.2.1 ≤ bd.1 ∧ q.2.2.2.2.2 ≤ bd.2) → X q → Y q) {pc : Nat} {L : Lc} {st : List Value} {σ : Hp} {c m a b d f : Nat} (hb : c ≤ bd.1 ∧ m ≤ bd.2) (h : goI cal bd X pc L st σ c m a b d f) : goI cal bd Y pc L st σ c m a b d f := by
  unfold goI at h ⊢
  split at h
  · exact k1r_mono (fun _ _ z => kB_mono (fun z => hX _ hb z) z) h
  · exact kO_mono (fun _ z => k1r_mono (fun _ _ z => kObj_mono (fun _ _ z => kB_mono (fun z => kcall_bd hc (fun _ _ _ _ y z => hX _ y z) z) z) z) z) h
  · exact kO_mono (fun _ z => k1r_mono (fun _ _ z => kcall_bd hc (fun _ _ _ _ y z => hX _ y z) z) z) h
theorem goV_bd {cal : Cal} (hc : MonoC cal) {bd : Nat × Nat} {X Y : Cf → Prop} (hX : ∀ q, (q.2.2.2.2.1 ≤ bd.1 ∧ q.2.2.2.2.2 ≤ bd.2) → X q → Y q) {pc : Nat} {L : Lc} {st : List Value} {σ : Hp} {c m a b d f : Nat} (hb : c ≤ bd.1 ∧ m ≤ bd.2) (h : goV cal bd X pc L st σ c m a b d f) : goV cal bd Y pc L st σ c m a b d f := by
  unfold goV at h ⊢
  split at h
  · exact kO_mono (fun _ z => k1r_mono (fun _ _ z => kObj_mono (fun _ _ z => kB_mono (fun z => kcall_bd hc (fun _ _ _ _ y z => hX _ y z) z) z) z) z) h
  · exact kO_mono (fun _ z => k1r_mono (fun _ _ z => kObj_mono (fun _ _ z => kO_mono (fun _ z => kcall_bd hc (fun _ _ _ _ y z => hX _ y z) z) z) z) z) h
  · exact k1r_mono (fun _ _ z => kB_mono (fun z => hX _ hb z) z) h
  · exact kir_mono (fun _ _ _ z => kB_mono (fun z => ⟨z.1, hX _ hb z.2⟩) z) h
set_option maxHeartbeats 4000000 in
theorem stepE_bd {ret : Option FieldType} {cal : Cal} (hc : MonoC cal) {scr : Option (Nat × (Nat → Int32))} {bd : Nat × Nat} {X Y : Cf → Prop} {P P' : Option Value → Hp → Prop} (hX : ∀ q, (q.2.2.2.2.1 ≤ bd.1 ∧ q.2.2.2.2.2 ≤ bd.2) → X q → Y q) (hP : ∀ v σ, P v σ → P' v σ) {pc : Nat} {L : Lc} {st : List Value} {σ : Hp} {c m : Nat} {i : Instr} {len a b d f : Nat} {k : Int32} {j : Int64} {s : List (Int32 × Nat)} (hb : c ≤ bd.1 ∧ m ≤ bd.2)
    (h : stepE ret cal scr bd X P pc L st σ c m i len a b d f k j s) : stepE ret cal scr bd Y P' pc L st σ c m i len a b d f k j s := by
  cases i
  case ifCond cnd off => cases cnd <;> exact k1i_mono (fun _ _ z => ⟨fun y => hX _ hb (z.1 y), fun y => hX _ hb (z.2 y)⟩) h
  case if_icmp cnd off => cases cnd <;> exact k2i_mono (fun _ _ _ z => ⟨fun y => hX _ hb (z.1 y), fun y => hX _ hb (z.2 y)⟩) h
  case tableswitch => exact k1i_mono (fun _ _ z => kS_mono (hX _ hb) (fun _ => hX _ hb) _ z) h
  case lookupswitch => exact k1i_mono (fun _ _ z => kS_mono (hX _ hb) (fun _ => hX _ hb) _ z) h
  case ifnull => exact k1q_mono (fun _ _ z => hX _ hb z) (fun _ z => hX _ hb z) h
  case ifnonnull => exact k1q_mono (fun _ _ z => hX _ hb z) (fun _ z => hX _ hb z) h
  case ldc =>
    cases a
    · exact hX _ hb h
    · exact hX _ hb h
  case getfield => exact k1r_mono (fun _ _ z => kObj_mono (fun _ _ z => kB_mono (fun z => kV_mono (fun _ z => hX _ hb z) z) z) z) h
  case putfield => exact kvr_mono (fun _ _ _ z => kObj_mono (fun _ _ z => kB_mono (fun z => kV_mono (fun _ z => hX _ hb z) z) z) z) h
  case new => exact ⟨h.1, hX _ h.1 h.2⟩
  case newarray => exact k1i_mono (fun _ _ z => kO_mono (fun _ z => ⟨z.1, hX _ z.1.2.2 z.2⟩) z) h
  case anewarray => exact k1i_mono (fun _ _ z => ⟨z.1, hX _ z.1.2.2 z.2⟩) h
  case arraylength =>
    refine k1r_mono (fun q r z => ?_) h
    split at z
    · exact hX _ hb z
    · exact kLen_mono (fun _ z => hX _ hb z) z
  case iaload =>
    refine kir_mono (fun x q r z => ?_) h
    split at z
    · exact ⟨z.1, hX _ hb z.2⟩
    · exact kAI_mono (fun _ _ z => ⟨z.1, hX _ hb z.2⟩) z
  case baload => exact kir_mono (fun _ _ _ z => kAB_mono (fun _ _ _ z => ⟨z.1, hX _ hb z.2⟩) z) h
  case laload => exact kir_mono (fun _ _ _ z => kAL_mono (fun _ _ z => ⟨z.1, hX _ hb z.2⟩) z) h
  case aaload => exact kir_mono (fun _ _ _ z => kAR_mono (fun _ _ _ z => ⟨z.1, hX _ hb z.2⟩) z) h
  case iastore => exact kiir_mono (fun _ _ _ _ z => kAI_mono (fun _ _ z => ⟨z.1, hX _ hb z.2⟩) z) h
  case bastore => exact kiir_mono (fun _ _ _ _ z => kAB_mono (fun _ _ _ z => ⟨z.1, hX _ hb z.2⟩) z) h
  case lastore => exact klir_mono (fun _ _ _ _ z => kAL_mono (fun _ _ z => ⟨z.1, hX _ hb z.2⟩) z) h
  case aastore => exact kvir_mono (fun _ _ _ _ z => kAR_mono (fun _ _ _ z => ⟨z.1, k1q_mono (fun _ _ z => kObj_mono (fun _ _ z => kB_mono (fun z => hX _ hb z) z) z) (fun _ z => hX _ hb z) z.2⟩) z) h
  case instanceof => exact k1r_mono (fun _ _ z => kObj_mono (fun _ _ z => kB_mono (fun z => hX _ hb z) z) z) h
  case invokestatic => exact goS_bd (f := f) hc hX hb h
  case invokespecial => exact goI_bd (f := f) hc hX hb h
  case invokevirtual => exact goV_bd (f := f) hc hX hb h
  case ireturn => exact k1i_mono (fun _ _ z => kE_mono (fun z => kRet_mono (fun z => hP _ _ z) z) z) h
  case lreturn => exact k1l_mono (fun _ _ z => kE_mono (fun z => kB_mono (fun z => hP _ _ z) z) z) h
  case areturn => exact k1v_mono (fun _ _ z => kE_mono (fun z => kR_mono (fun z => kB_mono (fun z => hP _ _ z) z) z) z) h
  case return_ => exact kE_mono (fun z => kB_mono (fun z => hP _ _ z) z) h
  all_goals first
    | exact hX _ hb h
    | exact kL_mono (fun _ z => kI_mono (fun _ z => hX _ hb z) z) h
    | exact kL_mono (fun _ z => kJ_mono (fun _ z => hX _ hb z) z) h
    | exact kL_mono (fun _ z => kR_mono (fun z => hX _ hb z) z) h
    | exact k1i_mono (fun _ _ z => hX _ hb z) h
    | exact k2i_mono (fun _ _ _ z => hX _ hb z) h
    | exact k2i_mono (fun _ _ _ z => ⟨z.1, hX _ hb z.2⟩) h
    | exact k1l_mono (fun _ _ z => hX _ hb z) h
    | exact k2l_mono (fun _ _ _ z => hX _ hb z) h
    | exact kil_mono (fun _ _ _ z => hX _ hb z) h
    | exact k1v_mono (fun _ _ z => kR_mono (fun z => hX _ hb z) z) h
    | exact k1v_mono (fun _ _ z => kB_mono (fun z => hX _ hb z) z) h
    | exact k2v_mono (fun _ _ _ z => kB_mono (fun z => hX _ hb z) z) h
    | exact h.elim
