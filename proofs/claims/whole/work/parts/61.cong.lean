/-! SUPPERS: what a row's worth depends on -/
theorem maskB_cong {a b : Nat → Nat} {s : Nat} : ∀ v, (∀ j, j < v → a j = b j) → maskB a s v = maskB b s v
  | 0, _ => rfl
  | v + 1, h => by
    show maskB a s v + (if a v = s then 2 ^ v else 0) = maskB b s v + (if b v = s then 2 ^ v else 0)
    rw [maskB_cong v (fun j hj => h j (by omega)), h v (by omega)]
theorem rowW_cong {S : St} {LV : Nat → Nat → Nat → Int32 → Nat → Int32} {nh nd gap : Nat} {tb : Int32} {a b : Nat → Nat} : ∀ v, (∀ j, j < v → a j = b j) → rowW S LV nh tb nd gap a v = rowW S LV nh tb nd gap b v
  | 0, _ => rfl
  | v + 1, h => by
    show rowW S LV nh tb nd gap a v + WS S LV nh tb nd gap v (a v) (maskB a (a v) v) = rowW S LV nh tb nd gap b v + WS S LV nh tb nd gap v (b v) (maskB b (b v) v)
    rw [rowW_cong v (fun j hj => h j (by omega)), h v (by omega), maskB_cong v (fun j hj => h j (by omega))]
theorem nxD_lt {ns : Nat} (n8 : ns ≤ 8) : ∀ p (c : Nat → Nat), (∀ j, j < 3 → c j < 8) → ∀ j, j < 3 → (nxD ns p c).2 j < 8
  | 0, _, h => h
  | p + 1, c, h => by
    intro j hj
    unfold nxD
    split
    · show (if j = p then c p + 1 else c j) < 8
      split
      · omega
      · exact h j hj
    · refine nxD_lt n8 p _ (fun i hi => ?_) j hj
      show (if i = p then 0 else c i) < 8
      split
      · omega
      · exact h i hi
