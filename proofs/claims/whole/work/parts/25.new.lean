/-! NEW: newHearer and hearer: the heap grows by one; written by gen25.py -/
theorem st_len (S : St) (hs : List Hr) : (st S hs).length = 119 + hs.length := by
  simp only [st, List.length_cons, List.length_map]
  omega
theorem st_app (S : St) (hs : List Hr) (q : Hr) : st S hs ++ [hrC q] = st S (hs ++ [q]) := by
  simp only [st, List.cons_append, List.map_append, List.map_cons, List.map_nil]
theorem gH_app (σ : Hp) (c : VC) : gH (σ ++ [c]) σ.length = some c := by
  rw [gH_eq, List.getElem?_append_right (Nat.le_refl _), Nat.sub_self]
  rfl
theorem sH_app (σ : Hp) (c c' : VC) : sH (σ ++ [c]) σ.length c' = σ ++ [c'] := by
  rw [sH_eq, List.set_append_right _ _ (Nat.le_refl _), Nat.sub_self]
  rfl
theorem gH_sH {σ : Hp} {a : Nat} {c c' : VC} (h : gH σ a = some c) : gH (sH σ a c') a = some c' := by
  rw [gH_eq, sH_eq, List.getElem?_set, if_pos rfl, if_pos (gH_lt h)]
theorem sH_sH (σ : Hp) (a : Nat) (c c' : VC) : sH (sH σ a c) a c' = sH σ a c' := by
  rw [sH_eq, sH_eq, sH_eq, List.set_set]
set_option maxRecDepth 20000 in
set_option maxHeartbeats 4000000 in
theorem e_X3_init_h0 (d : Nat) (σ : Hp) (a : Nat) (k n v : Int32) (hg : gH σ a = some (.inr (0, [.int 0, .int 0, .int 0, .null]))) (P : Option Value → Hp → Prop) (h : P none (sH σ a (hrC (0, k, n, v)))) : Ev (d + 1) ix_X3_init 0 0 [.ref a, .int k, .int n, .int v, .ref 30] σ P := by
  refine Ev.intro (M := mi_X3_init) rfl (Nat.le_of_ble_eq_true rfl) ?_
  refine Wp.stepsG 5 (fun cal X P' hk hX hP => ?_)
  show kObj σ a fun ci fs => kB (famB 3 ci && putB (ftyAt ftys ci 0) (.int k)) (kV fs 0 fun _ => X (9, [some (.ref a), some (.int k), some (.int n), some (.int v), some (.ref 30)], [], sH σ a (.inr (ci, sV fs 0 (.int k))), 0, 0))
  refine kObj_at hg ?_
  show X (9, [some (.ref a), some (.int k), some (.int n), some (.int v), some (.ref 30)], [], (sH σ a (.inr (0, [.int k, .int 0, .int 0, .null]))), 0, 0)
  refine hX _ ?_
  clear hP hX hk P' X cal
  have hg0 : gH (sH σ a (.inr (0, [.int k, .int 0, .int 0, .null]))) a = some (.inr (0, [.int k, .int 0, .int 0, .null])) := gH_sH hg
  refine Wp.stepsG 3 (fun cal X P' hk hX hP => ?_)
  show kObj (sH σ a (.inr (0, [.int k, .int 0, .int 0, .null]))) a fun ci fs => kB (famB 3 ci && putB (ftyAt ftys ci 1) (.int n)) (kV fs 1 fun _ => X (14, [some (.ref a), some (.int k), some (.int n), some (.int v), some (.ref 30)], [], sH (sH σ a (.inr (0, [.int k, .int 0, .int 0, .null]))) a (.inr (ci, sV fs 1 (.int n))), 0, 0))
  refine kObj_at hg0 ?_
  show X (14, [some (.ref a), some (.int k), some (.int n), some (.int v), some (.ref 30)], [], (sH (sH σ a (.inr (0, [.int k, .int 0, .int 0, .null]))) a (.inr (0, [.int k, .int n, .int 0, .null]))), 0, 0)
  refine hX _ ?_
  clear hP hX hk P' X cal
  have hg1 : gH (sH (sH σ a (.inr (0, [.int k, .int 0, .int 0, .null]))) a (.inr (0, [.int k, .int n, .int 0, .null]))) a = some (.inr (0, [.int k, .int n, .int 0, .null])) := gH_sH hg0
  refine Wp.stepsG 3 (fun cal X P' hk hX hP => ?_)
  show kObj (sH (sH σ a (.inr (0, [.int k, .int 0, .int 0, .null]))) a (.inr (0, [.int k, .int n, .int 0, .null]))) a fun ci fs => kB (famB 3 ci && putB (ftyAt ftys ci 2) (.int v)) (kV fs 2 fun _ => X (19, [some (.ref a), some (.int k), some (.int n), some (.int v), some (.ref 30)], [], sH (sH (sH σ a (.inr (0, [.int k, .int 0, .int 0, .null]))) a (.inr (0, [.int k, .int n, .int 0, .null]))) a (.inr (ci, sV fs 2 (.int v))), 0, 0))
  refine kObj_at hg1 ?_
  show X (19, [some (.ref a), some (.int k), some (.int n), some (.int v), some (.ref 30)], [], (sH (sH (sH σ a (.inr (0, [.int k, .int 0, .int 0, .null]))) a (.inr (0, [.int k, .int n, .int 0, .null]))) a (.inr (0, [.int k, .int n, .int v, .null]))), 0, 0)
  refine hX _ ?_
  clear hP hX hk P' X cal
  have hg2 : gH (sH (sH (sH σ a (.inr (0, [.int k, .int 0, .int 0, .null]))) a (.inr (0, [.int k, .int n, .int 0, .null]))) a (.inr (0, [.int k, .int n, .int v, .null]))) a = some (.inr (0, [.int k, .int n, .int v, .null])) := gH_sH hg1
  refine Wp.stepsG 3 (fun cal X P' hk hX hP => ?_)
  show kObj (sH (sH (sH σ a (.inr (0, [.int k, .int 0, .int 0, .null]))) a (.inr (0, [.int k, .int n, .int 0, .null]))) a (.inr (0, [.int k, .int n, .int v, .null]))) a fun ci fs => kB (famB 3 ci && putB (ftyAt ftys ci 3) (.ref 30)) (kV fs 3 fun _ => X (25, [some (.ref a), some (.int k), some (.int n), some (.int v), some (.ref 30)], [], sH (sH (sH (sH σ a (.inr (0, [.int k, .int 0, .int 0, .null]))) a (.inr (0, [.int k, .int n, .int 0, .null]))) a (.inr (0, [.int k, .int n, .int v, .null]))) a (.inr (ci, sV fs 3 (.ref 30))), 0, 0))
  refine kObj_at hg2 ?_
  show X (25, [some (.ref a), some (.int k), some (.int n), some (.int v), some (.ref 30)], [], (sH (sH (sH (sH σ a (.inr (0, [.int k, .int 0, .int 0, .null]))) a (.inr (0, [.int k, .int n, .int 0, .null]))) a (.inr (0, [.int k, .int n, .int v, .null]))) a (.inr (0, [.int k, .int n, .int v, .ref 30]))), 0, 0)
  refine hX _ ?_
  clear hP hX hk P' X cal
  have hg3 : gH (sH (sH (sH (sH σ a (.inr (0, [.int k, .int 0, .int 0, .null]))) a (.inr (0, [.int k, .int n, .int 0, .null]))) a (.inr (0, [.int k, .int n, .int v, .null]))) a (.inr (0, [.int k, .int n, .int v, .ref 30]))) a = some (.inr (0, [.int k, .int n, .int v, .ref 30])) := gH_sH hg2
  rw [sH_sH, sH_sH, sH_sH]
  refine Wp.stepsG 1 (fun cal X P' hk hX hP => ?_)
  exact hP _ _ h
set_option maxRecDepth 20000 in
set_option maxHeartbeats 4000000 in
theorem e_X3_init_h1 (d : Nat) (σ : Hp) (a : Nat) (k n v : Int32) (hg : gH σ a = some (.inr (1, [.int 0, .int 0, .int 0, .null]))) (P : Option Value → Hp → Prop) (h : P none (sH σ a (hrC (1, k, n, v)))) : Ev (d + 1) ix_X3_init 0 0 [.ref a, .int k, .int n, .int v, .ref 30] σ P := by
  refine Ev.intro (M := mi_X3_init) rfl (Nat.le_of_ble_eq_true rfl) ?_
  refine Wp.stepsG 5 (fun cal X P' hk hX hP => ?_)
  show kObj σ a fun ci fs => kB (famB 3 ci && putB (ftyAt ftys ci 0) (.int k)) (kV fs 0 fun _ => X (9, [some (.ref a), some (.int k), some (.int n), some (.int v), some (.ref 30)], [], sH σ a (.inr (ci, sV fs 0 (.int k))), 0, 0))
  refine kObj_at hg ?_
  show X (9, [some (.ref a), some (.int k), some (.int n), some (.int v), some (.ref 30)], [], (sH σ a (.inr (1, [.int k, .int 0, .int 0, .null]))), 0, 0)
  refine hX _ ?_
  clear hP hX hk P' X cal
  have hg0 : gH (sH σ a (.inr (1, [.int k, .int 0, .int 0, .null]))) a = some (.inr (1, [.int k, .int 0, .int 0, .null])) := gH_sH hg
  refine Wp.stepsG 3 (fun cal X P' hk hX hP => ?_)
  show kObj (sH σ a (.inr (1, [.int k, .int 0, .int 0, .null]))) a fun ci fs => kB (famB 3 ci && putB (ftyAt ftys ci 1) (.int n)) (kV fs 1 fun _ => X (14, [some (.ref a), some (.int k), some (.int n), some (.int v), some (.ref 30)], [], sH (sH σ a (.inr (1, [.int k, .int 0, .int 0, .null]))) a (.inr (ci, sV fs 1 (.int n))), 0, 0))
  refine kObj_at hg0 ?_
  show X (14, [some (.ref a), some (.int k), some (.int n), some (.int v), some (.ref 30)], [], (sH (sH σ a (.inr (1, [.int k, .int 0, .int 0, .null]))) a (.inr (1, [.int k, .int n, .int 0, .null]))), 0, 0)
  refine hX _ ?_
  clear hP hX hk P' X cal
  have hg1 : gH (sH (sH σ a (.inr (1, [.int k, .int 0, .int 0, .null]))) a (.inr (1, [.int k, .int n, .int 0, .null]))) a = some (.inr (1, [.int k, .int n, .int 0, .null])) := gH_sH hg0
  refine Wp.stepsG 3 (fun cal X P' hk hX hP => ?_)
  show kObj (sH (sH σ a (.inr (1, [.int k, .int 0, .int 0, .null]))) a (.inr (1, [.int k, .int n, .int 0, .null]))) a fun ci fs => kB (famB 3 ci && putB (ftyAt ftys ci 2) (.int v)) (kV fs 2 fun _ => X (19, [some (.ref a), some (.int k), some (.int n), some (.int v), some (.ref 30)], [], sH (sH (sH σ a (.inr (1, [.int k, .int 0, .int 0, .null]))) a (.inr (1, [.int k, .int n, .int 0, .null]))) a (.inr (ci, sV fs 2 (.int v))), 0, 0))
  refine kObj_at hg1 ?_
  show X (19, [some (.ref a), some (.int k), some (.int n), some (.int v), some (.ref 30)], [], (sH (sH (sH σ a (.inr (1, [.int k, .int 0, .int 0, .null]))) a (.inr (1, [.int k, .int n, .int 0, .null]))) a (.inr (1, [.int k, .int n, .int v, .null]))), 0, 0)
  refine hX _ ?_
  clear hP hX hk P' X cal
  have hg2 : gH (sH (sH (sH σ a (.inr (1, [.int k, .int 0, .int 0, .null]))) a (.inr (1, [.int k, .int n, .int 0, .null]))) a (.inr (1, [.int k, .int n, .int v, .null]))) a = some (.inr (1, [.int k, .int n, .int v, .null])) := gH_sH hg1
  refine Wp.stepsG 3 (fun cal X P' hk hX hP => ?_)
  show kObj (sH (sH (sH σ a (.inr (1, [.int k, .int 0, .int 0, .null]))) a (.inr (1, [.int k, .int n, .int 0, .null]))) a (.inr (1, [.int k, .int n, .int v, .null]))) a fun ci fs => kB (famB 3 ci && putB (ftyAt ftys ci 3) (.ref 30)) (kV fs 3 fun _ => X (25, [some (.ref a), some (.int k), some (.int n), some (.int v), some (.ref 30)], [], sH (sH (sH (sH σ a (.inr (1, [.int k, .int 0, .int 0, .null]))) a (.inr (1, [.int k, .int n, .int 0, .null]))) a (.inr (1, [.int k, .int n, .int v, .null]))) a (.inr (ci, sV fs 3 (.ref 30))), 0, 0))
  refine kObj_at hg2 ?_
  show X (25, [some (.ref a), some (.int k), some (.int n), some (.int v), some (.ref 30)], [], (sH (sH (sH (sH σ a (.inr (1, [.int k, .int 0, .int 0, .null]))) a (.inr (1, [.int k, .int n, .int 0, .null]))) a (.inr (1, [.int k, .int n, .int v, .null]))) a (.inr (1, [.int k, .int n, .int v, .ref 30]))), 0, 0)
  refine hX _ ?_
  clear hP hX hk P' X cal
  have hg3 : gH (sH (sH (sH (sH σ a (.inr (1, [.int k, .int 0, .int 0, .null]))) a (.inr (1, [.int k, .int n, .int 0, .null]))) a (.inr (1, [.int k, .int n, .int v, .null]))) a (.inr (1, [.int k, .int n, .int v, .ref 30]))) a = some (.inr (1, [.int k, .int n, .int v, .ref 30])) := gH_sH hg2
  rw [sH_sH, sH_sH, sH_sH]
  refine Wp.stepsG 1 (fun cal X P' hk hX hP => ?_)
  exact hP _ _ h
set_option maxRecDepth 20000 in
set_option maxHeartbeats 4000000 in
theorem e_X3_init_h2 (d : Nat) (σ : Hp) (a : Nat) (k n v : Int32) (hg : gH σ a = some (.inr (2, [.int 0, .int 0, .int 0, .null]))) (P : Option Value → Hp → Prop) (h : P none (sH σ a (hrC (2, k, n, v)))) : Ev (d + 1) ix_X3_init 0 0 [.ref a, .int k, .int n, .int v, .ref 30] σ P := by
  refine Ev.intro (M := mi_X3_init) rfl (Nat.le_of_ble_eq_true rfl) ?_
  refine Wp.stepsG 5 (fun cal X P' hk hX hP => ?_)
  show kObj σ a fun ci fs => kB (famB 3 ci && putB (ftyAt ftys ci 0) (.int k)) (kV fs 0 fun _ => X (9, [some (.ref a), some (.int k), some (.int n), some (.int v), some (.ref 30)], [], sH σ a (.inr (ci, sV fs 0 (.int k))), 0, 0))
  refine kObj_at hg ?_
  show X (9, [some (.ref a), some (.int k), some (.int n), some (.int v), some (.ref 30)], [], (sH σ a (.inr (2, [.int k, .int 0, .int 0, .null]))), 0, 0)
  refine hX _ ?_
  clear hP hX hk P' X cal
  have hg0 : gH (sH σ a (.inr (2, [.int k, .int 0, .int 0, .null]))) a = some (.inr (2, [.int k, .int 0, .int 0, .null])) := gH_sH hg
  refine Wp.stepsG 3 (fun cal X P' hk hX hP => ?_)
  show kObj (sH σ a (.inr (2, [.int k, .int 0, .int 0, .null]))) a fun ci fs => kB (famB 3 ci && putB (ftyAt ftys ci 1) (.int n)) (kV fs 1 fun _ => X (14, [some (.ref a), some (.int k), some (.int n), some (.int v), some (.ref 30)], [], sH (sH σ a (.inr (2, [.int k, .int 0, .int 0, .null]))) a (.inr (ci, sV fs 1 (.int n))), 0, 0))
  refine kObj_at hg0 ?_
  show X (14, [some (.ref a), some (.int k), some (.int n), some (.int v), some (.ref 30)], [], (sH (sH σ a (.inr (2, [.int k, .int 0, .int 0, .null]))) a (.inr (2, [.int k, .int n, .int 0, .null]))), 0, 0)
  refine hX _ ?_
  clear hP hX hk P' X cal
  have hg1 : gH (sH (sH σ a (.inr (2, [.int k, .int 0, .int 0, .null]))) a (.inr (2, [.int k, .int n, .int 0, .null]))) a = some (.inr (2, [.int k, .int n, .int 0, .null])) := gH_sH hg0
  refine Wp.stepsG 3 (fun cal X P' hk hX hP => ?_)
  show kObj (sH (sH σ a (.inr (2, [.int k, .int 0, .int 0, .null]))) a (.inr (2, [.int k, .int n, .int 0, .null]))) a fun ci fs => kB (famB 3 ci && putB (ftyAt ftys ci 2) (.int v)) (kV fs 2 fun _ => X (19, [some (.ref a), some (.int k), some (.int n), some (.int v), some (.ref 30)], [], sH (sH (sH σ a (.inr (2, [.int k, .int 0, .int 0, .null]))) a (.inr (2, [.int k, .int n, .int 0, .null]))) a (.inr (ci, sV fs 2 (.int v))), 0, 0))
  refine kObj_at hg1 ?_
  show X (19, [some (.ref a), some (.int k), some (.int n), some (.int v), some (.ref 30)], [], (sH (sH (sH σ a (.inr (2, [.int k, .int 0, .int 0, .null]))) a (.inr (2, [.int k, .int n, .int 0, .null]))) a (.inr (2, [.int k, .int n, .int v, .null]))), 0, 0)
  refine hX _ ?_
  clear hP hX hk P' X cal
  have hg2 : gH (sH (sH (sH σ a (.inr (2, [.int k, .int 0, .int 0, .null]))) a (.inr (2, [.int k, .int n, .int 0, .null]))) a (.inr (2, [.int k, .int n, .int v, .null]))) a = some (.inr (2, [.int k, .int n, .int v, .null])) := gH_sH hg1
  refine Wp.stepsG 3 (fun cal X P' hk hX hP => ?_)
  show kObj (sH (sH (sH σ a (.inr (2, [.int k, .int 0, .int 0, .null]))) a (.inr (2, [.int k, .int n, .int 0, .null]))) a (.inr (2, [.int k, .int n, .int v, .null]))) a fun ci fs => kB (famB 3 ci && putB (ftyAt ftys ci 3) (.ref 30)) (kV fs 3 fun _ => X (25, [some (.ref a), some (.int k), some (.int n), some (.int v), some (.ref 30)], [], sH (sH (sH (sH σ a (.inr (2, [.int k, .int 0, .int 0, .null]))) a (.inr (2, [.int k, .int n, .int 0, .null]))) a (.inr (2, [.int k, .int n, .int v, .null]))) a (.inr (ci, sV fs 3 (.ref 30))), 0, 0))
  refine kObj_at hg2 ?_
  show X (25, [some (.ref a), some (.int k), some (.int n), some (.int v), some (.ref 30)], [], (sH (sH (sH (sH σ a (.inr (2, [.int k, .int 0, .int 0, .null]))) a (.inr (2, [.int k, .int n, .int 0, .null]))) a (.inr (2, [.int k, .int n, .int v, .null]))) a (.inr (2, [.int k, .int n, .int v, .ref 30]))), 0, 0)
  refine hX _ ?_
  clear hP hX hk P' X cal
  have hg3 : gH (sH (sH (sH (sH σ a (.inr (2, [.int k, .int 0, .int 0, .null]))) a (.inr (2, [.int k, .int n, .int 0, .null]))) a (.inr (2, [.int k, .int n, .int v, .null]))) a (.inr (2, [.int k, .int n, .int v, .ref 30]))) a = some (.inr (2, [.int k, .int n, .int v, .ref 30])) := gH_sH hg2
  rw [sH_sH, sH_sH, sH_sH]
  refine Wp.stepsG 1 (fun cal X P' hk hX hP => ?_)
  exact hP _ _ h
set_option maxRecDepth 20000 in
set_option maxHeartbeats 4000000 in
theorem e_X3_init_h3 (d : Nat) (σ : Hp) (a : Nat) (k n v : Int32) (hg : gH σ a = some (.inr (3, [.int 0, .int 0, .int 0, .null]))) (P : Option Value → Hp → Prop) (h : P none (sH σ a (hrC (3, k, n, v)))) : Ev (d + 1) ix_X3_init 0 0 [.ref a, .int k, .int n, .int v, .ref 30] σ P := by
  refine Ev.intro (M := mi_X3_init) rfl (Nat.le_of_ble_eq_true rfl) ?_
  refine Wp.stepsG 5 (fun cal X P' hk hX hP => ?_)
  show kObj σ a fun ci fs => kB (famB 3 ci && putB (ftyAt ftys ci 0) (.int k)) (kV fs 0 fun _ => X (9, [some (.ref a), some (.int k), some (.int n), some (.int v), some (.ref 30)], [], sH σ a (.inr (ci, sV fs 0 (.int k))), 0, 0))
  refine kObj_at hg ?_
  show X (9, [some (.ref a), some (.int k), some (.int n), some (.int v), some (.ref 30)], [], (sH σ a (.inr (3, [.int k, .int 0, .int 0, .null]))), 0, 0)
  refine hX _ ?_
  clear hP hX hk P' X cal
  have hg0 : gH (sH σ a (.inr (3, [.int k, .int 0, .int 0, .null]))) a = some (.inr (3, [.int k, .int 0, .int 0, .null])) := gH_sH hg
  refine Wp.stepsG 3 (fun cal X P' hk hX hP => ?_)
  show kObj (sH σ a (.inr (3, [.int k, .int 0, .int 0, .null]))) a fun ci fs => kB (famB 3 ci && putB (ftyAt ftys ci 1) (.int n)) (kV fs 1 fun _ => X (14, [some (.ref a), some (.int k), some (.int n), some (.int v), some (.ref 30)], [], sH (sH σ a (.inr (3, [.int k, .int 0, .int 0, .null]))) a (.inr (ci, sV fs 1 (.int n))), 0, 0))
  refine kObj_at hg0 ?_
  show X (14, [some (.ref a), some (.int k), some (.int n), some (.int v), some (.ref 30)], [], (sH (sH σ a (.inr (3, [.int k, .int 0, .int 0, .null]))) a (.inr (3, [.int k, .int n, .int 0, .null]))), 0, 0)
  refine hX _ ?_
  clear hP hX hk P' X cal
  have hg1 : gH (sH (sH σ a (.inr (3, [.int k, .int 0, .int 0, .null]))) a (.inr (3, [.int k, .int n, .int 0, .null]))) a = some (.inr (3, [.int k, .int n, .int 0, .null])) := gH_sH hg0
  refine Wp.stepsG 3 (fun cal X P' hk hX hP => ?_)
  show kObj (sH (sH σ a (.inr (3, [.int k, .int 0, .int 0, .null]))) a (.inr (3, [.int k, .int n, .int 0, .null]))) a fun ci fs => kB (famB 3 ci && putB (ftyAt ftys ci 2) (.int v)) (kV fs 2 fun _ => X (19, [some (.ref a), some (.int k), some (.int n), some (.int v), some (.ref 30)], [], sH (sH (sH σ a (.inr (3, [.int k, .int 0, .int 0, .null]))) a (.inr (3, [.int k, .int n, .int 0, .null]))) a (.inr (ci, sV fs 2 (.int v))), 0, 0))
  refine kObj_at hg1 ?_
  show X (19, [some (.ref a), some (.int k), some (.int n), some (.int v), some (.ref 30)], [], (sH (sH (sH σ a (.inr (3, [.int k, .int 0, .int 0, .null]))) a (.inr (3, [.int k, .int n, .int 0, .null]))) a (.inr (3, [.int k, .int n, .int v, .null]))), 0, 0)
  refine hX _ ?_
  clear hP hX hk P' X cal
  have hg2 : gH (sH (sH (sH σ a (.inr (3, [.int k, .int 0, .int 0, .null]))) a (.inr (3, [.int k, .int n, .int 0, .null]))) a (.inr (3, [.int k, .int n, .int v, .null]))) a = some (.inr (3, [.int k, .int n, .int v, .null])) := gH_sH hg1
  refine Wp.stepsG 3 (fun cal X P' hk hX hP => ?_)
  show kObj (sH (sH (sH σ a (.inr (3, [.int k, .int 0, .int 0, .null]))) a (.inr (3, [.int k, .int n, .int 0, .null]))) a (.inr (3, [.int k, .int n, .int v, .null]))) a fun ci fs => kB (famB 3 ci && putB (ftyAt ftys ci 3) (.ref 30)) (kV fs 3 fun _ => X (25, [some (.ref a), some (.int k), some (.int n), some (.int v), some (.ref 30)], [], sH (sH (sH (sH σ a (.inr (3, [.int k, .int 0, .int 0, .null]))) a (.inr (3, [.int k, .int n, .int 0, .null]))) a (.inr (3, [.int k, .int n, .int v, .null]))) a (.inr (ci, sV fs 3 (.ref 30))), 0, 0))
  refine kObj_at hg2 ?_
  show X (25, [some (.ref a), some (.int k), some (.int n), some (.int v), some (.ref 30)], [], (sH (sH (sH (sH σ a (.inr (3, [.int k, .int 0, .int 0, .null]))) a (.inr (3, [.int k, .int n, .int 0, .null]))) a (.inr (3, [.int k, .int n, .int v, .null]))) a (.inr (3, [.int k, .int n, .int v, .ref 30]))), 0, 0)
  refine hX _ ?_
  clear hP hX hk P' X cal
  have hg3 : gH (sH (sH (sH (sH σ a (.inr (3, [.int k, .int 0, .int 0, .null]))) a (.inr (3, [.int k, .int n, .int 0, .null]))) a (.inr (3, [.int k, .int n, .int v, .null]))) a (.inr (3, [.int k, .int n, .int v, .ref 30]))) a = some (.inr (3, [.int k, .int n, .int v, .ref 30])) := gH_sH hg2
  rw [sH_sH, sH_sH, sH_sH]
  refine Wp.stepsG 1 (fun cal X P' hk hX hP => ?_)
  exact hP _ _ h
set_option maxRecDepth 20000 in
set_option maxHeartbeats 4000000 in
theorem e_X3_init_h4 (d : Nat) (σ : Hp) (a : Nat) (k n v : Int32) (hg : gH σ a = some (.inr (4, [.int 0, .int 0, .int 0, .null]))) (P : Option Value → Hp → Prop) (h : P none (sH σ a (hrC (4, k, n, v)))) : Ev (d + 1) ix_X3_init 0 0 [.ref a, .int k, .int n, .int v, .ref 30] σ P := by
  refine Ev.intro (M := mi_X3_init) rfl (Nat.le_of_ble_eq_true rfl) ?_
  refine Wp.stepsG 5 (fun cal X P' hk hX hP => ?_)
  show kObj σ a fun ci fs => kB (famB 3 ci && putB (ftyAt ftys ci 0) (.int k)) (kV fs 0 fun _ => X (9, [some (.ref a), some (.int k), some (.int n), some (.int v), some (.ref 30)], [], sH σ a (.inr (ci, sV fs 0 (.int k))), 0, 0))
  refine kObj_at hg ?_
  show X (9, [some (.ref a), some (.int k), some (.int n), some (.int v), some (.ref 30)], [], (sH σ a (.inr (4, [.int k, .int 0, .int 0, .null]))), 0, 0)
  refine hX _ ?_
  clear hP hX hk P' X cal
  have hg0 : gH (sH σ a (.inr (4, [.int k, .int 0, .int 0, .null]))) a = some (.inr (4, [.int k, .int 0, .int 0, .null])) := gH_sH hg
  refine Wp.stepsG 3 (fun cal X P' hk hX hP => ?_)
  show kObj (sH σ a (.inr (4, [.int k, .int 0, .int 0, .null]))) a fun ci fs => kB (famB 3 ci && putB (ftyAt ftys ci 1) (.int n)) (kV fs 1 fun _ => X (14, [some (.ref a), some (.int k), some (.int n), some (.int v), some (.ref 30)], [], sH (sH σ a (.inr (4, [.int k, .int 0, .int 0, .null]))) a (.inr (ci, sV fs 1 (.int n))), 0, 0))
  refine kObj_at hg0 ?_
  show X (14, [some (.ref a), some (.int k), some (.int n), some (.int v), some (.ref 30)], [], (sH (sH σ a (.inr (4, [.int k, .int 0, .int 0, .null]))) a (.inr (4, [.int k, .int n, .int 0, .null]))), 0, 0)
  refine hX _ ?_
  clear hP hX hk P' X cal
  have hg1 : gH (sH (sH σ a (.inr (4, [.int k, .int 0, .int 0, .null]))) a (.inr (4, [.int k, .int n, .int 0, .null]))) a = some (.inr (4, [.int k, .int n, .int 0, .null])) := gH_sH hg0
  refine Wp.stepsG 3 (fun cal X P' hk hX hP => ?_)
  show kObj (sH (sH σ a (.inr (4, [.int k, .int 0, .int 0, .null]))) a (.inr (4, [.int k, .int n, .int 0, .null]))) a fun ci fs => kB (famB 3 ci && putB (ftyAt ftys ci 2) (.int v)) (kV fs 2 fun _ => X (19, [some (.ref a), some (.int k), some (.int n), some (.int v), some (.ref 30)], [], sH (sH (sH σ a (.inr (4, [.int k, .int 0, .int 0, .null]))) a (.inr (4, [.int k, .int n, .int 0, .null]))) a (.inr (ci, sV fs 2 (.int v))), 0, 0))
  refine kObj_at hg1 ?_
  show X (19, [some (.ref a), some (.int k), some (.int n), some (.int v), some (.ref 30)], [], (sH (sH (sH σ a (.inr (4, [.int k, .int 0, .int 0, .null]))) a (.inr (4, [.int k, .int n, .int 0, .null]))) a (.inr (4, [.int k, .int n, .int v, .null]))), 0, 0)
  refine hX _ ?_
  clear hP hX hk P' X cal
  have hg2 : gH (sH (sH (sH σ a (.inr (4, [.int k, .int 0, .int 0, .null]))) a (.inr (4, [.int k, .int n, .int 0, .null]))) a (.inr (4, [.int k, .int n, .int v, .null]))) a = some (.inr (4, [.int k, .int n, .int v, .null])) := gH_sH hg1
  refine Wp.stepsG 3 (fun cal X P' hk hX hP => ?_)
  show kObj (sH (sH (sH σ a (.inr (4, [.int k, .int 0, .int 0, .null]))) a (.inr (4, [.int k, .int n, .int 0, .null]))) a (.inr (4, [.int k, .int n, .int v, .null]))) a fun ci fs => kB (famB 3 ci && putB (ftyAt ftys ci 3) (.ref 30)) (kV fs 3 fun _ => X (25, [some (.ref a), some (.int k), some (.int n), some (.int v), some (.ref 30)], [], sH (sH (sH (sH σ a (.inr (4, [.int k, .int 0, .int 0, .null]))) a (.inr (4, [.int k, .int n, .int 0, .null]))) a (.inr (4, [.int k, .int n, .int v, .null]))) a (.inr (ci, sV fs 3 (.ref 30))), 0, 0))
  refine kObj_at hg2 ?_
  show X (25, [some (.ref a), some (.int k), some (.int n), some (.int v), some (.ref 30)], [], (sH (sH (sH (sH σ a (.inr (4, [.int k, .int 0, .int 0, .null]))) a (.inr (4, [.int k, .int n, .int 0, .null]))) a (.inr (4, [.int k, .int n, .int v, .null]))) a (.inr (4, [.int k, .int n, .int v, .ref 30]))), 0, 0)
  refine hX _ ?_
  clear hP hX hk P' X cal
  have hg3 : gH (sH (sH (sH (sH σ a (.inr (4, [.int k, .int 0, .int 0, .null]))) a (.inr (4, [.int k, .int n, .int 0, .null]))) a (.inr (4, [.int k, .int n, .int v, .null]))) a (.inr (4, [.int k, .int n, .int v, .ref 30]))) a = some (.inr (4, [.int k, .int n, .int v, .ref 30])) := gH_sH hg2
  rw [sH_sH, sH_sH, sH_sH]
  refine Wp.stepsG 1 (fun cal X P' hk hX hP => ?_)
  exact hP _ _ h
set_option maxRecDepth 20000 in
set_option maxHeartbeats 4000000 in
theorem e_X3_init_h6 (d : Nat) (σ : Hp) (a : Nat) (k n v : Int32) (hg : gH σ a = some (.inr (6, [.int 0, .int 0, .int 0, .null]))) (P : Option Value → Hp → Prop) (h : P none (sH σ a (hrC (6, k, n, v)))) : Ev (d + 1) ix_X3_init 0 0 [.ref a, .int k, .int n, .int v, .ref 30] σ P := by
  refine Ev.intro (M := mi_X3_init) rfl (Nat.le_of_ble_eq_true rfl) ?_
  refine Wp.stepsG 5 (fun cal X P' hk hX hP => ?_)
  show kObj σ a fun ci fs => kB (famB 3 ci && putB (ftyAt ftys ci 0) (.int k)) (kV fs 0 fun _ => X (9, [some (.ref a), some (.int k), some (.int n), some (.int v), some (.ref 30)], [], sH σ a (.inr (ci, sV fs 0 (.int k))), 0, 0))
  refine kObj_at hg ?_
  show X (9, [some (.ref a), some (.int k), some (.int n), some (.int v), some (.ref 30)], [], (sH σ a (.inr (6, [.int k, .int 0, .int 0, .null]))), 0, 0)
  refine hX _ ?_
  clear hP hX hk P' X cal
  have hg0 : gH (sH σ a (.inr (6, [.int k, .int 0, .int 0, .null]))) a = some (.inr (6, [.int k, .int 0, .int 0, .null])) := gH_sH hg
  refine Wp.stepsG 3 (fun cal X P' hk hX hP => ?_)
  show kObj (sH σ a (.inr (6, [.int k, .int 0, .int 0, .null]))) a fun ci fs => kB (famB 3 ci && putB (ftyAt ftys ci 1) (.int n)) (kV fs 1 fun _ => X (14, [some (.ref a), some (.int k), some (.int n), some (.int v), some (.ref 30)], [], sH (sH σ a (.inr (6, [.int k, .int 0, .int 0, .null]))) a (.inr (ci, sV fs 1 (.int n))), 0, 0))
  refine kObj_at hg0 ?_
  show X (14, [some (.ref a), some (.int k), some (.int n), some (.int v), some (.ref 30)], [], (sH (sH σ a (.inr (6, [.int k, .int 0, .int 0, .null]))) a (.inr (6, [.int k, .int n, .int 0, .null]))), 0, 0)
  refine hX _ ?_
  clear hP hX hk P' X cal
  have hg1 : gH (sH (sH σ a (.inr (6, [.int k, .int 0, .int 0, .null]))) a (.inr (6, [.int k, .int n, .int 0, .null]))) a = some (.inr (6, [.int k, .int n, .int 0, .null])) := gH_sH hg0
  refine Wp.stepsG 3 (fun cal X P' hk hX hP => ?_)
  show kObj (sH (sH σ a (.inr (6, [.int k, .int 0, .int 0, .null]))) a (.inr (6, [.int k, .int n, .int 0, .null]))) a fun ci fs => kB (famB 3 ci && putB (ftyAt ftys ci 2) (.int v)) (kV fs 2 fun _ => X (19, [some (.ref a), some (.int k), some (.int n), some (.int v), some (.ref 30)], [], sH (sH (sH σ a (.inr (6, [.int k, .int 0, .int 0, .null]))) a (.inr (6, [.int k, .int n, .int 0, .null]))) a (.inr (ci, sV fs 2 (.int v))), 0, 0))
  refine kObj_at hg1 ?_
  show X (19, [some (.ref a), some (.int k), some (.int n), some (.int v), some (.ref 30)], [], (sH (sH (sH σ a (.inr (6, [.int k, .int 0, .int 0, .null]))) a (.inr (6, [.int k, .int n, .int 0, .null]))) a (.inr (6, [.int k, .int n, .int v, .null]))), 0, 0)
  refine hX _ ?_
  clear hP hX hk P' X cal
  have hg2 : gH (sH (sH (sH σ a (.inr (6, [.int k, .int 0, .int 0, .null]))) a (.inr (6, [.int k, .int n, .int 0, .null]))) a (.inr (6, [.int k, .int n, .int v, .null]))) a = some (.inr (6, [.int k, .int n, .int v, .null])) := gH_sH hg1
  refine Wp.stepsG 3 (fun cal X P' hk hX hP => ?_)
  show kObj (sH (sH (sH σ a (.inr (6, [.int k, .int 0, .int 0, .null]))) a (.inr (6, [.int k, .int n, .int 0, .null]))) a (.inr (6, [.int k, .int n, .int v, .null]))) a fun ci fs => kB (famB 3 ci && putB (ftyAt ftys ci 3) (.ref 30)) (kV fs 3 fun _ => X (25, [some (.ref a), some (.int k), some (.int n), some (.int v), some (.ref 30)], [], sH (sH (sH (sH σ a (.inr (6, [.int k, .int 0, .int 0, .null]))) a (.inr (6, [.int k, .int n, .int 0, .null]))) a (.inr (6, [.int k, .int n, .int v, .null]))) a (.inr (ci, sV fs 3 (.ref 30))), 0, 0))
  refine kObj_at hg2 ?_
  show X (25, [some (.ref a), some (.int k), some (.int n), some (.int v), some (.ref 30)], [], (sH (sH (sH (sH σ a (.inr (6, [.int k, .int 0, .int 0, .null]))) a (.inr (6, [.int k, .int n, .int 0, .null]))) a (.inr (6, [.int k, .int n, .int v, .null]))) a (.inr (6, [.int k, .int n, .int v, .ref 30]))), 0, 0)
  refine hX _ ?_
  clear hP hX hk P' X cal
  have hg3 : gH (sH (sH (sH (sH σ a (.inr (6, [.int k, .int 0, .int 0, .null]))) a (.inr (6, [.int k, .int n, .int 0, .null]))) a (.inr (6, [.int k, .int n, .int v, .null]))) a (.inr (6, [.int k, .int n, .int v, .ref 30]))) a = some (.inr (6, [.int k, .int n, .int v, .ref 30])) := gH_sH hg2
  rw [sH_sH, sH_sH, sH_sH]
  refine Wp.stepsG 1 (fun cal X P' hk hX hP => ?_)
  exact hP _ _ h
set_option maxRecDepth 20000 in
set_option maxHeartbeats 4000000 in
theorem e_X3_init_h9 (d : Nat) (σ : Hp) (a : Nat) (k n v : Int32) (hg : gH σ a = some (.inr (9, [.int 0, .int 0, .int 0, .null]))) (P : Option Value → Hp → Prop) (h : P none (sH σ a (hrC (9, k, n, v)))) : Ev (d + 1) ix_X3_init 0 0 [.ref a, .int k, .int n, .int v, .ref 30] σ P := by
  refine Ev.intro (M := mi_X3_init) rfl (Nat.le_of_ble_eq_true rfl) ?_
  refine Wp.stepsG 5 (fun cal X P' hk hX hP => ?_)
  show kObj σ a fun ci fs => kB (famB 3 ci && putB (ftyAt ftys ci 0) (.int k)) (kV fs 0 fun _ => X (9, [some (.ref a), some (.int k), some (.int n), some (.int v), some (.ref 30)], [], sH σ a (.inr (ci, sV fs 0 (.int k))), 0, 0))
  refine kObj_at hg ?_
  show X (9, [some (.ref a), some (.int k), some (.int n), some (.int v), some (.ref 30)], [], (sH σ a (.inr (9, [.int k, .int 0, .int 0, .null]))), 0, 0)
  refine hX _ ?_
  clear hP hX hk P' X cal
  have hg0 : gH (sH σ a (.inr (9, [.int k, .int 0, .int 0, .null]))) a = some (.inr (9, [.int k, .int 0, .int 0, .null])) := gH_sH hg
  refine Wp.stepsG 3 (fun cal X P' hk hX hP => ?_)
  show kObj (sH σ a (.inr (9, [.int k, .int 0, .int 0, .null]))) a fun ci fs => kB (famB 3 ci && putB (ftyAt ftys ci 1) (.int n)) (kV fs 1 fun _ => X (14, [some (.ref a), some (.int k), some (.int n), some (.int v), some (.ref 30)], [], sH (sH σ a (.inr (9, [.int k, .int 0, .int 0, .null]))) a (.inr (ci, sV fs 1 (.int n))), 0, 0))
  refine kObj_at hg0 ?_
  show X (14, [some (.ref a), some (.int k), some (.int n), some (.int v), some (.ref 30)], [], (sH (sH σ a (.inr (9, [.int k, .int 0, .int 0, .null]))) a (.inr (9, [.int k, .int n, .int 0, .null]))), 0, 0)
  refine hX _ ?_
  clear hP hX hk P' X cal
  have hg1 : gH (sH (sH σ a (.inr (9, [.int k, .int 0, .int 0, .null]))) a (.inr (9, [.int k, .int n, .int 0, .null]))) a = some (.inr (9, [.int k, .int n, .int 0, .null])) := gH_sH hg0
  refine Wp.stepsG 3 (fun cal X P' hk hX hP => ?_)
  show kObj (sH (sH σ a (.inr (9, [.int k, .int 0, .int 0, .null]))) a (.inr (9, [.int k, .int n, .int 0, .null]))) a fun ci fs => kB (famB 3 ci && putB (ftyAt ftys ci 2) (.int v)) (kV fs 2 fun _ => X (19, [some (.ref a), some (.int k), some (.int n), some (.int v), some (.ref 30)], [], sH (sH (sH σ a (.inr (9, [.int k, .int 0, .int 0, .null]))) a (.inr (9, [.int k, .int n, .int 0, .null]))) a (.inr (ci, sV fs 2 (.int v))), 0, 0))
  refine kObj_at hg1 ?_
  show X (19, [some (.ref a), some (.int k), some (.int n), some (.int v), some (.ref 30)], [], (sH (sH (sH σ a (.inr (9, [.int k, .int 0, .int 0, .null]))) a (.inr (9, [.int k, .int n, .int 0, .null]))) a (.inr (9, [.int k, .int n, .int v, .null]))), 0, 0)
  refine hX _ ?_
  clear hP hX hk P' X cal
  have hg2 : gH (sH (sH (sH σ a (.inr (9, [.int k, .int 0, .int 0, .null]))) a (.inr (9, [.int k, .int n, .int 0, .null]))) a (.inr (9, [.int k, .int n, .int v, .null]))) a = some (.inr (9, [.int k, .int n, .int v, .null])) := gH_sH hg1
  refine Wp.stepsG 3 (fun cal X P' hk hX hP => ?_)
  show kObj (sH (sH (sH σ a (.inr (9, [.int k, .int 0, .int 0, .null]))) a (.inr (9, [.int k, .int n, .int 0, .null]))) a (.inr (9, [.int k, .int n, .int v, .null]))) a fun ci fs => kB (famB 3 ci && putB (ftyAt ftys ci 3) (.ref 30)) (kV fs 3 fun _ => X (25, [some (.ref a), some (.int k), some (.int n), some (.int v), some (.ref 30)], [], sH (sH (sH (sH σ a (.inr (9, [.int k, .int 0, .int 0, .null]))) a (.inr (9, [.int k, .int n, .int 0, .null]))) a (.inr (9, [.int k, .int n, .int v, .null]))) a (.inr (ci, sV fs 3 (.ref 30))), 0, 0))
  refine kObj_at hg2 ?_
  show X (25, [some (.ref a), some (.int k), some (.int n), some (.int v), some (.ref 30)], [], (sH (sH (sH (sH σ a (.inr (9, [.int k, .int 0, .int 0, .null]))) a (.inr (9, [.int k, .int n, .int 0, .null]))) a (.inr (9, [.int k, .int n, .int v, .null]))) a (.inr (9, [.int k, .int n, .int v, .ref 30]))), 0, 0)
  refine hX _ ?_
  clear hP hX hk P' X cal
  have hg3 : gH (sH (sH (sH (sH σ a (.inr (9, [.int k, .int 0, .int 0, .null]))) a (.inr (9, [.int k, .int n, .int 0, .null]))) a (.inr (9, [.int k, .int n, .int v, .null]))) a (.inr (9, [.int k, .int n, .int v, .ref 30]))) a = some (.inr (9, [.int k, .int n, .int v, .ref 30])) := gH_sH hg2
  rw [sH_sH, sH_sH, sH_sH]
  refine Wp.stepsG 1 (fun cal X P' hk hX hP => ?_)
  exact hP _ _ h
set_option maxRecDepth 20000 in
set_option maxHeartbeats 4000000 in
theorem e_X6_init_h6 (d : Nat) (σ : Hp) (a : Nat) (k n v : Int32) (hg : gH σ a = some (.inr (6, [.int 0, .int 0, .int 0, .null]))) (P : Option Value → Hp → Prop) (h : P none (sH σ a (hrC (6, k, n, v)))) : Ev (d + 2) ix_X6_init 0 0 [.ref a, .int k, .int n, .int v, .ref 30] σ P := by
  refine Ev.intro (M := mi_X6_init) rfl (Nat.le_of_ble_eq_true rfl) ?_
  refine Wp.stepsG 6 (fun cal X P' hk hX hP => ?_)
  show kcall cal ix_X3_init [.ref a, .int k, .int n, .int v, .ref 30] σ [] 0 0 (0, 0) (fun vv σ' c' m' => X (9, [some (.ref a), some (.int k), some (.int n), some (.int v), some (.ref 30)], vv.toList ++ [], σ', c', m'))
  refine kcall0 rfl (hk _ _ _ _ _ _ (e_X3_init_h6 d σ a k n v hg _ ?_))
  show X (9, [some (.ref a), some (.int k), some (.int n), some (.int v), some (.ref 30)], [], sH σ a (hrC (6, k, n, v)), 0, 0)
  refine hX _ ?_
  clear hP hX hk P' X cal
  refine Wp.stepsG 1 (fun cal X P' hk hX hP => ?_)
  exact hP _ _ h
set_option maxRecDepth 20000 in
set_option maxHeartbeats 4000000 in
theorem e_X0_init_h0 (d : Nat) (σ : Hp) (a : Nat) (k n v : Int32) (hg : gH σ a = some (.inr (0, [.int 0, .int 0, .int 0, .null]))) (P : Option Value → Hp → Prop) (h : P none (sH σ a (hrC (0, k, n, v)))) : Ev (d + 2) ix_X0_init 0 0 [.ref a, .int k, .int n, .int v, .ref 30] σ P := by
  refine Ev.intro (M := mi_X0_init) rfl (Nat.le_of_ble_eq_true rfl) ?_
  refine Wp.stepsG 6 (fun cal X P' hk hX hP => ?_)
  show kcall cal ix_X3_init [.ref a, .int k, .int n, .int v, .ref 30] σ [] 0 0 (0, 0) (fun vv σ' c' m' => X (9, [some (.ref a), some (.int k), some (.int n), some (.int v), some (.ref 30)], vv.toList ++ [], σ', c', m'))
  refine kcall0 rfl (hk _ _ _ _ _ _ (e_X3_init_h0 d σ a k n v hg _ ?_))
  show X (9, [some (.ref a), some (.int k), some (.int n), some (.int v), some (.ref 30)], [], sH σ a (hrC (0, k, n, v)), 0, 0)
  refine hX _ ?_
  clear hP hX hk P' X cal
  refine Wp.stepsG 1 (fun cal X P' hk hX hP => ?_)
  exact hP _ _ h
set_option maxRecDepth 20000 in
set_option maxHeartbeats 4000000 in
theorem e_X2_init_h2 (d : Nat) (σ : Hp) (a : Nat) (k n v : Int32) (hg : gH σ a = some (.inr (2, [.int 0, .int 0, .int 0, .null]))) (P : Option Value → Hp → Prop) (h : P none (sH σ a (hrC (2, k, n, v)))) : Ev (d + 2) ix_X2_init 0 0 [.ref a, .int k, .int n, .int v, .ref 30] σ P := by
  refine Ev.intro (M := mi_X2_init) rfl (Nat.le_of_ble_eq_true rfl) ?_
  refine Wp.stepsG 6 (fun cal X P' hk hX hP => ?_)
  show kcall cal ix_X3_init [.ref a, .int k, .int n, .int v, .ref 30] σ [] 0 0 (0, 0) (fun vv σ' c' m' => X (9, [some (.ref a), some (.int k), some (.int n), some (.int v), some (.ref 30)], vv.toList ++ [], σ', c', m'))
  refine kcall0 rfl (hk _ _ _ _ _ _ (e_X3_init_h2 d σ a k n v hg _ ?_))
  show X (9, [some (.ref a), some (.int k), some (.int n), some (.int v), some (.ref 30)], [], sH σ a (hrC (2, k, n, v)), 0, 0)
  refine hX _ ?_
  clear hP hX hk P' X cal
  refine Wp.stepsG 1 (fun cal X P' hk hX hP => ?_)
  exact hP _ _ h
set_option maxRecDepth 20000 in
set_option maxHeartbeats 4000000 in
theorem e_X6_init_h4 (d : Nat) (σ : Hp) (a : Nat) (k n v : Int32) (hg : gH σ a = some (.inr (4, [.int 0, .int 0, .int 0, .null]))) (P : Option Value → Hp → Prop) (h : P none (sH σ a (hrC (4, k, n, v)))) : Ev (d + 2) ix_X6_init 0 0 [.ref a, .int k, .int n, .int v, .ref 30] σ P := by
  refine Ev.intro (M := mi_X6_init) rfl (Nat.le_of_ble_eq_true rfl) ?_
  refine Wp.stepsG 6 (fun cal X P' hk hX hP => ?_)
  show kcall cal ix_X3_init [.ref a, .int k, .int n, .int v, .ref 30] σ [] 0 0 (0, 0) (fun vv σ' c' m' => X (9, [some (.ref a), some (.int k), some (.int n), some (.int v), some (.ref 30)], vv.toList ++ [], σ', c', m'))
  refine kcall0 rfl (hk _ _ _ _ _ _ (e_X3_init_h4 d σ a k n v hg _ ?_))
  show X (9, [some (.ref a), some (.int k), some (.int n), some (.int v), some (.ref 30)], [], sH σ a (hrC (4, k, n, v)), 0, 0)
  refine hX _ ?_
  clear hP hX hk P' X cal
  refine Wp.stepsG 1 (fun cal X P' hk hX hP => ?_)
  exact hP _ _ h
set_option maxRecDepth 20000 in
set_option maxHeartbeats 4000000 in
theorem e_X4_init_h4 (d : Nat) (σ : Hp) (a : Nat) (k n v : Int32) (hg : gH σ a = some (.inr (4, [.int 0, .int 0, .int 0, .null]))) (P : Option Value → Hp → Prop) (h : P none (sH σ a (hrC (4, k, n, v)))) : Ev (d + 3) ix_X4_init 0 0 [.ref a, .int k, .int n, .int v, .ref 30] σ P := by
  refine Ev.intro (M := mi_X4_init) rfl (Nat.le_of_ble_eq_true rfl) ?_
  refine Wp.stepsG 6 (fun cal X P' hk hX hP => ?_)
  show kcall cal ix_X6_init [.ref a, .int k, .int n, .int v, .ref 30] σ [] 0 0 (0, 0) (fun vv σ' c' m' => X (9, [some (.ref a), some (.int k), some (.int n), some (.int v), some (.ref 30)], vv.toList ++ [], σ', c', m'))
  refine kcall0 rfl (hk _ _ _ _ _ _ (e_X6_init_h4 d σ a k n v hg _ ?_))
  show X (9, [some (.ref a), some (.int k), some (.int n), some (.int v), some (.ref 30)], [], sH σ a (hrC (4, k, n, v)), 0, 0)
  refine hX _ ?_
  clear hP hX hk P' X cal
  refine Wp.stepsG 1 (fun cal X P' hk hX hP => ?_)
  exact hP _ _ h
set_option maxRecDepth 20000 in
set_option maxHeartbeats 4000000 in
theorem e_X0_init_h1 (d : Nat) (σ : Hp) (a : Nat) (k n v : Int32) (hg : gH σ a = some (.inr (1, [.int 0, .int 0, .int 0, .null]))) (P : Option Value → Hp → Prop) (h : P none (sH σ a (hrC (1, k, n, v)))) : Ev (d + 2) ix_X0_init 0 0 [.ref a, .int k, .int n, .int v, .ref 30] σ P := by
  refine Ev.intro (M := mi_X0_init) rfl (Nat.le_of_ble_eq_true rfl) ?_
  refine Wp.stepsG 6 (fun cal X P' hk hX hP => ?_)
  show kcall cal ix_X3_init [.ref a, .int k, .int n, .int v, .ref 30] σ [] 0 0 (0, 0) (fun vv σ' c' m' => X (9, [some (.ref a), some (.int k), some (.int n), some (.int v), some (.ref 30)], vv.toList ++ [], σ', c', m'))
  refine kcall0 rfl (hk _ _ _ _ _ _ (e_X3_init_h1 d σ a k n v hg _ ?_))
  show X (9, [some (.ref a), some (.int k), some (.int n), some (.int v), some (.ref 30)], [], sH σ a (hrC (1, k, n, v)), 0, 0)
  refine hX _ ?_
  clear hP hX hk P' X cal
  refine Wp.stepsG 1 (fun cal X P' hk hX hP => ?_)
  exact hP _ _ h
set_option maxRecDepth 20000 in
set_option maxHeartbeats 4000000 in
theorem e_X1_init_h1 (d : Nat) (σ : Hp) (a : Nat) (k n v : Int32) (hg : gH σ a = some (.inr (1, [.int 0, .int 0, .int 0, .null]))) (P : Option Value → Hp → Prop) (h : P none (sH σ a (hrC (1, k, n, v)))) : Ev (d + 3) ix_X1_init 0 0 [.ref a, .int k, .int n, .int v, .ref 30] σ P := by
  refine Ev.intro (M := mi_X1_init) rfl (Nat.le_of_ble_eq_true rfl) ?_
  refine Wp.stepsG 6 (fun cal X P' hk hX hP => ?_)
  show kcall cal ix_X0_init [.ref a, .int k, .int n, .int v, .ref 30] σ [] 0 0 (0, 0) (fun vv σ' c' m' => X (9, [some (.ref a), some (.int k), some (.int n), some (.int v), some (.ref 30)], vv.toList ++ [], σ', c', m'))
  refine kcall0 rfl (hk _ _ _ _ _ _ (e_X0_init_h1 d σ a k n v hg _ ?_))
  show X (9, [some (.ref a), some (.int k), some (.int n), some (.int v), some (.ref 30)], [], sH σ a (hrC (1, k, n, v)), 0, 0)
  refine hX _ ?_
  clear hP hX hk P' X cal
  refine Wp.stepsG 1 (fun cal X P' hk hX hP => ?_)
  exact hP _ _ h
set_option maxRecDepth 20000 in
set_option maxHeartbeats 4000000 in
theorem e_X2_init_h9 (d : Nat) (σ : Hp) (a : Nat) (k n v : Int32) (hg : gH σ a = some (.inr (9, [.int 0, .int 0, .int 0, .null]))) (P : Option Value → Hp → Prop) (h : P none (sH σ a (hrC (9, k, n, v)))) : Ev (d + 2) ix_X2_init 0 0 [.ref a, .int k, .int n, .int v, .ref 30] σ P := by
  refine Ev.intro (M := mi_X2_init) rfl (Nat.le_of_ble_eq_true rfl) ?_
  refine Wp.stepsG 6 (fun cal X P' hk hX hP => ?_)
  show kcall cal ix_X3_init [.ref a, .int k, .int n, .int v, .ref 30] σ [] 0 0 (0, 0) (fun vv σ' c' m' => X (9, [some (.ref a), some (.int k), some (.int n), some (.int v), some (.ref 30)], vv.toList ++ [], σ', c', m'))
  refine kcall0 rfl (hk _ _ _ _ _ _ (e_X3_init_h9 d σ a k n v hg _ ?_))
  show X (9, [some (.ref a), some (.int k), some (.int n), some (.int v), some (.ref 30)], [], sH σ a (hrC (9, k, n, v)), 0, 0)
  refine hX _ ?_
  clear hP hX hk P' X cal
  refine Wp.stepsG 1 (fun cal X P' hk hX hP => ?_)
  exact hP _ _ h
set_option maxRecDepth 20000 in
set_option maxHeartbeats 4000000 in
theorem e_X9_init_h9 (d : Nat) (σ : Hp) (a : Nat) (k n v : Int32) (hg : gH σ a = some (.inr (9, [.int 0, .int 0, .int 0, .null]))) (P : Option Value → Hp → Prop) (h : P none (sH σ a (hrC (9, k, n, v)))) : Ev (d + 3) ix_X9_init 0 0 [.ref a, .int k, .int n, .int v, .ref 30] σ P := by
  refine Ev.intro (M := mi_X9_init) rfl (Nat.le_of_ble_eq_true rfl) ?_
  refine Wp.stepsG 6 (fun cal X P' hk hX hP => ?_)
  show kcall cal ix_X2_init [.ref a, .int k, .int n, .int v, .ref 30] σ [] 0 0 (0, 0) (fun vv σ' c' m' => X (9, [some (.ref a), some (.int k), some (.int n), some (.int v), some (.ref 30)], vv.toList ++ [], σ', c', m'))
  refine kcall0 rfl (hk _ _ _ _ _ _ (e_X2_init_h9 d σ a k n v hg _ ?_))
  show X (9, [some (.ref a), some (.int k), some (.int n), some (.int v), some (.ref 30)], [], sH σ a (hrC (9, k, n, v)), 0, 0)
  refine hX _ ?_
  clear hP hX hk P' X cal
  refine Wp.stepsG 1 (fun cal X P' hk hX hP => ?_)
  exact hP _ _ h
/-- the class of a kind -/
def kC (k : Int32) : Nat := if k = 1 then 6 else if k = 2 then 0 else if k = 3 then 2 else if k = 4 then 4 else if k = 5 then 1 else if k = 6 then 9 else 3
theorem kcallM {cal : Cal} {mi : Nat} {as : List Value} {σ : Hp} {rest : List Value} {c m : Nat} {bd : Nat × Nat} {K : Option Value → Hp → Nat → Nat → Prop} (mc ms : Nat) (h0 : Nat.ble (rest.map fun v => v.category).sum 8 = true) (h1 : c + mc ≤ bd.1 ∧ m + ms ≤ bd.2) (h : cal mi mc ms as σ (fun v σ' => K v σ' (c + mc) (m + ms))) : kcall cal mi as σ rest c m bd K := by
  unfold kcall
  rw [h0]
  exact ⟨mc, ms, h1, h⟩
set_option maxRecDepth 20000 in
set_option maxHeartbeats 4000000 in
theorem nw_6 (d : Nat) (S : St) (hs : List Hr) (k n v : Int32) (P : Option Value → Hp → Prop) (h : P (some (.ref (119 + hs.length))) (st S (hs ++ [(6, k, n, v)]))) : Wp mi_X11_newHearer (Ev (d + 3)) none (1, 4) P (40, [some (.ref 7), some (.int k), some (.int n), some (.int v)], [], st S hs, 0, 0) := by
  refine Wp.stepsG 1 (fun cal X P' hk hX hP => ?_)
  show (0 + 1 ≤ 1 ∧ 0 + 4 ≤ 4) ∧ X (43, [some (.ref 7), some (.int k), some (.int n), some (.int v)], [.ref (st S hs).length], st S hs ++ [.inr (6, [.int 0, .int 0, .int 0, .null])], 1, 4)
  refine ⟨⟨Nat.le_refl _, Nat.le_refl _⟩, hX _ ?_⟩
  clear hP hX hk P' X cal
  refine Wp.stepsG 5 (fun cal X P' hk hX hP => ?_)
  show X (48, [some (.ref 7), some (.int k), some (.int n), some (.int v)], [.ref 7, .int v, .int n, .int k, .ref (st S hs).length, .ref (st S hs).length], st S hs ++ [.inr (6, [.int 0, .int 0, .int 0, .null])], 1, 4)
  refine hX _ ?_
  clear hP hX hk P' X cal
  refine Wp.stepsG 2 (fun cal X P' hk hX hP => ?_)
  show kcall cal ix_X6_init [.ref (st S hs).length, .int k, .int n, .int v, .ref 30] (st S hs ++ [.inr (6, [.int 0, .int 0, .int 0, .null])]) [.ref (st S hs).length] 1 4 (1, 4) (fun vv σ' c' m' => X (54, [some (.ref 7), some (.int k), some (.int n), some (.int v)], vv.toList ++ [.ref (st S hs).length], σ', c', m'))
  refine kcallM 0 0 rfl ⟨Nat.le_refl _, Nat.le_refl _⟩ (hk _ _ _ _ _ _ (e_X6_init_h6 (d + 1) (st S hs ++ [.inr (6, [.int 0, .int 0, .int 0, .null])]) (st S hs).length k n v (gH_app _ _) _ ?_))
  rw [sH_app, st_app, st_len]
  show X (54, [some (.ref 7), some (.int k), some (.int n), some (.int v)], [.ref (119 + hs.length)], st S (hs ++ [(6, k, n, v)]), 1, 4)
  refine hX _ ?_
  clear hP hX hk P' X cal
  refine Wp.stepsG 1 (fun cal X P' hk hX hP => ?_)
  exact hP _ _ h
set_option maxRecDepth 20000 in
set_option maxHeartbeats 4000000 in
theorem nw_0 (d : Nat) (S : St) (hs : List Hr) (k n v : Int32) (P : Option Value → Hp → Prop) (h : P (some (.ref (119 + hs.length))) (st S (hs ++ [(0, k, n, v)]))) : Wp mi_X11_newHearer (Ev (d + 3)) none (1, 4) P (55, [some (.ref 7), some (.int k), some (.int n), some (.int v)], [], st S hs, 0, 0) := by
  refine Wp.stepsG 1 (fun cal X P' hk hX hP => ?_)
  show (0 + 1 ≤ 1 ∧ 0 + 4 ≤ 4) ∧ X (58, [some (.ref 7), some (.int k), some (.int n), some (.int v)], [.ref (st S hs).length], st S hs ++ [.inr (0, [.int 0, .int 0, .int 0, .null])], 1, 4)
  refine ⟨⟨Nat.le_refl _, Nat.le_refl _⟩, hX _ ?_⟩
  clear hP hX hk P' X cal
  refine Wp.stepsG 5 (fun cal X P' hk hX hP => ?_)
  show X (63, [some (.ref 7), some (.int k), some (.int n), some (.int v)], [.ref 7, .int v, .int n, .int k, .ref (st S hs).length, .ref (st S hs).length], st S hs ++ [.inr (0, [.int 0, .int 0, .int 0, .null])], 1, 4)
  refine hX _ ?_
  clear hP hX hk P' X cal
  refine Wp.stepsG 2 (fun cal X P' hk hX hP => ?_)
  show kcall cal ix_X0_init [.ref (st S hs).length, .int k, .int n, .int v, .ref 30] (st S hs ++ [.inr (0, [.int 0, .int 0, .int 0, .null])]) [.ref (st S hs).length] 1 4 (1, 4) (fun vv σ' c' m' => X (69, [some (.ref 7), some (.int k), some (.int n), some (.int v)], vv.toList ++ [.ref (st S hs).length], σ', c', m'))
  refine kcallM 0 0 rfl ⟨Nat.le_refl _, Nat.le_refl _⟩ (hk _ _ _ _ _ _ (e_X0_init_h0 (d + 1) (st S hs ++ [.inr (0, [.int 0, .int 0, .int 0, .null])]) (st S hs).length k n v (gH_app _ _) _ ?_))
  rw [sH_app, st_app, st_len]
  show X (69, [some (.ref 7), some (.int k), some (.int n), some (.int v)], [.ref (119 + hs.length)], st S (hs ++ [(0, k, n, v)]), 1, 4)
  refine hX _ ?_
  clear hP hX hk P' X cal
  refine Wp.stepsG 1 (fun cal X P' hk hX hP => ?_)
  exact hP _ _ h
set_option maxRecDepth 20000 in
set_option maxHeartbeats 4000000 in
theorem nw_2 (d : Nat) (S : St) (hs : List Hr) (k n v : Int32) (P : Option Value → Hp → Prop) (h : P (some (.ref (119 + hs.length))) (st S (hs ++ [(2, k, n, v)]))) : Wp mi_X11_newHearer (Ev (d + 3)) none (1, 4) P (70, [some (.ref 7), some (.int k), some (.int n), some (.int v)], [], st S hs, 0, 0) := by
  refine Wp.stepsG 1 (fun cal X P' hk hX hP => ?_)
  show (0 + 1 ≤ 1 ∧ 0 + 4 ≤ 4) ∧ X (73, [some (.ref 7), some (.int k), some (.int n), some (.int v)], [.ref (st S hs).length], st S hs ++ [.inr (2, [.int 0, .int 0, .int 0, .null])], 1, 4)
  refine ⟨⟨Nat.le_refl _, Nat.le_refl _⟩, hX _ ?_⟩
  clear hP hX hk P' X cal
  refine Wp.stepsG 5 (fun cal X P' hk hX hP => ?_)
  show X (78, [some (.ref 7), some (.int k), some (.int n), some (.int v)], [.ref 7, .int v, .int n, .int k, .ref (st S hs).length, .ref (st S hs).length], st S hs ++ [.inr (2, [.int 0, .int 0, .int 0, .null])], 1, 4)
  refine hX _ ?_
  clear hP hX hk P' X cal
  refine Wp.stepsG 2 (fun cal X P' hk hX hP => ?_)
  show kcall cal ix_X2_init [.ref (st S hs).length, .int k, .int n, .int v, .ref 30] (st S hs ++ [.inr (2, [.int 0, .int 0, .int 0, .null])]) [.ref (st S hs).length] 1 4 (1, 4) (fun vv σ' c' m' => X (84, [some (.ref 7), some (.int k), some (.int n), some (.int v)], vv.toList ++ [.ref (st S hs).length], σ', c', m'))
  refine kcallM 0 0 rfl ⟨Nat.le_refl _, Nat.le_refl _⟩ (hk _ _ _ _ _ _ (e_X2_init_h2 (d + 1) (st S hs ++ [.inr (2, [.int 0, .int 0, .int 0, .null])]) (st S hs).length k n v (gH_app _ _) _ ?_))
  rw [sH_app, st_app, st_len]
  show X (84, [some (.ref 7), some (.int k), some (.int n), some (.int v)], [.ref (119 + hs.length)], st S (hs ++ [(2, k, n, v)]), 1, 4)
  refine hX _ ?_
  clear hP hX hk P' X cal
  refine Wp.stepsG 1 (fun cal X P' hk hX hP => ?_)
  exact hP _ _ h
set_option maxRecDepth 20000 in
set_option maxHeartbeats 4000000 in
theorem nw_4 (d : Nat) (S : St) (hs : List Hr) (k n v : Int32) (P : Option Value → Hp → Prop) (h : P (some (.ref (119 + hs.length))) (st S (hs ++ [(4, k, n, v)]))) : Wp mi_X11_newHearer (Ev (d + 3)) none (1, 4) P (85, [some (.ref 7), some (.int k), some (.int n), some (.int v)], [], st S hs, 0, 0) := by
  refine Wp.stepsG 1 (fun cal X P' hk hX hP => ?_)
  show (0 + 1 ≤ 1 ∧ 0 + 4 ≤ 4) ∧ X (88, [some (.ref 7), some (.int k), some (.int n), some (.int v)], [.ref (st S hs).length], st S hs ++ [.inr (4, [.int 0, .int 0, .int 0, .null])], 1, 4)
  refine ⟨⟨Nat.le_refl _, Nat.le_refl _⟩, hX _ ?_⟩
  clear hP hX hk P' X cal
  refine Wp.stepsG 5 (fun cal X P' hk hX hP => ?_)
  show X (93, [some (.ref 7), some (.int k), some (.int n), some (.int v)], [.ref 7, .int v, .int n, .int k, .ref (st S hs).length, .ref (st S hs).length], st S hs ++ [.inr (4, [.int 0, .int 0, .int 0, .null])], 1, 4)
  refine hX _ ?_
  clear hP hX hk P' X cal
  refine Wp.stepsG 2 (fun cal X P' hk hX hP => ?_)
  show kcall cal ix_X4_init [.ref (st S hs).length, .int k, .int n, .int v, .ref 30] (st S hs ++ [.inr (4, [.int 0, .int 0, .int 0, .null])]) [.ref (st S hs).length] 1 4 (1, 4) (fun vv σ' c' m' => X (99, [some (.ref 7), some (.int k), some (.int n), some (.int v)], vv.toList ++ [.ref (st S hs).length], σ', c', m'))
  refine kcallM 0 0 rfl ⟨Nat.le_refl _, Nat.le_refl _⟩ (hk _ _ _ _ _ _ (e_X4_init_h4 (d + 0) (st S hs ++ [.inr (4, [.int 0, .int 0, .int 0, .null])]) (st S hs).length k n v (gH_app _ _) _ ?_))
  rw [sH_app, st_app, st_len]
  show X (99, [some (.ref 7), some (.int k), some (.int n), some (.int v)], [.ref (119 + hs.length)], st S (hs ++ [(4, k, n, v)]), 1, 4)
  refine hX _ ?_
  clear hP hX hk P' X cal
  refine Wp.stepsG 1 (fun cal X P' hk hX hP => ?_)
  exact hP _ _ h
set_option maxRecDepth 20000 in
set_option maxHeartbeats 4000000 in
theorem nw_1 (d : Nat) (S : St) (hs : List Hr) (k n v : Int32) (P : Option Value → Hp → Prop) (h : P (some (.ref (119 + hs.length))) (st S (hs ++ [(1, k, n, v)]))) : Wp mi_X11_newHearer (Ev (d + 3)) none (1, 4) P (100, [some (.ref 7), some (.int k), some (.int n), some (.int v)], [], st S hs, 0, 0) := by
  refine Wp.stepsG 1 (fun cal X P' hk hX hP => ?_)
  show (0 + 1 ≤ 1 ∧ 0 + 4 ≤ 4) ∧ X (103, [some (.ref 7), some (.int k), some (.int n), some (.int v)], [.ref (st S hs).length], st S hs ++ [.inr (1, [.int 0, .int 0, .int 0, .null])], 1, 4)
  refine ⟨⟨Nat.le_refl _, Nat.le_refl _⟩, hX _ ?_⟩
  clear hP hX hk P' X cal
  refine Wp.stepsG 5 (fun cal X P' hk hX hP => ?_)
  show X (108, [some (.ref 7), some (.int k), some (.int n), some (.int v)], [.ref 7, .int v, .int n, .int k, .ref (st S hs).length, .ref (st S hs).length], st S hs ++ [.inr (1, [.int 0, .int 0, .int 0, .null])], 1, 4)
  refine hX _ ?_
  clear hP hX hk P' X cal
  refine Wp.stepsG 2 (fun cal X P' hk hX hP => ?_)
  show kcall cal ix_X1_init [.ref (st S hs).length, .int k, .int n, .int v, .ref 30] (st S hs ++ [.inr (1, [.int 0, .int 0, .int 0, .null])]) [.ref (st S hs).length] 1 4 (1, 4) (fun vv σ' c' m' => X (114, [some (.ref 7), some (.int k), some (.int n), some (.int v)], vv.toList ++ [.ref (st S hs).length], σ', c', m'))
  refine kcallM 0 0 rfl ⟨Nat.le_refl _, Nat.le_refl _⟩ (hk _ _ _ _ _ _ (e_X1_init_h1 (d + 0) (st S hs ++ [.inr (1, [.int 0, .int 0, .int 0, .null])]) (st S hs).length k n v (gH_app _ _) _ ?_))
  rw [sH_app, st_app, st_len]
  show X (114, [some (.ref 7), some (.int k), some (.int n), some (.int v)], [.ref (119 + hs.length)], st S (hs ++ [(1, k, n, v)]), 1, 4)
  refine hX _ ?_
  clear hP hX hk P' X cal
  refine Wp.stepsG 1 (fun cal X P' hk hX hP => ?_)
  exact hP _ _ h
set_option maxRecDepth 20000 in
set_option maxHeartbeats 4000000 in
theorem nw_9 (d : Nat) (S : St) (hs : List Hr) (k n v : Int32) (P : Option Value → Hp → Prop) (h : P (some (.ref (119 + hs.length))) (st S (hs ++ [(9, k, n, v)]))) : Wp mi_X11_newHearer (Ev (d + 3)) none (1, 4) P (115, [some (.ref 7), some (.int k), some (.int n), some (.int v)], [], st S hs, 0, 0) := by
  refine Wp.stepsG 1 (fun cal X P' hk hX hP => ?_)
  show (0 + 1 ≤ 1 ∧ 0 + 4 ≤ 4) ∧ X (118, [some (.ref 7), some (.int k), some (.int n), some (.int v)], [.ref (st S hs).length], st S hs ++ [.inr (9, [.int 0, .int 0, .int 0, .null])], 1, 4)
  refine ⟨⟨Nat.le_refl _, Nat.le_refl _⟩, hX _ ?_⟩
  clear hP hX hk P' X cal
  refine Wp.stepsG 5 (fun cal X P' hk hX hP => ?_)
  show X (123, [some (.ref 7), some (.int k), some (.int n), some (.int v)], [.ref 7, .int v, .int n, .int k, .ref (st S hs).length, .ref (st S hs).length], st S hs ++ [.inr (9, [.int 0, .int 0, .int 0, .null])], 1, 4)
  refine hX _ ?_
  clear hP hX hk P' X cal
  refine Wp.stepsG 2 (fun cal X P' hk hX hP => ?_)
  show kcall cal ix_X9_init [.ref (st S hs).length, .int k, .int n, .int v, .ref 30] (st S hs ++ [.inr (9, [.int 0, .int 0, .int 0, .null])]) [.ref (st S hs).length] 1 4 (1, 4) (fun vv σ' c' m' => X (129, [some (.ref 7), some (.int k), some (.int n), some (.int v)], vv.toList ++ [.ref (st S hs).length], σ', c', m'))
  refine kcallM 0 0 rfl ⟨Nat.le_refl _, Nat.le_refl _⟩ (hk _ _ _ _ _ _ (e_X9_init_h9 (d + 0) (st S hs ++ [.inr (9, [.int 0, .int 0, .int 0, .null])]) (st S hs).length k n v (gH_app _ _) _ ?_))
  rw [sH_app, st_app, st_len]
  show X (129, [some (.ref 7), some (.int k), some (.int n), some (.int v)], [.ref (119 + hs.length)], st S (hs ++ [(9, k, n, v)]), 1, 4)
  refine hX _ ?_
  clear hP hX hk P' X cal
  refine Wp.stepsG 1 (fun cal X P' hk hX hP => ?_)
  exact hP _ _ h
set_option maxRecDepth 20000 in
set_option maxHeartbeats 4000000 in
theorem nw_3 (d : Nat) (S : St) (hs : List Hr) (k n v : Int32) (P : Option Value → Hp → Prop) (h : P (some (.ref (119 + hs.length))) (st S (hs ++ [(3, k, n, v)]))) : Wp mi_X11_newHearer (Ev (d + 3)) none (1, 4) P (130, [some (.ref 7), some (.int k), some (.int n), some (.int v)], [], st S hs, 0, 0) := by
  refine Wp.stepsG 1 (fun cal X P' hk hX hP => ?_)
  show (0 + 1 ≤ 1 ∧ 0 + 4 ≤ 4) ∧ X (133, [some (.ref 7), some (.int k), some (.int n), some (.int v)], [.ref (st S hs).length], st S hs ++ [.inr (3, [.int 0, .int 0, .int 0, .null])], 1, 4)
  refine ⟨⟨Nat.le_refl _, Nat.le_refl _⟩, hX _ ?_⟩
  clear hP hX hk P' X cal
  refine Wp.stepsG 5 (fun cal X P' hk hX hP => ?_)
  show X (138, [some (.ref 7), some (.int k), some (.int n), some (.int v)], [.ref 7, .int v, .int n, .int k, .ref (st S hs).length, .ref (st S hs).length], st S hs ++ [.inr (3, [.int 0, .int 0, .int 0, .null])], 1, 4)
  refine hX _ ?_
  clear hP hX hk P' X cal
  refine Wp.stepsG 2 (fun cal X P' hk hX hP => ?_)
  show kcall cal ix_X3_init [.ref (st S hs).length, .int k, .int n, .int v, .ref 30] (st S hs ++ [.inr (3, [.int 0, .int 0, .int 0, .null])]) [.ref (st S hs).length] 1 4 (1, 4) (fun vv σ' c' m' => X (144, [some (.ref 7), some (.int k), some (.int n), some (.int v)], vv.toList ++ [.ref (st S hs).length], σ', c', m'))
  refine kcallM 0 0 rfl ⟨Nat.le_refl _, Nat.le_refl _⟩ (hk _ _ _ _ _ _ (e_X3_init_h3 (d + 2) (st S hs ++ [.inr (3, [.int 0, .int 0, .int 0, .null])]) (st S hs).length k n v (gH_app _ _) _ ?_))
  rw [sH_app, st_app, st_len]
  show X (144, [some (.ref 7), some (.int k), some (.int n), some (.int v)], [.ref (119 + hs.length)], st S (hs ++ [(3, k, n, v)]), 1, 4)
  refine hX _ ?_
  clear hP hX hk P' X cal
  refine Wp.stepsG 1 (fun cal X P' hk hX hP => ?_)
  exact hP _ _ h
set_option maxRecDepth 20000 in
set_option maxHeartbeats 4000000 in
theorem e_X11_newHearer (d : Nat) (S : St) (hs : List Hr) (k n v : Int32) (P : Option Value → Hp → Prop) (h : P (some (.ref (119 + hs.length))) (st S (hs ++ [(kC k, k, n, v)]))) : Ev (d + 4) ix_X11_newHearer 1 4 [.ref 7, .int k, .int n, .int v] (st S hs) P := by
  refine Ev.intro (M := mi_X11_newHearer) rfl (Nat.le_of_ble_eq_true rfl) ?_
  refine Wp.stepsG 2 (fun cal X P' hk hX hP => ?_)
  show (k = 1 → X (40, [some (.ref 7), some (.int k), some (.int n), some (.int v)], [], st S hs, 0, 0)) ∧ (¬ k = 1 → (k = 2 → X (55, [some (.ref 7), some (.int k), some (.int n), some (.int v)], [], st S hs, 0, 0)) ∧ (¬ k = 2 → (k = 3 → X (70, [some (.ref 7), some (.int k), some (.int n), some (.int v)], [], st S hs, 0, 0)) ∧ (¬ k = 3 → (k = 4 → X (85, [some (.ref 7), some (.int k), some (.int n), some (.int v)], [], st S hs, 0, 0)) ∧ (¬ k = 4 → (k = 5 → X (100, [some (.ref 7), some (.int k), some (.int n), some (.int v)], [], st S hs, 0, 0)) ∧ (¬ k = 5 → (k = 6 → X (115, [some (.ref 7), some (.int k), some (.int n), some (.int v)], [], st S hs, 0, 0)) ∧ (¬ k = 6 → X (130, [some (.ref 7), some (.int k), some (.int n), some (.int v)], [], st S hs, 0, 0)))))))
  refine ⟨fun h1 => hX _ ?_, fun h1 => ⟨fun h2 => hX _ ?_, fun h2 => ⟨fun h3 => hX _ ?_, fun h3 => ⟨fun h4 => hX _ ?_, fun h4 => ⟨fun h5 => hX _ ?_, fun h5 => ⟨fun h6 => hX _ ?_, fun h6 => hX _ ?_⟩⟩⟩⟩⟩⟩
  · clear hP hX hk P' X cal
    have e : kC k = 6 := by
      unfold kC
      rw [if_pos h1]
    rw [e] at h
    exact nw_6 d S hs k n v P h
  · clear hP hX hk P' X cal
    have e : kC k = 0 := by
      unfold kC
      rw [if_neg h1, if_pos h2]
    rw [e] at h
    exact nw_0 d S hs k n v P h
  · clear hP hX hk P' X cal
    have e : kC k = 2 := by
      unfold kC
      rw [if_neg h1, if_neg h2, if_pos h3]
    rw [e] at h
    exact nw_2 d S hs k n v P h
  · clear hP hX hk P' X cal
    have e : kC k = 4 := by
      unfold kC
      rw [if_neg h1, if_neg h2, if_neg h3, if_pos h4]
    rw [e] at h
    exact nw_4 d S hs k n v P h
  · clear hP hX hk P' X cal
    have e : kC k = 1 := by
      unfold kC
      rw [if_neg h1, if_neg h2, if_neg h3, if_neg h4, if_pos h5]
    rw [e] at h
    exact nw_1 d S hs k n v P h
  · clear hP hX hk P' X cal
    have e : kC k = 9 := by
      unfold kC
      rw [if_neg h1, if_neg h2, if_neg h3, if_neg h4, if_neg h5, if_pos h6]
    rw [e] at h
    exact nw_9 d S hs k n v P h
  · clear hP hX hk P' X cal
    have e : kC k = 3 := by
      unfold kC
      rw [if_neg h1, if_neg h2, if_neg h3, if_neg h4, if_neg h5, if_neg h6]
    rw [e] at h
    exact nw_3 d S hs k n v P h
theorem kC_fam (k : Int32) : isFam (kC k) = true := by
  unfold kC
  (repeat' split) <;> rfl
def r_X11_hearer (S : St) (hs : List Hr) (a1 : Int32) (a2 : Int32) : Option (Int32 × St × List Hr) :=
  if (r_X11_within a1 0 6) = 0 then
    some ((-1), S, hs)
  else
    if (r_X11_within a2 0 9) = 0 then
      some ((-2), S, hs)
    else
      if (S.1 8 3) < 6 then
        gd (¬ ((S.1 8 3) < 0 ∨ 6 ≤ (S.1 8 3).toNatClampNeg)) (
          some (S.1 8 3, sI (sQ S 11 (va_up (S.2.2 11) (S.1 8 3).toNatClampNeg (some (119 + hs.length)))) 8 3 ((S.1 8 3) + 1), hs ++ [(kC a1, a1, S.1 8 3, a2)]))
      else
        some ((-4), S, hs)
set_option maxRecDepth 20000 in
set_option maxHeartbeats 4000000 in
theorem e_X11_hearer (d : Nat) (S : St) (hs : List Hr) (a1 : Int32) (a2 : Int32) (v : Int32 × St × List Hr) (hr : r_X11_hearer S hs a1 a2 = some v) (P : Option Value → Hp → Prop) (h : P (some (.int v.1)) (st v.2.1 v.2.2)) : Ev (d + 5) ix_X11_hearer 1 4 [.ref 7, .int a1, .int a2] (st S hs) P := by
  refine Ev.intro (M := mi_X11_hearer) rfl (Nat.le_of_ble_eq_true rfl) ?_
  unfold r_X11_hearer at hr
  refine Wp.stepsG 4 (fun cal X P' hk hX hP => ?_)
  show kcall cal ix_X11_within [.int a1, .int 0, .int 6] (st S hs) [] 0 0 (1, 4) (fun v σ' c' m' => X (7, [some (.ref 7), some (.int a1), some (.int a2)], v.toList ++ [], σ', c', m'))
  refine kcallM 0 0 rfl ⟨Nat.zero_le _, Nat.zero_le _⟩ (hk _ _ _ _ _ _ (e_X11_within (d + 3) S hs a1 0 6 _ ?_))
  show X (7, [some (.ref 7), some (.int a1), some (.int a2)], [.int (r_X11_within a1 0 6)], st S hs, 0, 0)
  refine hX _ ?_
  clear hP hX hk P' X cal
  refine Wp.stepsG 1 (fun cal X P' hk hX hP => ?_)
  show (¬ (r_X11_within a1 0 6) = 0 → X (12, [some (.ref 7), some (.int a1), some (.int a2)], [], st S hs, 0, 0)) ∧ ((r_X11_within a1 0 6) = 0 → X (10, [some (.ref 7), some (.int a1), some (.int a2)], [], st S hs, 0, 0))
  refine ⟨fun hc => hX _ ?_, fun hc => hX _ ?_⟩
  · clear hP hX hk P' X cal
    rw [if_neg hc] at hr
    refine Wp.stepsG 4 (fun cal X P' hk hX hP => ?_)
    show kcall cal ix_X11_within [.int a2, .int 0, .int 9] (st S hs) [] 0 0 (1, 4) (fun v σ' c' m' => X (19, [some (.ref 7), some (.int a1), some (.int a2)], v.toList ++ [], σ', c', m'))
    refine kcallM 0 0 rfl ⟨Nat.zero_le _, Nat.zero_le _⟩ (hk _ _ _ _ _ _ (e_X11_within (d + 3) S hs a2 0 9 _ ?_))
    show X (19, [some (.ref 7), some (.int a1), some (.int a2)], [.int (r_X11_within a2 0 9)], st S hs, 0, 0)
    refine hX _ ?_
    clear hP hX hk P' X cal
    refine Wp.stepsG 1 (fun cal X P' hk hX hP => ?_)
    show (¬ (r_X11_within a2 0 9) = 0 → X (25, [some (.ref 7), some (.int a1), some (.int a2)], [], st S hs, 0, 0)) ∧ ((r_X11_within a2 0 9) = 0 → X (22, [some (.ref 7), some (.int a1), some (.int a2)], [], st S hs, 0, 0))
    refine ⟨fun hc => hX _ ?_, fun hc => hX _ ?_⟩
    · clear hP hX hk P' X cal
      rw [if_neg hc] at hr
      refine Wp.stepsG 5 (fun cal X P' hk hX hP => ?_)
      show ((S.1 8 3) < 6 → X (40, [some (.ref 7), some (.int a1), some (.int a2)], [], st S hs, 0, 0)) ∧ (¬ (S.1 8 3) < 6 → X (37, [some (.ref 7), some (.int a1), some (.int a2)], [], st S hs, 0, 0))
      refine ⟨fun hc => hX _ ?_, fun hc => hX _ ?_⟩
      · clear hP hX hk P' X cal
        rw [if_pos hc] at hr
        obtain ⟨hg, hr⟩ := gd_some hr
        have hr := Option.some.inj hr
        subst hr
        refine Wp.stepsG 13 (fun cal X P' hk hX hP => ?_)
        show kcall cal ix_X11_newHearer [.ref 7, .int a1, .int (S.1 8 3), .int a2] (st S hs) [.int (S.1 8 3), .ref 11] 0 0 (1, 4) (fun v σ' c' m' => X (67, [some (.ref 7), some (.int a1), some (.int a2)], v.toList ++ [.int (S.1 8 3), .ref 11], σ', c', m'))
        refine kcallM 1 4 rfl ⟨Nat.le_refl _, Nat.le_refl _⟩ (hk _ _ _ _ _ _ (e_X11_newHearer d S hs a1 (S.1 8 3) a2 _ ?_))
        show X (67, [some (.ref 7), some (.int a1), some (.int a2)], [.ref (119 + hs.length), .int (S.1 8 3), .ref 11], st S (hs ++ [(kC a1, a1, S.1 8 3, a2)]), 1, 4)
        refine hX _ ?_
        clear hP hX hk P' X cal
        have hn : gH (st S (hs ++ [(kC a1, a1, S.1 8 3, a2)])) (119 + hs.length) = some (hrC (kC a1, a1, S.1 8 3, a2)) := by
          rw [← st_app, ← st_len S hs]
          exact gH_app _ _
        refine Wp.stepsG 1 (fun cal X P' hk hX hP => ?_)
        show vp_in (S.1 8 3) 6 ∧ kObj (st S (hs ++ [(kC a1, a1, S.1 8 3, a2)])) (119 + hs.length) fun ci _ => kB (aOk (clsOf RX3) ci) (X (68, [some (.ref 7), some (.int a1), some (.int a2)], [], st (sQ S 11 (va_up (S.2.2 11) (S.1 8 3).toNatClampNeg (some (119 + hs.length)))) (hs ++ [(kC a1, a1, S.1 8 3, a2)]), 1, 4))
        refine ⟨hg, kObj_at hn (kB_at (aok11 (kC_fam a1)) (hX _ ?_))⟩
        clear hP hX hk P' X cal
        refine Wp.stepsG 9 (fun cal X P' hk hX hP => ?_)
        exact hP _ _ h
      · clear hP hX hk P' X cal
        rw [if_neg hc] at hr
        have hr := Option.some.inj hr
        subst hr
        refine Wp.stepsG 2 (fun cal X P' hk hX hP => ?_)
        exact hP _ _ h
    · clear hP hX hk P' X cal
      rw [if_pos hc] at hr
      have hr := Option.some.inj hr
      subst hr
      refine Wp.stepsG 2 (fun cal X P' hk hX hP => ?_)
      exact hP _ _ h
  · clear hP hX hk P' X cal
    rw [if_pos hc] at hr
    have hr := Option.some.inj hr
    subst hr
    refine Wp.stepsG 2 (fun cal X P' hk hX hP => ?_)
    exact hP _ _ h
