set_option maxHeartbeats 20000 in
theorem q1 (cal : Cal) (X : Cf → Prop) (P : Option Value → Hp → Prop) (S : St) (hs : List Hr) (L : Lc) (x : Int32) : stepN mi_X12_isStory cal none (0, 0) X P 1 (8, L, [.int 1, .int (S.1 76 0)], st S hs, 0, 0) = X (9, L, [.int (S.1 76 0 - 1)], st S hs, 0, 0) := rfl
set_option maxHeartbeats 20000 in
theorem q2 (cal : Cal) (X : Cf → Prop) (P : Option Value → Hp → Prop) (S : St) (hs : List Hr) (L : Lc) (x : Int32) : stepN mi_X12_isStory cal none (0, 0) X P 2 (7, L, [.int (S.1 76 0)], st S hs, 0, 0) = X (9, L, [.int (S.1 76 0 - 1)], st S hs, 0, 0) := rfl
set_option maxHeartbeats 20000 in
theorem q3 (cal : Cal) (X : Cf → Prop) (P : Option Value → Hp → Prop) (S : St) (hs : List Hr) (L : Lc) (x : Int32) : stepN mi_X12_isStory cal none (0, 0) X P 1 (4, L, [.ref 76], st S hs, 0, 0) = X (7, L, [.int (S.1 76 0)], st S hs, 0, 0) := rfl
set_option maxHeartbeats 20000 in
theorem q4 (cal : Cal) (X : Cf → Prop) (P : Option Value → Hp → Prop) (S : St) (hs : List Hr) (L : Lc) (x : Int32) : stepN mi_X12_isStory cal none (0, 0) X P 2 (4, L, [.ref 76], st S hs, 0, 0) = X (8, L, [.int 1, .int (S.1 76 0)], st S hs, 0, 0) := rfl
set_option maxHeartbeats 20000 in
theorem q5 (cal : Cal) (X : Cf → Prop) (P : Option Value → Hp → Prop) (S : St) (hs : List Hr) (L : Lc) (x : Int32) : stepN mi_X12_isStory cal none (0, 0) X P 3 (4, L, [.ref 76], st S hs, 0, 0) = X (9, L, [.int (S.1 76 0 - 1)], st S hs, 0, 0) := rfl
set_option maxHeartbeats 40000 in
theorem q6 (cal : Cal) (X : Cf → Prop) (P : Option Value → Hp → Prop) (o : Option Value) (S : St) (hs : List Hr) (x : Int32) : stepN mi_X12_isStory cal none (0, 0) X P 7 (0, [some (.ref 76), some (.int x)], [], st S hs, 0, 0) = X (9, [some (.ref 76), some (.int x)], [.int (S.1 76 0 - 1), .int 0, .int x, .ref 76], st S hs, 0, 0) := rfl
set_option maxHeartbeats 40000 in
theorem q7 (cal : Cal) (X : Cf → Prop) (P : Option Value → Hp → Prop) (o : Option Value) (S : St) (hs : List Hr) (x : Int32) : stepN mi_X12_isStory cal none (0, 0) X P 8 (0, [some (.ref 76), some (.int x)], [], st S hs, 0, 0) = kcall cal ix_X12_in [.ref 76, .int x, .int 0, .int (S.1 76 0 - 1)] (st S hs) [] 0 0 (0, 0) (fun v σ' c' m' => X (12, [some (.ref 76), some (.int x)], v.toList ++ [], σ', c', m')) := rfl
