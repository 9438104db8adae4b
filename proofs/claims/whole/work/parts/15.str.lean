/-! TEXT: length and charAt of the text constants -/
section STR
variable {p : Program} {l : Launch} {e : Env} {R : Room} {s : State} {m : MethodId} {args : Array Value} {below : List Frame} {meth : Method} {c : Code} {Q : State → Prop}
variable {D : va_G} {tA : FieldType → ClassId} {A : Nat → Prop} {cc : ByteArray} {nL : Nat} {ad0 : Nat → Nat} {n0 : Nat} {Ts : List Cond} {own : String} {y : MethodName} {scr : Option (Nat × (Nat → Int32))}
variable {ad : Nat → Nat} {ls : Array Slot} {H : Heap} {locs : List Loc} {L : Lc} {st st' : List Value} {σ : Hp}
theorem str_len (hE : Env0 p l R s m args meth c D tA A cc nL ad0 n0 Ts own y scr) {bd : Nat × Nat} (hR : R.cells = bd.1 ∧ R.slots = bd.2) (hs : Sim s D tA A nL ad0 n0 ad ls H locs L st σ) {pc idx cn sn q : Nat} {r : List Value} (hcn : cn ≤ bd.1) (hsn : sn ≤ bd.2) (h1 : 1 ≤ q) (h6 : q ≤ 6) (hcat : (r.map fun v => v.category).sum ≤ 8)
    (hlink : (Cond.methodLink own idx yJ0_length_8abf5).before args s = true) (hdg : decode cc pc = .ok (.invokevirtual idx, 3))
    (k : W p l e R s m args below meth c H locs cn sn Q (F0 m (pc + 3) ls (.int (Int32.ofNat (nAt strN q)) :: r.map (ph ad)))) : W p l e R s m args below meth c H locs cn sn Q (F0 m pc ls (.ref (ad q) :: r.map (ph ad))) := sorry
theorem str_chr (hE : Env0 p l R s m args meth c D tA A cc nL ad0 n0 Ts own y scr) {bd : Nat × Nat} (hR : R.cells = bd.1 ∧ R.slots = bd.2) (hs : Sim s D tA A nL ad0 n0 ad ls H locs L st σ) {pc idx cn sn q : Nat} {x : Int32} {r : List Value} (hcn : cn ≤ bd.1) (hsn : sn ≤ bd.2) (h1 : 1 ≤ q) (h6 : q ≤ 6) (hin : vp_in x (nAt strN q)) (hcat : (r.map fun v => v.category).sum ≤ 8)
    (hlink : (Cond.methodLink own idx yJ0_charAt_5068e).before args s = true) (hdg : decode cc pc = .ok (.invokevirtual idx, 3))
    (k : W p l e R s m args below meth c H locs cn sn Q (F0 m (pc + 3) ls (.int (cAt (bAt strB q) x.toNatClampNeg) :: r.map (ph ad)))) : W p l e R s m args below meth c H locs cn sn Q (F0 m pc ls (.int x :: .ref (ad q) :: r.map (ph ad))) := sorry
end STR
