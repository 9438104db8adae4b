/-! TEXT: length and charAt of the text constants, by contracts of the JDK's own methods; written by gen15s.py -/
def jN : Nat → Prop := fun _ => False
def jw (y : MethodName) (c : ByteArray) (n : Nat) (r : Option FieldType) : List Cond := .code y c n r :: goodTbl
theorem dj_cod_0 : decode cJ0_coder_7d493 0 = .ok (.getstatic 38, 3) := by decide +kernel
theorem dj_cod_3 : decode cJ0_coder_7d493 3 = .ok (.ifCond .eq 10, 3) := by decide +kernel
theorem dj_cod_6 : decode cJ0_coder_7d493 6 = .ok (.aload_n 0, 1) := by decide +kernel
theorem dj_cod_7 : decode cJ0_coder_7d493 7 = .ok (.getfield 15, 3) := by decide +kernel
theorem dj_cod_10 : decode cJ0_coder_7d493 10 = .ok (.goto 4, 3) := by decide +kernel
theorem dj_cod_14 : decode cJ0_coder_7d493 14 = .ok (.ireturn, 1) := by decide +kernel
theorem dj_lat_0 : decode cJ0_isLatin1_aae02 0 = .ok (.getstatic 38, 3) := by decide +kernel
theorem dj_lat_3 : decode cJ0_isLatin1_aae02 3 = .ok (.ifCond .eq 14, 3) := by decide +kernel
theorem dj_lat_6 : decode cJ0_isLatin1_aae02 6 = .ok (.aload_n 0, 1) := by decide +kernel
theorem dj_lat_7 : decode cJ0_isLatin1_aae02 7 = .ok (.getfield 15, 3) := by decide +kernel
theorem dj_lat_10 : decode cJ0_isLatin1_aae02 10 = .ok (.ifCond .ne 7, 3) := by decide +kernel
theorem dj_lat_13 : decode cJ0_isLatin1_aae02 13 = .ok (.iconst 1, 1) := by decide +kernel
theorem dj_lat_14 : decode cJ0_isLatin1_aae02 14 = .ok (.goto 4, 3) := by decide +kernel
theorem dj_lat_18 : decode cJ0_isLatin1_aae02 18 = .ok (.ireturn, 1) := by decide +kernel
theorem dj_len_0 : decode cJ0_length_8abf5 0 = .ok (.aload_n 0, 1) := by decide +kernel
theorem dj_len_1 : decode cJ0_length_8abf5 1 = .ok (.getfield 9, 3) := by decide +kernel
theorem dj_len_4 : decode cJ0_length_8abf5 4 = .ok (.arraylength, 1) := by decide +kernel
theorem dj_len_5 : decode cJ0_length_8abf5 5 = .ok (.aload_n 0, 1) := by decide +kernel
theorem dj_len_6 : decode cJ0_length_8abf5 6 = .ok (.invokevirtual 335, 3) := by decide +kernel
theorem dj_len_9 : decode cJ0_length_8abf5 9 = .ok (.ishr, 1) := by decide +kernel
theorem dj_len_10 : decode cJ0_length_8abf5 10 = .ok (.ireturn, 1) := by decide +kernel
theorem dj_pre_0 : decode cJ3_checkIndex_8e157 0 = .ok (.iload_n 0, 1) := by decide +kernel
theorem dj_pre_1 : decode cJ3_checkIndex_8e157 1 = .ok (.ifCond .lt 8, 3) := by decide +kernel
theorem dj_pre_4 : decode cJ3_checkIndex_8e157 4 = .ok (.iload_n 0, 1) := by decide +kernel
theorem dj_pre_5 : decode cJ3_checkIndex_8e157 5 = .ok (.iload_n 1, 1) := by decide +kernel
theorem dj_pre_6 : decode cJ3_checkIndex_8e157 6 = .ok (.if_icmp .lt 10, 3) := by decide +kernel
theorem dj_pre_16 : decode cJ3_checkIndex_8e157 16 = .ok (.iload_n 0, 1) := by decide +kernel
theorem dj_pre_17 : decode cJ3_checkIndex_8e157 17 = .ok (.ireturn, 1) := by decide +kernel
theorem dj_ck_0 : decode cJ0_checkIndex_df160 0 = .ok (.iload_n 0, 1) := by decide +kernel
theorem dj_ck_1 : decode cJ0_checkIndex_df160 1 = .ok (.iload_n 1, 1) := by decide +kernel
theorem dj_ck_2 : decode cJ0_checkIndex_df160 2 = .ok (.getstatic 1053, 3) := by decide +kernel
theorem dj_ck_5 : decode cJ0_checkIndex_df160 5 = .ok (.invokestatic 1059, 3) := by decide +kernel
theorem dj_ck_8 : decode cJ0_checkIndex_df160 8 = .ok (.pop, 1) := by decide +kernel
theorem dj_ck_9 : decode cJ0_checkIndex_df160 9 = .ok (.return_, 1) := by decide +kernel
theorem dj_l1_0 : decode cJ1_charAt_3b067 0 = .ok (.iload_n 1, 1) := by decide +kernel
theorem dj_l1_1 : decode cJ1_charAt_3b067 1 = .ok (.aload_n 0, 1) := by decide +kernel
theorem dj_l1_2 : decode cJ1_charAt_3b067 2 = .ok (.arraylength, 1) := by decide +kernel
theorem dj_l1_3 : decode cJ1_charAt_3b067 3 = .ok (.invokestatic 9, 3) := by decide +kernel
theorem dj_l1_6 : decode cJ1_charAt_3b067 6 = .ok (.aload_n 0, 1) := by decide +kernel
theorem dj_l1_7 : decode cJ1_charAt_3b067 7 = .ok (.iload_n 1, 1) := by decide +kernel
theorem dj_l1_8 : decode cJ1_charAt_3b067 8 = .ok (.baload, 1) := by decide +kernel
theorem dj_l1_9 : decode cJ1_charAt_3b067 9 = .ok (.sipush 255, 3) := by decide +kernel
theorem dj_l1_12 : decode cJ1_charAt_3b067 12 = .ok (.iand, 1) := by decide +kernel
theorem dj_l1_13 : decode cJ1_charAt_3b067 13 = .ok (.i2c, 1) := by decide +kernel
theorem dj_l1_14 : decode cJ1_charAt_3b067 14 = .ok (.ireturn, 1) := by decide +kernel
theorem dj_chr_0 : decode cJ0_charAt_5068e 0 = .ok (.aload_n 0, 1) := by decide +kernel
theorem dj_chr_1 : decode cJ0_charAt_5068e 1 = .ok (.invokevirtual 492, 3) := by decide +kernel
theorem dj_chr_4 : decode cJ0_charAt_5068e 4 = .ok (.ifCond .eq 12, 3) := by decide +kernel
theorem dj_chr_7 : decode cJ0_charAt_5068e 7 = .ok (.aload_n 0, 1) := by decide +kernel
theorem dj_chr_8 : decode cJ0_charAt_5068e 8 = .ok (.getfield 9, 3) := by decide +kernel
theorem dj_chr_11 : decode cJ0_charAt_5068e 11 = .ok (.iload_n 1, 1) := by decide +kernel
theorem dj_chr_12 : decode cJ0_charAt_5068e 12 = .ok (.invokestatic 495, 3) := by decide +kernel
theorem dj_chr_15 : decode cJ0_charAt_5068e 15 = .ok (.ireturn, 1) := by decide +kernel
theorem wj_c_len : Cond.code yJ0_length_8abf5 cJ0_length_8abf5 1 (some .int) ∈ goodTbl := wAt_ok (i := 2227) (by decide +kernel)
theorem wj_i_len : Cond.instanceMethod yJ0_length_8abf5 ∈ goodTbl := wAt_ok (i := 2225) (by decide +kernel)
theorem wj_s_len : Cond.selects RJ0 yJ0_length_8abf5 yJ0_length_8abf5 ∈ goodTbl := wAt_ok (i := 2226) (by decide +kernel)
theorem wj_c_cod : Cond.code yJ0_coder_7d493 cJ0_coder_7d493 1 (some .byte) ∈ goodTbl := wAt_ok (i := 2231) (by decide +kernel)
theorem wj_i_cod : Cond.instanceMethod yJ0_coder_7d493 ∈ goodTbl := wAt_ok (i := 2229) (by decide +kernel)
theorem wj_s_cod : Cond.selects RJ0 yJ0_coder_7d493 yJ0_coder_7d493 ∈ goodTbl := wAt_ok (i := 2230) (by decide +kernel)
theorem wj_c_chr : Cond.code yJ0_charAt_5068e cJ0_charAt_5068e 2 (some .char) ∈ goodTbl := wAt_ok (i := 3001) (by decide +kernel)
theorem wj_i_chr : Cond.instanceMethod yJ0_charAt_5068e ∈ goodTbl := wAt_ok (i := 2239) (by decide +kernel)
theorem wj_s_chr : Cond.selects RJ0 yJ0_charAt_5068e yJ0_charAt_5068e ∈ goodTbl := wAt_ok (i := 3000) (by decide +kernel)
theorem wj_c_lat : Cond.code yJ0_isLatin1_aae02 cJ0_isLatin1_aae02 1 (some .boolean) ∈ goodTbl := wAt_ok (i := 3005) (by decide +kernel)
theorem wj_i_lat : Cond.instanceMethod yJ0_isLatin1_aae02 ∈ goodTbl := wAt_ok (i := 3003) (by decide +kernel)
theorem wj_s_lat : Cond.selects RJ0 yJ0_isLatin1_aae02 yJ0_isLatin1_aae02 ∈ goodTbl := wAt_ok (i := 3004) (by decide +kernel)
theorem wj_c_l1 : Cond.code yJ1_charAt_3b067 cJ1_charAt_3b067 2 (some .char) ∈ goodTbl := wAt_ok (i := 3008) (by decide +kernel)
theorem wj_t_l1 : Cond.static yJ1_charAt_3b067 ∈ goodTbl := wAt_ok (i := 3007) (by decide +kernel)
theorem wj_c_ck : Cond.code yJ0_checkIndex_df160 cJ0_checkIndex_df160 2 none ∈ goodTbl := wAt_ok (i := 3011) (by decide +kernel)
theorem wj_t_ck : Cond.static yJ0_checkIndex_df160 ∈ goodTbl := wAt_ok (i := 3010) (by decide +kernel)
theorem wj_c_pre : Cond.code yJ3_checkIndex_8e157 cJ3_checkIndex_8e157 3 (some .int) ∈ goodTbl := wAt_ok (i := 3016) (by decide +kernel)
theorem wj_t_pre : Cond.static yJ3_checkIndex_8e157 ∈ goodTbl := wAt_ok (i := 3015) (by decide +kernel)
theorem wj_n_RJ0 : Cond.initialized RJ0 ∈ goodTbl := wAt_ok (i := 1015) (by decide +kernel)
theorem wj_n_RJ1 : Cond.initialized RJ1 ∈ goodTbl := wAt_ok (i := 1016) (by decide +kernel)
theorem wj_n_RJ3 : Cond.initialized RJ3 ∈ goodTbl := wAt_ok (i := 1017) (by decide +kernel)
theorem wj_l_cod : Cond.methodLink RJ0 335 yJ0_coder_7d493 ∈ goodTbl := wAt_ok (i := 2228) (by decide +kernel)
theorem wj_l_lat : Cond.methodLink RJ0 492 yJ0_isLatin1_aae02 ∈ goodTbl := wAt_ok (i := 3002) (by decide +kernel)
theorem wj_l_l1 : Cond.methodLink RJ0 495 yJ1_charAt_3b067 ∈ goodTbl := wAt_ok (i := 3006) (by decide +kernel)
theorem wj_l_ck : Cond.methodLink RJ1 9 yJ0_checkIndex_df160 ∈ goodTbl := wAt_ok (i := 3009) (by decide +kernel)
theorem wj_l_pre : Cond.methodLink RJ0 1059 yJ3_checkIndex_8e157 ∈ goodTbl := wAt_ok (i := 3014) (by decide +kernel)
theorem wj_f_cs : Cond.fieldLink RJ0 38 "java/lang/String" "COMPACT_STRINGS" "Z" ∈ goodTbl := wAt_ok (i := 2232) (by decide +kernel)
theorem wj_f_co : Cond.fieldLink RJ0 15 "java/lang/String" "coder" "B" ∈ goodTbl := wAt_ok (i := 7054) (by decide +kernel)
theorem wj_f_va : Cond.fieldLink RJ0 9 "java/lang/String" "value" "[B" ∈ goodTbl := wAt_ok (i := 7053) (by decide +kernel)
theorem wj_f_si : Cond.fieldLink RJ0 1053 "jdk/internal/util/Preconditions" "SIOOBE_FORMATTER" "Ljava/util/function/BiFunction;" ∈ goodTbl := wAt_ok (i := 3012) (by decide +kernel)
theorem jgood {Ts : List Cond} (h : ∀ w ∈ goodTbl, w ∈ Ts) {y : MethodName} {c : ByteArray} {n : Nat} {r : Option FieldType} (hc : Cond.code y c n r ∈ goodTbl) : GoodIn Ts (jw y c n r) := by
  intro w hw
  have h1 : w ∈ goodTbl := by
    rcases List.mem_cons.mp hw with rfl | q
    · exact hc
    · exact q
  exact ⟨h w h1, (goodTbl_ok w h1).2⟩
theorem jcall {R : Room} {s : State} {args : Array Value} {own : String} {Ts : List Cond} (hts : ∀ w ∈ Ts, w.before args s = true) (hin : ∀ w ∈ goodTbl, w ∈ Ts) {y : MethodName} {bytes : ByteArray} {maxL : Nat} {ret : Option FieldType} {index n : Nat} {rm : Room} (hc : Cond.code y bytes maxL ret ∈ goodTbl) (hini : Cond.initialized y.cls ∈ goodTbl) (hlink : (Cond.methodLink own index y).before args s = true) (q1 : rm.cells = 0) (q2 : rm.slots = 0) (q3 : rm.frames + 1 ≤ R.frames) (q4 : 8 + (maxL + 11) + rm.locals ≤ R.locals)
    (hmh : y.cls ≠ "java/lang/invoke/MethodHandle" ∧ y.cls ≠ "java/lang/invoke/VarHandle") (hpar : (parseMethodDescriptor y.desc).map (fun d => d.parameters.length) = some n) : CallB R s args own index y bytes maxL ret (jw y bytes maxL ret) rm 0 0 n := by
  refine ⟨q1, q2, q3, q4, pay_in hts (jgood hin hc), List.mem_cons_self, hts _ (hin _ hc), hts _ (hin _ hini), hmh, fun sig h => ?_, hlink⟩
  rw [h] at hpar
  exact (Option.some.inj hpar).symm
def jCS (U : State) (H : Heap) : Prop := va_Z "java/lang/String" "COMPACT_STRINGS" "Z" (.int 1) jN U H
def jSI (U : State) (H : Heap) : Prop := va_Zq "jdk/internal/util/Preconditions" "SIOOBE_FORMATTER" "Ljava/util/function/BiFunction;" jN U H
def jO (a : Nat) (U : State) (H : Heap) : Prop := va_O "java/lang/String" a jN U H
def jCo (a : Nat) (U : State) (H : Heap) : Prop := va_OF "java/lang/String" "coder" "B" (.int 0) a jN U H
def jVa (a t : Nat) (U : State) (H : Heap) : Prop := va_OF "java/lang/String" "value" "[B" (.ref t) a jN U H
def jT (t N : Nat) (f : Nat → Int32) (U : State) (H : Heap) : Prop := va_T .byte t N (fun j => .int (f j)) jN U H
theorem jp_len : (parseMethodDescriptor yJ0_length_8abf5.desc).map (fun d => d.parameters.length) = some 0 := by decide +kernel
theorem jp_cod : (parseMethodDescriptor yJ0_coder_7d493.desc).map (fun d => d.parameters.length) = some 0 := by decide +kernel
theorem jp_chr : (parseMethodDescriptor yJ0_charAt_5068e.desc).map (fun d => d.parameters.length) = some 1 := by decide +kernel
theorem jp_lat : (parseMethodDescriptor yJ0_isLatin1_aae02.desc).map (fun d => d.parameters.length) = some 0 := by decide +kernel
theorem jp_l1 : (parseMethodDescriptor yJ1_charAt_3b067.desc).map (fun d => d.parameters.length) = some 2 := by decide +kernel
theorem jp_ck : (parseMethodDescriptor yJ0_checkIndex_df160.desc).map (fun d => d.parameters.length) = some 2 := by decide +kernel
theorem jp_pre : (parseMethodDescriptor yJ3_checkIndex_8e157.desc).map (fun d => d.parameters.length) = some 3 := by decide +kernel
set_option maxHeartbeats 1000000 in
theorem mj_cod (l : Launch) (a : Nat) : Met l yJ0_coder_7d493 (jw yJ0_coder_7d493 cJ0_coder_7d493 1 (some .byte)) ({ frames := 0, cells := 0, slots := 0, locals := 0 }) (va_Pc [.ref a] (fun U => jCS U U.heap ∧ jCo a U U.heap)) (va_Qi (fun (r : Int32) (_ : Unit) => r = 0) (fun _ _ => True) jN) 0 0 jN := by
  refine Met.ofW (cc := cJ0_coder_7d493) (maxL := 1) (ret := (some .byte)) (by decide) rfl ?_
  intro p e s m args below meth c s₁ B hml hv
  obtain ⟨rfl, h0, h1⟩ := hv
  have hx := B.exec
  have hb := B.bytes
  have hr := B.returns
  have hts := atoms_spec (ws := jw yJ0_coder_7d493 cJ0_coder_7d493 1 (some .byte)) B.pre
  have hin : ∀ w ∈ goodTbl, w ∈ jw yJ0_coder_7d493 cJ0_coder_7d493 1 (some .byte) := fun w hw => List.mem_cons_of_mem _ hw
  have hown : s.vm.findClass RJ0 = some m.cls := findClass_of_methodNamed B.named
  have hlocks := B.notSynchronized
  have hS : va_S jN s.heap s.heap [] := va_S.rf
  have hl := lv_entry ([.ref a]) (n := 1) (Nat.le_of_ble_eq_true rfl)
  rw [lg_entry_eq]
  generalize (lg_sl ([.ref a]) ++ List.replicate (1 - (lg_sl ([.ref a])).length) Slot.unset).toArray = ls at hl ⊢
  have hl : lv_has ls 1 [(0, .ref a)] := hl
  refine va_gets (v := .int 1) hx hb h0 hS hown (hts _ (hin _ wj_f_cs)) (fun _ h => h) dj_cod_0 ?_
  refine lv_if_eq hx hb dj_cod_3 (tgt := 13) (by decide) (fun h => absurd h (by decide)) (fun _ => ?_)
  refine lv_aload_n hx hb dj_cod_6 rfl (lv_at hl 0 rfl) ?_
  refine vk_getf hx hb h1 hS hown (hts _ (hin _ wj_f_co)) (fun _ h => h) dj_cod_7 ?_
  refine lv_goto hx hb dj_cod_10 (tgt := 14) (by decide) ?_
  exact W.zret (ty := .byte) hx hb hr rfl (fun t ht hW => ⟨⟨0, (), rfl, rfl, trivial⟩, hS.F ht⟩) hS.2.2 dj_cod_14
set_option maxHeartbeats 1000000 in
theorem mj_lat (l : Launch) (a : Nat) : Met l yJ0_isLatin1_aae02 (jw yJ0_isLatin1_aae02 cJ0_isLatin1_aae02 1 (some .boolean)) ({ frames := 0, cells := 0, slots := 0, locals := 0 }) (va_Pc [.ref a] (fun U => jCS U U.heap ∧ jCo a U U.heap)) (va_Qi (fun (r : Int32) (_ : Unit) => r = 1) (fun _ _ => True) jN) 0 0 jN := by
  refine Met.ofW (cc := cJ0_isLatin1_aae02) (maxL := 1) (ret := (some .boolean)) (by decide) rfl ?_
  intro p e s m args below meth c s₁ B hml hv
  obtain ⟨rfl, h0, h1⟩ := hv
  have hx := B.exec
  have hb := B.bytes
  have hr := B.returns
  have hts := atoms_spec (ws := jw yJ0_isLatin1_aae02 cJ0_isLatin1_aae02 1 (some .boolean)) B.pre
  have hin : ∀ w ∈ goodTbl, w ∈ jw yJ0_isLatin1_aae02 cJ0_isLatin1_aae02 1 (some .boolean) := fun w hw => List.mem_cons_of_mem _ hw
  have hown : s.vm.findClass RJ0 = some m.cls := findClass_of_methodNamed B.named
  have hlocks := B.notSynchronized
  have hS : va_S jN s.heap s.heap [] := va_S.rf
  have hl := lv_entry ([.ref a]) (n := 1) (Nat.le_of_ble_eq_true rfl)
  rw [lg_entry_eq]
  generalize (lg_sl ([.ref a]) ++ List.replicate (1 - (lg_sl ([.ref a])).length) Slot.unset).toArray = ls at hl ⊢
  have hl : lv_has ls 1 [(0, .ref a)] := hl
  refine va_gets (v := .int 1) hx hb h0 hS hown (hts _ (hin _ wj_f_cs)) (fun _ h => h) dj_lat_0 ?_
  refine lv_if_eq hx hb dj_lat_3 (tgt := 17) (by decide) (fun h => absurd h (by decide)) (fun _ => ?_)
  refine lv_aload_n hx hb dj_lat_6 rfl (lv_at hl 0 rfl) ?_
  refine vk_getf hx hb h1 hS hown (hts _ (hin _ wj_f_co)) (fun _ h => h) dj_lat_7 ?_
  refine lv_if_ne hx hb dj_lat_10 (tgt := 17) (by decide) (fun h => absurd rfl h) (fun _ => ?_)
  refine lv_iconst (v := 1) hx hb dj_lat_13 (by decide) ?_
  refine lv_goto hx hb dj_lat_14 (tgt := 18) (by decide) ?_
  exact W.zret (ty := .boolean) hx hb hr rfl (fun t ht hW => ⟨⟨1, (), rfl, rfl, trivial⟩, hS.F ht⟩) hS.2.2 dj_lat_18
def jTrue (_ : State) (_ : Heap) : Prop := True
set_option maxHeartbeats 1000000 in
theorem mj_pre (l : Launch) (i n : Int32) (v : Value) (hv : v = .null ∨ ∃ t : Nat, v = .ref t) (h1 : ¬ i < 0) (h2 : i < n) : Met l yJ3_checkIndex_8e157 (jw yJ3_checkIndex_8e157 cJ3_checkIndex_8e157 3 (some .int)) ({ frames := 0, cells := 0, slots := 0, locals := 0 }) (va_Pc [.int i, .int n, v] (fun U => jTrue U U.heap)) (va_Qi (fun (r : Int32) (_ : Unit) => r = i) (fun _ _ => True) jN) 0 0 jN := by
  refine Met.ofW (cc := cJ3_checkIndex_8e157) (maxL := 3) (ret := (some .int)) (by decide) rfl ?_
  intro p e s m args below meth c s₁ B hml hv
  obtain ⟨rfl, h0⟩ := hv
  have hx := B.exec
  have hb := B.bytes
  have hr := B.returns
  have hts := atoms_spec (ws := jw yJ3_checkIndex_8e157 cJ3_checkIndex_8e157 3 (some .int)) B.pre
  have hin : ∀ w ∈ goodTbl, w ∈ jw yJ3_checkIndex_8e157 cJ3_checkIndex_8e157 3 (some .int) := fun w hw => List.mem_cons_of_mem _ hw
  have hown : s.vm.findClass RJ3 = some m.cls := findClass_of_methodNamed B.named
  have hlocks := B.notSynchronized
  have hS : va_S jN s.heap s.heap [] := va_S.rf
  have K : ∃ ls : Array Slot, entryFrame m (#[.int i, .int n, v]) 3 = F0 m 0 ls [] ∧ lv_has ls 3 [(0, .int i), (1, .int n)] := by
    rcases hv with rfl | ⟨t, rfl⟩
    · have hl := lv_entry ([.int i, .int n, .null]) (n := 3) (Nat.le_of_ble_eq_true rfl)
      refine ⟨(lg_sl ([.int i, .int n, .null]) ++ List.replicate (3 - (lg_sl ([.int i, .int n, .null])).length) Slot.unset).toArray, lg_entry_eq .., lv_sub hl [0, 1] rfl⟩
    · have hl := lv_entry ([.int i, .int n, .ref t]) (n := 3) (Nat.le_of_ble_eq_true rfl)
      refine ⟨(lg_sl ([.int i, .int n, .ref t]) ++ List.replicate (3 - (lg_sl ([.int i, .int n, .ref t])).length) Slot.unset).toArray, lg_entry_eq .., lv_sub hl [0, 1] rfl⟩
  obtain ⟨ls, hen, hl⟩ := K
  show W p l e _ s m _ below meth c s.heap [] 0 0 _ (entryFrame m (#[.int i, .int n, v]) 3)
  rw [hen]
  refine lv_iload_n hx hb dj_pre_0 rfl (lv_at hl 0 rfl) ?_
  refine lv_if_lt hx hb dj_pre_1 (tgt := 9) (by decide) (fun h => absurd h h1) (fun _ => ?_)
  refine lv_iload_n hx hb dj_pre_4 rfl (lv_at hl 0 rfl) ?_
  refine lv_iload_n hx hb dj_pre_5 rfl (lv_at hl 1 rfl) ?_
  refine lv_icmp_lt hx hb dj_pre_6 (tgt := 16) (by decide) (fun _ => ?_) (fun h => absurd h2 h)
  refine lv_iload_n hx hb dj_pre_16 rfl (lv_at hl 0 rfl) ?_
  exact W.zret (ty := .int) hx hb hr rfl (fun t ht hW => ⟨⟨i, (), rfl, rfl, trivial⟩, hS.F ht⟩) hS.2.2 dj_pre_17
theorem jshr (x : Int32) : x >>> ((0 : Int32) &&& 31) = x := by
  have h : ((0 : Int32) &&& 31) = 0 := by decide
  rw [h]
  exact Int32.shiftRight_zero
set_option maxHeartbeats 1000000 in
theorem mj_len (l : Launch) (a t N : Nat) (f : Nat → Int32) : Met l yJ0_length_8abf5 (jw yJ0_length_8abf5 cJ0_length_8abf5 1 (some .int)) ({ frames := 1, cells := 0, slots := 0, locals := 20 }) (va_Pc [.ref a] (fun U => jCS U U.heap ∧ jO a U U.heap ∧ jCo a U U.heap ∧ jVa a t U U.heap ∧ jT t N f U U.heap)) (va_Qi (fun (r : Int32) (_ : Unit) => r = Int32.ofNat N) (fun _ _ => True) jN) 0 0 jN := by
  refine Met.ofW (cc := cJ0_length_8abf5) (maxL := 1) (ret := (some .int)) (by decide) rfl ?_
  intro p e s m args below meth c s₁ B hml hv
  obtain ⟨rfl, h0, h1, h2, h3, h4⟩ := hv
  have hx := B.exec
  have hb := B.bytes
  have hr := B.returns
  have hts := atoms_spec (ws := jw yJ0_length_8abf5 cJ0_length_8abf5 1 (some .int)) B.pre
  have hin : ∀ w ∈ goodTbl, w ∈ jw yJ0_length_8abf5 cJ0_length_8abf5 1 (some .int) := fun w hw => List.mem_cons_of_mem _ hw
  have hown : s.vm.findClass RJ0 = some m.cls := findClass_of_methodNamed B.named
  have hlocks := B.notSynchronized
  have hS : va_S jN s.heap s.heap [] := va_S.rf
  have hl := lv_entry ([.ref a]) (n := 1) (Nat.le_of_ble_eq_true rfl)
  rw [lg_entry_eq]
  generalize (lg_sl ([.ref a]) ++ List.replicate (1 - (lg_sl ([.ref a])).length) Slot.unset).toArray = ls at hl ⊢
  have hl : lv_has ls 1 [(0, .ref a)] := hl
  refine lv_aload_n hx hb dj_len_0 rfl (lv_at hl 0 rfl) ?_
  refine vk_getf hx hb h3 hS hown (hts _ (hin _ wj_f_va)) (fun _ h => h) dj_len_1 ?_
  refine va_tlen hx hb h4 hS rfl dj_len_4 ?_
  refine lv_aload_n hx hb dj_len_5 rfl (lv_at hl 0 rfl) ?_
  refine va_calli (va_runV (As := []) (rest := [.int (Int32.ofNat N)]) ⟨hx, hb, hml, hown, hts⟩ (mj_cod l a) ⟨jcall hts hin wj_c_cod wj_n_RJ0 (hts _ (hin _ wj_l_cod)) rfl rfl (Nat.le_of_ble_eq_true rfl) (Nat.le_of_ble_eq_true rfl) (by decide) jp_cod, hts _ (hin _ wj_i_cod), hts _ (hin _ wj_s_cod)⟩ ⟨fun a U g mk q => by obtain ⟨q0, q1, q2⟩ := q; exact ⟨q0, q1.moved (Vm.Alike.refl U.vm), q2.moved (Vm.Alike.refl U.vm)⟩, (by obtain ⟨cell, g1, g2, g3, -⟩ := h1.kept hS.2.1; exact ⟨cell, g1, g2, g3⟩), fun U hU hW => ⟨rfl, by (try dsimp only); rw [hU]; exact (h0.kept hS.2.1).moved hW.alike, by (try dsimp only); rw [hU]; exact (h2.kept hS.2.1).moved hW.alike⟩⟩ rfl rfl hl.1 rfl (lv_room (Nat.le_of_ble_eq_true rfl)) dj_len_6 ⟨Nat.le_refl _, Nat.le_refl _⟩) hS (fun _ _ h => h) (fun _ h => h) (fun r1 u1 t1 H1 locs1 ht1 hvm1 hw1 hB1 hz1 hk1 hS => ?_)
  subst hw1
  refine lv_ishr hx hb dj_len_9 ?_
  rw [jshr]
  exact W.zret (ty := .int) hx hb hr rfl (fun t ht hW => ⟨⟨Int32.ofNat N, (), rfl, rfl, trivial⟩, hS.F ht⟩) hS.2.2 dj_len_10
set_option maxHeartbeats 1000000 in
theorem mj_ck (l : Launch) (i n : Int32) (hi : ¬ i < 0) (hn : i < n) : Met l yJ0_checkIndex_df160 (jw yJ0_checkIndex_df160 cJ0_checkIndex_df160 2 none) ({ frames := 1, cells := 0, slots := 0, locals := 22 }) (va_Pc [.int i, .int n] (fun U => jSI U U.heap)) (va_Qv (fun (_ : Unit) => True) (fun _ _ => True) jN) 0 0 jN := by
  refine Met.ofW (cc := cJ0_checkIndex_df160) (maxL := 2) (ret := none) (by decide) rfl ?_
  intro p e s m args below meth c s₁ B hml hv
  obtain ⟨rfl, h0⟩ := hv
  have hx := B.exec
  have hb := B.bytes
  have hr := B.returns
  have hts := atoms_spec (ws := jw yJ0_checkIndex_df160 cJ0_checkIndex_df160 2 none) B.pre
  have hin : ∀ w ∈ goodTbl, w ∈ jw yJ0_checkIndex_df160 cJ0_checkIndex_df160 2 none := fun w hw => List.mem_cons_of_mem _ hw
  have hown : s.vm.findClass RJ0 = some m.cls := findClass_of_methodNamed B.named
  have hlocks := B.notSynchronized
  have hS : va_S jN s.heap s.heap [] := va_S.rf
  have hl := lv_entry ([.int i, .int n]) (n := 2) (Nat.le_of_ble_eq_true rfl)
  rw [lg_entry_eq]
  generalize (lg_sl ([.int i, .int n]) ++ List.replicate (2 - (lg_sl ([.int i, .int n])).length) Slot.unset).toArray = ls at hl ⊢
  have hl : lv_has ls 2 [(0, .int i), (1, .int n)] := hl
  refine lv_iload_n hx hb dj_ck_0 rfl (lv_at hl 0 rfl) ?_
  refine lv_iload_n hx hb dj_ck_1 rfl (lv_at hl 1 rfl) ?_
  have K : ∃ v : Value, (v = .null ∨ ∃ t : Nat, v = .ref t) ∧ va_Z "jdk/internal/util/Preconditions" "SIOOBE_FORMATTER" "Ljava/util/function/BiFunction;" v jN s s.heap := by
    rcases h0 with h | ⟨t, h⟩
    · exact ⟨_, Or.inl rfl, h⟩
    · exact ⟨_, Or.inr ⟨t, rfl⟩, h⟩
  obtain ⟨v, hv, hZ⟩ := K
  refine va_gets (v := v) hx hb hZ hS hown (hts _ (hin _ wj_f_si)) (fun _ h => h) dj_ck_2 ?_
  refine va_calli (va_runS (As := [.int i, .int n, v]) (rest := []) ⟨hx, hb, hml, hown, hts⟩ (mj_pre l i n v hv hi hn) ⟨jcall hts hin wj_c_pre wj_n_RJ3 (hts _ (hin _ wj_l_pre)) rfl rfl (Nat.le_of_ble_eq_true rfl) (Nat.le_of_ble_eq_true rfl) (by decide) jp_pre, hts _ (hin _ wj_t_pre)⟩ ⟨fun a U g mk q => by obtain ⟨q0, q1⟩ := q; exact ⟨q0, trivial⟩, fun U hU hW => ⟨rfl, trivial⟩⟩ rfl rfl hl.1 rfl (lv_room (Nat.le_of_ble_eq_true rfl)) dj_ck_5 ⟨Nat.le_refl _, Nat.le_refl _⟩) hS (fun _ _ h => h) (fun _ h => h) (fun r1 u1 t1 H1 locs1 ht1 hvm1 hw1 hB1 hz1 hk1 hS => ?_)
  refine lv_pop hx hb dj_ck_8 rfl ?_
  exact W.vret hx hb hr (fun t ht hW => ⟨⟨(), rfl, trivial, trivial⟩, hS.F ht⟩) hS.2.2 dj_ck_9
set_option maxHeartbeats 1000000 in
theorem mj_l1 (l : Launch) (t N : Nat) (f : Nat → Int32) (i b : Int32) (hi : vp_in i N) (hlt : i < Int32.ofNat N) (hf : f i.toNatClampNeg = b) (hb1 : ((b &&& 255).toUInt32 % 65536).toInt32 = b) (hb2 : narrow .char (.int b) = .int b) : Met l yJ1_charAt_3b067 (jw yJ1_charAt_3b067 cJ1_charAt_3b067 2 (some .char)) ({ frames := 2, cells := 0, slots := 0, locals := 43 }) (va_Pc [.ref t, .int i] (fun U => jT t N f U U.heap ∧ jSI U U.heap)) (va_Qi (fun (r : Int32) (_ : Unit) => r = b) (fun _ _ => True) jN) 0 0 jN := by
  refine Met.ofW (cc := cJ1_charAt_3b067) (maxL := 2) (ret := (some .char)) (by decide) rfl ?_
  intro p e s m args below meth c s₁ B hml hv
  obtain ⟨rfl, h0, h1⟩ := hv
  have hx := B.exec
  have hb := B.bytes
  have hr := B.returns
  have hts := atoms_spec (ws := jw yJ1_charAt_3b067 cJ1_charAt_3b067 2 (some .char)) B.pre
  have hin : ∀ w ∈ goodTbl, w ∈ jw yJ1_charAt_3b067 cJ1_charAt_3b067 2 (some .char) := fun w hw => List.mem_cons_of_mem _ hw
  have hown : s.vm.findClass RJ1 = some m.cls := findClass_of_methodNamed B.named
  have hlocks := B.notSynchronized
  have hS : va_S jN s.heap s.heap [] := va_S.rf
  have hl := lv_entry ([.ref t, .int i]) (n := 2) (Nat.le_of_ble_eq_true rfl)
  rw [lg_entry_eq]
  generalize (lg_sl ([.ref t, .int i]) ++ List.replicate (2 - (lg_sl ([.ref t, .int i])).length) Slot.unset).toArray = ls at hl ⊢
  have hl : lv_has ls 2 [(0, .ref t), (1, .int i)] := hl
  refine lv_iload_n hx hb dj_l1_0 rfl (lv_at hl 1 rfl) ?_
  refine lv_aload_n hx hb dj_l1_1 rfl (lv_at hl 0 rfl) ?_
  refine va_tlen hx hb h0 hS rfl dj_l1_2 ?_
  refine va_callv (va_runS (As := [.int i, .int (Int32.ofNat N)]) (rest := []) ⟨hx, hb, hml, hown, hts⟩ (mj_ck l i (Int32.ofNat N) (fun h => hi (Or.inl h)) hlt) ⟨jcall hts hin wj_c_ck wj_n_RJ0 (hts _ (hin _ wj_l_ck)) rfl rfl (Nat.le_of_ble_eq_true rfl) (Nat.le_of_ble_eq_true rfl) (by decide) jp_ck, hts _ (hin _ wj_t_ck)⟩ ⟨fun a U g mk q => by obtain ⟨q0, q1⟩ := q; exact ⟨q0, q1.moved (Vm.Alike.refl U.vm)⟩, fun U hU hW => ⟨rfl, by (try dsimp only); rw [hU]; exact (h1.kept hS.2.1).moved hW.alike⟩⟩ rfl rfl hl.1 rfl (lv_room (Nat.le_of_ble_eq_true rfl)) dj_l1_3 ⟨Nat.le_refl _, Nat.le_refl _⟩) hS (fun _ _ h => h) (fun _ h => h) (fun u1 t1 H1 locs1 ht1 hvm1 hw1 hB1 hz1 hk1 hS => ?_)
  refine lv_aload_n hx hb dj_l1_6 rfl (lv_at hl 0 rfl) ?_
  refine lv_iload_n hx hb dj_l1_7 rfl (lv_at hl 1 rfl) ?_
  refine va_tb hx hb h0 hS hi (by rw [hf]) dj_l1_8 ?_
  refine lv_sipush (v := 255) hx hb dj_l1_9 (by decide) ?_
  refine lv_iand hx hb dj_l1_12 ?_
  refine lv_i2c hx hb dj_l1_13 hb1 ?_
  exact W.zret (ty := .char) hx hb hr hb2 (fun t ht hW => ⟨⟨b, (), rfl, rfl, trivial⟩, hS.F ht⟩) hS.2.2 dj_l1_14
set_option maxHeartbeats 1000000 in
theorem mj_chr (l : Launch) (a t N : Nat) (f : Nat → Int32) (i b : Int32) (hi : vp_in i N) (hlt : i < Int32.ofNat N) (hf : f i.toNatClampNeg = b) (hb1 : ((b &&& 255).toUInt32 % 65536).toInt32 = b) (hb2 : narrow .char (.int b) = .int b) : Met l yJ0_charAt_5068e (jw yJ0_charAt_5068e cJ0_charAt_5068e 2 (some .char)) ({ frames := 3, cells := 0, slots := 0, locals := 64 }) (va_Pc [.ref a, .int i] (fun U => jCS U U.heap ∧ jO a U U.heap ∧ jCo a U U.heap ∧ jVa a t U U.heap ∧ jT t N f U U.heap ∧ jSI U U.heap)) (va_Qi (fun (r : Int32) (_ : Unit) => r = b) (fun _ _ => True) jN) 0 0 jN := by
  refine Met.ofW (cc := cJ0_charAt_5068e) (maxL := 2) (ret := (some .char)) (by decide) rfl ?_
  intro p e s m args below meth c s₁ B hml hv
  obtain ⟨rfl, h0, h1, h2, h3, h4, h5⟩ := hv
  have hx := B.exec
  have hb := B.bytes
  have hr := B.returns
  have hts := atoms_spec (ws := jw yJ0_charAt_5068e cJ0_charAt_5068e 2 (some .char)) B.pre
  have hin : ∀ w ∈ goodTbl, w ∈ jw yJ0_charAt_5068e cJ0_charAt_5068e 2 (some .char) := fun w hw => List.mem_cons_of_mem _ hw
  have hown : s.vm.findClass RJ0 = some m.cls := findClass_of_methodNamed B.named
  have hlocks := B.notSynchronized
  have hS : va_S jN s.heap s.heap [] := va_S.rf
  have hl := lv_entry ([.ref a, .int i]) (n := 2) (Nat.le_of_ble_eq_true rfl)
  rw [lg_entry_eq]
  generalize (lg_sl ([.ref a, .int i]) ++ List.replicate (2 - (lg_sl ([.ref a, .int i])).length) Slot.unset).toArray = ls at hl ⊢
  have hl : lv_has ls 2 [(0, .ref a), (1, .int i)] := hl
  refine lv_aload_n hx hb dj_chr_0 rfl (lv_at hl 0 rfl) ?_
  refine va_calli (va_runV (As := []) (rest := []) ⟨hx, hb, hml, hown, hts⟩ (mj_lat l a) ⟨jcall hts hin wj_c_lat wj_n_RJ0 (hts _ (hin _ wj_l_lat)) rfl rfl (Nat.le_of_ble_eq_true rfl) (Nat.le_of_ble_eq_true rfl) (by decide) jp_lat, hts _ (hin _ wj_i_lat), hts _ (hin _ wj_s_lat)⟩ ⟨fun a U g mk q => by obtain ⟨q0, q1, q2⟩ := q; exact ⟨q0, q1.moved (Vm.Alike.refl U.vm), q2.moved (Vm.Alike.refl U.vm)⟩, (by obtain ⟨cell, g1, g2, g3, -⟩ := h1.kept hS.2.1; exact ⟨cell, g1, g2, g3⟩), fun U hU hW => ⟨rfl, by (try dsimp only); rw [hU]; exact (h0.kept hS.2.1).moved hW.alike, by (try dsimp only); rw [hU]; exact (h2.kept hS.2.1).moved hW.alike⟩⟩ rfl rfl hl.1 rfl (lv_room (Nat.le_of_ble_eq_true rfl)) dj_chr_1 ⟨Nat.le_refl _, Nat.le_refl _⟩) hS (fun _ _ h => h) (fun _ h => h) (fun r1 u1 t1 H1 locs1 ht1 hvm1 hw1 hB1 hz1 hk1 hS => ?_)
  subst hw1
  refine lv_if_eq hx hb dj_chr_4 (tgt := 16) (by decide) (fun h => absurd h (by decide)) (fun _ => ?_)
  refine lv_aload_n hx hb dj_chr_7 rfl (lv_at hl 0 rfl) ?_
  refine vk_getf hx hb h3 hS hown (hts _ (hin _ wj_f_va)) (fun _ h => h) dj_chr_8 ?_
  refine lv_iload_n hx hb dj_chr_11 rfl (lv_at hl 1 rfl) ?_
  refine va_calli (va_runS (As := [.ref t, .int i]) (rest := []) ⟨hx, hb, hml, hown, hts⟩ (mj_l1 l t N f i b hi hlt hf hb1 hb2) ⟨jcall hts hin wj_c_l1 wj_n_RJ1 (hts _ (hin _ wj_l_l1)) rfl rfl (Nat.le_of_ble_eq_true rfl) (Nat.le_of_ble_eq_true rfl) (by decide) jp_l1, hts _ (hin _ wj_t_l1)⟩ ⟨fun a U g mk q => by obtain ⟨q0, q1, q2⟩ := q; exact ⟨q0, q1.moved (Vm.Alike.refl U.vm), q2.moved (Vm.Alike.refl U.vm)⟩, fun U hU hW => ⟨rfl, by (try dsimp only); rw [hU]; exact (h4.kept hS.2.1).moved hW.alike, by (try dsimp only); rw [hU]; exact (h5.kept hS.2.1).moved hW.alike⟩⟩ rfl rfl hl.1 rfl (lv_room (Nat.le_of_ble_eq_true rfl)) dj_chr_12 ⟨Nat.le_refl _, Nat.le_refl _⟩) hS (fun _ _ h => h) (fun _ h => h) (fun r2 u2 t2 H2 locs2 ht2 hvm2 hw2 hB2 hz2 hk2 hS => ?_)
  subst hw2
  exact W.zret (ty := .char) hx hb hr hb2 (fun t ht hW => ⟨⟨_, (), rfl, rfl, trivial⟩, hS.F ht⟩) hS.2.2 dj_chr_15
theorem cAt_getD : ∀ (l : List Int32) (j : Nat), l.getD j 0 = cAt l j
  | [], _ => rfl
  | _ :: _, 0 => rfl
  | _ :: r, n + 1 => cAt_getD r n
theorem str_bytes : (List.range 7).all (fun q => (List.range 7).all (fun j => decide (((cAt (bAt strB q) j &&& 255).toUInt32 % 65536).toInt32 = cAt (bAt strB q) j) && decide ((narrow .char (.int (cAt (bAt strB q) j))) = .int (cAt (bAt strB q) j)))) = true := by decide +kernel
theorem str_byte {q j : Nat} (hq : q < 7) (hj : j < 7) : ((cAt (bAt strB q) j &&& 255).toUInt32 % 65536).toInt32 = cAt (bAt strB q) j ∧ narrow .char (.int (cAt (bAt strB q) j)) = .int (cAt (bAt strB q) j) := by
  have h := List.all_eq_true.mp (List.all_eq_true.mp str_bytes q (List.mem_range.mpr hq)) j (List.mem_range.mpr hj)
  simp only [Bool.and_eq_true, decide_eq_true_eq] at h
  exact h
theorem str_six {q : Nat} (h1 : 1 ≤ q) (h6 : q ≤ 6) : q = 1 ∨ q = 2 ∨ q = 3 ∨ q = 4 ∨ q = 5 ∨ q = 6 := by omega
theorem str_N {q : Nat} (h1 : 1 ≤ q) (h6 : q ≤ 6) : ([6, 3, 3, 4, 4, 4] : List Nat).getD (q - 1) 0 = nAt strN q ∧ nAt strN q ≤ 6 ∧ ∀ j, (([[104, 107, 115, 103, 116, 119], [60, 61, 62], [102, 117, 110], [115, 111, 117, 114], [100, 97, 121, 115], [102, 97, 99, 101]] : List (List Int32)).getD (q - 1) []).getD j 0 = cAt (bAt strB q) j := by
  rcases str_six h1 h6 with rfl | rfl | rfl | rfl | rfl | rfl <;> exact ⟨rfl, by decide, fun j => cAt_getD _ j⟩
section STR
variable {p : Program} {l : Launch} {e : Env} {R : Room} {s : State} {m : MethodId} {args : Array Value} {below : List Frame} {meth : Method} {c : Code} {Q : State → Prop}
variable {D : va_G} {tA : FieldType → ClassId} {A : Nat → Prop} {cc : ByteArray} {nL : Nat} {ad0 : Nat → Nat} {n0 : Nat} {Ts : List Cond} {own : String} {y : MethodName} {scr : Option (Nat × (Nat → Int32))}
variable {ad : Nat → Nat} {ls : Array Slot} {H : Heap} {locs : List Loc} {L : Lc} {st st' : List Value} {σ : Hp}
theorem Sim.kept (hs : Sim s D tA A nL ad0 n0 ad ls H locs L st σ) {H1 : Heap} {locs1 : List Loc} (hk : ∀ q : Nat, q < H.size → ¬ jN q → H1[q]? = H[q]?) (hS1 : va_S A s.heap H1 locs1) : Sim s D tA A nL ad0 n0 ad ls H1 locs1 L st σ := by
  obtain ⟨h1, h2, h3, h4, h5, h6, h7, h8, h9, -⟩ := hs
  exact ⟨h1, h2, h3, h4, h5, h6, h7, fun k q hq => (h8 k q hq).kept (hk q.1 (h8 k q hq).lt (fun z => z)), h9, hS1⟩
theorem str_at (hE : Env0 p l R s m args meth c D tA A cc nL ad0 n0 Ts own y scr) (hs : Sim s D tA A nL ad0 n0 ad ls H locs L st σ) {q : Nat} (h1 : 1 ≤ q) (h6 : q ≤ 6) : ∃ t : Nat, ∀ U : State, U.heap = H → s.WarmedH U.vm → jCS U U.heap ∧ jO (ad q) U U.heap ∧ jCo (ad q) U U.heap ∧ jVa (ad q) t U U.heap ∧ jT t (nAt strN q) (fun j => cAt (bAt strB q) j) U U.heap ∧ jSI U U.heap := by
  obtain ⟨-, -, -, -, -, -, -, -, hn0, -, ⟨⟨adV, hV⟩, hCS, hSI⟩, -, -⟩ := hE
  have hi : q - 1 < 6 := by omega
  have hq : ad0 (q - 1 + 1) = ad q := by rw [Nat.sub_add_cancel h1]; exact (hs.1 q (by omega)).symm
  obtain ⟨g1, g2, g3, g4⟩ := hV.1 (q - 1) hi
  obtain ⟨e1, -, e3⟩ := str_N h1 h6
  dsimp only at g1 g2 g3 g4
  rw [hq] at g1 g2 g3
  rw [e1] at g4
  simp only [e3] at g4
  have jf : ∀ z, jN z → A z := fun _ h => h.elim
  have hS := hs.hS
  refine ⟨adV (q - 1), fun U hU hW => ?_⟩
  rw [hU]
  exact ⟨((hCS.kept hS.2.1).narrow jf).moved hW.alike, ((g1.kept hS.2.1).narrow jf).moved hW.alike, ((g2.kept hS.2.1).narrow jf).moved hW.alike, ((g3.kept hS.2.1).narrow jf).moved hW.alike, ((g4.kept hS.2.1).narrow jf).moved hW.alike, ((hSI.kept hS.2.1).narrow jf).moved hW.alike⟩
theorem str_recv (hE : Env0 p l R s m args meth c D tA A cc nL ad0 n0 Ts own y scr) (hs : Sim s D tA A nL ad0 n0 ad ls H locs L st σ) {q : Nat} (h1 : 1 ≤ q) (h6 : q ≤ 6) : ∃ cell : Cell, H[ad q]? = some cell ∧ cell.vm.isStatics = false ∧ s.vm.findClass "java/lang/String" = some cell.cls := by
  obtain ⟨-, -, -, -, -, -, -, -, hn0, -, ⟨⟨adV, hV⟩, hCS, hSI⟩, -, -⟩ := hE
  have hi : q - 1 < 6 := by omega
  have hq : ad0 (q - 1 + 1) = ad q := by rw [Nat.sub_add_cancel h1]; exact (hs.1 q (by omega)).symm
  have g1 := (hV.1 (q - 1) hi).1
  dsimp only at g1
  rw [hq] at g1
  obtain ⟨cell, a1, a2, a3, -⟩ := g1.kept hs.hS.2.1
  exact ⟨cell, a1, a2, a3⟩
theorem str_len (hE : Env0 p l R s m args meth c D tA A cc nL ad0 n0 Ts own y scr) {bd : Nat × Nat} (hR : R.cells = bd.1 ∧ R.slots = bd.2) (hs : Sim s D tA A nL ad0 n0 ad ls H locs L st σ) {pc idx cn sn q : Nat} {r : List Value} (hcn : cn ≤ bd.1) (hsn : sn ≤ bd.2) (h1 : 1 ≤ q) (h6 : q ≤ 6) (hcat : (r.map fun v => v.category).sum ≤ 8)
    (hlink : (Cond.methodLink own idx yJ0_length_8abf5).before args s = true) (hdg : decode cc pc = .ok (.invokevirtual idx, 3))
    (k : ∀ (H1 : Heap) (locs1 : List Loc), Sim s D tA A nL ad0 n0 ad ls H1 locs1 L st σ → W p l e R s m args below meth c H1 locs1 cn sn Q (F0 m (pc + 3) ls (.int (Int32.ofNat (nAt strN q)) :: r.map (ph ad)))) : W p l e R s m args below meth c H locs cn sn Q (F0 m pc ls (.ref (ad q) :: r.map (ph ad))) := by
  obtain ⟨t, hU⟩ := str_at hE hs h1 h6
  have hrecv := str_recv hE hs h1 h6
  have hfix := hE.fix
  obtain ⟨hx, hb, hml, hown, hts, hin, -, -, -, -, -, hroom, -⟩ := hE
  refine va_calli (va_runV (As := []) (rest := r.map (ph ad)) hfix (mj_len l (ad q) t (nAt strN q) (fun j => cAt (bAt strB q) j)) ⟨jcall hts hin wj_c_len wj_n_RJ0 hlink rfl rfl (Nat.le_trans (by decide) hroom.1) (Nat.le_trans (by decide) hroom.2) (by decide) jp_len, hts _ (hin _ wj_i_len), hts _ (hin _ wj_s_len)⟩ ⟨fun a U g mk q => ?_, hrecv, fun U hU1 hW => ⟨rfl, ?_⟩⟩ rfl rfl hs.lh.1 rfl (room_of hcat) hdg ⟨by rw [hR.1]; exact hcn, by rw [hR.2]; exact hsn⟩) hs.hS (fun _ _ h => h.elim) (fun _ h => h.elim) (fun r1 u1 t1 H1 locs1 ht1 hvm1 hw1 hB1 hz1 hk1 hS1 => ?_)
  · obtain ⟨q0, q1, q2, q3, q4, q5⟩ := q
    exact ⟨q0, q1.moved (Vm.Alike.refl U.vm), q2.moved (Vm.Alike.refl U.vm), q3.moved (Vm.Alike.refl U.vm), q4.moved (Vm.Alike.refl U.vm), q5.moved (Vm.Alike.refl U.vm)⟩
  · obtain ⟨q1, q2, q3, q4, q5, q6⟩ := hU U hU1 hW
    exact ⟨q1, q2, q3, q4, q5⟩
  · subst hw1
    exact k H1 locs1 (hs.kept hk1 hS1)
theorem str_chr (hE : Env0 p l R s m args meth c D tA A cc nL ad0 n0 Ts own y scr) {bd : Nat × Nat} (hR : R.cells = bd.1 ∧ R.slots = bd.2) (hs : Sim s D tA A nL ad0 n0 ad ls H locs L st σ) {pc idx cn sn q : Nat} {x : Int32} {r : List Value} (hcn : cn ≤ bd.1) (hsn : sn ≤ bd.2) (h1 : 1 ≤ q) (h6 : q ≤ 6) (hvp : vp_in x (nAt strN q)) (hcat : (r.map fun v => v.category).sum ≤ 8)
    (hlink : (Cond.methodLink own idx yJ0_charAt_5068e).before args s = true) (hdg : decode cc pc = .ok (.invokevirtual idx, 3))
    (k : ∀ (H1 : Heap) (locs1 : List Loc), Sim s D tA A nL ad0 n0 ad ls H1 locs1 L st σ → W p l e R s m args below meth c H1 locs1 cn sn Q (F0 m (pc + 3) ls (.int (cAt (bAt strB q) x.toNatClampNeg) :: r.map (ph ad)))) : W p l e R s m args below meth c H locs cn sn Q (F0 m pc ls (.int x :: .ref (ad q) :: r.map (ph ad))) := by
  obtain ⟨t, hU⟩ := str_at hE hs h1 h6
  have hrecv := str_recv hE hs h1 h6
  have hfix := hE.fix
  obtain ⟨hx, hb, hml, hown, hts, hin, -, -, -, -, -, hroom, -⟩ := hE
  have hN := (str_N h1 h6).2.1
  have hx0 : ¬ x < 0 := fun z => hvp (Or.inl z)
  have hxN : x.toNatClampNeg < nAt strN q := Nat.not_le.mp fun z => hvp (Or.inr z)
  have hbyte := str_byte (q := q) (j := x.toNatClampNeg) (by omega) (by omega)
  have hlt : x < Int32.ofNat (nAt strN q) := by
    have h0 : (0 : Int) ≤ x.toInt := by
      have := Int32.not_lt.mp hx0
      simpa using Int32.le_iff_toInt_le.mp this
    rw [Int32.lt_iff_toInt_lt, Int32.toInt_ofNat_of_lt (by omega)]
    have : x.toInt.toNat < nAt strN q := hxN
    omega
  refine va_calli (va_runV (As := [.int x]) (rest := r.map (ph ad)) hfix (mj_chr l (ad q) t (nAt strN q) (fun j => cAt (bAt strB q) j) x (cAt (bAt strB q) x.toNatClampNeg) hvp hlt rfl hbyte.1 hbyte.2) ⟨jcall hts hin wj_c_chr wj_n_RJ0 hlink rfl rfl (Nat.le_trans (by decide) hroom.1) (Nat.le_trans (by decide) hroom.2) (by decide) jp_chr, hts _ (hin _ wj_i_chr), hts _ (hin _ wj_s_chr)⟩ ⟨fun a U g mk q => ?_, hrecv, fun U hU1 hW => ⟨rfl, ?_⟩⟩ rfl rfl hs.lh.1 rfl (room_of hcat) hdg ⟨by rw [hR.1]; exact hcn, by rw [hR.2]; exact hsn⟩) hs.hS (fun _ _ h => h.elim) (fun _ h => h.elim) (fun r1 u1 t1 H1 locs1 ht1 hvm1 hw1 hB1 hz1 hk1 hS1 => ?_)
  · obtain ⟨q0, q1, q2, q3, q4, q5, q6⟩ := q
    exact ⟨q0, q1.moved (Vm.Alike.refl U.vm), q2.moved (Vm.Alike.refl U.vm), q3.moved (Vm.Alike.refl U.vm), q4.moved (Vm.Alike.refl U.vm), q5.moved (Vm.Alike.refl U.vm), q6.moved (Vm.Alike.refl U.vm)⟩
  · exact hU U hU1 hW
  · subst hw1
    exact k H1 locs1 (hs.kept hk1 hS1)
end STR
