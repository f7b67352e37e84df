/-! String constants: their length, their chars -/
set_option maxRecDepth 100000 in
theorem jw_c_yJ0_length_8abf5 : (.code yJ0_length_8abf5 cJ0_length_8abf5 1 (some .int) : Cond) ∈ jm_T := jm_T_mem (i := 669) (by rfl) rfl
set_option maxRecDepth 100000 in
theorem jw_c_yJ0_coder_7d493 : (.code yJ0_coder_7d493 cJ0_coder_7d493 1 (some .byte) : Cond) ∈ jm_T := jm_T_mem (i := 673) (by rfl) rfl
set_option maxRecDepth 100000 in
theorem jw_c_yJ0_isLatin1_aae02 : (.code yJ0_isLatin1_aae02 cJ0_isLatin1_aae02 1 (some .boolean) : Cond) ∈ jm_T := jm_T_mem (i := 683) (by rfl) rfl
set_option maxRecDepth 100000 in
theorem jw_c_yJ0_charAt_5068e : (.code yJ0_charAt_5068e cJ0_charAt_5068e 2 (some .char) : Cond) ∈ jm_T := jm_T_mem (i := 679) (by rfl) rfl
set_option maxRecDepth 100000 in
theorem jw_c_yJ1_charAt_3b067 : (.code yJ1_charAt_3b067 cJ1_charAt_3b067 2 (some .char) : Cond) ∈ jm_T := jm_T_mem (i := 686) (by rfl) rfl
set_option maxRecDepth 100000 in
theorem jw_c_yJ0_checkIndex_df160 : (.code yJ0_checkIndex_df160 cJ0_checkIndex_df160 2 none : Cond) ∈ jm_T := jm_T_mem (i := 689) (by rfl) rfl
set_option maxRecDepth 100000 in
theorem jw_c_yJ3_checkIndex_8e157 : (.code yJ3_checkIndex_8e157 cJ3_checkIndex_8e157 3 (some .int) : Cond) ∈ jm_T := jm_T_mem (i := 694) (by rfl) rfl
theorem jw_i_RJ0 : (.initialized RJ0 : Cond) ∈ jm_T := jm_T_mem (i := 162) (by decide +kernel) rfl
theorem jw_i_RJ1 : (.initialized RJ1 : Cond) ∈ jm_T := jm_T_mem (i := 163) (by decide +kernel) rfl
theorem jw_i_RJ3 : (.initialized RJ3 : Cond) ∈ jm_T := jm_T_mem (i := 164) (by decide +kernel) rfl
theorem jw_l_yJ0_length_8abf5 : (.methodLink RX7 73 yJ0_length_8abf5 : Cond) ∈ jm_T := jm_T_mem (i := 666) (by decide +kernel) rfl
theorem jw_m_yJ0_length_8abf5 : (.instanceMethod yJ0_length_8abf5 : Cond) ∈ jm_T := jm_T_mem (i := 667) (by decide +kernel) rfl
theorem jw_s_yJ0_length_8abf5 : (.selects RJ0 yJ0_length_8abf5 yJ0_length_8abf5 : Cond) ∈ jm_T := jm_T_mem (i := 668) (by decide +kernel) rfl
theorem jw_l_yJ0_charAt_5068e : (.methodLink RX7 78 yJ0_charAt_5068e : Cond) ∈ jm_T := jm_T_mem (i := 676) (by decide +kernel) rfl
theorem jw_m_yJ0_charAt_5068e : (.instanceMethod yJ0_charAt_5068e : Cond) ∈ jm_T := jm_T_mem (i := 677) (by decide +kernel) rfl
theorem jw_s_yJ0_charAt_5068e : (.selects RJ0 yJ0_charAt_5068e yJ0_charAt_5068e : Cond) ∈ jm_T := jm_T_mem (i := 678) (by decide +kernel) rfl
theorem jw_l_yJ0_coder_7d493 : (.methodLink RJ0 335 yJ0_coder_7d493 : Cond) ∈ jm_T := jm_T_mem (i := 670) (by decide +kernel) rfl
theorem jw_m_yJ0_coder_7d493 : (.instanceMethod yJ0_coder_7d493 : Cond) ∈ jm_T := jm_T_mem (i := 671) (by decide +kernel) rfl
theorem jw_s_yJ0_coder_7d493 : (.selects RJ0 yJ0_coder_7d493 yJ0_coder_7d493 : Cond) ∈ jm_T := jm_T_mem (i := 672) (by decide +kernel) rfl
theorem jw_l_yJ0_isLatin1_aae02 : (.methodLink RJ0 492 yJ0_isLatin1_aae02 : Cond) ∈ jm_T := jm_T_mem (i := 680) (by decide +kernel) rfl
theorem jw_m_yJ0_isLatin1_aae02 : (.instanceMethod yJ0_isLatin1_aae02 : Cond) ∈ jm_T := jm_T_mem (i := 681) (by decide +kernel) rfl
theorem jw_s_yJ0_isLatin1_aae02 : (.selects RJ0 yJ0_isLatin1_aae02 yJ0_isLatin1_aae02 : Cond) ∈ jm_T := jm_T_mem (i := 682) (by decide +kernel) rfl
theorem jw_l_yJ1_charAt_3b067 : (.methodLink RJ0 495 yJ1_charAt_3b067 : Cond) ∈ jm_T := jm_T_mem (i := 684) (by decide +kernel) rfl
theorem jw_m_yJ1_charAt_3b067 : (.static yJ1_charAt_3b067 : Cond) ∈ jm_T := jm_T_mem (i := 685) (by decide +kernel) rfl
theorem jw_l_yJ0_checkIndex_df160 : (.methodLink RJ1 9 yJ0_checkIndex_df160 : Cond) ∈ jm_T := jm_T_mem (i := 687) (by decide +kernel) rfl
theorem jw_m_yJ0_checkIndex_df160 : (.static yJ0_checkIndex_df160 : Cond) ∈ jm_T := jm_T_mem (i := 688) (by decide +kernel) rfl
theorem jw_l_yJ3_checkIndex_8e157 : (.methodLink RJ0 1059 yJ3_checkIndex_8e157 : Cond) ∈ jm_T := jm_T_mem (i := 692) (by decide +kernel) rfl
theorem jw_m_yJ3_checkIndex_8e157 : (.static yJ3_checkIndex_8e157 : Cond) ∈ jm_T := jm_T_mem (i := 693) (by decide +kernel) rfl
theorem jw_f_cs : (.fieldLink RJ0 38 "java/lang/String" "COMPACT_STRINGS" "Z" : Cond) ∈ jm_T := jm_T_mem (i := 674) (by decide +kernel) rfl
theorem jw_f_co : (.fieldLink RJ0 15 "java/lang/String" "coder" "B" : Cond) ∈ jm_T := jm_T_mem (i := 2163) (by decide +kernel) rfl
theorem jw_f_va : (.fieldLink RJ0 9 "java/lang/String" "value" "[B" : Cond) ∈ jm_T := jm_T_mem (i := 2162) (by decide +kernel) rfl
theorem jw_f_si : (.fieldLink RJ0 1053 "jdk/internal/util/Preconditions" "SIOOBE_FORMATTER" "Ljava/util/function/BiFunction;" : Cond) ∈ jm_T := jm_T_mem (i := 690) (by decide +kernel) rfl
theorem jd_J0_coder_7d493_0 : decode cJ0_coder_7d493 0 = .ok (.getstatic 38, 3) := by decide +kernel
theorem jd_J0_coder_7d493_3 : decode cJ0_coder_7d493 3 = .ok (.ifCond .eq 10, 3) := by decide +kernel
theorem jd_J0_coder_7d493_6 : decode cJ0_coder_7d493 6 = .ok (.aload_n 0, 1) := by decide +kernel
theorem jd_J0_coder_7d493_7 : decode cJ0_coder_7d493 7 = .ok (.getfield 15, 3) := by decide +kernel
theorem jd_J0_coder_7d493_10 : decode cJ0_coder_7d493 10 = .ok (.goto 4, 3) := by decide +kernel
theorem jd_J0_coder_7d493_14 : decode cJ0_coder_7d493 14 = .ok (.ireturn, 1) := by decide +kernel
theorem jd_J0_isLatin1_aae02_0 : decode cJ0_isLatin1_aae02 0 = .ok (.getstatic 38, 3) := by decide +kernel
theorem jd_J0_isLatin1_aae02_3 : decode cJ0_isLatin1_aae02 3 = .ok (.ifCond .eq 14, 3) := by decide +kernel
theorem jd_J0_isLatin1_aae02_6 : decode cJ0_isLatin1_aae02 6 = .ok (.aload_n 0, 1) := by decide +kernel
theorem jd_J0_isLatin1_aae02_7 : decode cJ0_isLatin1_aae02 7 = .ok (.getfield 15, 3) := by decide +kernel
theorem jd_J0_isLatin1_aae02_10 : decode cJ0_isLatin1_aae02 10 = .ok (.ifCond .ne 7, 3) := by decide +kernel
theorem jd_J0_isLatin1_aae02_13 : decode cJ0_isLatin1_aae02 13 = .ok (.iconst 1, 1) := by decide +kernel
theorem jd_J0_isLatin1_aae02_14 : decode cJ0_isLatin1_aae02 14 = .ok (.goto 4, 3) := by decide +kernel
theorem jd_J0_isLatin1_aae02_18 : decode cJ0_isLatin1_aae02 18 = .ok (.ireturn, 1) := by decide +kernel
theorem jd_J0_length_8abf5_0 : decode cJ0_length_8abf5 0 = .ok (.aload_n 0, 1) := by decide +kernel
theorem jd_J0_length_8abf5_1 : decode cJ0_length_8abf5 1 = .ok (.getfield 9, 3) := by decide +kernel
theorem jd_J0_length_8abf5_4 : decode cJ0_length_8abf5 4 = .ok (.arraylength, 1) := by decide +kernel
theorem jd_J0_length_8abf5_5 : decode cJ0_length_8abf5 5 = .ok (.aload_n 0, 1) := by decide +kernel
theorem jd_J0_length_8abf5_6 : decode cJ0_length_8abf5 6 = .ok (.invokevirtual 335, 3) := by decide +kernel
theorem jd_J0_length_8abf5_9 : decode cJ0_length_8abf5 9 = .ok (.ishr, 1) := by decide +kernel
theorem jd_J0_length_8abf5_10 : decode cJ0_length_8abf5 10 = .ok (.ireturn, 1) := by decide +kernel
theorem jd_J0_charAt_5068e_0 : decode cJ0_charAt_5068e 0 = .ok (.aload_n 0, 1) := by decide +kernel
theorem jd_J0_charAt_5068e_1 : decode cJ0_charAt_5068e 1 = .ok (.invokevirtual 492, 3) := by decide +kernel
theorem jd_J0_charAt_5068e_4 : decode cJ0_charAt_5068e 4 = .ok (.ifCond .eq 12, 3) := by decide +kernel
theorem jd_J0_charAt_5068e_7 : decode cJ0_charAt_5068e 7 = .ok (.aload_n 0, 1) := by decide +kernel
theorem jd_J0_charAt_5068e_8 : decode cJ0_charAt_5068e 8 = .ok (.getfield 9, 3) := by decide +kernel
theorem jd_J0_charAt_5068e_11 : decode cJ0_charAt_5068e 11 = .ok (.iload_n 1, 1) := by decide +kernel
theorem jd_J0_charAt_5068e_12 : decode cJ0_charAt_5068e 12 = .ok (.invokestatic 495, 3) := by decide +kernel
theorem jd_J0_charAt_5068e_15 : decode cJ0_charAt_5068e 15 = .ok (.ireturn, 1) := by decide +kernel
theorem jd_J1_charAt_3b067_0 : decode cJ1_charAt_3b067 0 = .ok (.iload_n 1, 1) := by decide +kernel
theorem jd_J1_charAt_3b067_1 : decode cJ1_charAt_3b067 1 = .ok (.aload_n 0, 1) := by decide +kernel
theorem jd_J1_charAt_3b067_2 : decode cJ1_charAt_3b067 2 = .ok (.arraylength, 1) := by decide +kernel
theorem jd_J1_charAt_3b067_3 : decode cJ1_charAt_3b067 3 = .ok (.invokestatic 9, 3) := by decide +kernel
theorem jd_J1_charAt_3b067_6 : decode cJ1_charAt_3b067 6 = .ok (.aload_n 0, 1) := by decide +kernel
theorem jd_J1_charAt_3b067_7 : decode cJ1_charAt_3b067 7 = .ok (.iload_n 1, 1) := by decide +kernel
theorem jd_J1_charAt_3b067_8 : decode cJ1_charAt_3b067 8 = .ok (.baload, 1) := by decide +kernel
theorem jd_J1_charAt_3b067_9 : decode cJ1_charAt_3b067 9 = .ok (.sipush 255, 3) := by decide +kernel
theorem jd_J1_charAt_3b067_12 : decode cJ1_charAt_3b067 12 = .ok (.iand, 1) := by decide +kernel
theorem jd_J1_charAt_3b067_13 : decode cJ1_charAt_3b067 13 = .ok (.i2c, 1) := by decide +kernel
theorem jd_J1_charAt_3b067_14 : decode cJ1_charAt_3b067 14 = .ok (.ireturn, 1) := by decide +kernel
theorem jd_J0_checkIndex_df160_0 : decode cJ0_checkIndex_df160 0 = .ok (.iload_n 0, 1) := by decide +kernel
theorem jd_J0_checkIndex_df160_1 : decode cJ0_checkIndex_df160 1 = .ok (.iload_n 1, 1) := by decide +kernel
theorem jd_J0_checkIndex_df160_2 : decode cJ0_checkIndex_df160 2 = .ok (.getstatic 1053, 3) := by decide +kernel
theorem jd_J0_checkIndex_df160_5 : decode cJ0_checkIndex_df160 5 = .ok (.invokestatic 1059, 3) := by decide +kernel
theorem jd_J0_checkIndex_df160_8 : decode cJ0_checkIndex_df160 8 = .ok (.pop, 1) := by decide +kernel
theorem jd_J0_checkIndex_df160_9 : decode cJ0_checkIndex_df160 9 = .ok (.return_, 1) := by decide +kernel
theorem jd_J3_checkIndex_8e157_0 : decode cJ3_checkIndex_8e157 0 = .ok (.iload_n 0, 1) := by decide +kernel
theorem jd_J3_checkIndex_8e157_1 : decode cJ3_checkIndex_8e157 1 = .ok (.ifCond .lt 8, 3) := by decide +kernel
theorem jd_J3_checkIndex_8e157_4 : decode cJ3_checkIndex_8e157 4 = .ok (.iload_n 0, 1) := by decide +kernel
theorem jd_J3_checkIndex_8e157_5 : decode cJ3_checkIndex_8e157 5 = .ok (.iload_n 1, 1) := by decide +kernel
theorem jd_J3_checkIndex_8e157_6 : decode cJ3_checkIndex_8e157 6 = .ok (.if_icmp .lt 10, 3) := by decide +kernel
theorem jd_J3_checkIndex_8e157_16 : decode cJ3_checkIndex_8e157 16 = .ok (.iload_n 0, 1) := by decide +kernel
theorem jd_J3_checkIndex_8e157_17 : decode cJ3_checkIndex_8e157 17 = .ok (.ireturn, 1) := by decide +kernel
def jm_sx : List (Nat × List Int32) := [(55, [104, 111, 117, 115, 101]), (61, [97, 116]), (63, [115, 116, 114, 101, 101, 116]), (65, [112, 101, 111, 112, 108, 101]), (67, [99, 97, 114, 116]), (69, [116, 111]), (71, [100, 114, 97, 119])]
def jm_sb (i : Nat) : List Int32 := (jm_sx.getD i (0, [])).2
/-- a String at ad, its bytes at vl -/
def js_s (A : Nat → Prop) (i ad vl : Nat) (U : State) : Prop := va_O RJ0 ad A U U.heap ∧ va_OF RJ0 "coder" "B" (.int 0) ad A U U.heap ∧ va_OF RJ0 "value" "[B" (.ref vl) ad A U U.heap ∧ va_T .byte vl (jm_sb i).length (fun j => .int ((jm_sb i).getD j 0)) A U U.heap
def js_c (A : Nat → Prop) (U : State) : Prop := va_Z RJ0 "COMPACT_STRINGS" "Z" (.int 1) A U U.heap
def js_f (A : Nat → Prop) (fm : Value) (U : State) : Prop := va_Z RJ3 "SIOOBE_FORMATTER" "Ljava/util/function/BiFunction;" fm A U U.heap
def js_A (sz : Nat) : Nat → Prop := fun q => sz ≤ q
theorem js_s.mv {A : Nat → Prop} {i ad vl : Nat} {u U : State} (hvm : u.vm.Alike U.vm) (hh : U.heap = u.heap) (h : js_s A i ad vl u) : js_s A i ad vl U := by
  unfold js_s
  rw [hh]
  exact ⟨va_O.moved hvm h.1, va_OF.moved hvm h.2.1, va_OF.moved hvm h.2.2.1, va_T.moved hvm h.2.2.2⟩
theorem js_c.mv {A : Nat → Prop} {u U : State} (hvm : u.vm.Alike U.vm) (hh : U.heap = u.heap) (h : js_c A u) : js_c A U := by
  unfold js_c
  rw [hh]
  exact va_Z.moved hvm h
theorem js_f.mv {A : Nat → Prop} {fm : Value} {u U : State} (hvm : u.vm.Alike U.vm) (hh : U.heap = u.heap) (h : js_f A fm u) : js_f A fm U := by
  unfold js_f
  rw [hh]
  exact va_Z.moved hvm h
/-- in a state behind: what isn't in A as it was -/
theorem js_s.to {A A2 : Nat → Prop} {i ad vl : Nat} {s U : State} {H : Heap} {locs : List Loc} (h : js_s A i ad vl s) (hS : va_S A s.heap H locs) (hU : U.heap = H) (hW : s.WarmedH U.vm) (hA : ∀ q, A2 q → A q) : js_s A2 i ad vl U := by
  have hk : ∀ a : Nat, a < s.heap.size → ¬ A a → H[a]? = s.heap[a]? := hS.2.1
  unfold js_s
  rw [hU]
  exact ⟨va_O.moved hW.alike ((h.1.kept hk).narrow hA), va_OF.moved hW.alike ((h.2.1.kept hk).narrow hA), va_OF.moved hW.alike ((h.2.2.1.kept hk).narrow hA), va_T.moved hW.alike ((h.2.2.2.kept hk).narrow hA)⟩
theorem js_c.to {A A2 : Nat → Prop} {s U : State} {H : Heap} {locs : List Loc} (h : js_c A s) (hS : va_S A s.heap H locs) (hU : U.heap = H) (hW : s.WarmedH U.vm) (hA : ∀ q, A2 q → A q) : js_c A2 U := by
  have hk : ∀ a : Nat, a < s.heap.size → ¬ A a → H[a]? = s.heap[a]? := hS.2.1
  unfold js_c
  rw [hU]
  exact va_Z.moved hW.alike ((va_Z.kept h hk).narrow hA)
theorem js_f.to {A A2 : Nat → Prop} {fm : Value} {s U : State} {H : Heap} {locs : List Loc} (h : js_f A fm s) (hS : va_S A s.heap H locs) (hU : U.heap = H) (hW : s.WarmedH U.vm) (hA : ∀ q, A2 q → A q) : js_f A2 fm U := by
  have hk : ∀ a : Nat, a < s.heap.size → ¬ A a → H[a]? = s.heap[a]? := hS.2.1
  unfold js_f
  rw [hU]
  exact va_Z.moved hW.alike ((va_Z.kept h hk).narrow hA)
def js_w (y : MethodName) (cc : ByteArray) (n : Nat) (r : Option FieldType) : List Cond := Cond.code y cc n r :: jm_T
theorem js_good {y : MethodName} {cc : ByteArray} {n : Nat} {r : Option FieldType} (h : Cond.code y cc n r ∈ jm_T) : GoodIn jm_T (js_w y cc n r) := by
  intro w hw
  rcases List.mem_cons.mp hw with rfl | hw
  · exact ⟨h, (jm_T_good _ h).2⟩
  · exact jm_T_good w hw
def js_R (f lo : Nat) : Room := { frames := f, cells := 0, slots := 0, locals := lo }
def js_P (sz : Nat) (as : List Value) (F : State → Prop) : Array Value → State → Prop := va_Pc as (fun U => U.heap.size = sz ∧ F U)
def js_Q (sz : Nat) (v : Int32) : Array Value → State → Outcome → State → Prop := va_Qi (fun r (_ : Unit) => r = v) (fun _ t => t.heap.size = sz) (js_A sz)
theorem js_S {sz : Nat} {s : State} (h : s.heap.size = sz) : va_S (js_A sz) s.heap s.heap [] := va_S.rf
def js_Qv (sz : Nat) : Array Value → State → Outcome → State → Prop := va_Qv (fun (_ : Unit) => True) (fun _ t => t.heap.size = sz) (js_A sz)
theorem js_bl {sz : Nat} {as : List Value} {F : State → Prop} (hF : ∀ (u U : State), u.vm.Alike U.vm → U.heap = u.heap → F u → F U) : FrameBlind (js_P sz as F) := by
  intro a U g mk hp
  obtain ⟨q0, q1, q2⟩ := hp
  exact ⟨q0, q1, hF U (U.calling g mk a) (Vm.Alike.refl U.vm) rfl q2⟩
theorem js_pS {sz : Nat} {s : State} {H : Heap} {as : List Value} {F : State → Prop} (hz : H.size = sz) (hF : ∀ (u U : State), u.vm.Alike U.vm → U.heap = u.heap → F u → F U) (h : ∀ U : State, U.heap = H → s.WarmedH U.vm → F U) : PreS s H (js_P sz as F) as := ⟨js_bl hF, fun U hU hW => ⟨rfl, by rw [hU]; exact hz, h U hU hW⟩⟩
theorem js_cB {R : Room} {s : State} {args : Array Value} {own : String} {idx : Nat} {y : MethodName} {cc : ByteArray} {n nL f lo : Nat} {r : Option FieldType} (hts : ∀ w ∈ jm_T, w.before args s = true) (hc : Cond.code y cc nL r ∈ jm_T) (hi : Cond.initialized y.cls ∈ jm_T) (hk : Cond.methodLink own idx y ∈ jm_T) (hd : y.cls ≠ "java/lang/invoke/MethodHandle" ∧ y.cls ≠ "java/lang/invoke/VarHandle" ∧ Option.map (fun d => d.parameters.length) (parseMethodDescriptor y.desc) = some n) (hr : f + 1 ≤ R.frames ∧ 8 + (nL + 11) + lo ≤ R.locals) : CallB R s args own idx y cc nL r (js_w y cc nL r) (js_R f lo) 0 0 n :=
  callB_of n hts (js_good hc) rfl rfl rfl (hts _ hi) (hts _ hk) hd hr
theorem js_fc {i ad vl : Nat} {A : Nat → Prop} (u U : State) (hvm : u.vm.Alike U.vm) (hh : U.heap = u.heap) (h : js_s A i ad vl u ∧ js_c A u) : js_s A i ad vl U ∧ js_c A U := ⟨h.1.mv hvm hh, h.2.mv hvm hh⟩
set_option maxHeartbeats 1000000 in
theorem js_coder (l : Launch) (sz i ad vl : Nat) : Met l yJ0_coder_7d493 (js_w yJ0_coder_7d493 cJ0_coder_7d493 1 (some .byte)) (js_R 0 0) (js_P sz [.ref ad] (fun U => js_s (js_A sz) i ad vl U ∧ js_c (js_A sz) U)) (js_Q sz 0) 0 0 (js_A sz) := by
  refine Met.ofW (cc := cJ0_coder_7d493) (maxL := 1) (ret := (some .byte)) (by decide) rfl ?_
  intro p e s m args below meth c s₁ B hml hv
  obtain ⟨rfl, hsz, hs, hc⟩ := hv
  have hx := B.exec
  have hb := B.bytes
  have hr := B.returns
  have hts0 := atoms_spec (ws := js_w yJ0_coder_7d493 cJ0_coder_7d493 1 (some .byte)) B.pre
  have hts : ∀ w ∈ jm_T, w.before _ s = true := fun w hw => hts0 w (List.mem_cons_of_mem _ hw)
  have hown : s.vm.findClass RJ0 = some m.cls := findClass_of_methodNamed B.named
  have hlocks := B.notSynchronized
  have hS : va_S (js_A sz) s.heap s.heap [] := va_S.rf
  have hl := lv_entry ([.ref ad]) (n := 1) (Nat.le_of_ble_eq_true rfl)
  rw [lg_entry_eq]
  generalize (lg_sl ([.ref ad]) ++ List.replicate (1 - (lg_sl ([.ref ad])).length) Slot.unset).toArray = ls at hl ⊢
  have hl : lv_has ls 1 [(0, .ref ad)] := hl
  refine va_gets hx hb hc hS hown (hts _ jw_f_cs) (fun _ h9 => h9) jd_J0_coder_7d493_0 ?_
  refine lv_if_eq hx hb jd_J0_coder_7d493_3 (tgt := 13) rfl (fun q => absurd q (by decide)) (fun _ => ?_)
  refine lv_aload_n hx hb jd_J0_coder_7d493_6 rfl (lv_at hl 0 rfl) ?_
  refine vk_getf hx hb hs.2.1 hS hown (hts _ jw_f_co) (fun _ h9 => h9) jd_J0_coder_7d493_7 ?_
  refine lv_goto hx hb jd_J0_coder_7d493_10 (tgt := 14) rfl ?_
  exact W.zret hx hb hr rfl (fun t ht hW => ⟨⟨_, (), rfl, rfl, by show t.heap.size = sz; rw [ht]; exact hsz⟩, hS.F ht⟩) hS.2.2 jd_J0_coder_7d493_14
set_option maxHeartbeats 1000000 in
theorem js_latin (l : Launch) (sz i ad vl : Nat) : Met l yJ0_isLatin1_aae02 (js_w yJ0_isLatin1_aae02 cJ0_isLatin1_aae02 1 (some .boolean)) (js_R 0 0) (js_P sz [.ref ad] (fun U => js_s (js_A sz) i ad vl U ∧ js_c (js_A sz) U)) (js_Q sz 1) 0 0 (js_A sz) := by
  refine Met.ofW (cc := cJ0_isLatin1_aae02) (maxL := 1) (ret := (some .boolean)) (by decide) rfl ?_
  intro p e s m args below meth c s₁ B hml hv
  obtain ⟨rfl, hsz, hs, hc⟩ := hv
  have hx := B.exec
  have hb := B.bytes
  have hr := B.returns
  have hts0 := atoms_spec (ws := js_w yJ0_isLatin1_aae02 cJ0_isLatin1_aae02 1 (some .boolean)) B.pre
  have hts : ∀ w ∈ jm_T, w.before _ s = true := fun w hw => hts0 w (List.mem_cons_of_mem _ hw)
  have hown : s.vm.findClass RJ0 = some m.cls := findClass_of_methodNamed B.named
  have hlocks := B.notSynchronized
  have hS : va_S (js_A sz) s.heap s.heap [] := va_S.rf
  have hl := lv_entry ([.ref ad]) (n := 1) (Nat.le_of_ble_eq_true rfl)
  rw [lg_entry_eq]
  generalize (lg_sl ([.ref ad]) ++ List.replicate (1 - (lg_sl ([.ref ad])).length) Slot.unset).toArray = ls at hl ⊢
  have hl : lv_has ls 1 [(0, .ref ad)] := hl
  refine va_gets hx hb hc hS hown (hts _ jw_f_cs) (fun _ h9 => h9) jd_J0_isLatin1_aae02_0 ?_
  refine lv_if_eq hx hb jd_J0_isLatin1_aae02_3 (tgt := 17) rfl (fun q => absurd q (by decide)) (fun _ => ?_)
  refine lv_aload_n hx hb jd_J0_isLatin1_aae02_6 rfl (lv_at hl 0 rfl) ?_
  refine vk_getf hx hb hs.2.1 hS hown (hts _ jw_f_co) (fun _ h9 => h9) jd_J0_isLatin1_aae02_7 ?_
  refine lv_if_ne hx hb jd_J0_isLatin1_aae02_10 (tgt := 17) rfl (fun q => absurd rfl q) (fun _ => ?_)
  refine lv_iconst hx hb jd_J0_isLatin1_aae02_13 rfl ?_
  refine lv_goto hx hb jd_J0_isLatin1_aae02_14 (tgt := 18) rfl ?_
  exact W.zret hx hb hr rfl (fun t ht hW => ⟨⟨_, (), rfl, rfl, by show t.heap.size = sz; rw [ht]; exact hsz⟩, hS.F ht⟩) hS.2.2 jd_J0_isLatin1_aae02_18
set_option maxHeartbeats 1000000 in
theorem js_length (l : Launch) (sz i ad vl : Nat) (hi : i < 7) : Met l yJ0_length_8abf5 (js_w yJ0_length_8abf5 cJ0_length_8abf5 1 (some .int)) (js_R 1 20) (js_P sz [.ref ad] (fun U => js_s (js_A sz) i ad vl U ∧ js_c (js_A sz) U)) (js_Q sz (Int32.ofNat (jm_sb i).length)) 0 0 (js_A sz) := by
  refine Met.ofW (cc := cJ0_length_8abf5) (maxL := 1) (ret := (some .int)) (by decide) rfl ?_
  intro p e s m args below meth c s₁ B hml hv
  obtain ⟨rfl, hsz, hs, hc⟩ := hv
  have hx := B.exec
  have hb := B.bytes
  have hr := B.returns
  have hts0 := atoms_spec (ws := js_w yJ0_length_8abf5 cJ0_length_8abf5 1 (some .int)) B.pre
  have hts : ∀ w ∈ jm_T, w.before _ s = true := fun w hw => hts0 w (List.mem_cons_of_mem _ hw)
  have hown : s.vm.findClass RJ0 = some m.cls := findClass_of_methodNamed B.named
  have hlocks := B.notSynchronized
  have hS : va_S (js_A sz) s.heap s.heap [] := va_S.rf
  have hl := lv_entry ([.ref ad]) (n := 1) (Nat.le_of_ble_eq_true rfl)
  rw [lg_entry_eq]
  generalize (lg_sl ([.ref ad]) ++ List.replicate (1 - (lg_sl ([.ref ad])).length) Slot.unset).toArray = ls at hl ⊢
  have hl : lv_has ls 1 [(0, .ref ad)] := hl
  refine lv_aload_n hx hb jd_J0_length_8abf5_0 rfl (lv_at hl 0 rfl) ?_
  refine vk_getf hx hb hs.2.2.1 hS hown (hts _ jw_f_va) (fun _ h9 => h9) jd_J0_length_8abf5_1 ?_
  refine va_tlen hx hb hs.2.2.2 hS rfl jd_J0_length_8abf5_4 ?_
  refine lv_aload_n hx hb jd_J0_length_8abf5_5 rfl (lv_at hl 0 rfl) ?_
  obtain ⟨cell, o1, o2, o3, -⟩ := hs.1
  refine va_calli (va_runV (As := []) (rest := [.int (Int32.ofNat (jm_sb i).length)]) ⟨hx, hb, hml, hown, hts⟩ (js_coder l sz i ad vl) ⟨js_cB hts jw_c_yJ0_coder_7d493 jw_i_RJ0 jw_l_yJ0_coder_7d493 ⟨by decide, by decide, by decide +kernel⟩ ⟨by decide, by decide⟩, hts _ jw_m_yJ0_coder_7d493, hts _ jw_s_yJ0_coder_7d493⟩ ⟨js_bl js_fc, ⟨cell, o1, o2, o3⟩, fun U hU hW => ⟨rfl, by rw [hU]; exact hsz, hs.to hS hU hW (fun _ z => z), hc.to hS hU hW (fun _ z => z)⟩⟩ rfl rfl hl.1 rfl (lv_room (Nat.le_of_ble_eq_true rfl)) jd_J0_length_8abf5_6 ⟨by decide, by decide⟩) hS (fun q _ h => h) (fun q h => h) (fun r u t1 H1 locs1 ht1 hvm hw hB1 hz1 hk1 hS1 => ?_)
  rw [hw]
  refine lv_ishr hx hb jd_J0_length_8abf5_9 ?_
  have e0 : (Int32.ofNat (jm_sb i).length >>> ((0 : Int32) &&& 31)) = Int32.ofNat (jm_sb i).length := by
    have key : ∀ i, i < 7 → (Int32.ofNat (jm_sb i).length >>> ((0 : Int32) &&& 31)) = Int32.ofNat (jm_sb i).length := by decide +kernel
    exact key i hi
  rw [e0]
  exact W.zret hx hb hr rfl (fun t ht hW => ⟨⟨_, (), rfl, rfl, by show t.heap.size = sz; rw [ht, ← ht1]; exact hB1⟩, hS1.F ht⟩) hS1.2.2 jd_J0_length_8abf5_10
set_option maxHeartbeats 1000000 in
theorem js_pciR (l : Launch) (sz : Nat) (k n : Int32) (a : Nat) (h0 : ¬ k < 0) (h1 : k < n) : Met l yJ3_checkIndex_8e157 (js_w yJ3_checkIndex_8e157 cJ3_checkIndex_8e157 3 (some .int)) (js_R 0 0) (js_P sz [.int k, .int n, .ref a] (fun U => True)) (js_Q sz k) 0 0 (js_A sz) := by
  refine Met.ofW (cc := cJ3_checkIndex_8e157) (maxL := 3) (ret := (some .int)) (by decide) rfl ?_
  intro p e s m args below meth c s₁ B hml hv
  obtain ⟨rfl, hsz, -⟩ := hv
  have hx := B.exec
  have hb := B.bytes
  have hr := B.returns
  have hts0 := atoms_spec (ws := js_w yJ3_checkIndex_8e157 cJ3_checkIndex_8e157 3 (some .int)) B.pre
  have hts : ∀ w ∈ jm_T, w.before _ s = true := fun w hw => hts0 w (List.mem_cons_of_mem _ hw)
  have hown : s.vm.findClass RJ3 = some m.cls := findClass_of_methodNamed B.named
  have hlocks := B.notSynchronized
  have hS : va_S (js_A sz) s.heap s.heap [] := va_S.rf
  have hl := lv_entry ([.int k, .int n, .ref a]) (n := 3) (Nat.le_of_ble_eq_true rfl)
  rw [lg_entry_eq]
  generalize (lg_sl ([.int k, .int n, .ref a]) ++ List.replicate (3 - (lg_sl ([.int k, .int n, .ref a])).length) Slot.unset).toArray = ls at hl ⊢
  have hl : lv_has ls 3 [(0, .int k), (1, .int n), (2, .ref a)] := hl
  refine lv_iload_n hx hb jd_J3_checkIndex_8e157_0 rfl (lv_at hl 0 rfl) ?_
  refine lv_if_lt hx hb jd_J3_checkIndex_8e157_1 (tgt := 9) rfl (fun q => absurd q h0) (fun _ => ?_)
  refine lv_iload_n hx hb jd_J3_checkIndex_8e157_4 rfl (lv_at hl 0 rfl) ?_
  refine lv_iload_n hx hb jd_J3_checkIndex_8e157_5 rfl (lv_at hl 1 rfl) ?_
  refine lv_icmp_lt hx hb jd_J3_checkIndex_8e157_6 (tgt := 16) rfl (fun _ => ?_) (fun q => absurd h1 q)
  refine lv_iload_n hx hb jd_J3_checkIndex_8e157_16 rfl (lv_at hl 0 rfl) ?_
  exact W.zret hx hb hr rfl (fun t ht hW => ⟨⟨_, (), rfl, rfl, by show t.heap.size = sz; rw [ht]; exact hsz⟩, hS.F ht⟩) hS.2.2 jd_J3_checkIndex_8e157_17
set_option maxHeartbeats 1000000 in
theorem js_pciN (l : Launch) (sz : Nat) (k n : Int32) (h0 : ¬ k < 0) (h1 : k < n) : Met l yJ3_checkIndex_8e157 (js_w yJ3_checkIndex_8e157 cJ3_checkIndex_8e157 3 (some .int)) (js_R 0 0) (js_P sz [.int k, .int n, .null] (fun U => True)) (js_Q sz k) 0 0 (js_A sz) := by
  refine Met.ofW (cc := cJ3_checkIndex_8e157) (maxL := 3) (ret := (some .int)) (by decide) rfl ?_
  intro p e s m args below meth c s₁ B hml hv
  obtain ⟨rfl, hsz, -⟩ := hv
  have hx := B.exec
  have hb := B.bytes
  have hr := B.returns
  have hts0 := atoms_spec (ws := js_w yJ3_checkIndex_8e157 cJ3_checkIndex_8e157 3 (some .int)) B.pre
  have hts : ∀ w ∈ jm_T, w.before _ s = true := fun w hw => hts0 w (List.mem_cons_of_mem _ hw)
  have hown : s.vm.findClass RJ3 = some m.cls := findClass_of_methodNamed B.named
  have hlocks := B.notSynchronized
  have hS : va_S (js_A sz) s.heap s.heap [] := va_S.rf
  have hl := lv_entry ([.int k, .int n, .null]) (n := 3) (Nat.le_of_ble_eq_true rfl)
  rw [lg_entry_eq]
  generalize (lg_sl ([.int k, .int n, .null]) ++ List.replicate (3 - (lg_sl ([.int k, .int n, .null])).length) Slot.unset).toArray = ls at hl ⊢
  have hl : lv_has ls 3 [(0, .int k), (1, .int n), (2, .null)] := hl
  refine lv_iload_n hx hb jd_J3_checkIndex_8e157_0 rfl (lv_at hl 0 rfl) ?_
  refine lv_if_lt hx hb jd_J3_checkIndex_8e157_1 (tgt := 9) rfl (fun q => absurd q h0) (fun _ => ?_)
  refine lv_iload_n hx hb jd_J3_checkIndex_8e157_4 rfl (lv_at hl 0 rfl) ?_
  refine lv_iload_n hx hb jd_J3_checkIndex_8e157_5 rfl (lv_at hl 1 rfl) ?_
  refine lv_icmp_lt hx hb jd_J3_checkIndex_8e157_6 (tgt := 16) rfl (fun _ => ?_) (fun q => absurd h1 q)
  refine lv_iload_n hx hb jd_J3_checkIndex_8e157_16 rfl (lv_at hl 0 rfl) ?_
  exact W.zret hx hb hr rfl (fun t ht hW => ⟨⟨_, (), rfl, rfl, by show t.heap.size = sz; rw [ht]; exact hsz⟩, hS.F ht⟩) hS.2.2 jd_J3_checkIndex_8e157_17
set_option maxHeartbeats 1000000 in
theorem js_ci (l : Launch) (sz : Nat) (k n : Int32) (fm : Value) (hfm : fm = .null ∨ ∃ a, fm = .ref a) (h0 : ¬ k < 0) (h1 : k < n) : Met l yJ0_checkIndex_df160 (js_w yJ0_checkIndex_df160 cJ0_checkIndex_df160 2 none) (js_R 1 22) (js_P sz [.int k, .int n] (fun U => js_f (js_A sz) fm U)) (js_Qv sz) 0 0 (js_A sz) := by
  refine Met.ofW (cc := cJ0_checkIndex_df160) (maxL := 2) (ret := none) (by decide) rfl ?_
  intro p e s m args below meth c s₁ B hml hv
  obtain ⟨rfl, hsz, hf⟩ := hv
  have hx := B.exec
  have hb := B.bytes
  have hr := B.returns
  have hts0 := atoms_spec (ws := js_w yJ0_checkIndex_df160 cJ0_checkIndex_df160 2 none) B.pre
  have hts : ∀ w ∈ jm_T, w.before _ s = true := fun w hw => hts0 w (List.mem_cons_of_mem _ hw)
  have hown : s.vm.findClass RJ0 = some m.cls := findClass_of_methodNamed B.named
  have hlocks := B.notSynchronized
  have hS : va_S (js_A sz) s.heap s.heap [] := va_S.rf
  have hl := lv_entry ([.int k, .int n]) (n := 2) (Nat.le_of_ble_eq_true rfl)
  rw [lg_entry_eq]
  generalize (lg_sl ([.int k, .int n]) ++ List.replicate (2 - (lg_sl ([.int k, .int n])).length) Slot.unset).toArray = ls at hl ⊢
  have hl : lv_has ls 2 [(0, .int k), (1, .int n)] := hl
  refine lv_iload_n hx hb jd_J0_checkIndex_df160_0 rfl (lv_at hl 0 rfl) ?_
  refine lv_iload_n hx hb jd_J0_checkIndex_df160_1 rfl (lv_at hl 1 rfl) ?_
  refine va_gets hx hb hf hS hown (hts _ jw_f_si) (fun _ h9 => h9) jd_J0_checkIndex_df160_2 ?_
  rcases hfm with rfl | ⟨a, rfl⟩
  · refine va_calli (va_runS (As := [.int k, .int n, .null]) (rest := []) ⟨hx, hb, hml, hown, hts⟩ (js_pciN l sz k n h0 h1) ⟨js_cB (n := 3) hts jw_c_yJ3_checkIndex_8e157 jw_i_RJ3 jw_l_yJ3_checkIndex_8e157 ⟨by decide, by decide, by decide +kernel⟩ ⟨by decide, by decide⟩, hts _ jw_m_yJ3_checkIndex_8e157⟩ (js_pS hsz (fun _ _ _ _ z => z) (fun U hU hW => trivial)) rfl rfl hl.1 rfl (lv_room (Nat.le_of_ble_eq_true rfl)) jd_J0_checkIndex_df160_5 ⟨by decide, by decide⟩) hS (fun q _ h => h) (fun q h => h) (fun r u t1 H1 locs1 ht1 hvm hw hB1 hz1 hk1 hS1 => ?_)
    refine lv_pop hx hb jd_J0_checkIndex_df160_8 rfl ?_
    exact W.vret hx hb hr (fun t ht hW => ⟨⟨(), rfl, trivial, by show t.heap.size = sz; rw [ht, ← ht1]; exact hB1⟩, hS1.F ht⟩) hS1.2.2 jd_J0_checkIndex_df160_9
  · refine va_calli (va_runS (As := [.int k, .int n, .ref a]) (rest := []) ⟨hx, hb, hml, hown, hts⟩ (js_pciR l sz k n a h0 h1) ⟨js_cB (n := 3) hts jw_c_yJ3_checkIndex_8e157 jw_i_RJ3 jw_l_yJ3_checkIndex_8e157 ⟨by decide, by decide, by decide +kernel⟩ ⟨by decide, by decide⟩, hts _ jw_m_yJ3_checkIndex_8e157⟩ (js_pS hsz (fun _ _ _ _ z => z) (fun U hU hW => trivial)) rfl rfl hl.1 rfl (lv_room (Nat.le_of_ble_eq_true rfl)) jd_J0_checkIndex_df160_5 ⟨by decide, by decide⟩) hS (fun q _ h => h) (fun q h => h) (fun r u t1 H1 locs1 ht1 hvm hw hB1 hz1 hk1 hS1 => ?_)
    refine lv_pop hx hb jd_J0_checkIndex_df160_8 rfl ?_
    exact W.vret hx hb hr (fun t ht hW => ⟨⟨(), rfl, trivial, by show t.heap.size = sz; rw [ht, ← ht1]; exact hB1⟩, hS1.F ht⟩) hS1.2.2 jd_J0_checkIndex_df160_9
theorem js_ff {A : Nat → Prop} {fm : Value} (u U : State) (hvm : u.vm.Alike U.vm) (hh : U.heap = u.heap) (h : js_f A fm u) : js_f A fm U := h.mv hvm hh
theorem js_fv {A : Nat → Prop} {fm : Value} {vl n : Nat} {f : Nat → Value} (u U : State) (hvm : u.vm.Alike U.vm) (hh : U.heap = u.heap) (h : js_f A fm u ∧ va_T .byte vl n f A u u.heap) : js_f A fm U ∧ va_T .byte vl n f A U U.heap := ⟨h.1.mv hvm hh, by rw [hh]; exact va_T.moved hvm h.2⟩
theorem js_fa {A : Nat → Prop} {fm : Value} {i ad vl : Nat} (u U : State) (hvm : u.vm.Alike U.vm) (hh : U.heap = u.heap) (h : js_s A i ad vl u ∧ js_c A u ∧ js_f A fm u) : js_s A i ad vl U ∧ js_c A U ∧ js_f A fm U := ⟨h.1.mv hvm hh, h.2.1.mv hvm hh, h.2.2.mv hvm hh⟩
theorem js_b : ∀ i, i < 7 → ∀ k, k < (jm_sb i).length → ((((jm_sb i).getD k 0) &&& 255).toUInt32 % 65536).toInt32 = (jm_sb i).getD k 0 ∧ narrow .char (.int ((jm_sb i).getD k 0)) = .int ((jm_sb i).getD k 0) := by decide +kernel
theorem js_len : ∀ i, i < 7 → (jm_sb i).length < 100 := by decide +kernel
theorem js_lt {k : Int32} {n : Nat} (h0 : ¬ k < 0) (h1 : k.toNatClampNeg < n) (h2 : n < 100) : k < Int32.ofNat n ∧ vp_in k n := by
  have e : (Int32.ofNat n).toInt = (n : Int) := nI_toInt (by omega)
  refine ⟨Int32.lt_iff_toInt_lt.mpr ?_, jm_in_ok (by unfold jm_in; exact decide_eq_true (fun z => by rcases z with z | z; exact h0 z; omega))⟩
  have e2 : k.toNatClampNeg = k.toInt.toNat := rfl
  rw [e]
  omega
set_option maxHeartbeats 1000000 in
theorem js_ch1 (l : Launch) (sz i vl : Nat) (k : Int32) (fm : Value) (hfm : fm = .null ∨ ∃ a, fm = .ref a) (hi : i < 7) (h0 : ¬ k < 0) (h1 : k.toNatClampNeg < (jm_sb i).length) : Met l yJ1_charAt_3b067 (js_w yJ1_charAt_3b067 cJ1_charAt_3b067 2 (some .char)) (js_R 2 43) (js_P sz [.ref vl, .int k] (fun U => js_f (js_A sz) fm U ∧ va_T .byte vl (jm_sb i).length (fun j => .int ((jm_sb i).getD j 0)) (js_A sz) U U.heap)) (js_Q sz ((jm_sb i).getD k.toNatClampNeg 0)) 0 0 (js_A sz) := by
  refine Met.ofW (cc := cJ1_charAt_3b067) (maxL := 2) (ret := (some .char)) (by decide) rfl ?_
  intro p e s m args below meth c s₁ B hml hv
  obtain ⟨rfl, hsz, hf, hT⟩ := hv
  have hx := B.exec
  have hb := B.bytes
  have hr := B.returns
  have hts0 := atoms_spec (ws := js_w yJ1_charAt_3b067 cJ1_charAt_3b067 2 (some .char)) B.pre
  have hts : ∀ w ∈ jm_T, w.before _ s = true := fun w hw => hts0 w (List.mem_cons_of_mem _ hw)
  have hown : s.vm.findClass RJ1 = some m.cls := findClass_of_methodNamed B.named
  have hlocks := B.notSynchronized
  have hS : va_S (js_A sz) s.heap s.heap [] := va_S.rf
  have hl := lv_entry ([.ref vl, .int k]) (n := 2) (Nat.le_of_ble_eq_true rfl)
  rw [lg_entry_eq]
  generalize (lg_sl ([.ref vl, .int k]) ++ List.replicate (2 - (lg_sl ([.ref vl, .int k])).length) Slot.unset).toArray = ls at hl ⊢
  have hl : lv_has ls 2 [(0, .ref vl), (1, .int k)] := hl
  have hlt := js_lt h0 h1 (js_len i hi)
  have hbt := js_b i hi _ h1
  refine lv_iload_n hx hb jd_J1_charAt_3b067_0 rfl (lv_at hl 1 rfl) ?_
  refine lv_aload_n hx hb jd_J1_charAt_3b067_1 rfl (lv_at hl 0 rfl) ?_
  refine va_tlen hx hb hT hS rfl jd_J1_charAt_3b067_2 ?_
  refine va_callv (va_runS (As := [.int k, .int (Int32.ofNat (jm_sb i).length)]) (rest := []) ⟨hx, hb, hml, hown, hts⟩ (js_ci l sz k _ fm hfm h0 hlt.1) ⟨js_cB (n := 2) hts jw_c_yJ0_checkIndex_df160 jw_i_RJ0 jw_l_yJ0_checkIndex_df160 ⟨by decide, by decide, by decide +kernel⟩ ⟨by decide, by decide⟩, hts _ jw_m_yJ0_checkIndex_df160⟩ (js_pS hsz js_ff (fun U hU hW => hf.to hS hU hW (fun _ z => z))) rfl rfl hl.1 rfl (lv_room (Nat.le_of_ble_eq_true rfl)) jd_J1_charAt_3b067_3 ⟨by decide, by decide⟩) hS (fun q _ h => h) (fun q h => h) (fun u t1 H1 locs1 ht1 hvm hw hB1 hz1 hk1 hS1 => ?_)
  refine lv_aload_n hx hb jd_J1_charAt_3b067_6 rfl (lv_at hl 0 rfl) ?_
  refine lv_iload_n hx hb jd_J1_charAt_3b067_7 rfl (lv_at hl 1 rfl) ?_
  refine va_tb hx hb hT hS1 hlt.2 rfl jd_J1_charAt_3b067_8 ?_
  refine lv_sipush hx hb jd_J1_charAt_3b067_9 (v := 255) rfl ?_
  refine lv_iand hx hb jd_J1_charAt_3b067_12 ?_
  refine lv_i2c hx hb jd_J1_charAt_3b067_13 hbt.1 ?_
  exact W.zret hx hb hr hbt.2 (fun t ht hW => ⟨⟨_, (), rfl, rfl, by show t.heap.size = sz; rw [ht, ← ht1]; exact hB1⟩, hS1.F ht⟩) hS1.2.2 jd_J1_charAt_3b067_14
set_option maxHeartbeats 1000000 in
theorem js_charAt (l : Launch) (sz i ad vl : Nat) (k : Int32) (fm : Value) (hfm : fm = .null ∨ ∃ a, fm = .ref a) (hi : i < 7) (h0 : ¬ k < 0) (h1 : k.toNatClampNeg < (jm_sb i).length) : Met l yJ0_charAt_5068e (js_w yJ0_charAt_5068e cJ0_charAt_5068e 2 (some .char)) (js_R 3 64) (js_P sz [.ref ad, .int k] (fun U => js_s (js_A sz) i ad vl U ∧ js_c (js_A sz) U ∧ js_f (js_A sz) fm U)) (js_Q sz ((jm_sb i).getD k.toNatClampNeg 0)) 0 0 (js_A sz) := by
  refine Met.ofW (cc := cJ0_charAt_5068e) (maxL := 2) (ret := (some .char)) (by decide) rfl ?_
  intro p e s m args below meth c s₁ B hml hv
  obtain ⟨rfl, hsz, hs, hc, hf⟩ := hv
  have hx := B.exec
  have hb := B.bytes
  have hr := B.returns
  have hts0 := atoms_spec (ws := js_w yJ0_charAt_5068e cJ0_charAt_5068e 2 (some .char)) B.pre
  have hts : ∀ w ∈ jm_T, w.before _ s = true := fun w hw => hts0 w (List.mem_cons_of_mem _ hw)
  have hown : s.vm.findClass RJ0 = some m.cls := findClass_of_methodNamed B.named
  have hlocks := B.notSynchronized
  have hS : va_S (js_A sz) s.heap s.heap [] := va_S.rf
  have hl := lv_entry ([.ref ad, .int k]) (n := 2) (Nat.le_of_ble_eq_true rfl)
  rw [lg_entry_eq]
  generalize (lg_sl ([.ref ad, .int k]) ++ List.replicate (2 - (lg_sl ([.ref ad, .int k])).length) Slot.unset).toArray = ls at hl ⊢
  have hl : lv_has ls 2 [(0, .ref ad), (1, .int k)] := hl
  refine lv_aload_n hx hb jd_J0_charAt_5068e_0 rfl (lv_at hl 0 rfl) ?_
  obtain ⟨cell, o1, o2, o3, -⟩ := hs.1
  refine va_calli (va_runV (As := []) (rest := []) ⟨hx, hb, hml, hown, hts⟩ (js_latin l sz i ad vl) ⟨js_cB hts jw_c_yJ0_isLatin1_aae02 jw_i_RJ0 jw_l_yJ0_isLatin1_aae02 ⟨by decide, by decide, by decide +kernel⟩ ⟨by decide, by decide⟩, hts _ jw_m_yJ0_isLatin1_aae02, hts _ jw_s_yJ0_isLatin1_aae02⟩ ⟨js_bl js_fc, ⟨cell, o1, o2, o3⟩, fun U hU hW => ⟨rfl, by rw [hU]; exact hsz, hs.to hS hU hW (fun _ z => z), hc.to hS hU hW (fun _ z => z)⟩⟩ rfl rfl hl.1 rfl (lv_room (Nat.le_of_ble_eq_true rfl)) jd_J0_charAt_5068e_1 ⟨by decide, by decide⟩) hS (fun q _ h => h) (fun q h => h) (fun r u t1 H1 locs1 ht1 hvm hw hB1 hz1 hk1 hS1 => ?_)
  rw [hw]
  refine lv_if_eq hx hb jd_J0_charAt_5068e_4 (tgt := 16) rfl (fun q => absurd q (by decide)) (fun _ => ?_)
  refine lv_aload_n hx hb jd_J0_charAt_5068e_7 rfl (lv_at hl 0 rfl) ?_
  refine vk_getf hx hb hs.2.2.1 hS1 hown (hts _ jw_f_va) (fun _ h9 => h9) jd_J0_charAt_5068e_8 ?_
  refine lv_iload_n hx hb jd_J0_charAt_5068e_11 rfl (lv_at hl 1 rfl) ?_
  have hz9 : H1.size = sz := by rw [← ht1]; exact hB1
  refine va_calli (va_runS (As := [.ref vl, .int k]) (rest := []) ⟨hx, hb, hml, hown, hts⟩ (js_ch1 l sz i vl k fm hfm hi h0 h1) ⟨js_cB (n := 2) hts jw_c_yJ1_charAt_3b067 jw_i_RJ1 jw_l_yJ1_charAt_3b067 ⟨by decide, by decide, by decide +kernel⟩ ⟨by decide, by decide⟩, hts _ jw_m_yJ1_charAt_3b067⟩ (js_pS hz9 js_fv (fun U hU hW => ⟨hf.to hS1 hU hW (fun _ z => z), (hs.to hS1 hU hW (fun _ z => z)).2.2.2⟩)) rfl rfl hl.1 rfl (lv_room (Nat.le_of_ble_eq_true rfl)) jd_J0_charAt_5068e_12 ⟨by decide, by decide⟩) hS1 (fun q _ h => h) (fun q h => h) (fun r2 u2 t2 H2 locs2 ht2 hvm2 hw2 hB2 hz2 hk2 hS2 => ?_)
  rw [hw2]
  exact W.zret hx hb hr (js_b i hi _ h1).2 (fun t ht hW => ⟨⟨_, (), rfl, rfl, by show t.heap.size = sz; rw [ht, ← ht2]; exact hB2⟩, hS2.F ht⟩) hS2.2.2 jd_J0_charAt_5068e_15
def jm_stx (i : Nat) : String := ["house", "at", "street", "people", "cart", "to", "draw"].getD i ""
/-- the String constants, as the small machine wants them -/
def jm_SS (B : jm_E) (U : State) : Prop := js_c (jm_A B) U ∧ (∃ fm, (fm = .null ∨ ∃ a, fm = .ref a) ∧ js_f (jm_A B) fm U) ∧ ∀ i, i < 7 → (∃ vl, js_s (jm_A B) i (B.2.1 i) vl U) ∧ vk_R RX7 (jm_sx.getD i (0, [])).1 (jm_stx i) (B.2.1 i) U
theorem jm_SS.same {B : jm_E} {u U : State} (hv : u.vm = U.vm) (hh : U.heap = u.heap) (h : jm_SS B u) : jm_SS B U := by
  have ha : u.vm.Alike U.vm := by rw [hv]; exact Vm.Alike.refl _
  obtain ⟨h1, ⟨fm, f1, f2⟩, h3⟩ := h
  refine ⟨h1.mv ha hh, ⟨fm, f1, f2.mv ha hh⟩, fun i hi => ?_⟩
  obtain ⟨⟨vl, q1⟩, q2⟩ := h3 i hi
  exact ⟨⟨vl, q1.mv ha hh⟩, vk_R.same hv.symm q2⟩
theorem jm_SS.to {B : jm_E} {s U : State} {H : Heap} {locs : List Loc} (h : jm_SS B s) (hS : va_S (jm_A B) s.heap H locs) (hU : U.heap = H) (hW : s.WarmedH U.vm) : jm_SS B U := by
  obtain ⟨h1, ⟨fm, f1, f2⟩, h3⟩ := h
  refine ⟨h1.to hS hU hW (fun _ z => z), ⟨fm, f1, f2.to hS hU hW (fun _ z => z)⟩, fun i hi => ?_⟩
  obtain ⟨⟨vl, q1⟩, q2⟩ := h3 i hi
  exact ⟨⟨vl, q1.to hS hU hW (fun _ z => z)⟩, vk_R.warm hW q2⟩

