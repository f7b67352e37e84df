/-! later; what is compared; the loop -/
theorem lc_37 {p : Program} {l : Launch} {e : Env} {s : State} {m : MethodId} {args : Array Value} {below : List Frame} {meth : Method} {c : Code} {D : va_G} {B : jm_E} {cells slots : Nat} {Q : State → Prop} {L : Nat} {xs : Nat → Int32} {i : Int32} {h : jm_H} {W : fw_W} (C : lw_C p s m args meth c D B L xs) (hi : lw_at L i) (hc : cells ≤ room_1.cells ∧ slots ≤ room_1.slots) (hg : fw_gh W fw_T h) (hl : li W) (next : ∀ (h2 : jm_H) (W2 : fw_W), fw_gh W2 fw_T h2 → li W2 → jm_W p l e room_1 s m args below meth c 4 D B cells slots Q 1417 (lw_lv i) [] h2) : jm_W p l e room_1 s m args below meth c 4 D B cells slots Q 1249 (lw_lv i) [] h := by
  refine lw_p C ld_1249 rfl ?_
  refine lw_p C ld_1250 rfl ?_
  refine lw_p C ld_1251 rfl ?_
  refine lw_p C ld_1252 rfl ?_
  refine lw_p C ld_1253 rfl ?_
  refine lw_ld C ld_1254 (lw_ix hi _ (by decide) (by decide)) ?_
  obtain ⟨fs, hca⟩ := lw_o0 hg
  refine lw_cv C (a := 0) (as := [.inl (xs (i + Int32.ofInt 1).toNatClampNeg).toInt]) (asc := [.int (xs (i + Int32.ofInt 1).toNatClampNeg)]) (r := []) lq_181 ln_181 lk_181 lz_181 rfl ld_1255 (uk_later hl) (by decide) (⟨⟨_, rfl, rfl⟩, trivial⟩) hg rfl (by decide) (Nat.le_of_ble_eq_true rfl) hca hc (fun v h2 a2 W2 o2 g2 p2 => ?_)
  obtain ⟨v1, rfl, p3⟩ := p2
  obtain ⟨n2, rfl, -⟩ := lw_an ⟨_, rfl⟩ o2
  refine lw_p C ld_1258 rfl ?_
  refine lw_p C ld_1259 rfl ?_
  refine lw_p C ld_1260 rfl ?_
  refine lw_p C ld_1261 rfl ?_
  refine lw_p C ld_1262 rfl ?_
  refine lw_p C ld_1263 rfl ?_
  refine lw_ld C ld_1264 (lw_ix hi _ (by decide) (by decide)) ?_
  obtain ⟨fs2, hca2⟩ := lw_o1 g2
  refine lw_cv C (a := 352) (as := [.inl (xs (i + Int32.ofInt 1).toNatClampNeg).toInt]) (asc := [.int (xs (i + Int32.ofInt 1).toNatClampNeg)]) (r := []) lq_302 ln_302 lk_302 lz_302 rfl ld_1265 (um_later hl p3) (by decide) (⟨⟨_, rfl, rfl⟩, trivial⟩) g2 rfl (by decide) (Nat.le_of_ble_eq_true rfl) hca2 hc (fun v h3 a3 W3 o3 g3 p4 => ?_)
  obtain ⟨n3, rfl, e3⟩ := lw_an ⟨_, p4.1⟩ o3
  refine lw_p C ld_1268 rfl ?_
  exact lw_p C ld_1269 rfl (next h3 W3 g3 p4.2)
theorem lc_32 {p : Program} {l : Launch} {e : Env} {s : State} {m : MethodId} {args : Array Value} {below : List Frame} {meth : Method} {c : Code} {D : va_G} {B : jm_E} {cells slots : Nat} {Q : State → Prop} {L : Nat} {xs : Nat → Int32} {i : Int32} {h : jm_H} {W : fw_W} (C : lw_C p s m args meth c D B L xs) (hi : lw_at L i) (hc : cells ≤ room_1.cells ∧ slots ≤ room_1.slots) (hg : fw_gh W fw_T h) (hl : li W) (next : ∀ (h2 : jm_H) (W2 : fw_W), fw_gh W2 fw_T h2 → li W2 → jm_W p l e room_1 s m args below meth c 4 D B cells slots Q 1417 (lw_lv i) [] h2) : jm_W p l e room_1 s m args below meth c 4 D B cells slots Q 1094 (lw_lv i) [] h := by
  refine lw_p C ld_1094 rfl ?_
  refine lw_p C ld_1095 rfl ?_
  refine lw_p C ld_1096 rfl ?_
  refine lw_p C ld_1097 rfl ?_
  refine lw_p C ld_1098 rfl ?_
  refine lw_ld C ld_1099 (lw_ix hi _ (by decide) (by decide)) ?_
  refine lw_p C ld_1100 rfl ?_
  refine lw_p C ld_1101 rfl ?_
  refine lw_p C ld_1102 rfl ?_
  refine lw_p C ld_1103 rfl ?_
  refine lw_ld C ld_1104 (lw_ix hi _ (by decide) (by decide)) ?_
  obtain ⟨fs, hca⟩ := lw_o0 hg
  refine lw_cv C (a := 0) (as := [.inl (xs (i + Int32.ofInt 1).toNatClampNeg).toInt, .inl (xs (i + Int32.ofInt 2).toNatClampNeg).toInt]) (asc := [.int (xs (i + Int32.ofInt 1).toNatClampNeg), .int (xs (i + Int32.ofInt 2).toNatClampNeg)]) (r := []) lq_177 ln_177 lk_177 lz_177 rfl ld_1105 (uk_trx (lw_r _) (lw_r _) hl) (by decide) (⟨⟨_, rfl, rfl⟩, ⟨⟨_, rfl, rfl⟩, trivial⟩⟩) hg rfl (by decide) (Nat.le_of_ble_eq_true rfl) hca hc (fun v h2 a2 W2 o2 g2 p2 => ?_)
  obtain ⟨n2, rfl, e2⟩ := lw_an ⟨_, p2.1⟩ o2
  rw [p2.1] at e2
  have e2 := Sum.inl.inj (Option.some.inj e2)
  refine lw_p C ld_1108 rfl ?_
  refine lw_p C ld_1109 rfl ?_
  refine lw_p C ld_1110 rfl ?_
  refine lw_p C ld_1111 rfl ?_
  refine lw_p C ld_1112 rfl ?_
  refine lw_ld C ld_1113 (lw_ix hi _ (by decide) (by decide)) ?_
  refine lw_p C ld_1114 rfl ?_
  refine lw_p C ld_1115 rfl ?_
  refine lw_p C ld_1116 rfl ?_
  refine lw_p C ld_1117 rfl ?_
  refine lw_ld C ld_1118 (lw_ix hi _ (by decide) (by decide)) ?_
  obtain ⟨fs2, hca2⟩ := lw_o1 g2
  refine lw_cv C (a := 352) (as := [.inl (xs (i + Int32.ofInt 1).toNatClampNeg).toInt, .inl (xs (i + Int32.ofInt 2).toNatClampNeg).toInt]) (asc := [.int (xs (i + Int32.ofInt 1).toNatClampNeg), .int (xs (i + Int32.ofInt 2).toNatClampNeg)]) (r := [.int n2]) lq_292 ln_292 lk_292 lz_292 rfl ld_1119 (um_trx (lw_r _) (lw_r _) p2.2) (by decide) (⟨⟨_, rfl, rfl⟩, ⟨⟨_, rfl, rfl⟩, trivial⟩⟩) g2 rfl (by show 1 ≤ 8; decide) (Nat.le_of_ble_eq_true rfl) hca2 hc (fun v h3 a3 W3 o3 g3 p4 => ?_)
  obtain ⟨n3, rfl, e3⟩ := lw_an ⟨_, p4.1⟩ o3
  rw [p4.1] at e3
  have e3 := Sum.inl.inj (Option.some.inj e3)
  have e4 : n2 = n3 := Int32.toInt_inj.mp (by rw [← e2, e3])
  subst e4
  refine lw_ic C ld_1122 (t := 1417) rfl (fun _ => next h3 W3 g3 p4.2) (fun q => absurd q (by simp [jm_c2]))
theorem lw_body {p : Program} {l : Launch} {e : Env} {s : State} {m : MethodId} {args : Array Value} {below : List Frame} {meth : Method} {c : Code} {D : va_G} {B : jm_E} {cells slots : Nat} {Q : State → Prop} {L : Nat} {xs : Nat → Int32} {i : Int32} {h : jm_H} {W : fw_W} {x : Int32} (C : lw_C p s m args meth c D B L xs) (hi : lw_at L i) (hc : cells ≤ room_1.cells ∧ slots ≤ room_1.slots) (hg : fw_gh W fw_T h) (hl : li W) (next : ∀ (h2 : jm_H) (W2 : fw_W), fw_gh W2 fw_T h2 → li W2 → jm_W p l e room_1 s m args below meth c 4 D B cells slots Q 1417 (lw_lv i) [] h2) : jm_W p l e room_1 s m args below meth c 4 D B cells slots Q 33 (lw_lv i) [.int x] h := by
  refine lw_sw C ld_33 rfl (fun off ho => ?_)
  have ho : off ∈ [(1384 : Int), (187 : Int), (250 : Int), (273 : Int), (286 : Int), (309 : Int), (342 : Int), (375 : Int), (398 : Int), (421 : Int), (444 : Int), (493 : Int), (536 : Int), (569 : Int), (602 : Int), (625 : Int), (638 : Int), (651 : Int), (674 : Int), (687 : Int), (700 : Int), (723 : Int), (746 : Int), (769 : Int), (792 : Int), (815 : Int), (838 : Int), (851 : Int), (874 : Int), (923 : Int), (962 : Int), (985 : Int), (998 : Int), (1061 : Int), (1094 : Int), (1127 : Int), (1150 : Int), (1193 : Int), (1216 : Int), (1239 : Int), (1272 : Int), (1315 : Int), (1338 : Int), (1361 : Int)] := ho
  simp only [List.mem_cons, List.not_mem_nil, or_false] at ho
  rcases ho with rfl | rfl | rfl | rfl | rfl | rfl | rfl | rfl | rfl | rfl | rfl | rfl | rfl | rfl | rfl | rfl | rfl | rfl | rfl | rfl | rfl | rfl | rfl | rfl | rfl | rfl | rfl | rfl | rfl | rfl | rfl | rfl | rfl | rfl | rfl | rfl | rfl | rfl | rfl | rfl | rfl | rfl | rfl | rfl
  · exact ⟨1417, rfl, next h W hg hl⟩
  · exact ⟨220, rfl, lc_0 C hi hc hg hl next⟩
  · exact ⟨283, rfl, lc_1 C hi hc hg hl next⟩
  · exact ⟨306, rfl, lc_2 C hi hc hg hl next⟩
  · exact ⟨319, rfl, lc_3 C hi hc hg hl next⟩
  · exact ⟨342, rfl, lc_4 C hi hc hg hl next⟩
  · exact ⟨375, rfl, lc_5 C hi hc hg hl next⟩
  · exact ⟨408, rfl, lc_6 C hi hc hg hl next⟩
  · exact ⟨431, rfl, lc_7 C hi hc hg hl next⟩
  · exact ⟨454, rfl, lc_8 C hi hc hg hl next⟩
  · exact ⟨477, rfl, lc_9 C hi hc hg hl next⟩
  · exact ⟨526, rfl, lc_10 C hi hc hg hl next⟩
  · exact ⟨569, rfl, lc_11 C hi hc hg hl next⟩
  · exact ⟨602, rfl, lc_12 C hi hc hg hl next⟩
  · exact ⟨635, rfl, lc_13 C hi hc hg hl next⟩
  · exact ⟨658, rfl, lc_14 C hi hc hg hl next⟩
  · exact ⟨671, rfl, lc_15 C hi hc hg hl next⟩
  · exact ⟨684, rfl, lc_16 C hi hc hg hl next⟩
  · exact ⟨707, rfl, lc_17 C hi hc hg hl next⟩
  · exact ⟨720, rfl, lc_18 C hi hc hg hl next⟩
  · exact ⟨733, rfl, lc_19 C hi hc hg hl next⟩
  · exact ⟨756, rfl, lc_20 C hi hc hg hl next⟩
  · exact ⟨779, rfl, lc_21 C hi hc hg hl next⟩
  · exact ⟨802, rfl, lc_22 C hi hc hg hl next⟩
  · exact ⟨825, rfl, lc_23 C hi hc hg hl next⟩
  · exact ⟨848, rfl, lc_24 C hi hc hg hl next⟩
  · exact ⟨871, rfl, lc_25 C hi hc hg hl next⟩
  · exact ⟨884, rfl, lc_26 C hi hc hg hl next⟩
  · exact ⟨907, rfl, lc_27 C hi hc hg hl next⟩
  · exact ⟨956, rfl, lc_28 C hi hc hg hl next⟩
  · exact ⟨995, rfl, lc_29 C hi hc hg hl next⟩
  · exact ⟨1018, rfl, lc_30 C hi hc hg hl next⟩
  · exact ⟨1031, rfl, lc_31 C hi hc hg hl next⟩
  · exact ⟨1094, rfl, lc_32 C hi hc hg hl next⟩
  · exact ⟨1127, rfl, lc_33 C hi hc hg hl next⟩
  · exact ⟨1160, rfl, lc_34 C hi hc hg hl next⟩
  · exact ⟨1183, rfl, lc_35 C hi hc hg hl next⟩
  · exact ⟨1226, rfl, lc_36 C hi hc hg hl next⟩
  · exact ⟨1249, rfl, lc_37 C hi hc hg hl next⟩
  · exact ⟨1272, rfl, lc_38 C hi hc hg hl next⟩
  · exact ⟨1305, rfl, lc_39 C hi hc hg hl next⟩
  · exact ⟨1348, rfl, lc_40 C hi hc hg hl next⟩
  · exact ⟨1371, rfl, lc_41 C hi hc hg hl next⟩
  · exact ⟨1394, rfl, lc_42 C hi hc hg hl next⟩
theorem lw_gt {L : Nat} {i : Int32} (h0 : 0 ≤ i.toInt) (h1 : i.toInt ≤ 3078) (hL : L ≤ 3072) : (jm_c2 .gt i (Int32.ofNat L - Int32.ofInt 6) = false → lw_at L i) ∧ True := by
  refine ⟨fun q => ?_, trivial⟩
  have e0 : (Int32.ofNat L).toInt = (L : Int) := nI_toInt (by omega)
  have e1 : (Int32.ofNat L - Int32.ofInt 6).toInt = (L : Int) - 6 := by
    rw [Int32.toInt_sub, e0]
    exact Int.bmod_eq_of_le (by show -(2 ^ 32 / 2 : Int) ≤ (L : Int) - 6; omega) (by show (L : Int) - 6 < (2 ^ 32 + 1) / 2; omega)
  have q2 : ¬ (Int32.ofNat L - Int32.ofInt 6) < i := of_decide_eq_false q
  have q3 : ¬ (Int32.ofNat L - Int32.ofInt 6).toInt < i.toInt := fun z => q2 (Int32.lt_iff_toInt_lt.mpr z)
  exact ⟨h0, by omega, hL⟩
theorem lw_loop {p : Program} {l : Launch} {e : Env} {s : State} {m : MethodId} {b : Nat} {below : List Frame} {meth : Method} {c : Code} {D : va_G} {B : jm_E} {cells slots : Nat} {L : Nat} {xs : Nat → Int32} (C : lw_C p s m #[Value.ref b] meth c D B L xs) (hL : L ≤ 3072) (hlk : meth.locks = false) (hrt : meth.sig.returnType = some .boolean) (hsz : s.heap.size ≤ B.1) (hc : cells ≤ 600000 ∧ slots ≤ 7302250) : ∀ (n : Nat) (i : Int32) (h : jm_H) (W : fw_W), (3078 - i.toInt).toNat = n → 0 ≤ i.toInt → i.toInt ≤ 3078 → fw_gh W fw_T h → li W → jm_W p l e room_1 s m #[Value.ref b] below meth c 4 D B cells slots (lw_Z below #[Value.ref b] s) 18 (lw_lv i) [] h := by
  intro n
  induction n using Nat.strongRecOn with
  | ind n ih =>
    intro i h W hn i0 i1 hg hl
    refine lw_p C ld_18 rfl ?_
    refine lw_p C ld_19 rfl ?_
    refine lw_ln C ld_20 ?_
    refine lw_p C ld_21 rfl ?_
    refine lw_p C ld_23 rfl ?_
    refine lw_ic C ld_24 (t := 1423) rfl (fun _ => ?_) (fun q => ?_)
    · refine lw_p C ld_1423 rfl ?_
      exact lw_end C hlk hrt ld_1424 hc hsz
    · have hi := (lw_gt i0 i1 hL).1 q
      refine lw_p C ld_27 rfl ?_
      refine lw_p C ld_28 rfl ?_
      refine lw_ld C ld_29 (lw_ix0 hi) ?_
      refine lw_p C ld_30 rfl ?_
      refine lw_p C ld_32 rfl ?_
      refine lw_body C hi hc hg hl (fun h2 W2 g2 l2 => ?_)
      refine lw_p C ld_1417 rfl ?_
      refine lw_p C ld_1420 rfl ?_
      have e : (i + Int32.ofInt 6).toInt = i.toInt + 6 := by
        rw [Int32.toInt_add]
        exact Int.bmod_eq_of_le (by show -(2 ^ 32 / 2 : Int) ≤ i.toInt + 6; omega) (by show i.toInt + 6 < (2 ^ 32 + 1) / 2; have := hi.2.1; omega)
      have h1 := hi.2.1
      exact ih _ (by rw [e]; omega) (i + Int32.ofInt 6) h2 W2 rfl (by rw [e]; omega) (by rw [e]; omega) g2 l2
