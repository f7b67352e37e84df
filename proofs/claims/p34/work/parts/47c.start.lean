/-! the law's start: an object made, a constructor called -/
section LS
variable {p : Program} {l : Launch} {e : Env} {s : State} {m : MethodId} {args : Array Value} {below : List Frame} {meth : Method} {c : Code} {D : va_G} {B : jm_E} {cells slots : Nat} {Q : State → Prop} {L : Nat} {xs : Nat → Int32}
variable {pc : Nat} {lv : jm_L} {st r : List Value} {h : jm_H}
theorem lw_new (C : lw_C p s m args meth c D B L xs) {idx ci N : Nat} {Cn : String} {T : u_T} (hv : vwCl[ci]? = some (Cn, T, N)) (w1 : Cond.classLink R_law idx Cn ∈ jm_T) (w2 : Cond.instantiable Cn N ∈ jm_T) (w3 : Cond.initialized Cn ∈ jm_T) (hnf : (List.range N).all (fun j => jm_nf (jm_ty ci j)) = true) (hd : decode code pc = .ok (.new idx, 3)) (hc : cells + 1 ≤ room_1.cells ∧ slots + N ≤ room_1.slots)
    (k : jm_W p l e room_1 s m args below meth c 4 D B (cells + 1) (slots + N) Q (pc + 3) lv (.ref h.length :: st) (h ++ [.inr (.inr (.inr (ci, (List.range N).map (fun j => defaultValue (jm_ty ci j)))))])) : jm_W p l e room_1 s m args below meth c 4 D B cells slots Q pc lv st h := by
  obtain ⟨hx, hb, hml, hown, hts, hK, hZ, hSS, hX, hb1, hb2⟩ := C
  intro H locs ls hM hl
  have hKn := hK.1 ci _ hv
  refine W.newcK hx hb hown (hts _ w1) (hts _ w2) (hts _ w3) rfl hd hc.1 hc.2 hKn.2.1 hM.2.1 fun H1 kC hkC e1 z1 o1 => ?_
  refine k H1 locs ls ⟨?_, by rw [z1, List.length_append]; rfl, ?_⟩ hl
  · rw [jm_ws_app]
    have hkp : ∀ (k : Nat) (x : Nat × va_E), (jm_ws B h)[k]? = some x → H1[x.1]? = H[x.1]? := fun k x hx9 => o1 x.1 (by rw [← hM.2.1]; exact (hM.1 k x hx9).lt)
    refine (hM.1.kept hkp).app (fun k9 x hx9 => ?_)
    have hz : k9 < 1 := (List.getElem?_eq_some_iff.mp hx9).1
    rw [show k9 = 0 by omega] at hx9
    cases hx9
    refine ⟨_, hv, (u_born (jm_ty ci) hts (jm_ly_in hv) hKn hkC e1 (jm_ty_ok hv).1).to (fun j hj => ?_)⟩
    unfold vp_V
    rw [List.map_map, List.getD_eq_getElem?_getD, List.getElem?_map, List.getElem?_range hj]
    have h1 := List.all_eq_true.mp hnf j (List.mem_range.mpr hj)
    show defaultValue (jm_ty ci j) = jm_v B (defaultValue (jm_ty ci j))
    generalize jm_ty ci j = t at h1
    cases t <;> first | rfl | cases h1
  · exact ⟨Nat.le_trans hM.2.2.1 (by rw [z1, hM.2.1]; omega), fun x h1 h2 => (o1 x (by rw [← hM.2.1]; exact Nat.lt_of_lt_of_le h1 hM.2.2.1)).trans (hM.2.2.2.1 x h1 h2), hM.2.2.2.2⟩
theorem lw_ci (C : lw_C p s m args meth c D B L xs) {f y idx d mc ms a : Nat} {q : jm_Y} {h2 : jm_H} {v : Option Value} (hq : jm_ms[y]? = some q) (hn : jm_na[y]? = some 0) (hw1 : Cond.methodLink R_law idx q.1 ∈ jm_T) (hini : q.1.name = "<init>") (hst : q.2.2.2.2.2 = 0) (hrt : q.2.2.2.1 = none) (hnl : jm_cs [.ref a] ≤ q.2.2.1) (hd : decode code pc = .ok (.invokespecial idx, 3)) (hrun : jm_run f d y (0, lv_args 0 [.ref a], [], h) 0 0 = some (v, h2, mc, ms)) (hdp : d ≤ 1000) (hr8 : jm_cs r ≤ 8) (hc : cells + mc ≤ room_1.cells ∧ slots + ms ≤ room_1.slots)
    (k : jm_W p l e room_1 s m args below meth c 4 D B (cells + mc) (slots + ms) Q (pc + 3) lv (v.toList ++ r) h2) : jm_W p l e room_1 s m args below meth c 4 D B cells slots Q pc lv (.ref a :: r) h := by
  obtain ⟨hx, hb, hml, hown, hts, hK, hZ, hSS, hX, hb1, hb2⟩ := C
  have hMet := jm_met l hq hnl hrun D B
  obtain ⟨m1, m2, m3, m4, m5, m6, m7, m8⟩ := jm_m_ok hq
  rw [if_neg (by rw [hst]; decide)] at m3
  intro H locs ls hM hl
  have cw : CallB room_1 s args R_law idx q.1 q.2.1 q.2.2.1 none (jm_wy q) (jm_R d mc ms) mc ms 0 ∧ q.1.name = "<init>" ∧ (Cond.instanceMethod q.1).before args s = true := ⟨callB_of 0 hts (jm_wy_good hq) (by unfold jm_wy; rw [hrt]) rfl rfl (hts _ m2) (hts _ hw1) ⟨m5, m6, jm_na_ok hq hn⟩ ⟨by show d + 6 + 1 ≤ 2048; omega, by show 8 + (q.2.2.1 + 11) + 64 * (d + 6) ≤ 84000; omega⟩, hini, hts _ m3⟩
  have hPre : PreS s H (jm_Pc B D [.ref a] h) (.ref (B.1 + a) :: ([] : List Value).map (jm_v B)) := ⟨jm_Pc_blind B D _ h, fun U hU hW => ⟨rfl, by rw [hU]; exact hM.1, by rw [hU]; exact hM.2.1, va_K.moved hW.alike hK, jm_Z.warm hW hZ, hSS.to hM.2.2 hU hW⟩⟩
  refine jm_after hM hl (va_runI ⟨hx, hb, hml, hown, hts⟩ hMet cw hPre rfl rfl hl.1 ?_ ?_ hd hc) k
  · rfl
  · exact lv_room (by rw [jm_cs_v]; exact hr8)
end LS
theorem lw_w7 : Cond.classLink R_law 7 RX11 ∈ jm_T := jm_T_mem (i := 169) (by decide +kernel) rfl
theorem lw_w7i : Cond.instantiable RX11 15 ∈ jm_T := jm_T_mem (i := 170) (by decide +kernel) rfl
theorem lw_w7n : Cond.initialized RX11 ∈ jm_T := jm_T_mem (i := 149) (by decide +kernel) rfl
theorem lw_w9 : Cond.methodLink R_law 9 ⟨"OneWayTown", "<init>", "()V"⟩ ∈ jm_T := jm_T_mem (i := 171) (by decide +kernel) rfl
theorem lw_w10 : Cond.classLink R_law 10 RX12 ∈ jm_T := jm_T_mem (i := 1420) (by decide +kernel) rfl
theorem lw_w10i : Cond.instantiable RX12 69 ∈ jm_T := jm_T_mem (i := 1421) (by decide +kernel) rfl
theorem lw_w10n : Cond.initialized RX12 ∈ jm_T := jm_T_mem (i := 161) (by decide +kernel) rfl
theorem lw_w12 : Cond.methodLink R_law 12 ⟨"OneWayTownModel", "<init>", "()V"⟩ ∈ jm_T := jm_T_mem (i := 1422) (by decide +kernel) rfl
theorem lw_q137 : jm_ms[137]? = some (⟨"OneWayTown", "<init>", "()V"⟩, prog_1_method_1_code, 2, none, 11, 0) := by rfl
theorem lw_q185 : jm_ms[185]? = some (⟨"OneWayTownModel", "<init>", "()V"⟩, prog_14_method_1_code, 2, none, 12, 0) := by rfl
theorem lw_n137 : jm_na[137]? = some 0 := by rfl
theorem lw_n185 : jm_na[185]? = some 0 := by rfl
theorem lw_nf11 : (List.range 15).all (fun j => jm_nf (jm_ty 11 j)) = true := by decide +kernel
theorem lw_nf12 : (List.range 69).all (fun j => jm_nf (jm_ty 12 j)) = true := by decide +kernel
theorem lw_start {p : Program} {l : Launch} {e : Env} {s : State} {m : MethodId} {b : Nat} {below : List Frame} {meth : Method} {c : Code} {D : va_G} {B : jm_E} {L : Nat} {xs : Nat → Int32} (C : lw_C p s m #[Value.ref b] meth c D B L xs) (hL : L ≤ 3072) (hlk : meth.locks = false) (hrt : meth.sig.returnType = some .boolean) (hsz : s.heap.size ≤ B.1) : jm_W p l e room_1 s m #[Value.ref b] below meth c 4 D B 0 0 (lw_Z below #[Value.ref b] s) 0 [(0, .float 1000)] [] [] := by
  obtain ⟨h1, c1, s1, h2, c2, s2, r1, z1, b1, b2, r2, b3, b4, g⟩ := st_runs
  refine lw_new C (ci := 11) rfl lw_w7 lw_w7i lw_w7n lw_nf11 ld_0 ⟨Nat.le_of_ble_eq_true rfl, Nat.le_of_ble_eq_true rfl⟩ ?_
  show jm_W p l e room_1 s m #[Value.ref b] below meth c 4 D B 1 15 (lw_Z below #[Value.ref b] s) 3 [(0, .float 1000)] [.ref 0] [st_o11]
  refine lw_p C ld_3 rfl ?_
  refine lw_ci C lw_q137 lw_n137 lw_w9 rfl rfl rfl (by decide) ld_4 r1 (by omega) (by decide) ⟨?_, ?_⟩ ?_
  · show 1 + c1 ≤ 600000
    omega
  · show 15 + s1 ≤ 7302250
    omega
  refine lw_p C ld_7 rfl ?_
  refine lw_new C (ci := 12) rfl lw_w10 lw_w10i lw_w10n lw_nf12 ld_8 ⟨?_, ?_⟩ ?_
  · show 1 + c1 + 1 ≤ 600000
    omega
  · show 15 + s1 + 69 ≤ 7302250
    omega
  rw [z1]
  refine lw_p C ld_11 rfl ?_
  refine lw_ci C lw_q185 lw_n185 lw_w12 rfl rfl rfl (by decide) ld_12 r2 (by omega) (by decide) ⟨?_, ?_⟩ ?_
  · show 1 + c1 + 1 + c2 ≤ 600000
    omega
  · show 15 + s1 + 69 + s2 ≤ 7302250
    omega
  refine lw_p C ld_15 rfl ?_
  refine lw_p C ld_16 rfl ?_
  refine lw_p C ld_17 rfl ?_
  exact lw_loop C hL hlk hrt hsz ⟨by omega, by omega⟩ _ 0 h2 st_W rfl (by decide) (by decide) g st_li
