/-! the law's own frame -/
def lw_C (p : Program) (s : State) (m : MethodId) (args : Array Value) (meth : Method) (c : Code) (D : va_G) (B : jm_E) (L : Nat) (xs : Nat → Int32) : Prop := p.tables.exec = Jvm.exec ∧ c.code = code ∧ c.maxLocals = 4 ∧ s.vm.findClass R_law = some m.cls ∧ (∀ w ∈ jm_T, w.before args s = true) ∧ va_K D vwCl (jm_tys B) s ∧ jm_Z s ∧ jm_SS B s ∧ va_X (B.2.1 1000) L xs s s.heap ∧ B.2.1 1000 < s.heap.size ∧ B.2.1 1000 < B.1
theorem lw_f1000 (B : jm_E) : jm_v B (.float 1000) = .ref (B.2.1 1000) := rfl
section LW
variable {p : Program} {l : Launch} {e : Env} {s : State} {m : MethodId} {args : Array Value} {below : List Frame} {meth : Method} {c : Code} {D : va_G} {B : jm_E} {cells slots : Nat} {Q : State → Prop} {L : Nat} {xs : Nat → Int32}
variable {pc : Nat} {lv : jm_L} {st r : List Value} {h : jm_H} {z : Nat × jm_L × List Value}
theorem lw_p (C : lw_C p s m args meth c D B L xs) {i : Instr} {len pc2 : Nat} {lv2 : jm_L} {st2 : List Value} (hd : decode code pc = .ok (i, len)) (hs : jm_pure 4 i len pc lv st = some (pc2, lv2, st2)) (k : jm_W p l e room_1 s m args below meth c 4 D B cells slots Q pc2 lv2 st2 h) : jm_W p l e room_1 s m args below meth c 4 D B cells slots Q pc lv st h := jm_pure_ok0 (z := (pc2, lv2, st2)) C.1 C.2.1 hd hs k
theorem lw_ld (C : lw_C p s m args meth c D B L xs) {i : Int32} (hd : decode code pc = .ok (.iaload, 1)) (hin : vp_in i L) (k : jm_W p l e room_1 s m args below meth c 4 D B cells slots Q (pc + 1) lv (.int (xs i.toNatClampNeg) :: r) h) : jm_W p l e room_1 s m args below meth c 4 D B cells slots Q pc lv (.int i :: .float 1000 :: r) h := by
  obtain ⟨hx, hb, hml, hown, hts, hK, hZ, hSS, hX, hb1, hb2⟩ := C
  intro H locs ls hM hl
  exact va_sld hx hb hX hb1 (A := jm_A B) (fun z => Nat.not_le.mpr hb2 z) hM.2.2 hin hd (k H locs ls hM hl)
theorem lw_ln (C : lw_C p s m args meth c D B L xs) (hd : decode code pc = .ok (.arraylength, 1)) (k : jm_W p l e room_1 s m args below meth c 4 D B cells slots Q (pc + 1) lv (.int (Int32.ofNat L) :: r) h) : jm_W p l e room_1 s m args below meth c 4 D B cells slots Q pc lv (.float 1000 :: r) h := by
  obtain ⟨hx, hb, hml, hown, hts, hK, hZ, hSS, hX, hb1, hb2⟩ := C
  intro H locs ls hM hl
  exact va_slen hx hb hX hb1 (A := jm_A B) (fun z => Nat.not_le.mpr hb2 z) hM.2.2 hd (k H locs ls hM hl)
/-- a call of a method of the class, of the reference -/
theorem lw_cv (C : lw_C p s m args meth c D B L xs) {y n idx d a : Nat} {q : jm_Y} {as : List fw_V} {asc : List Value} {W : fw_W} {Post : Option fw_V → fw_W → Prop} {fs : List Value} (hq : jm_ms[y]? = some q) (hn : jm_na[y]? = some n) (hw1 : Cond.methodLink R_law idx q.1 ∈ jm_T) (hw2 : Cond.selects q.1.cls q.1 q.1 ∈ jm_T) (hst : q.2.2.2.2.2 = 0) (hd : decode code pc = .ok (.invokevirtual idx, 3)) (hj : jc fw_T d y (.inr (.inl a) :: as) W Post) (hdp : d ≤ 1000) (ht : fw_t fw_T as asc) (hg : fw_gh W fw_T h) (hlen : asc.length = n) (hr8 : jm_cs r ≤ 8) (hnl : jm_cs (.ref a :: asc) ≤ q.2.2.1) (hca : h[a]? = some (.inr (.inr (.inr (q.2.2.2.2.1, fs))))) (hc : cells ≤ room_1.cells ∧ slots ≤ room_1.slots)
    (k : ∀ (v : Option Value) (h' : jm_H) (a' : Option fw_V) (W' : fw_W), fw_o fw_T a' v → fw_gh W' fw_T h' → Post a' W' → jm_W p l e room_1 s m args below meth c 4 D B cells slots Q (pc + 3) lv (v.toList ++ r) h') : jm_W p l e room_1 s m args below meth c 4 D B cells slots Q pc lv (asc.reverse ++ .ref a :: r) h := by
  obtain ⟨hx, hb, hml, hown, hts, hK, hZ, hSS, hX, hb1, hb2⟩ := C
  obtain ⟨nn, v, h', hrun, a', W', g1, g2, g3⟩ := hj (.ref a :: asc) h ⟨rfl, ht⟩ hg
  have hMet := jm_met l hq hnl hrun D B
  obtain ⟨m1, m2, m3, m4, m5, m6, m7, m8⟩ := jm_m_ok hq
  rw [if_neg (by rw [hst]; decide)] at m3
  intro H locs ls hM hl
  have cw : CallW room_1 s args R_law q.1.cls idx q.1 q.2.1 q.2.2.1 q.2.2.2.1 (jm_wy q) (jm_R d 0 0) 0 0 n := ⟨callB_of n hts (jm_wy_good hq) rfl rfl rfl (hts _ m2) (hts _ hw1) ⟨m5, m6, jm_na_ok hq hn⟩ ⟨by show d + 6 + 1 ≤ 2048; omega, by show 8 + (q.2.2.1 + 11) + 64 * (d + 6) ≤ 84000; omega⟩, hts _ m3, hts _ hw2⟩
  obtain ⟨rr, hcr, cell, g1', g2', g3', -⟩ := hM.1 a _ (jm_ws_at hca)
  have hPre : PreV s H q.1.cls (B.1 + a) (jm_Pc B D (.ref a :: asc) h) (asc.map (jm_v B)) := ⟨jm_Pc_blind B D _ h, ⟨cell, g1', by rw [g3']; rfl, by
      have hkc := (hK.1 _ _ hcr).2.1
      have hnm : rr.1 = q.1.cls := by rw [m4]; exact jm_cn_ok hcr
      rw [g2', ← hnm]; exact hkc⟩, fun U hU hW => ⟨rfl, by rw [hU]; exact hM.1, by rw [hU]; exact hM.2.1, va_K.moved hW.alike hK, jm_Z.warm hW hZ, hSS.to hM.2.2 hU hW⟩⟩
  refine jm_after hM hl (va_runV ⟨hx, hb, hml, hown, hts⟩ hMet cw hPre rfl (by rw [List.length_map]; exact hlen) hl.1 ?_ ?_ hd hc) (k v h' a' W' g1 g2 g3)
  · show (asc.reverse ++ Value.ref a :: r).map (jm_v B) = (asc.map (jm_v B)).reverse ++ .ref (B.1 + a) :: r.map (jm_v B)
    rw [List.map_append, List.map_reverse]; rfl
  · exact lv_room (by rw [jm_cs_v]; exact hr8)
/-- the law's end -/
theorem lw_end {b : Nat} (C : lw_C p s m #[Value.ref b] meth c D B L xs) (hlk : meth.locks = false) (hrt : meth.sig.returnType = some .boolean) (hd : decode code pc = .ok (.ireturn, 1)) (hc : cells ≤ 600000 ∧ slots ≤ 7302250) (hsz : s.heap.size ≤ B.1) : jm_W p l e room_1 s m #[Value.ref b] below meth c 4 D B cells slots (lw_Z below #[Value.ref b] s) pc lv [.int 1] h := by
  intro H locs ls hM hl
  refine va_forget (fun q hq => Nat.le_trans hsz (hM.2.2.2.2 q hq)) ?_
  exact W.widen hc.1 hc.2 (lw_ret C.1 C.2.1 hrt hlk hd)
end LW
