/-! one step is the machine's -/
section JS
variable {p : Program} {l : Launch} {e : Env} {R : Room} {s : State} {m : MethodId} {args : Array Value} {below : List Frame} {meth : Method} {c : Code} {D : va_G} {B : jm_E} {cells slots : Nat} {Q : State → Prop}
variable {pc : Nat} {lv : jm_L} {st st' : List Value} {h h' : jm_H} {q : jm_Y}
theorem jm_wmn_2 : Cond.classLink (jm_cn 2) 18 "[[I" ∈ jm_T := jm_T_mem (i := 309) (by decide +kernel) rfl
theorem jm_wmn_10 : Cond.classLink (jm_cn 10) 15 "[[I" ∈ jm_T := jm_T_mem (i := 376) (by decide +kernel) rfl
theorem jm_wmn_8 : Cond.classLink (jm_cn 8) 9 "[[I" ∈ jm_T := jm_T_mem (i := 418) (by decide +kernel) rfl
theorem jm_wmn_6 : Cond.classLink (jm_cn 6) 27 "[[I" ∈ jm_T := jm_T_mem (i := 432) (by decide +kernel) rfl
theorem jm_wmn_1 : Cond.classLink (jm_cn 1) 27 "[[I" ∈ jm_T := jm_T_mem (i := 528) (by decide +kernel) rfl
theorem jm_mna_w {oc idx : Nat} (h : (oc = 2 ∧ idx = 18) ∨ (oc = 10 ∧ idx = 15) ∨ (oc = 8 ∧ idx = 9) ∨ (oc = 6 ∧ idx = 27) ∨ (oc = 1 ∧ idx = 27)) : Cond.classLink (jm_cn oc) idx "[[I" ∈ jm_T := by
  rcases h with ⟨rfl, rfl⟩ | ⟨rfl, rfl⟩ | ⟨rfl, rfl⟩ | ⟨rfl, rfl⟩ | ⟨rfl, rfl⟩
  · exact jm_wmn_2
  · exact jm_wmn_10
  · exact jm_wmn_8
  · exact jm_wmn_6
  · exact jm_wmn_1
/-- the outer row, when so many places are filled -/
theorem jm_outer (c : ClassId) (N h0 : Nat) : ∀ i : Nat, Jvm.Free.Multi.outerC c N h0 i = arrV c N (fun j => va_rf (if j < i then some (h0 + 1 + j) else none))
  | 0 => by
    show ({ cls := c, slots := Array.replicate N .null, vm := .none } : Cell) = _
    rw [arrV_new]
    exact congrArg (arrV c N) (funext fun j => by simp [va_rf])
  | i + 1 => by
    show (Jvm.Free.Multi.outerC c N h0 i).setSlot i (.ref (h0 + 1 + i)) = _
    rw [jm_outer c N h0 i, arrV_store]
    refine congrArg (arrV c N) (funext fun j => ?_)
    by_cases e : j = i
    · subst e
      simp [updV, va_rf]
    · by_cases h : j < i
      · simp [updV, e, h, Nat.lt_succ_of_lt h]
      · simp [updV, e, h, show ¬ j < i + 1 by omega]
theorem jm_mna_at (h : jm_H) (co ci : jm_C) (n k : Nat) (c : jm_C) (e : (h ++ co :: List.replicate n ci)[k]? = some c) : (k < h.length ∧ h[k]? = some c) ∨ (k = h.length ∧ c = co) ∨ ∃ j, j < n ∧ k = h.length + 1 + j ∧ c = ci := by
  rcases Nat.lt_trichotomy k h.length with q | q | q
  · rw [List.getElem?_append_left q] at e
    exact Or.inl ⟨q, e⟩
  · rw [List.getElem?_append_right (by omega), show k - h.length = 0 by omega] at e
    exact Or.inr (Or.inl ⟨q, (Option.some.inj e).symm⟩)
  · rw [List.getElem?_append_right (by omega), show k - h.length = (k - h.length - 1) + 1 by omega, List.getElem?_cons_succ, List.getElem?_replicate] at e
    split at e
    · rename_i hl
      exact Or.inr (Or.inr ⟨k - h.length - 1, hl, by omega, (Option.some.inj e).symm⟩)
    · cases e
set_option maxHeartbeats 1000000 in
theorem jm_mna_ok {cc : ByteArray} {oc nL : Nat} {isI : Bool} {ret : Option FieldType} (X : jm_X p s m args meth c cc oc nL D B isI ret) (hZ : jm_Z s) {idx N K : Nat} (hd : decode cc pc = .ok (.multianewarray idx 2, 4)) (hs : jm_mna oc idx st h = some (st', h', N, K)) (hc : cells + N ≤ R.cells ∧ slots + K ≤ R.slots)
    (k : jm_W p l e R s m args below meth c nL D B (cells + N) (slots + K) Q (pc + 4) lv st' h') : jm_W p l e R s m args below meth c nL D B cells slots Q pc lv st h := by
  obtain ⟨hx, hb, hml, hown, hts, hK, hlk, hini, hrt⟩ := X
  intro H locs ls hM hl
  unfold jm_mna at hs
  split at hs
  · rename_i kk nn r
    split at hs
    · rename_i hcd
      cases hs
      obtain ⟨hoc, hn, hk, hn1, hk1⟩ := hcd
      have hs2 : "[" ++ (FieldType.array FieldType.int).toString = "[[I" := by decide +kernel
      have hlink : (Cond.classLink (jm_cn oc) idx ("[" ++ (FieldType.array FieldType.int).toString)).before args s = true := by
        rw [hs2]
        exact hts _ (jm_mna_w hoc)
      intro T hT Xs
      obtain ⟨vm₁, cA, comp, -, fA, fC, -, -, X', step⟩ := Xs.multianewarray2F hx hown (index := idx) (ty := .int) hlink (jm_AOA.use hZ.2.2) (hts _ jm_wac_int) (g := F0 m pc ls (.int kk :: .int nn :: r.map (jm_v B))) rfl (by rw [hb]; exact hd) rfl hn hk (by omega) (Nat.le_trans (Nat.mul_le_mul_right 4 hk1) (by decide)) (by omega) rfl rfl hc.1 hc.2
      have eA : cA = B.2.2 (.array .int) := Option.some.inj (fA.symm.trans (hK.2 5 (B.2.2 (.array .int), .array .int) rfl).2)
      have eC : comp = B.2.2 .int := Option.some.inj (fC.symm.trans (show s.vm.findClass (FieldType.array FieldType.int).toString = some (B.2.2 .int) from (hK.2 0 (B.2.2 .int, .int) rfl).2))
      subst eA
      subst eC
      generalize hF : Jvm.Free.Multi.fill (T.setVm vm₁) (B.2.2 (.array .int)) (B.2.2 .int) nn.toNatClampNeg kk.toNatClampNeg (defaultValue .int) nn.toNatClampNeg = F at X' step
      have hTh : (T.setVm vm₁).heap = H := hT
      obtain ⟨f1, f2, -, -⟩ := Jvm.Free.Multi.fill_facts (T.setVm vm₁) (B.2.2 (.array .int)) (B.2.2 .int) nn.toNatClampNeg kk.toNatClampNeg (defaultValue .int) nn.toNatClampNeg
      rw [hF, hTh] at f1 f2
      have hold : ∀ x : Nat, x < H.size → F.heap[x]? = H[x]? := fun x hx => by
        have := Jvm.Free.Multi.fill_old (T.setVm vm₁) (B.2.2 (.array .int)) (B.2.2 .int) nn.toNatClampNeg kk.toNatClampNeg (defaultValue .int) (a := x) (by rw [hTh]; exact hx) nn.toNatClampNeg
        rw [hF, hTh] at this
        exact this
      have hrow : ∀ j : Nat, j < nn.toNatClampNeg → F.heap[H.size + 1 + j]? = some (vp_cell (B.2.2 .int) (kk.toNatClampNeg, .inl (fun _ => 0))) := fun j hj => by
        have := Jvm.Free.Multi.fill_inner (T.setVm vm₁) (B.2.2 (.array .int)) (B.2.2 .int) nn.toNatClampNeg kk.toNatClampNeg (defaultValue .int) nn.toNatClampNeg j hj
        rw [hF, hTh] at this
        rw [this, vp_cell_i]
        exact congrArg some (arrV_new (B.2.2 .int) kk.toNatClampNeg (.int 0))
      have hsz := hM.2.1
      have hM2 : jm_M B D s.heap F.heap locs (h ++ (.inr (.inr (.inl (.array .int, nn.toNatClampNeg, fun i => if i < nn.toNatClampNeg then some (h.length + 1 + i) else none)))) :: List.replicate nn.toNatClampNeg (.inl (.int, kk.toNatClampNeg, fun _ => 0))) := by
        refine ⟨fun k9 q9 hq9 => ?_, ?_, ?_⟩
        · obtain ⟨c9, hc9, rfl⟩ := jm_ws_of hq9
          rcases jm_mna_at _ _ _ _ _ _ hc9 with ⟨q1, q2⟩ | ⟨rfl, rfl⟩ | ⟨j, hj, rfl, rfl⟩
          · exact (hM.1.kept (fun k x hx9 => hold x.1 ((hM.1 k x hx9).lt))) k9 _ (jm_ws_at q2)
          · show F.heap[B.1 + h.length]? = some (vp_cell (B.2.2 (.array .int)) (nn.toNatClampNeg, .inr (.inr (.inr (.inr (fun i => (if i < nn.toNatClampNeg then some (h.length + 1 + i) else none).map (fun k => B.1 + k)))))))
            rw [← hsz, f2, jm_outer, vp_cell_q]
            refine congrArg (fun z => some (arrV (B.2.2 (.array .int)) nn.toNatClampNeg z)) (funext fun j => ?_)
            by_cases hj : j < nn.toNatClampNeg
            · rw [if_pos hj, if_pos hj, hsz]
              show Value.ref (B.1 + h.length + 1 + j) = Value.ref (B.1 + (h.length + 1 + j))
              exact congrArg (fun z : Nat => Value.ref z) (by omega)
            · rw [if_neg hj, if_neg hj]
              rfl
          · show F.heap[B.1 + (h.length + 1 + j)]? = some (vp_cell (B.2.2 .int) (kk.toNatClampNeg, .inl (fun _ => 0)))
            rw [← hrow j hj, hsz]
            exact congrArg (fun z : Nat => F.heap[z]?) (by omega)
        · rw [f1, hsz, List.length_append, List.length_cons, List.length_replicate]
          omega
        · exact ⟨Nat.le_trans hM.2.2.1 (by rw [f1]; omega), fun x h1 h2 => (hold x (Nat.lt_of_lt_of_le h1 hM.2.2.1)).trans (hM.2.2.2.1 x h1 h2), hM.2.2.2.2⟩
      have X2 : Stand p l e R s m args below meth c F locs (cells + (1 + nn.toNatClampNeg)) (slots + (nn.toNatClampNeg + nn.toNatClampNeg * kk.toNatClampNeg)) := by
        rw [← Nat.add_assoc, ← Nat.add_assoc]
        exact X'
      obtain ⟨t, a1, b1⟩ := k F.heap locs ls hM2 hl F rfl X2
      refine ⟨t, step t ?_, b1⟩
      have e9 : T.heap.size = B.1 + h.length := by rw [hT]; exact hsz
      rw [e9]
      exact a1
    · cases hs
  · cases hs
/-- String constants -/
theorem jm_u7 : ∀ i, i < 7 → (UInt32.ofNat i).toNat = i := by decide +kernel
theorem jm_str_is {oc idx i : Nat} (h : jm_str oc idx = some i) : oc = 7 ∧ i < 7 ∧ idx = (jm_sx.getD i (0, [])).1 := by
  unfold jm_str at h
  split at h
  · rename_i e
    repeat' split at h
    all_goals first
      | (cases h; done)
      | (cases h; exact ⟨e, by decide, by assumption⟩)
  · cases h
theorem jm_str_ok {cc : ByteArray} {oc nL : Nat} {isI : Bool} {ret : Option FieldType} (X : jm_X p s m args meth c cc oc nL D B isI ret) (hSS : jm_SS B s) {idx i : Nat} (hd : decode cc pc = .ok (.ldc idx, 2)) (hs : jm_str oc idx = some i)
    (k : jm_W p l e R s m args below meth c nL D B cells slots Q (pc + 2) lv (.float (UInt32.ofNat i) :: st) h) : jm_W p l e R s m args below meth c nL D B cells slots Q pc lv st h := by
  obtain ⟨hx, hb, hml, hown, hts, hK, hlk, hini, hrt⟩ := X
  obtain ⟨e7, hi, hix⟩ := jm_str_is hs
  subst e7
  subst hix
  intro H locs ls hM hl
  refine va_ldcS hx hb (own := RX7) hown (hSS.2.2 i hi).2 hd ?_
  have h9 := k H locs ls hM hl
  have e9 : jm_v B (.float (UInt32.ofNat i)) = .ref (B.2.1 i) := by
    show Value.ref (B.2.1 (UInt32.ofNat i).toNat) = _
    rw [jm_u7 i hi]
  rw [List.map_cons, e9] at h9
  exact h9
theorem jm_Mk {H H1 : Heap} {locs1 : List Loc} (hM : jm_M B D s.heap H locs1 h) {locs2 : List Loc} (hz : H1.size = H.size) (hk : ∀ q : Nat, q < H.size → ¬ js_A H.size q → H1[q]? = H[q]?) (hS : va_S (jm_A B) s.heap H1 locs2) : jm_M B D s.heap H1 locs2 h :=
  ⟨hM.1.kept (fun k x hx9 => hk x.1 ((hM.1 k x hx9).lt) (Nat.not_le.mpr ((hM.1 k x hx9).lt))), by rw [hz]; exact hM.2.1, hS⟩
theorem jm_strv_ok {cc : ByteArray} {oc nL : Nat} {isI : Bool} {ret : Option FieldType} (X : jm_X p s m args meth c cc oc nL D B isI ret) (hSS : jm_SS B s) {idx : Nat} (hR : 6 ≤ R.frames ∧ 384 ≤ R.locals) (hc : cells ≤ R.cells ∧ slots ≤ R.slots) (hd : decode cc pc = .ok (.invokevirtual idx, 3)) (hs : jm_strv oc idx st = some st')
    (k : jm_W p l e R s m args below meth c nL D B cells slots Q (pc + 3) lv st' h) : jm_W p l e R s m args below meth c nL D B cells slots Q pc lv st h := by
  obtain ⟨hx, hb, hml, hown, hts, hK, hlk, hini, hrt⟩ := X
  obtain ⟨hc1, ⟨fm, hf1, hf2⟩, hst⟩ := hSS
  unfold jm_strv at hs
  split at hs
  · rename_i hoc
    obtain ⟨e7, e73⟩ := hoc
    subst e7
    subst e73
    split at hs
    · rename_i u r
      split at hs
      · rename_i hu
        cases hs
        intro H locs ls hM hl
        obtain ⟨⟨vl, hs1⟩, -⟩ := hst u.toNat hu.1
        have hAA : ∀ q, js_A H.size q → jm_A B q := fun q z => by
          have z : H.size ≤ q := z
          rw [hM.2.1] at z
          show B.1 ≤ q
          omega
        obtain ⟨cell, o1, o2, o3, -⟩ := hs1.1.kept hM.2.2.2.1
        refine va_calli (va_runV (As := []) (rest := r.map (jm_v B)) ⟨hx, hb, hml, (hown : s.vm.findClass RX7 = some m.cls), hts⟩ (js_length l H.size u.toNat (B.2.1 u.toNat) vl hu.1) ⟨js_cB hts jw_c_yJ0_length_8abf5 jw_i_RJ0 jw_l_yJ0_length_8abf5 ⟨by decide, by decide, by decide +kernel⟩ ⟨by omega, by omega⟩, hts _ jw_m_yJ0_length_8abf5, hts _ jw_s_yJ0_length_8abf5⟩ ⟨js_bl js_fc, ⟨cell, o1, o2, o3⟩, fun U hU hW => ⟨rfl, by rw [hU], hs1.to hM.2.2 hU hW hAA, hc1.to hM.2.2 hU hW hAA⟩⟩ rfl rfl hl.1 rfl (lv_room (by rw [jm_cs_v]; exact hu.2)) hd ⟨hc.1, hc.2⟩) hM.2.2 (fun q z h9 => absurd z (Nat.not_lt.mpr h9)) hAA (fun r2 u2 t1 H1 locs1 ht1 hvm hw hB1 hz1 hk1 hS1 => ?_)
        rw [hw]
        exact k H1 locs1 ls (jm_Mk hM (by rw [← ht1]; exact hB1) hk1 hS1) hl
      · cases hs
    · cases hs
  · split at hs
    · rename_i hoc
      obtain ⟨e7, e78⟩ := hoc
      subst e7
      subst e78
      split at hs
      · rename_i kk u r
        split at hs
        · rename_i hu
          cases hs
          intro H locs ls hM hl
          obtain ⟨⟨vl, hs1⟩, -⟩ := hst u.toNat hu.1
          have hAA : ∀ q, js_A H.size q → jm_A B q := fun q z => by
            have z : H.size ≤ q := z
            rw [hM.2.1] at z
            show B.1 ≤ q
            omega
          obtain ⟨cell, o1, o2, o3, -⟩ := hs1.1.kept hM.2.2.2.1
          refine va_calli (va_runV (As := [.int kk]) (rest := r.map (jm_v B)) ⟨hx, hb, hml, (hown : s.vm.findClass RX7 = some m.cls), hts⟩ (js_charAt l H.size u.toNat (B.2.1 u.toNat) vl kk fm hf1 hu.1 hu.2.1 hu.2.2.1) ⟨js_cB (n := 1) hts jw_c_yJ0_charAt_5068e jw_i_RJ0 jw_l_yJ0_charAt_5068e ⟨by decide, by decide, by decide +kernel⟩ ⟨by omega, by omega⟩, hts _ jw_m_yJ0_charAt_5068e, hts _ jw_s_yJ0_charAt_5068e⟩ ⟨js_bl js_fa, ⟨cell, o1, o2, o3⟩, fun U hU hW => ⟨rfl, by rw [hU], hs1.to hM.2.2 hU hW hAA, hc1.to hM.2.2 hU hW hAA, hf2.to hM.2.2 hU hW hAA⟩⟩ rfl rfl hl.1 rfl (lv_room (by rw [jm_cs_v]; exact hu.2.2.2)) hd ⟨hc.1, hc.2⟩) hM.2.2 (fun q z h9 => absurd z (Nat.not_lt.mpr h9)) hAA (fun r2 u2 t1 H1 locs1 ht1 hvm hw hB1 hz1 hk1 hS1 => ?_)
          rw [hw]
          exact k H1 locs1 ls (jm_Mk hM (by rw [← ht1]; exact hB1) hk1 hS1) hl
        · cases hs
      · cases hs
    · cases hs
theorem jm_nx_ok {pc : Nat} {lv : jm_L} {h : jm_H} {o : Option (List Value)} {S : jm_S} {dc ds : Nat} (hs : jm_nx pc lv h o = some (.inl (S, dc, ds))) : ∃ st', o = some st' ∧ S = (pc, lv, st', h) ∧ dc = 0 ∧ ds = 0 := by
  unfold jm_nx at hs
  split at hs
  · cases hs; exact ⟨_, rfl, rfl, rfl, rfl⟩
  · cases hs
theorem jm_nh_ok {pc : Nat} {lv : jm_L} {o : Option (List Value × jm_H)} {S : jm_S} {dc ds : Nat} (hs : jm_nh pc lv o = some (.inl (S, dc, ds))) : ∃ st' h', o = some (st', h') ∧ S = (pc, lv, st', h') ∧ dc = 0 ∧ ds = 0 := by
  unfold jm_nh at hs
  split at hs
  · cases hs; exact ⟨_, _, rfl, rfl, rfl, rfl⟩
  · cases hs
theorem jm_call_no {oc idx kind : Nat} {S : jm_S} {dc ds : Nat} (hs : jm_call oc idx kind st h = some (.inl (S, dc, ds))) : False := by
  unfold jm_call at hs
  repeat' split at hs
  all_goals cases hs
set_option maxHeartbeats 4000000 in
theorem jm_step_ok {S : jm_S} {dc ds : Nat} (X : jm_X p s m args meth c q.2.1 q.2.2.2.2.1 q.2.2.1 D B (q.1.name == "<init>") q.2.2.2.1) (hZ : jm_Z s) (hSS : jm_SS B s) (hR6 : 6 ≤ R.frames ∧ 384 ≤ R.locals) (hs : jm_step q pc lv st h = some (.inl (S, dc, ds))) (hc : cells + dc ≤ R.cells ∧ slots + ds ≤ R.slots)
    (k : jm_W p l e R s m args below meth c q.2.2.1 D B (cells + dc) (slots + ds) Q S.1 S.2.1 S.2.2.1 S.2.2.2) : jm_W p l e R s m args below meth c q.2.2.1 D B cells slots Q pc lv st h := by
  have hR : 1 ≤ R.frames ∧ 64 ≤ R.locals := ⟨by omega, by omega⟩
  unfold jm_step at hs
  split at hs
  · cases hs
  · rename_i i len hd
    split at hs
    · split at hs
      · rename_i hl; subst hl
        obtain ⟨st', e1, rfl, rfl, rfl⟩ := jm_nx_ok hs
        exact jm_getf_ok X hd e1 k
      · cases hs
    · split at hs
      · rename_i hl; subst hl
        obtain ⟨st', h', e1, rfl, rfl, rfl⟩ := jm_nh_ok hs
        exact jm_putf_ok X hd e1 k
      · cases hs
    · split at hs
      · rename_i hl; subst hl
        obtain ⟨st', e1, rfl, rfl, rfl⟩ := jm_nx_ok hs
        exact jm_iald_ok X hd e1 k
      · cases hs
    · split at hs
      · rename_i hl; subst hl
        obtain ⟨st', e1, rfl, rfl, rfl⟩ := jm_nx_ok hs
        exact jm_bald_ok X hd e1 k
      · cases hs
    · split at hs
      · rename_i hl; subst hl
        obtain ⟨st', e1, rfl, rfl, rfl⟩ := jm_nx_ok hs
        exact jm_lald_ok X hd e1 k
      · cases hs
    · split at hs
      · rename_i hl; subst hl
        obtain ⟨st', e1, rfl, rfl, rfl⟩ := jm_nx_ok hs
        exact jm_aald_ok X hd e1 k
      · cases hs
    · split at hs
      · rename_i hl; subst hl
        obtain ⟨st', e1, rfl, rfl, rfl⟩ := jm_nx_ok hs
        exact jm_alen_ok X hd e1 k
      · cases hs
    · split at hs
      · rename_i hl; subst hl
        obtain ⟨st', h', e1, rfl, rfl, rfl⟩ := jm_nh_ok hs
        exact jm_iast_ok X hd e1 k
      · cases hs
    · split at hs
      · rename_i hl; subst hl
        obtain ⟨st', h', e1, rfl, rfl, rfl⟩ := jm_nh_ok hs
        exact jm_bast_ok X hd e1 k
      · cases hs
    · split at hs
      · rename_i hl; subst hl
        obtain ⟨st', h', e1, rfl, rfl, rfl⟩ := jm_nh_ok hs
        exact jm_last_ok X hd e1 k
      · cases hs
    · split at hs
      · rename_i hl; subst hl
        obtain ⟨st', h', e1, rfl, rfl, rfl⟩ := jm_nh_ok hs
        exact jm_aast_ok X hd e1 k
      · cases hs
    · split at hs
      · rename_i hl; subst hl
        split at hs
        · rename_i v hv
          cases hs
          obtain ⟨hx, hb, hml, hown, hts, hK, hlk, hini, hrt⟩ := X
          intro H locs ls hM hl
          exact lv_ldc hx hb hown (hts _ (jm_con_ok hv)) hd (k H locs ls hM hl)
        · split at hs
          · rename_i i hv
            cases hs
            exact jm_str_ok X hSS hd hv k
          · cases hs
      · cases hs
    · split at hs
      · rename_i hl; subst hl
        split at hs
        · rename_i v hv
          cases hs
          obtain ⟨hx, hb, hml, hown, hts, hK, hlk, hini, hrt⟩ := X
          intro H locs ls hM hl
          exact lv_ldcw hx hb hown (hts _ (jm_con_ok hv)) hd (k H locs ls hM hl)
        · cases hs
      · cases hs
    · split at hs
      · rename_i hl; subst hl
        split at hs
        · rename_i v hv
          cases hs
          obtain ⟨hx, hb, hml, hown, hts, hK, hlk, hini, hrt⟩ := X
          intro H locs ls hM hl
          exact lv_ldc2 hx hb hown (hts _ (jm_conl_ok hv)) hd (k H locs ls hM hl)
        · cases hs
      · cases hs
    · split at hs
      · rename_i hl; subst hl
        split at hs
        · rename_i h2 N hv
          cases hs
          exact jm_newo_ok X hd hv hc k
        · cases hs
      · cases hs
    · split at hs
      · rename_i hl; subst hl
        split at hs
        · rename_i st2 h2 N hv
          cases hs
          exact jm_newa_ok X hd hv hc k
        · cases hs
      · cases hs
    · split at hs
      · rename_i hl; subst hl
        split at hs
        · rename_i st2 h2 N hv
          cases hs
          exact jm_anew_ok X hZ hd hv hc k
        · cases hs
      · cases hs
    · split at hs
      · rename_i hl
        obtain ⟨rfl, rfl⟩ := hl
        split at hs
        · rename_i st2 h2 N K hv
          cases hs
          exact jm_mna_ok X hZ hd hv hc k
        · cases hs
      · cases hs
    · split at hs
      · split at hs
        · split at hs <;> cases hs
        · cases hs
      · cases hs
    · split at hs
      · split at hs <;> cases hs
      · cases hs
    · split at hs
      · split at hs <;> cases hs
      · cases hs
    · split at hs
      · split at hs <;> cases hs
      · cases hs
    · split at hs
      · rename_i hl; subst hl
        split at hs
        · rename_i st2 hv
          cases hs
          exact jm_obji_ok X hR hd hv k
        · split at hs
          · rename_i o ho
            cases hs
            exact (jm_call_no ho).elim
          · exact (jm_call_no hs).elim
      · cases hs
    · split at hs
      · rename_i hl; subst hl
        split at hs
        · rename_i st2 hv
          cases hs
          exact jm_math_ok X hR hc hd hv k
        · split at hs
          · rename_i hoc
            obtain ⟨st', h', e1, rfl, rfl, rfl⟩ := jm_nh_ok hs
            exact jm_copy_ok X hoc hR hd e1 k
          · exact (jm_call_no hs).elim
      · cases hs
    · split at hs
      · rename_i hl; subst hl
        split at hs
        · rename_i o ho
          cases hs
          exact (jm_call_no ho).elim
        · split at hs
          · rename_i st2 hv
            cases hs
            exact jm_strv_ok X hSS hR6 hc hd hv k
          · cases hs
      · cases hs
    · split at hs
      · rename_i z hv
        cases hs
        exact jm_pure_ok X hd hv k
      · cases hs
end JS
