/-! one step is the machine's -/
section JS
variable {p : Program} {l : Launch} {e : Env} {R : Room} {s : State} {m : MethodId} {args : Array Value} {below : List Frame} {meth : Method} {c : Code} {D : va_G} {B : jm_E} {cells slots : Nat} {Q : State → Prop}
variable {pc : Nat} {lv : jm_L} {st st' : List Value} {h h' : jm_H} {q : jm_Y}
theorem jm_mna_ok {cc : ByteArray} {oc nL : Nat} {isI : Bool} {ret : Option FieldType} (X : jm_X p s m args meth c cc oc nL D B isI ret) (hZ : jm_Z s) {idx N K : Nat} (hd : decode cc pc = .ok (.multianewarray idx 2, 4)) (hs : jm_mna oc idx st h = some (st', h', N, K)) (hc : cells + N ≤ R.cells ∧ slots + K ≤ R.slots)
    (k : jm_W p l e R s m args below meth c nL D B (cells + N) (slots + K) Q (pc + 4) lv st' h') : jm_W p l e R s m args below meth c nL D B cells slots Q pc lv st h := by
  sorry
/-- String constants (to be proved) -/
theorem jm_str_ok {cc : ByteArray} {oc nL : Nat} {isI : Bool} {ret : Option FieldType} (X : jm_X p s m args meth c cc oc nL D B isI ret) (hZ : jm_Z s) {idx i : Nat} (hd : decode cc pc = .ok (.ldc idx, 2)) (hs : jm_str oc idx = some i)
    (k : jm_W p l e R s m args below meth c nL D B cells slots Q (pc + 2) lv (.float (UInt32.ofNat i) :: st) h) : jm_W p l e R s m args below meth c nL D B cells slots Q pc lv st h := by
  sorry
theorem jm_strv_ok {cc : ByteArray} {oc nL : Nat} {isI : Bool} {ret : Option FieldType} (X : jm_X p s m args meth c cc oc nL D B isI ret) (hZ : jm_Z s) {idx : Nat} (hR : 6 ≤ R.frames ∧ 384 ≤ R.locals) (hc : cells ≤ R.cells ∧ slots ≤ R.slots) (hd : decode cc pc = .ok (.invokevirtual idx, 3)) (hs : jm_strv oc idx st = some st')
    (k : jm_W p l e R s m args below meth c nL D B cells slots Q (pc + 3) lv st' h) : jm_W p l e R s m args below meth c nL D B cells slots Q pc lv st h := by
  sorry
theorem jm_nx_ok {pc : Nat} {lv : jm_L} {h : jm_H} {o : Option (List Value)} {S : jm_S} {dc ds : Nat} (hs : jm_nx pc lv h o = some (.inl (S, dc, ds))) : ∃ st', o = some st' ∧ S = (pc, lv, st', h) ∧ dc = 0 ∧ ds = 0 := by
  unfold jm_nx at hs
  split at hs
  · cases hs; exact ⟨_, rfl, rfl, rfl, rfl⟩
  · cases hs
theorem jm_nh_ok {pc : Nat} {lv : jm_L} {o : Option (List Value × jm_H)} {S : jm_S} {dc ds : Nat} (hs : jm_nh pc lv o = some (.inl (S, dc, ds))) : ∃ st' h', o = some (st', h') ∧ S = (pc, lv, st', h') ∧ dc = 0 ∧ ds = 0 := by
  unfold jm_nh at hs
  split at hs
  · cases hs; exact ⟨_, _, rfl, rfl, rfl, rfl⟩
  · cases hs
theorem jm_call_no {oc idx kind : Nat} {S : jm_S} {dc ds : Nat} (hs : jm_call oc idx kind st h = some (.inl (S, dc, ds))) : False := by
  unfold jm_call at hs
  repeat' split at hs
  all_goals cases hs
set_option maxHeartbeats 4000000 in
theorem jm_step_ok {S : jm_S} {dc ds : Nat} (X : jm_X p s m args meth c q.2.1 q.2.2.2.2.1 q.2.2.1 D B (q.1.name == "<init>") q.2.2.2.1) (hZ : jm_Z s) (hR6 : 6 ≤ R.frames ∧ 384 ≤ R.locals) (hs : jm_step q pc lv st h = some (.inl (S, dc, ds))) (hc : cells + dc ≤ R.cells ∧ slots + ds ≤ R.slots)
    (k : jm_W p l e R s m args below meth c q.2.2.1 D B (cells + dc) (slots + ds) Q S.1 S.2.1 S.2.2.1 S.2.2.2) : jm_W p l e R s m args below meth c q.2.2.1 D B cells slots Q pc lv st h := by
  have hR : 1 ≤ R.frames ∧ 64 ≤ R.locals := ⟨by omega, by omega⟩
  unfold jm_step at hs
  split at hs
  · cases hs
  · rename_i i len hd
    split at hs
    · split at hs
      · rename_i hl; subst hl
        obtain ⟨st', e1, rfl, rfl, rfl⟩ := jm_nx_ok hs
        exact jm_getf_ok X hd e1 k
      · cases hs
    · split at hs
      · rename_i hl; subst hl
        obtain ⟨st', h', e1, rfl, rfl, rfl⟩ := jm_nh_ok hs
        exact jm_putf_ok X hd e1 k
      · cases hs
    · split at hs
      · rename_i hl; subst hl
        obtain ⟨st', e1, rfl, rfl, rfl⟩ := jm_nx_ok hs
        exact jm_iald_ok X hd e1 k
      · cases hs
    · split at hs
      · rename_i hl; subst hl
        obtain ⟨st', e1, rfl, rfl, rfl⟩ := jm_nx_ok hs
        exact jm_bald_ok X hd e1 k
      · cases hs
    · split at hs
      · rename_i hl; subst hl
        obtain ⟨st', e1, rfl, rfl, rfl⟩ := jm_nx_ok hs
        exact jm_lald_ok X hd e1 k
      · cases hs
    · split at hs
      · rename_i hl; subst hl
        obtain ⟨st', e1, rfl, rfl, rfl⟩ := jm_nx_ok hs
        exact jm_aald_ok X hd e1 k
      · cases hs
    · split at hs
      · rename_i hl; subst hl
        obtain ⟨st', e1, rfl, rfl, rfl⟩ := jm_nx_ok hs
        exact jm_alen_ok X hd e1 k
      · cases hs
    · split at hs
      · rename_i hl; subst hl
        obtain ⟨st', h', e1, rfl, rfl, rfl⟩ := jm_nh_ok hs
        exact jm_iast_ok X hd e1 k
      · cases hs
    · split at hs
      · rename_i hl; subst hl
        obtain ⟨st', h', e1, rfl, rfl, rfl⟩ := jm_nh_ok hs
        exact jm_bast_ok X hd e1 k
      · cases hs
    · split at hs
      · rename_i hl; subst hl
        obtain ⟨st', h', e1, rfl, rfl, rfl⟩ := jm_nh_ok hs
        exact jm_last_ok X hd e1 k
      · cases hs
    · split at hs
      · rename_i hl; subst hl
        obtain ⟨st', h', e1, rfl, rfl, rfl⟩ := jm_nh_ok hs
        exact jm_aast_ok X hd e1 k
      · cases hs
    · split at hs
      · rename_i hl; subst hl
        split at hs
        · rename_i v hv
          cases hs
          obtain ⟨hx, hb, hml, hown, hts, hK, hlk, hini, hrt⟩ := X
          intro H locs ls hM hl
          exact lv_ldc hx hb hown (hts _ (jm_con_ok hv)) hd (k H locs ls hM hl)
        · split at hs
          · rename_i i hv
            cases hs
            exact jm_str_ok X hZ hd hv k
          · cases hs
      · cases hs
    · split at hs
      · rename_i hl; subst hl
        split at hs
        · rename_i v hv
          cases hs
          obtain ⟨hx, hb, hml, hown, hts, hK, hlk, hini, hrt⟩ := X
          intro H locs ls hM hl
          exact lv_ldcw hx hb hown (hts _ (jm_con_ok hv)) hd (k H locs ls hM hl)
        · cases hs
      · cases hs
    · split at hs
      · rename_i hl; subst hl
        split at hs
        · rename_i v hv
          cases hs
          obtain ⟨hx, hb, hml, hown, hts, hK, hlk, hini, hrt⟩ := X
          intro H locs ls hM hl
          exact lv_ldc2 hx hb hown (hts _ (jm_conl_ok hv)) hd (k H locs ls hM hl)
        · cases hs
      · cases hs
    · split at hs
      · rename_i hl; subst hl
        split at hs
        · rename_i h2 N hv
          cases hs
          exact jm_newo_ok X hd hv hc k
        · cases hs
      · cases hs
    · split at hs
      · rename_i hl; subst hl
        split at hs
        · rename_i st2 h2 N hv
          cases hs
          exact jm_newa_ok X hd hv hc k
        · cases hs
      · cases hs
    · split at hs
      · rename_i hl; subst hl
        split at hs
        · rename_i st2 h2 N hv
          cases hs
          exact jm_anew_ok X hZ hd hv hc k
        · cases hs
      · cases hs
    · split at hs
      · rename_i hl
        obtain ⟨rfl, rfl⟩ := hl
        split at hs
        · rename_i st2 h2 N K hv
          cases hs
          exact jm_mna_ok X hZ hd hv hc k
        · cases hs
      · cases hs
    · split at hs
      · split at hs
        · split at hs <;> cases hs
        · cases hs
      · cases hs
    · split at hs
      · split at hs <;> cases hs
      · cases hs
    · split at hs
      · split at hs <;> cases hs
      · cases hs
    · split at hs
      · split at hs <;> cases hs
      · cases hs
    · split at hs
      · rename_i hl; subst hl
        split at hs
        · rename_i st2 hv
          cases hs
          exact jm_obji_ok X hR hd hv k
        · split at hs
          · rename_i o ho
            cases hs
            exact (jm_call_no ho).elim
          · exact (jm_call_no hs).elim
      · cases hs
    · split at hs
      · rename_i hl; subst hl
        split at hs
        · rename_i st2 hv
          cases hs
          exact jm_math_ok X hR hc hd hv k
        · split at hs
          · rename_i hoc
            obtain ⟨st', h', e1, rfl, rfl, rfl⟩ := jm_nh_ok hs
            exact jm_copy_ok X hoc hR hd e1 k
          · exact (jm_call_no hs).elim
      · cases hs
    · split at hs
      · rename_i hl; subst hl
        split at hs
        · rename_i o ho
          cases hs
          exact (jm_call_no ho).elim
        · split at hs
          · rename_i st2 hv
            cases hs
            exact jm_strv_ok X hZ hR6 hc hd hv k
          · cases hs
      · cases hs
    · split at hs
      · rename_i z hv
        cases hs
        exact jm_pure_ok X hd hv k
      · cases hs
end JS
