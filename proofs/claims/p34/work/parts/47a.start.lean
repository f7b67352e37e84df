/-! the law's start: the two constructors, run by the kernel. zH: every array of ints holds zeros alone; zr_run: the small machine's run, which looks at what is stored -/
def zH (h : jm_H) : Prop := ∀ (k : Nat) (t : FieldType) (n : Nat) (f : Nat → Int32), h[k]? = some (.inl (t, n, f)) → ∀ i, f i = 0
theorem zH.setR {h : jm_H} (hz : zH h) (a : Nat) (x : (Nat × (Nat → Int64)) ⊕ (FieldType × Nat × (Nat → Option Nat)) ⊕ (Nat × List Value)) : zH (h.set a (.inr x)) := by
  intro k t n f e
  rw [List.getElem?_set] at e
  split at e
  · split at e <;> cases e
  · exact hz k t n f e
theorem zH.setL {h : jm_H} (hz : zH h) (a : Nat) (t0 : FieldType) (n0 : Nat) (f0 : Nat → Int32) (hf : ∀ i, f0 i = 0) : zH (h.set a (.inl (t0, n0, f0))) := by
  intro k t n f e
  rw [List.getElem?_set] at e
  split at e
  · split at e
    · cases e
      exact hf
    · cases e
  · exact hz k t n f e
theorem zH.app {h g : jm_H} (hz : zH h) (hg : zH g) : zH (h ++ g) := by
  intro k t n f e
  rw [List.getElem?_append] at e
  split at e
  · exact hz k t n f e
  · exact hg _ t n f e
theorem zH_nil : zH [] := by
  intro k t n f e
  cases e
theorem zH.cons {c : jm_C} {h : jm_H} (hc : ∀ t n f, c = .inl (t, n, f) → ∀ i, f i = 0) (hz : zH h) : zH (c :: h) := by
  intro k t n f e
  cases k with
  | zero => exact hc t n f (Option.some.inj e)
  | succ k => exact hz k t n f e
theorem zH_oneR (x : (Nat × (Nat → Int64)) ⊕ (FieldType × Nat × (Nat → Option Nat)) ⊕ (Nat × List Value)) : zH [.inr x] := zH.cons (fun _ _ _ e => by cases e) zH_nil
theorem zH_oneL (t : FieldType) (n : Nat) : zH [.inl (t, n, fun _ => 0)] := zH.cons (fun _ _ _ e => by cases e; exact fun _ => rfl) zH_nil
theorem zH_rep (c : Nat) (n k : Nat) : zH (List.replicate n (.inl (.int, k, fun _ => 0))) := by
  intro j t n0 f e
  rw [List.getElem?_replicate] at e
  split at e
  · cases e
    exact fun _ => rfl
  · cases e
def zr_w (q : jm_Y) (pc : Nat) (st : List Value) : Bool := match decode q.2.1 pc with
  | .ok (.iastore, _) => (match st with
    | .int x :: _ => decide (x = 0)
    | _ => true)
  | .ok (.bastore, _) => (match st with
    | .int x :: _ => decide (x = 0)
    | _ => true)
  | _ => true
theorem zr_iast {st st' : List Value} {h h' : jm_H} (hw : (match st with
    | .int x :: _ => decide (x = 0)
    | _ => true) = true) (e : jm_iast st h = some (st', h')) (hz : zH h) : zH h' := by
  unfold jm_iast at e
  split at e
  · rename_i x i a r
    have hx : x = 0 := of_decide_eq_true hw
    subst hx
    split at e
    · rename_i n f hc
      split at e
      · cases e
        refine hz.setL a _ _ _ (fun j => ?_)
        unfold upd
        split
        · rfl
        · exact hz _ _ _ _ hc j
      · cases e
    · cases e
  · cases e
theorem zr_bast {st st' : List Value} {h h' : jm_H} (hw : (match st with
    | .int x :: _ => decide (x = 0)
    | _ => true) = true) (e : jm_bast st h = some (st', h')) (hz : zH h) : zH h' := by
  unfold jm_bast at e
  split at e
  · rename_i x i a r
    have hx : x = 0 := of_decide_eq_true hw
    subst hx
    split at e
    · rename_i n f hc
      split at e
      · cases e
        refine hz.setL a _ _ _ (fun j => ?_)
        unfold upd
        split
        · rfl
        · exact hz _ _ _ _ hc j
      · cases e
    · rename_i n f hc
      split at e
      · cases e
        refine hz.setL a _ _ _ (fun j => ?_)
        unfold upd
        split
        · rfl
        · exact hz _ _ _ _ hc j
      · cases e
    · cases e
  · cases e
theorem zr_last {st st' : List Value} {h h' : jm_H} (e : jm_last st h = some (st', h')) (hz : zH h) : zH h' := by
  unfold jm_last at e
  split at e
  · split at e
    · split at e
      · cases e
        exact hz.setR _ _
      · cases e
    · cases e
  · cases e
theorem zr_aast {st st' : List Value} {h h' : jm_H} (e : jm_aast st h = some (st', h')) (hz : zH h) : zH h' := by
  unfold jm_aast at e
  split at e
  · split at e
    · split at e
      · cases e
        exact hz.setR _ _
      · cases e
    · cases e
  · cases e
theorem zr_putf {oc idx : Nat} {isI : Bool} {st st' : List Value} {h h' : jm_H} (e : jm_putf oc idx isI st h = some (st', h')) (hz : zH h) : zH h' := by
  unfold jm_putf at e
  split at e
  · split at e
    · split at e
      · split at e
        · cases e
          exact hz.setR _ _
        · cases e
      · cases e
    · cases e
  · cases e
theorem zr_copy {st st' : List Value} {h h' : jm_H} (e : jm_copy st h = some (st', h')) (hz : zH h) : zH h' := by
  unfold jm_copy at e
  split at e
  · split at e
    · rename_i n0 f n1 g hc0 hc1
      split at e
      · cases e
        refine hz.setL _ _ _ _ (fun j => ?_)
        unfold va_cpy
        split
        · exact hz _ _ _ _ hc0 _
        · exact hz _ _ _ _ hc1 _
      · cases e
    · cases e
  · cases e
theorem zr_newo {oc idx N : Nat} {h h' : jm_H} (e : jm_newo oc idx h = some (h', N)) (hz : zH h) : zH h' := by
  unfold jm_newo at e
  split at e
  · split at e
    · cases e
      exact hz.app (zH_oneR _)
    · cases e
  · cases e
theorem zr_newa {at_ : ArrayType} {st st' : List Value} {h h' : jm_H} {N : Nat} (e : jm_newa at_ st h = some (st', h', N)) (hz : zH h) : zH h' := by
  unfold jm_newa at e
  split at e
  · split at e
    · split at e
      · cases e
        exact hz.app (zH_oneL _ _)
      · cases e
        exact hz.app (zH_oneL _ _)
      · cases e
        exact hz.app (zH_oneL _ _)
      · cases e
        exact hz.app (zH_oneR _)
      · cases e
    · cases e
  · cases e
theorem zr_anew {oc idx : Nat} {st st' : List Value} {h h' : jm_H} {N : Nat} (e : jm_anew oc idx st h = some (st', h', N)) (hz : zH h) : zH h' := by
  unfold jm_anew at e
  split at e
  · split at e
    · split at e
      · cases e
        exact hz.app (zH_oneR _)
      · cases e
    · cases e
  · cases e
theorem zr_mna {oc idx : Nat} {st st' : List Value} {h h' : jm_H} {N K : Nat} (e : jm_mna oc idx st h = some (st', h', N, K)) (hz : zH h) : zH h' := by
  unfold jm_mna at e
  split at e
  · split at e
    · cases e
      exact hz.app (zH.cons (fun _ _ _ z => by cases z) (zH_rep 0 _ _))
    · cases e
  · cases e
set_option maxHeartbeats 4000000 in
theorem zr_step {q : jm_Y} {pc : Nat} {lv : jm_L} {st : List Value} {h : jm_H} {S : jm_S} {dc ds : Nat} (hw : zr_w q pc st = true) (hs : jm_step q pc lv st h = some (.inl (S, dc, ds))) (hz : zH h) : zH S.2.2.2 := by
  unfold jm_step at hs
  unfold zr_w at hw
  split at hs
  · cases hs
  · rename_i i len hd
    rw [hd] at hw
    split at hs
    · split at hs
      · obtain ⟨st', e1, rfl, rfl, rfl⟩ := jm_nx_ok hs
        exact hz
      · cases hs
    · split at hs
      · obtain ⟨st', h', e1, rfl, rfl, rfl⟩ := jm_nh_ok hs
        exact zr_putf e1 hz
      · cases hs
    · split at hs
      · obtain ⟨st', e1, rfl, rfl, rfl⟩ := jm_nx_ok hs
        exact hz
      · cases hs
    · split at hs
      · obtain ⟨st', e1, rfl, rfl, rfl⟩ := jm_nx_ok hs
        exact hz
      · cases hs
    · split at hs
      · obtain ⟨st', e1, rfl, rfl, rfl⟩ := jm_nx_ok hs
        exact hz
      · cases hs
    · split at hs
      · obtain ⟨st', e1, rfl, rfl, rfl⟩ := jm_nx_ok hs
        exact hz
      · cases hs
    · split at hs
      · obtain ⟨st', e1, rfl, rfl, rfl⟩ := jm_nx_ok hs
        exact hz
      · cases hs
    · split at hs
      · obtain ⟨st', h', e1, rfl, rfl, rfl⟩ := jm_nh_ok hs
        exact zr_iast hw e1 hz
      · cases hs
    · split at hs
      · obtain ⟨st', h', e1, rfl, rfl, rfl⟩ := jm_nh_ok hs
        exact zr_bast hw e1 hz
      · cases hs
    · split at hs
      · obtain ⟨st', h', e1, rfl, rfl, rfl⟩ := jm_nh_ok hs
        exact zr_last e1 hz
      · cases hs
    · split at hs
      · obtain ⟨st', h', e1, rfl, rfl, rfl⟩ := jm_nh_ok hs
        exact zr_aast e1 hz
      · cases hs
    · split at hs
      · split at hs
        · cases hs
          exact hz
        · split at hs
          · cases hs
            exact hz
          · cases hs
      · cases hs
    · split at hs
      · split at hs
        · cases hs
          exact hz
        · cases hs
      · cases hs
    · split at hs
      · split at hs
        · cases hs
          exact hz
        · cases hs
      · cases hs
    · split at hs
      · split at hs
        · rename_i h2 N hv
          cases hs
          exact zr_newo hv hz
        · cases hs
      · cases hs
    · split at hs
      · split at hs
        · rename_i st2 h2 N hv
          cases hs
          exact zr_newa hv hz
        · cases hs
      · cases hs
    · split at hs
      · split at hs
        · rename_i st2 h2 N hv
          cases hs
          exact zr_anew hv hz
        · cases hs
      · cases hs
    · split at hs
      · split at hs
        · rename_i st2 h2 N K hv
          cases hs
          exact zr_mna hv hz
        · cases hs
      · cases hs
    · split at hs
      · split at hs
        · split at hs <;> cases hs
        · cases hs
      · cases hs
    · split at hs
      · split at hs <;> cases hs
      · cases hs
    · split at hs
      · split at hs <;> cases hs
      · cases hs
    · split at hs
      · split at hs <;> cases hs
      · cases hs
    · split at hs
      · split at hs
        · cases hs
          exact hz
        · split at hs
          · rename_i o ho
            cases hs
            exact (jm_call_no ho).elim
          · exact (jm_call_no hs).elim
      · cases hs
    · split at hs
      · split at hs
        · cases hs
          exact hz
        · split at hs
          · obtain ⟨st', h', e1, rfl, rfl, rfl⟩ := jm_nh_ok hs
            exact zr_copy e1 hz
          · exact (jm_call_no hs).elim
      · cases hs
    · split at hs
      · split at hs
        · rename_i o ho
          cases hs
          exact (jm_call_no ho).elim
        · split at hs
          · cases hs
            exact hz
          · cases hs
      · cases hs
    · split at hs
      · cases hs
        exact hz
      · cases hs
/-- the small machine's step, of an instruction that is read off the table -/
def jm_si (q : jm_Y) (i : Instr) (len pc : Nat) (lv : jm_L) (st : List Value) (h : jm_H) : Option jm_O := match i with
  | .getfield idx => if len = 3 then jm_nx (pc + 3) lv h (jm_getf q.2.2.2.2.1 idx st h) else none
  | .putfield idx => if len = 3 then jm_nh (pc + 3) lv (jm_putf q.2.2.2.2.1 idx (q.1.name == "<init>") st h) else none
  | .iaload => if len = 1 then jm_nx (pc + 1) lv h (jm_iald st h) else none
  | .baload => if len = 1 then jm_nx (pc + 1) lv h (jm_bald st h) else none
  | .laload => if len = 1 then jm_nx (pc + 1) lv h (jm_lald st h) else none
  | .aaload => if len = 1 then jm_nx (pc + 1) lv h (jm_aald st h) else none
  | .arraylength => if len = 1 then jm_nx (pc + 1) lv h (jm_alen st h) else none
  | .iastore => if len = 1 then jm_nh (pc + 1) lv (jm_iast st h) else none
  | .bastore => if len = 1 then jm_nh (pc + 1) lv (jm_bast st h) else none
  | .lastore => if len = 1 then jm_nh (pc + 1) lv (jm_last st h) else none
  | .aastore => if len = 1 then jm_nh (pc + 1) lv (jm_aast st h) else none
  | .ldc idx => if len = 2 then (match jm_con q.2.2.2.2.1 idx with
    | some v => some (.inl ((pc + 2, lv, .int v :: st, h), 0, 0))
    | none => (match jm_str q.2.2.2.2.1 idx with
      | some i => some (.inl ((pc + 2, lv, .float (UInt32.ofNat i) :: st, h), 0, 0))
      | none => none)) else none
  | .ldc_w idx => if len = 3 then (match jm_con q.2.2.2.2.1 idx with
    | some v => some (.inl ((pc + 3, lv, .int v :: st, h), 0, 0))
    | none => none) else none
  | .ldc2_w idx => if len = 3 then (match jm_conl q.2.2.2.2.1 idx with
    | some v => some (.inl ((pc + 3, lv, .long v :: st, h), 0, 0))
    | none => none) else none
  | .new idx => if len = 3 then (match jm_newo q.2.2.2.2.1 idx h with
    | some (h', N) => some (.inl ((pc + 3, lv, .ref h.length :: st, h'), 1, N))
    | none => none) else none
  | .newarray t => if len = 2 then (match jm_newa t st h with
    | some (st', h', N) => some (.inl ((pc + 2, lv, st', h'), 1, N))
    | none => none) else none
  | .anewarray idx => if len = 3 then (match jm_anew q.2.2.2.2.1 idx st h with
    | some (st', h', N) => some (.inl ((pc + 3, lv, st', h'), 1, N))
    | none => none) else none
  | .multianewarray idx dm => if len = 4 ∧ dm = 2 then (match jm_mna q.2.2.2.2.1 idx st h with
    | some (st', h', N, K) => some (.inl ((pc + 4, lv, st', h'), N, K))
    | none => none) else none
  | .ireturn => if len = 1 then (match st, q.2.2.2.1 with
    | [.int v], some t => if narrow t (.int v) = .int v then some (.inr (.inl (some (.int v)))) else none
    | _, _ => none) else none
  | .lreturn => if len = 1 then (match st, q.2.2.2.1 with
    | [.long v], some .long => some (.inr (.inl (some (.long v))))
    | _, _ => none) else none
  | .areturn => if len = 1 then (match st, q.2.2.2.1 with
    | [.ref a], some (.object _) => some (.inr (.inl (some (.ref a))))
    | _, _ => none) else none
  | .return_ => if len = 1 then (match st, q.2.2.2.1 with
    | [], none => some (.inr (.inl none))
    | _, _ => none) else none
  | .invokespecial idx => if len = 3 then (match jm_obji q.2.2.2.2.1 idx st with
    | some st' => some (.inl ((pc + 3, lv, st', h), 0, 0))
    | none => (match jm_call q.2.2.2.2.1 idx 2 st h with
      | some o => some o
      | none => jm_call q.2.2.2.2.1 idx 3 st h)) else none
  | .invokestatic idx => if len = 3 then (match jm_math q.2.2.2.2.1 idx st with
    | some st' => some (.inl ((pc + 3, lv, st', h), 0, 0))
    | none => if q.2.2.2.2.1 = 9 ∧ idx = 28 then jm_nh (pc + 3) lv (jm_copy st h) else jm_call q.2.2.2.2.1 idx 1 st h) else none
  | .invokevirtual idx => if len = 3 then (match jm_call q.2.2.2.2.1 idx 0 st h with
    | some o => some o
    | none => (match jm_strv q.2.2.2.2.1 idx st with
      | some st' => some (.inl ((pc + 3, lv, st', h), 0, 0))
      | none => none)) else none
  | _ => (match jm_pure q.2.2.1 i len pc lv st with
    | some z => some (.inl ((z.1, z.2.1, z.2.2, h), 0, 0))
    | none => none)
theorem jm_si_ok {q : jm_Y} {i : Instr} {len pc : Nat} {lv : jm_L} {st : List Value} {h : jm_H} (hd : decode q.2.1 pc = .ok (i, len)) : jm_step q pc lv st h = jm_si q i len pc lv st h := by
  unfold jm_step
  rw [hd]
  unfold jm_si
  cases i <;> rfl
def zr_wi (i : Instr) (st : List Value) : Bool := match i with
  | .iastore => (match st with
    | .int x :: _ => decide (x = 0)
    | _ => true)
  | .bastore => (match st with
    | .int x :: _ => decide (x = 0)
    | _ => true)
  | _ => true
theorem zr_wi_ok {q : jm_Y} {i : Instr} {len pc : Nat} {st : List Value} (hd : decode q.2.1 pc = .ok (i, len)) : zr_w q pc st = zr_wi i st := by
  unfold zr_w
  rw [hd]
  unfold zr_wi
  cases i <;> rfl
def zr_run : Nat → Nat → Nat → jm_S → Nat → Nat → Option (Option Value × jm_H × Nat × Nat)
  | 0, _, _, _, _, _ => none
  | n + 1, d, y, (pc, lv, st, h), nc, ns => if (Nat.ble nc 600000 && Nat.ble ns 7000000) = true then (match jm_ms[y]? with
    | none => none
    | some q => match jd y pc with
      | none => none
      | some (i, len) => if zr_wi i st = true then (match jm_si q i len pc lv st h with
        | none => none
        | some (.inl (S', dc, ds)) => zr_run n d y S' (nc + dc) (ns + ds)
        | some (.inr (.inl v)) => some (v, h, nc, ns)
        | some (.inr (.inr (y', as, r))) => match d with
          | 0 => none
          | d + 1 => match zr_run n d y' (0, lv_args 0 as, [], h) 0 0 with
            | none => none
            | some (v, h', c', s') => zr_run n (d + 1) y (pc + 3, lv, v.toList ++ r, h') (nc + c') (ns + s')) else none) else none
theorem zr_run_ok : ∀ (n d y : Nat) (S : jm_S) (nc ns : Nat) (v : Option Value) (h' : jm_H) (nc' ns' : Nat), zr_run n d y S nc ns = some (v, h', nc', ns') → jm_run n d y S nc ns = some (v, h', nc', ns') ∧ (zH S.2.2.2 → zH h') := by
  intro n
  induction n with
  | zero => intro d y S nc ns v h' nc' ns' h; cases h
  | succ n ih =>
    intro d y S nc ns v h' nc' ns' h
    obtain ⟨pc, lv, st, h0⟩ := S
    unfold zr_run at h
    unfold jm_run
    split at h
    · split at h
      · cases h
      · rename_i q hq
        rw [hq]
        dsimp only
        split at h
        · cases h
        · rename_i i len hj
          have hd := jd_ok0 hq hj
          rw [jm_si_ok hd]
          split at h
          · rename_i hw
            rw [← zr_wi_ok hd] at hw
            split at h
            · cases h
            · rename_i S' dc ds hs
              have hs2 := hs
              rw [← jm_si_ok hd] at hs2
              rw [hs]
              obtain ⟨r1, r2⟩ := ih _ _ _ _ _ _ _ _ _ h
              exact ⟨r1, fun hz => r2 (zr_step hw hs2 hz)⟩
            · rename_i v' hs
              rw [hs]
              cases h
              exact ⟨rfl, fun hz => hz⟩
            · rename_i y' as r hs
              rw [hs]
              dsimp only
              split at h
              · cases h
              · split at h
                · cases h
                · rename_i v1 h1 c1 s1 h2
                  obtain ⟨r1, r2⟩ := ih _ _ _ _ _ _ _ _ _ h2
                  obtain ⟨r3, r4⟩ := ih _ _ _ _ _ _ _ _ _ h
                  dsimp only
                  rw [r1]
                  exact ⟨r3, fun hz => r4 (r2 hz)⟩
          · cases h
    · cases h
