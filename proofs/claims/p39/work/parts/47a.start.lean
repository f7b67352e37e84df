/-! the law's start: the two constructors, run by the kernel. zH: every array of ints holds zeros alone; zr_run: the small machine's run, which looks at what is stored -/
def zH (h : jm_H) : Prop := ∀ (k : Nat) (t : FieldType) (n : Nat) (f : Nat → Int32), h[k]? = some (.inl (t, n, f)) → ∀ i, f i = 0
theorem zH.setR {h : jm_H} (hz : zH h) (a : Nat) (x : (Nat × (Nat → Int64)) ⊕ (FieldType × Nat × (Nat → Option Nat)) ⊕ (Nat × List Value)) : zH (h.set a (.inr x)) := by
  intro k t n f e
  rw [List.getElem?_set] at e
  split at e
  · split at e <;> cases e
  · exact hz k t n f e
theorem zH.setL {h : jm_H} (hz : zH h) (a : Nat) (t0 : FieldType) (n0 : Nat) (f0 : Nat → Int32) (hf : ∀ i, f0 i = 0) : zH (h.set a (.inl (t0, n0, f0))) := by
  intro k t n f e
  rw [List.getElem?_set] at e
  split at e
  · split at e
    · cases e
      exact hf
    · cases e
  · exact hz k t n f e
theorem zH.app {h g : jm_H} (hz : zH h) (hg : zH g) : zH (h ++ g) := by
  intro k t n f e
  rw [List.getElem?_append] at e
  split at e
  · exact hz k t n f e
  · exact hg _ t n f e
theorem zH_nil : zH [] := by
  intro k t n f e
  cases e
theorem zH.cons {c : jm_C} {h : jm_H} (hc : ∀ t n f, c = .inl (t, n, f) → ∀ i, f i = 0) (hz : zH h) : zH (c :: h) := by
  intro k t n f e
  cases k with
  | zero => exact hc t n f (Option.some.inj e)
  | succ k => exact hz k t n f e
theorem zH_oneR (x : (Nat × (Nat → Int64)) ⊕ (FieldType × Nat × (Nat → Option Nat)) ⊕ (Nat × List Value)) : zH [.inr x] := zH.cons (fun _ _ _ e => by cases e) zH_nil
theorem zH_oneL (t : FieldType) (n : Nat) : zH [.inl (t, n, fun _ => 0)] := zH.cons (fun _ _ _ e => by cases e; exact fun _ => rfl) zH_nil
theorem zH_rep (c : Nat) (n k : Nat) : zH (List.replicate n (.inl (.int, k, fun _ => 0))) := by
  intro j t n0 f e
  rw [List.getElem?_replicate] at e
  split at e
  · cases e
    exact fun _ => rfl
  · cases e
def zr_w (q : jm_Y) (pc : Nat) (st : List Value) : Bool := match decode q.2.1 pc with
  | .ok (.iastore, _) => (match st with
    | .int x :: _ => decide (x = 0)
    | _ => true)
  | .ok (.bastore, _) => (match st with
    | .int x :: _ => decide (x = 0)
    | _ => true)
  | _ => true
theorem zr_iast {st st' : List Value} {h h' : jm_H} (hw : (match st with
    | .int x :: _ => decide (x = 0)
    | _ => true) = true) (e : jm_iast st h = some (st', h')) (hz : zH h) : zH h' := by
  unfold jm_iast at e
  split at e
  · rename_i x i a r
    have hx : x = 0 := of_decide_eq_true hw
    subst hx
    split at e
    · rename_i n f hc
      split at e
      · cases e
        refine hz.setL a _ _ _ (fun j => ?_)
        unfold upd
        split
        · rfl
        · exact hz _ _ _ _ hc j
      · cases e
    · cases e
  · cases e
theorem zr_bast {st st' : List Value} {h h' : jm_H} (hw : (match st with
    | .int x :: _ => decide (x = 0)
    | _ => true) = true) (e : jm_bast st h = some (st', h')) (hz : zH h) : zH h' := by
  unfold jm_bast at e
  split at e
  · rename_i x i a r
    have hx : x = 0 := of_decide_eq_true hw
    subst hx
    split at e
    · rename_i n f hc
      split at e
      · cases e
        refine hz.setL a _ _ _ (fun j => ?_)
        unfold upd
        split
        · rfl
        · exact hz _ _ _ _ hc j
      · cases e
    · rename_i n f hc
      split at e
      · cases e
        refine hz.setL a _ _ _ (fun j => ?_)
        unfold upd
        split
        · rfl
        · exact hz _ _ _ _ hc j
      · cases e
    · cases e
  · cases e
theorem zr_last {st st' : List Value} {h h' : jm_H} (e : jm_last st h = some (st', h')) (hz : zH h) : zH h' := by
  unfold jm_last at e
  split at e
  · split at e
    · split at e
      · cases e
        exact hz.setR _ _
      · cases e
    · cases e
  · cases e
theorem zr_aast {st st' : List Value} {h h' : jm_H} (e : jm_aast st h = some (st', h')) (hz : zH h) : zH h' := by
  unfold jm_aast at e
  split at e
  · split at e
    · split at e
      · cases e
        exact hz.setR _ _
      · cases e
    · cases e
  · cases e
theorem zr_putf {oc idx : Nat} {isI : Bool} {st st' : List Value} {h h' : jm_H} (e : jm_putf oc idx isI st h = some (st', h')) (hz : zH h) : zH h' := by
  unfold jm_putf at e
  split at e
  · split at e
    · split at e
      · split at e
        · cases e
          exact hz.setR _ _
        · cases e
      · cases e
    · cases e
  · cases e
theorem zr_copy {st st' : List Value} {h h' : jm_H} (e : jm_copy st h = some (st', h')) (hz : zH h) : zH h' := by
  unfold jm_copy at e
  split at e
  · split at e
    · rename_i n0 f n1 g hc0 hc1
      split at e
      · cases e
        refine hz.setL _ _ _ _ (fun j => ?_)
        unfold va_cpy
        split
        · exact hz _ _ _ _ hc0 _
        · exact hz _ _ _ _ hc1 _
      · cases e
    · cases e
  · cases e
theorem zr_newo {oc idx N : Nat} {h h' : jm_H} (e : jm_newo oc idx h = some (h', N)) (hz : zH h) : zH h' := by
  unfold jm_newo at e
  split at e
  · split at e
    · cases e
      exact hz.app (zH_oneR _)
    · cases e
  · cases e
theorem zr_newa {at_ : ArrayType} {st st' : List Value} {h h' : jm_H} {N : Nat} (e : jm_newa at_ st h = some (st', h', N)) (hz : zH h) : zH h' := by
  unfold jm_newa at e
  split at e
  · split at e
    · split at e
      · cases e
        exact hz.app (zH_oneL _ _)
      · cases e
        exact hz.app (zH_oneL _ _)
      · cases e
        exact hz.app (zH_oneL _ _)
      · cases e
        exact hz.app (zH_oneR _)
      · cases e
    · cases e
  · cases e
theorem zr_anew {oc idx : Nat} {st st' : List Value} {h h' : jm_H} {N : Nat} (e : jm_anew oc idx st h = some (st', h', N)) (hz : zH h) : zH h' := by
  unfold jm_anew at e
  split at e
  · split at e
    · split at e
      · cases e
        exact hz.app (zH_oneR _)
      · cases e
    · cases e
  · cases e
theorem zr_mna {oc idx : Nat} {st st' : List Value} {h h' : jm_H} {N K : Nat} (e : jm_mna oc idx st h = some (st', h', N, K)) (hz : zH h) : zH h' := by
  unfold jm_mna at e
  split at e
  · split at e
    · cases e
      exact hz.app (zH.cons (fun _ _ _ z => by cases z) (zH_rep 0 _ _))
    · cases e
  · cases e
set_option maxHeartbeats 4000000 in
theorem zr_step {q : jm_Y} {pc : Nat} {lv : jm_L} {st : List Value} {h : jm_H} {S : jm_S} {dc ds : Nat} (hw : zr_w q pc st = true) (hs : jm_step q pc lv st h = some (.inl (S, dc, ds))) (hz : zH h) : zH S.2.2.2 := by
  unfold jm_step at hs
  unfold zr_w at hw
  split at hs
  · cases hs
  · rename_i i len hd
    rw [hd] at hw
    split at hs
    · split at hs
      · obtain ⟨st', e1, rfl, rfl, rfl⟩ := jm_nx_ok hs
        exact hz
      · cases hs
    · split at hs
      · obtain ⟨st', h', e1, rfl, rfl, rfl⟩ := jm_nh_ok hs
        exact zr_putf e1 hz
      · cases hs
    · split at hs
      · obtain ⟨st', e1, rfl, rfl, rfl⟩ := jm_nx_ok hs
        exact hz
      · cases hs
    · split at hs
      · obtain ⟨st', e1, rfl, rfl, rfl⟩ := jm_nx_ok hs
        exact hz
      · cases hs
    · split at hs
      · obtain ⟨st', e1, rfl, rfl, rfl⟩ := jm_nx_ok hs
        exact hz
      · cases hs
    · split at hs
      · obtain ⟨st', e1, rfl, rfl, rfl⟩ := jm_nx_ok hs
        exact hz
      · cases hs
    · split at hs
      · obtain ⟨st', e1, rfl, rfl, rfl⟩ := jm_nx_ok hs
        exact hz
      · cases hs
    · split at hs
      · obtain ⟨st', h', e1, rfl, rfl, rfl⟩ := jm_nh_ok hs
        exact zr_iast hw e1 hz
      · cases hs
    · split at hs
      · obtain ⟨st', h', e1, rfl, rfl, rfl⟩ := jm_nh_ok hs
        exact zr_bast hw e1 hz
      · cases hs
    · split at hs
      · obtain ⟨st', h', e1, rfl, rfl, rfl⟩ := jm_nh_ok hs
        exact zr_last e1 hz
      · cases hs
    · split at hs
      · obtain ⟨st', h', e1, rfl, rfl, rfl⟩ := jm_nh_ok hs
        exact zr_aast e1 hz
      · cases hs
    · split at hs
      · split at hs
        · cases hs
          exact hz
        · split at hs
          · cases hs
            exact hz
          · cases hs
      · cases hs
    · split at hs
      · split at hs
        · cases hs
          exact hz
        · cases hs
      · cases hs
    · split at hs
      · split at hs
        · cases hs
          exact hz
        · cases hs
      · cases hs
    · split at hs
      · split at hs
        · rename_i h2 N hv
          cases hs
          exact zr_newo hv hz
        · cases hs
      · cases hs
    · split at hs
      · split at hs
        · rename_i st2 h2 N hv
          cases hs
          exact zr_newa hv hz
        · cases hs
      · cases hs
    · split at hs
      · split at hs
        · rename_i st2 h2 N hv
          cases hs
          exact zr_anew hv hz
        · cases hs
      · cases hs
    · split at hs
      · split at hs
        · rename_i st2 h2 N K hv
          cases hs
          exact zr_mna hv hz
        · cases hs
      · cases hs
    · split at hs
      · split at hs
        · split at hs <;> cases hs
        · cases hs
      · cases hs
    · split at hs
      · split at hs <;> cases hs
      · cases hs
    · split at hs
      · split at hs <;> cases hs
      · cases hs
    · split at hs
      · split at hs <;> cases hs
      · cases hs
    · split at hs
      · split at hs
        · cases hs
          exact hz
        · split at hs
          · rename_i o ho
            cases hs
            exact (jm_call_no ho).elim
          · exact (jm_call_no hs).elim
      · cases hs
    · split at hs
      · split at hs
        · cases hs
          exact hz
        · split at hs
          · obtain ⟨st', h', e1, rfl, rfl, rfl⟩ := jm_nh_ok hs
            exact zr_copy e1 hz
          · exact (jm_call_no hs).elim
      · cases hs
    · split at hs
      · split at hs
        · rename_i o ho
          cases hs
          exact (jm_call_no ho).elim
        · split at hs
          · cases hs
            exact hz
          · cases hs
      · cases hs
    · split at hs
      · cases hs
        exact hz
      · cases hs
def zr_run : Nat → Nat → Nat → jm_S → Nat → Nat → Option (Option Value × jm_H × Nat × Nat)
  | 0, _, _, _, _, _ => none
  | n + 1, d, y, (pc, lv, st, h), nc, ns => if (Nat.ble nc 600000 && Nat.ble ns 7000000) = true then (match jm_ms[y]? with
    | none => none
    | some q => if zr_w q pc st = true then (match jm_step q pc lv st h with
      | none => none
      | some (.inl (S', dc, ds)) => zr_run n d y S' (nc + dc) (ns + ds)
      | some (.inr (.inl v)) => some (v, h, nc, ns)
      | some (.inr (.inr (y', as, r))) => match d with
        | 0 => none
        | d + 1 => match zr_run n d y' (0, lv_args 0 as, [], h) 0 0 with
          | none => none
          | some (v, h', c', s') => zr_run n (d + 1) y (pc + 3, lv, v.toList ++ r, h') (nc + c') (ns + s')) else none) else none
theorem zr_run_ok : ∀ (n d y : Nat) (S : jm_S) (nc ns : Nat) (v : Option Value) (h' : jm_H) (nc' ns' : Nat), zr_run n d y S nc ns = some (v, h', nc', ns') → jm_run n d y S nc ns = some (v, h', nc', ns') ∧ (zH S.2.2.2 → zH h') := by
  intro n
  induction n with
  | zero => intro d y S nc ns v h' nc' ns' h; cases h
  | succ n ih =>
    intro d y S nc ns v h' nc' ns' h
    obtain ⟨pc, lv, st, h0⟩ := S
    unfold zr_run at h
    unfold jm_run
    split at h
    · split at h
      · cases h
      · rename_i q hq
        rw [hq]
        dsimp only
        split at h
        · rename_i hw
          split at h
          · cases h
          · rename_i S' dc ds hs
            rw [hs]
            obtain ⟨r1, r2⟩ := ih _ _ _ _ _ _ _ _ _ h
            exact ⟨r1, fun hz => r2 (zr_step hw hs hz)⟩
          · rename_i v' hs
            rw [hs]
            cases h
            exact ⟨rfl, fun hz => hz⟩
          · rename_i y' as r hs
            rw [hs]
            dsimp only
            split at h
            · cases h
            · split at h
              · cases h
              · rename_i v1 h1 c1 s1 h2
                obtain ⟨r1, r2⟩ := ih _ _ _ _ _ _ _ _ _ h2
                obtain ⟨r3, r4⟩ := ih _ _ _ _ _ _ _ _ _ h
                dsimp only
                rw [r1]
                exact ⟨r3, fun hz => r4 (r2 hz)⟩
        · cases h
    · cases h
