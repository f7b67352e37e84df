/-! one step, a run, and that a run is the machine's -/
abbrev jm_Y : Type := MethodName × ByteArray × Nat × Option FieldType × Nat × Nat
abbrev jm_S : Type := Nat × jm_L × List Value × jm_H
/-- what a step gives: the next state with the cells and slots made; an answer; a call (method, arguments, the stack below) -/
abbrev jm_O : Type := (jm_S × Nat × Nat) ⊕ (Option Value) ⊕ (Nat × List Value × List Value)
def jm_call (oc idx kind : Nat) (st : List Value) (h : jm_H) : Option jm_O := match jm_lnk oc idx with
  | none => none
  | some (kd, y) => if kd = kind then (match jm_ms[y]?, jm_na[y]? with
    | some q, some n =>
      if kind = 1 then (if n ≤ st.length ∧ jm_cs (st.drop n) ≤ 8 ∧ jm_cs (st.take n).reverse ≤ q.2.2.1 then some (.inr (.inr (y, (st.take n).reverse, st.drop n))) else none)
      else (match st.drop n with
        | .ref a :: r => if n ≤ st.length ∧ jm_cs r ≤ 8 ∧ 1 + jm_cs (st.take n).reverse ≤ q.2.2.1 then (match h[a]? with
          | some (.inr (.inr (.inr (ci, _)))) => if ci = q.2.2.2.2.1 then some (.inr (.inr (y, .ref a :: (st.take n).reverse, r))) else none
          | _ => none) else none
        | _ => none)
    | _, _ => none) else none
def jm_nx (pc : Nat) (lv : jm_L) (h : jm_H) (o : Option (List Value)) : Option jm_O := match o with
  | some st => some (.inl ((pc, lv, st, h), 0, 0))
  | none => none
def jm_nh (pc : Nat) (lv : jm_L) (o : Option (List Value × jm_H)) : Option jm_O := match o with
  | some (st, h) => some (.inl ((pc, lv, st, h), 0, 0))
  | none => none
/-- Tape's String constants: house, at, street, people, cart, to, draw -/
def jm_str (oc idx : Nat) : Option Nat := if oc = 7 then (if idx = 55 then some 0 else if idx = 61 then some 1 else if idx = 63 then some 2 else if idx = 65 then some 3 else if idx = 67 then some 4 else if idx = 69 then some 5 else if idx = 71 then some 6 else none) else none
def jm_strv (oc idx : Nat) (st : List Value) : Option (List Value) :=
  if oc = 7 ∧ idx = 73 then (match st with
    | .float u :: r => if u.toNat < 7 ∧ jm_cs r ≤ 8 then some (.int (Int32.ofNat (jm_sb u.toNat).length) :: r) else none
    | _ => none)
  else if oc = 7 ∧ idx = 78 then (match st with
    | .int k :: .float u :: r => if u.toNat < 7 ∧ ¬ k < 0 ∧ k.toNatClampNeg < (jm_sb u.toNat).length ∧ jm_cs r ≤ 8 then some (.int ((jm_sb u.toNat).getD k.toNatClampNeg 0) :: r) else none
    | _ => none)
  else none
def jm_step (q : jm_Y) (pc : Nat) (lv : jm_L) (st : List Value) (h : jm_H) : Option jm_O := match decode q.2.1 pc with
  | .error _ => none
  | .ok (i, len) => match i with
    | .getfield idx => if len = 3 then jm_nx (pc + 3) lv h (jm_getf q.2.2.2.2.1 idx st h) else none
    | .putfield idx => if len = 3 then jm_nh (pc + 3) lv (jm_putf q.2.2.2.2.1 idx (q.1.name == "<init>") st h) else none
    | .iaload => if len = 1 then jm_nx (pc + 1) lv h (jm_iald st h) else none
    | .baload => if len = 1 then jm_nx (pc + 1) lv h (jm_bald st h) else none
    | .laload => if len = 1 then jm_nx (pc + 1) lv h (jm_lald st h) else none
    | .aaload => if len = 1 then jm_nx (pc + 1) lv h (jm_aald st h) else none
    | .arraylength => if len = 1 then jm_nx (pc + 1) lv h (jm_alen st h) else none
    | .iastore => if len = 1 then jm_nh (pc + 1) lv (jm_iast st h) else none
    | .bastore => if len = 1 then jm_nh (pc + 1) lv (jm_bast st h) else none
    | .lastore => if len = 1 then jm_nh (pc + 1) lv (jm_last st h) else none
    | .aastore => if len = 1 then jm_nh (pc + 1) lv (jm_aast st h) else none
    | .ldc idx => if len = 2 then (match jm_con q.2.2.2.2.1 idx with
      | some v => some (.inl ((pc + 2, lv, .int v :: st, h), 0, 0))
      | none => (match jm_str q.2.2.2.2.1 idx with
        | some i => some (.inl ((pc + 2, lv, .float (UInt32.ofNat i) :: st, h), 0, 0))
        | none => none)) else none
    | .ldc_w idx => if len = 3 then (match jm_con q.2.2.2.2.1 idx with
      | some v => some (.inl ((pc + 3, lv, .int v :: st, h), 0, 0))
      | none => none) else none
    | .ldc2_w idx => if len = 3 then (match jm_conl q.2.2.2.2.1 idx with
      | some v => some (.inl ((pc + 3, lv, .long v :: st, h), 0, 0))
      | none => none) else none
    | .new idx => if len = 3 then (match jm_newo q.2.2.2.2.1 idx h with
      | some (h', N) => some (.inl ((pc + 3, lv, .ref h.length :: st, h'), 1, N))
      | none => none) else none
    | .newarray t => if len = 2 then (match jm_newa t st h with
      | some (st', h', N) => some (.inl ((pc + 2, lv, st', h'), 1, N))
      | none => none) else none
    | .anewarray idx => if len = 3 then (match jm_anew q.2.2.2.2.1 idx st h with
      | some (st', h', N) => some (.inl ((pc + 3, lv, st', h'), 1, N))
      | none => none) else none
    | .multianewarray idx dm => if len = 4 ∧ dm = 2 then (match jm_mna q.2.2.2.2.1 idx st h with
      | some (st', h', N, K) => some (.inl ((pc + 4, lv, st', h'), N, K))
      | none => none) else none
    | .ireturn => if len = 1 then (match st, q.2.2.2.1 with
      | [.int v], some t => if narrow t (.int v) = .int v then some (.inr (.inl (some (.int v)))) else none
      | _, _ => none) else none
    | .lreturn => if len = 1 then (match st, q.2.2.2.1 with
      | [.long v], some .long => some (.inr (.inl (some (.long v))))
      | _, _ => none) else none
    | .areturn => if len = 1 then (match st, q.2.2.2.1 with
      | [.ref a], some (.object _) => some (.inr (.inl (some (.ref a))))
      | _, _ => none) else none
    | .return_ => if len = 1 then (match st, q.2.2.2.1 with
      | [], none => some (.inr (.inl none))
      | _, _ => none) else none
    | .invokespecial idx => if len = 3 then (match jm_obji q.2.2.2.2.1 idx st with
      | some st' => some (.inl ((pc + 3, lv, st', h), 0, 0))
      | none => (match jm_call q.2.2.2.2.1 idx 2 st h with
        | some o => some o
        | none => jm_call q.2.2.2.2.1 idx 3 st h)) else none
    | .invokestatic idx => if len = 3 then (match jm_math q.2.2.2.2.1 idx st with
      | some st' => some (.inl ((pc + 3, lv, st', h), 0, 0))
      | none => if q.2.2.2.2.1 = 9 ∧ idx = 28 then jm_nh (pc + 3) lv (jm_copy st h) else jm_call q.2.2.2.2.1 idx 1 st h) else none
    | .invokevirtual idx => if len = 3 then (match jm_call q.2.2.2.2.1 idx 0 st h with
      | some o => some o
      | none => (match jm_strv q.2.2.2.2.1 idx st with
        | some st' => some (.inl ((pc + 3, lv, st', h), 0, 0))
        | none => none)) else none
    | _ => (match jm_pure q.2.2.1 i len pc lv st with
      | some z => some (.inl ((z.1, z.2.1, z.2.2, h), 0, 0))
      | none => none)
/-- a run of a method, of at most so many steps, at most d calls deep: its answer, the cells behind it, how many cells and slots were made -/
def jm_run : Nat → Nat → Nat → jm_S → Nat → Nat → Option (Option Value × jm_H × Nat × Nat)
  | 0, _, _, _, _, _ => none
  | n + 1, d, y, (pc, lv, st, h), nc, ns => match jm_ms[y]? with
    | none => none
    | some q => match jm_step q pc lv st h with
      | none => none
      | some (.inl (S', dc, ds)) => jm_run n d y S' (nc + dc) (ns + ds)
      | some (.inr (.inl v)) => some (v, h, nc, ns)
      | some (.inr (.inr (y', as, r))) => match d with
        | 0 => none
        | d + 1 => match jm_run n d y' (0, lv_args 0 as, [], h) 0 0 with
          | none => none
          | some (v, h', c', s') => jm_run n (d + 1) y (pc + 3, lv, v.toList ++ r, h') (nc + c') (ns + s')
def jm_R (d mc ms : Nat) : Room := { frames := d + 6, cells := mc, slots := ms, locals := 64 * (d + 6) }
theorem jm_run_mono : ∀ (n d y : Nat) (S : jm_S) (nc ns : Nat) (v : Option Value) (h' : jm_H) (nc' ns' : Nat), jm_run n d y S nc ns = some (v, h', nc', ns') → nc ≤ nc' ∧ ns ≤ ns' := by
  intro n
  induction n with
  | zero => intro d y S nc ns v h' nc' ns' h; cases h
  | succ n ih =>
    intro d y S nc ns v h' nc' ns' h
    obtain ⟨pc, lv, st, h0⟩ := S
    unfold jm_run at h
    split at h
    · cases h
    · split at h
      · cases h
      · have := ih _ _ _ _ _ _ _ _ _ h; omega
      · cases h; exact ⟨Nat.le_refl _, Nat.le_refl _⟩
      · split at h
        · cases h
        · split at h
          · cases h
          · have := ih _ _ _ _ _ _ _ _ _ h; omega
