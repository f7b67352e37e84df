/-! the small machine's steps that read and write cells -/
def jm_fld (oc idx : Nat) : Option (Nat × Nat) := if idx < 4096 then (jm_fl.find? (fun q => q.1 == oc * 4096 + idx)).map (fun q => (q.2.1, q.2.2.1)) else none
theorem jm_fld_ok {oc idx ci k : Nat} (h : jm_fld oc idx = some (ci, k)) : ∃ (C : String) (T : u_T) (N : Nat), vwCl[ci]? = some (C, T, N) ∧ k < N ∧ Cond.fieldLink (jm_cn oc) idx (T k).1 (T k).2.1 (T k).2.2.1 ∈ jm_T := by
  unfold jm_fld at h
  split at h
  · rename_i hlt
    cases hf : jm_fl.find? (fun q => q.1 == oc * 4096 + idx) with
    | none => rw [hf] at h; cases h
    | some q =>
      rw [hf] at h
      have e1 : q.2.1 = ci := congrArg (fun z : Nat × Nat => z.1) (Option.some.inj h)
      have e2 : q.2.2.1 = k := congrArg (fun z : Nat × Nat => z.2) (Option.some.inj h)
      have e0 : q.1 = oc * 4096 + idx := by simpa using List.find?_some hf
      have ha := List.all_eq_true.mp jm_fl_all q (List.mem_of_find?_eq_some hf)
      unfold jm_flq at ha
      rw [e1, e2] at ha
      rw [show q.1 / 4096 = oc by omega, show q.1 % 4096 = idx by omega] at ha
      split at ha
      · rename_i C T N hv
        rw [Bool.and_eq_true] at ha
        exact ⟨C, T, N, hv, of_decide_eq_true ha.1, jm_T_mem (of_decide_eq_true ha.2) rfl⟩
      · cases ha
  · cases h
def jm_ty (ci : Nat) : Nat → FieldType := match ci with
  | 0 => tyX0
  | 1 => tyX1
  | 2 => tyX2
  | 3 => tyX3
  | 4 => tyX4
  | 5 => tyX5
  | 6 => tyX6
  | 7 => tyX7
  | 8 => tyX8
  | 9 => tyX9
  | 10 => tyX10
  | 11 => tyX11
  | _ => tyX12
theorem jm_ly_in {ci : Nat} {C : String} {T : u_T} {N : Nat} (h : vwCl[ci]? = some (C, T, N)) : ∀ w ∈ u_ws C T N, w ∈ jm_T := by
  intro w hw
  obtain ⟨k, hk, rfl⟩ := List.mem_map.mp hw
  have hci : ci < 13 := (List.getElem?_eq_some_iff.mp h).1
  have h1 := List.all_eq_true.mp jm_ly_has ci (List.mem_range.mpr hci)
  rw [h] at h1
  obtain ⟨q, hq, h2⟩ := List.any_eq_true.mp (List.all_eq_true.mp h1 k hk)
  rw [Bool.and_eq_true] at h2
  have e1 : q.1 = ci := by simpa using h2.1
  have e2 : q.2.1 = k := by simpa using h2.2
  have h3 := List.all_eq_true.mp jm_ly_all q hq
  unfold jm_lyq at h3
  rw [e1, h, e2] at h3
  exact jm_T_mem (of_decide_eq_true h3) (by unfold u_lay; split <;> rfl)
theorem jm_ty_ok {ci : Nat} {C : String} {T : u_T} {N : Nat} (h : vwCl[ci]? = some (C, T, N)) : (∀ k, k < N → parseFieldDescriptor (T k).2.2.1 = some (jm_ty ci k)) ∧ ∀ a, a < N → ∀ b, b < N → a ≠ b → (T a).2.1 ≠ (T b).2.1 := by
  match ci, h with
  | 0, h => cases h; exact ⟨tyX0_ok, nmX0⟩
  | 1, h => cases h; exact ⟨tyX1_ok, nmX1⟩
  | 2, h => cases h; exact ⟨tyX2_ok, nmX2⟩
  | 3, h => cases h; exact ⟨tyX3_ok, nmX3⟩
  | 4, h => cases h; exact ⟨tyX4_ok, nmX4⟩
  | 5, h => cases h; exact ⟨tyX5_ok, nmX5⟩
  | 6, h => cases h; exact ⟨tyX6_ok, nmX6⟩
  | 7, h => cases h; exact ⟨tyX7_ok, nmX7⟩
  | 8, h => cases h; exact ⟨tyX8_ok, nmX8⟩
  | 9, h => cases h; exact ⟨tyX9_ok, nmX9⟩
  | 10, h => cases h; exact ⟨tyX10_ok, nmX10⟩
  | 11, h => cases h; exact ⟨tyX11_ok, nmX11⟩
  | 12, h => cases h; exact ⟨tyX12_ok, nmX12⟩
  | n + 13, h => exact absurd (List.getElem?_eq_some_iff.mp h).1 (by simp [vwCl])
/-- the kinds of array that are there -/
def jm_tin (t : FieldType) : Bool := match t with
  | .int => true
  | .byte => true
  | .boolean => true
  | .long => true
  | .object C => C == "OneWayTown$Town"
  | .array t => t == .int
  | _ => false
theorem jm_tin_ok {t : FieldType} (B : jm_E) (h : jm_tin t = true) : ∃ t0 : Nat, (jm_tys B)[t0]? = some (B.2.2 t, t) := by
  cases t with
  | int => exact ⟨0, rfl⟩
  | byte => exact ⟨1, rfl⟩
  | boolean => exact ⟨2, rfl⟩
  | long => exact ⟨3, rfl⟩
  | object C =>
    have e : C = "OneWayTown$Town" := by simpa [jm_tin] using h
    subst e
    exact ⟨4, rfl⟩
  | array t =>
    have e : t = .int := by simpa [jm_tin] using h
    subst e
    exact ⟨5, rfl⟩
  | _ => cases h
def jm_isref (t : FieldType) : Bool := match t with
  | .object _ => true
  | .array _ => true
  | _ => false
/-- a value that a field of a type can hold -/
def jm_fit (t : FieldType) (v : Value) : Bool := match v with
  | .int x => decide (narrow t (.int x) = .int x) && fits t (.int x)
  | .long x => decide (narrow t (.long x) = .long x) && fits t (.long x)
  | .ref _ => jm_isref t
  | _ => false
theorem jm_fit_ok {t : FieldType} {v : Value} (B : jm_E) (h : jm_fit t v = true) : narrow t (jm_v B v) = jm_v B v ∧ fits t (jm_v B v) = true := by
  cases v with
  | int x => simpa [jm_fit, jm_v] using h
  | long x => simpa [jm_fit, jm_v] using h
  | ref a => cases t <;> first | exact ⟨rfl, rfl⟩ | cases h
  | _ => cases h
def jm_getf (oc idx : Nat) (st : List Value) (h : jm_H) : Option (List Value) := match st with
  | .ref a :: r => (match jm_fld oc idx with
    | some (ci, k) => (match h[a]? with
      | some (.inr (.inr (.inr (cj, fs)))) => if cj = ci then (match fs[k]? with
        | some v => some (v :: r)
        | none => none) else none
      | _ => none)
    | none => none)
  | _ => none
def jm_fin (ci k : Nat) : Bool := match vwCl[ci]? with
  | some (_, T, _) => (T k).2.2.2
  | none => true
def jm_dcl (ci k oc : Nat) : Bool := match vwCl[ci]? with
  | some (_, T, _) => decide ((T k).1 = jm_cn oc)
  | none => false
def jm_putf (oc idx : Nat) (isI : Bool) (st : List Value) (h : jm_H) : Option (List Value × jm_H) := match st with
  | v :: .ref a :: r => (match jm_fld oc idx with
    | some (ci, k) => (match h[a]? with
      | some (.inr (.inr (.inr (cj, fs)))) => if cj = ci ∧ k < fs.length ∧ jm_fit (jm_ty ci k) v = true ∧ (jm_fin ci k = false ∨ (isI = true ∧ jm_dcl ci k oc = true)) then some (r, h.set a (.inr (.inr (.inr (cj, fs.set k v))))) else none
      | _ => none)
    | none => none)
  | _ => none
def jm_in (i : Int32) (n : Nat) : Bool := decide (¬ (i < 0 ∨ n ≤ i.toNatClampNeg))
theorem jm_in_ok {i : Int32} {n : Nat} (h : jm_in i n = true) : vp_in i n := by
  unfold jm_in at h
  unfold vp_in
  exact of_decide_eq_true h
def jm_iald (st : List Value) (h : jm_H) : Option (List Value) := match st with
  | .int i :: .ref a :: r => (match h[a]? with
    | some (.inl (.int, n, f)) => if jm_in i n = true then some (.int (f i.toNatClampNeg) :: r) else none
    | _ => none)
  | _ => none
def jm_bald (st : List Value) (h : jm_H) : Option (List Value) := match st with
  | .int i :: .ref a :: r => (match h[a]? with
    | some (.inl (.byte, n, f)) => if jm_in i n = true then some (.int (f i.toNatClampNeg) :: r) else none
    | some (.inl (.boolean, n, f)) => if jm_in i n = true then some (.int (f i.toNatClampNeg) :: r) else none
    | _ => none)
  | _ => none
def jm_lald (st : List Value) (h : jm_H) : Option (List Value) := match st with
  | .int i :: .ref a :: r => (match h[a]? with
    | some (.inr (.inl (n, f))) => if jm_in i n = true then some (.long (f i.toNatClampNeg) :: r) else none
    | _ => none)
  | _ => none
def jm_aald (st : List Value) (h : jm_H) : Option (List Value) := match st with
  | .int i :: .ref a :: r => (match h[a]? with
    | some (.inr (.inr (.inl (t, n, f)))) => if jm_in i n = true ∧ jm_tin t = true ∧ jm_isref t = true then (match f i.toNatClampNeg with
      | some k => some (.ref k :: r)
      | none => none) else none
    | _ => none)
  | _ => none
def jm_alen (st : List Value) (h : jm_H) : Option (List Value) := match st with
  | .ref a :: r => (match h[a]? with
    | some (.inl (t, n, _)) => if jm_tin t = true then some (.int (Int32.ofNat n) :: r) else none
    | some (.inr (.inl (n, _))) => some (.int (Int32.ofNat n) :: r)
    | some (.inr (.inr (.inl (t, n, _)))) => if jm_tin t = true then some (.int (Int32.ofNat n) :: r) else none
    | _ => none)
  | _ => none
def jm_iast (st : List Value) (h : jm_H) : Option (List Value × jm_H) := match st with
  | .int x :: .int i :: .ref a :: r => (match h[a]? with
    | some (.inl (.int, n, f)) => if jm_in i n = true then some (r, h.set a (.inl (.int, n, upd f i.toNatClampNeg x))) else none
    | _ => none)
  | _ => none
def jm_bast (st : List Value) (h : jm_H) : Option (List Value × jm_H) := match st with
  | .int x :: .int i :: .ref a :: r => (match h[a]? with
    | some (.inl (.byte, n, f)) => if jm_in i n = true then some (r, h.set a (.inl (.byte, n, upd f i.toNatClampNeg (vp_nar .byte x)))) else none
    | some (.inl (.boolean, n, f)) => if jm_in i n = true then some (r, h.set a (.inl (.boolean, n, upd f i.toNatClampNeg (vp_nar .boolean x)))) else none
    | _ => none)
  | _ => none
def jm_last (st : List Value) (h : jm_H) : Option (List Value × jm_H) := match st with
  | .long x :: .int i :: .ref a :: r => (match h[a]? with
    | some (.inr (.inl (n, f))) => if jm_in i n = true then some (r, h.set a (.inr (.inl (n, vp_updL f i.toNatClampNeg x)))) else none
    | _ => none)
  | _ => none
