/-! what the two constructors leave: the store, and that the heap is of its type -/
def st_W : fw_W := fun c i => if (Nat.beq c 3 && Nat.beq i 5) = true then -1 else if (Nat.beq c 16 && Nat.beq i 10) = true then -3 else if (Nat.beq c 352 && Nat.beq i 5) = true then -1 else 0
def st_s (c : Nat) : Bool := Nat.beq c 3 || (Nat.beq c 16 || Nat.beq c 352)
theorem st_z {c : Nat} (h : st_s c = false) (i : Nat) : st_W c i = 0 := by
  unfold st_s at h
  rw [Bool.or_eq_false_iff, Bool.or_eq_false_iff] at h
  unfold st_W
  rw [h.1, h.2.1, h.2.2]
  rfl
theorem st_g {c : Nat} (h : st_s c = false) (i : Int) : fw_g st_W c i = 0 := by
  unfold fw_g
  rw [st_z h]
  rfl
def st_f (w : Int32) (t : ai_F) (v : Value) : Bool := match t, v with
  | .inl (lo, hi, b), .int i => decide (lo ≤ i.toInt) && (decide (i.toInt ≤ hi) && (!b || decide (i = w)))
  | .inr (.inl ks), .ref k => ks.any (fun j => Nat.beq j k)
  | .inr (.inr _), .long _ => true
  | _, _ => false
theorem st_f_ok {w : Int32} {t : ai_F} {v : Value} (h : st_f w t v = true) : ai_gf w t v := by
  unfold st_f at h
  split at h
  · rename_i lo hi b i
    rw [Bool.and_eq_true, Bool.and_eq_true, Bool.or_eq_true] at h
    refine ⟨⟨i, rfl, of_decide_eq_true h.1, of_decide_eq_true h.2.1⟩, ?_⟩
    cases b with
    | false => exact trivial
    | true =>
      rcases h.2.2 with q | q
      · cases q
      · show Value.int i = Value.int w
        rw [of_decide_eq_true q]
  · rename_i ks k
    obtain ⟨j, hj, q⟩ := List.any_eq_true.mp h
    have e : j = k := Nat.eq_of_beq_eq_true q
    exact ⟨⟨k, by rw [← e]; exact hj, rfl⟩, trivial⟩
  · rename_i l
    exact ⟨⟨l, rfl⟩, trivial⟩
  · cases h
def st_fs (w : Nat → Int32) : Nat → List ai_F → List Value → Bool
  | _, [], [] => true
  | i, t :: ts, v :: vs => st_f (w i) t v && st_fs w (i + 1) ts vs
  | _, _, _ => false
theorem st_fs_ok {w : Nat → Int32} : ∀ {ts : List ai_F} {vs : List Value} {i : Nat}, st_fs w i ts vs = true → vs.length = ts.length ∧ ∀ (j : Nat) (t : ai_F) (v : Value), ts[j]? = some t → vs[j]? = some v → ai_gf (w (i + j)) t v
  | [], [], i, _ => ⟨rfl, fun j t v e => by cases e⟩
  | t :: ts, v :: vs, i, h => by
    unfold st_fs at h
    rw [Bool.and_eq_true] at h
    obtain ⟨r1, r2⟩ := st_fs_ok h.2
    refine ⟨by rw [List.length_cons, List.length_cons, r1], fun j t2 v2 e1 e2 => ?_⟩
    cases j with
    | zero =>
      cases e1
      cases e2
      exact st_f_ok h.1
    | succ j =>
      have := r2 j t2 v2 e1 e2
      rwa [show i + 1 + j = i + (j + 1) by omega] at this
  | [], _ :: _, i, h => by cases h
  | _ :: _, [], i, h => by cases h
def st_rs (f : Nat → Option Nat) : Nat → List Nat → Bool
  | _, [] => true
  | i, k :: ks => (match f i with
    | some j => Nat.beq j k
    | none => false) && st_rs f (i + 1) ks
theorem st_rs_ok {f : Nat → Option Nat} : ∀ {ks : List Nat} {i : Nat}, st_rs f i ks = true → ∀ j, j < ks.length → f (i + j) = ks[j]?
  | [], i, _, j, hj => absurd hj (Nat.not_lt_zero _)
  | k :: ks, i, h, j, hj => by
    unfold st_rs at h
    rw [Bool.and_eq_true] at h
    cases j with
    | zero =>
      have h1 := h.1
      split at h1
      · rename_i z e
        show f i = some k
        rw [e, Nat.eq_of_beq_eq_true h1]
      · cases h1
    | succ j =>
      have := st_rs_ok h.2 j (Nat.lt_of_succ_lt_succ hj)
      rwa [show i + 1 + j = i + (j + 1) by omega] at this
def st_c (k : Nat) (a : ai_C) (c : jm_C) : Bool := match a, c with
  | .inl (t, n, lo, hi, _), .inl (t', n', _) => decide (t' = t) && (Nat.beq n' n && (decide (lo ≤ 0) && (decide (0 ≤ hi) && !(st_s k))))
  | .inr (.inl n), .inr (.inl (n', _)) => Nat.beq n' n
  | .inr (.inr (.inl (t, ks))), .inr (.inr (.inl (t', n', f))) => decide (t' = t) && (Nat.beq n' ks.length && st_rs f 0 ks)
  | .inr (.inr (.inr (ci, ts))), .inr (.inr (.inr (ci', fs))) => Nat.beq ci' ci && st_fs (st_W k) 0 ts fs
  | _, _ => false
theorem st_c_ok {k : Nat} {a : ai_C} {c : jm_C} (hz : ∀ t n f, c = .inl (t, n, f) → ∀ i, f i = 0) (h : st_c k a c = true) : ai_gcell (st_W k) a c := by
  unfold st_c at h
  split at h
  · rename_i t n lo hi b t' n' f
    rw [Bool.and_eq_true, Bool.and_eq_true, Bool.and_eq_true, Bool.and_eq_true] at h
    obtain ⟨h1, h2, h3, h4, h5⟩ := h
    have z := hz t' n' f rfl
    have e5 : st_s k = false := by simpa using h5
    have l1 : lo ≤ 0 := of_decide_eq_true h3
    have l2 : 0 ≤ hi := of_decide_eq_true h4
    refine ⟨of_decide_eq_true h1, Nat.eq_of_beq_eq_true h2, fun i _ => ?_, fun _ i _ => ?_⟩
    · rw [z i, Int32.toInt_zero]
      exact ⟨l1, l2⟩
    · rw [z i, st_z e5]
  · exact Nat.eq_of_beq_eq_true h
  · rename_i t ks t' n' f
    rw [Bool.and_eq_true, Bool.and_eq_true] at h
    obtain ⟨h1, h2, h3⟩ := h
    have e2 : n' = ks.length := Nat.eq_of_beq_eq_true h2
    refine ⟨of_decide_eq_true h1, e2, fun i hi => ?_⟩
    have := st_rs_ok h3 i (by omega)
    rwa [Nat.zero_add] at this
  · rename_i ci ts ci' fs
    rw [Bool.and_eq_true] at h
    obtain ⟨r1, r2⟩ := st_fs_ok h.2
    refine ⟨Nat.eq_of_beq_eq_true h.1, r1, fun i t v e1 e2 => ?_⟩
    have := r2 i t v e1 e2
    rwa [Nat.zero_add] at this
  · cases h
def st_h : Nat → List ai_C → jm_H → Bool
  | _, [], [] => true
  | k, a :: T, c :: h => st_c k a c && st_h (k + 1) T h
  | _, _, _ => false
theorem st_h_ok : ∀ {T : List ai_C} {h : jm_H} {k : Nat}, st_h k T h = true → zH h → h.length = T.length ∧ ∀ (j : Nat) (a : ai_C) (c : jm_C), T[j]? = some a → h[j]? = some c → ai_gcell (st_W (k + j)) a c
  | [], [], k, _, _ => ⟨rfl, fun j a c e => by cases e⟩
  | a :: T, c :: h, k, q, hz => by
    unfold st_h at q
    rw [Bool.and_eq_true] at q
    obtain ⟨r1, r2⟩ := st_h_ok q.2 (fun i t n f e => hz (i + 1) t n f e)
    refine ⟨by rw [List.length_cons, List.length_cons, r1], fun j a2 c2 e1 e2 => ?_⟩
    cases j with
    | zero =>
      cases e1
      cases e2
      exact st_c_ok (fun t n f e => hz 0 t n f (by rw [e]; rfl)) q.1
    | succ j =>
      have := r2 j a2 c2 e1 e2
      rwa [show k + 1 + j = k + (j + 1) by omega] at this
  | [], _ :: _, k, q, _ => by cases q
  | _ :: _, [], k, q, _ => by cases q
def st_n (h : jm_H) : Bool := match (h[352]? : Option jm_C) with
  | some (.inr (.inr (.inr (_, fs)))) => (match (fs[10]? : Option Value) with
    | some (.long l) => Nat.beq (fw_kn l) 0
    | _ => true)
  | _ => true
theorem st_n_ok {h : jm_H} (q : st_n h = true) : fw_nm st_W h := by
  unfold st_n at q
  unfold fw_nm
  split
  · rename_i ci fs e
    rw [e] at q
    dsimp only at q
    split
    · rename_i l e2
      rw [e2] at q
      dsimp only at q
      rw [Nat.eq_of_beq_eq_true q]
      exact st_z rfl 0
    · exact trivial
  · exact trivial
def st_o11 : jm_C := .inr (.inr (.inr (11, (List.range 15).map (fun j => defaultValue (jm_ty 11 j)))))
def st_o12 : jm_C := .inr (.inr (.inr (12, (List.range 69).map (fun j => defaultValue (jm_ty 12 j)))))
def st_k2 (o : Option (Option Value × jm_H × Nat × Nat)) : Bool := match o with
  | some (none, h2, c2, s2) => Nat.ble c2 1000 && (Nat.ble s2 300000 && (st_n h2 && st_h 0 fw_T h2))
  | _ => false
def st_k1 (o : Option (Option Value × jm_H × Nat × Nat)) : Bool := match o with
  | some (none, h1, c1, s1) => Nat.beq h1.length 352 && (Nat.ble c1 1000 && (Nat.ble s1 300000 && st_k2 (zr_run 3000 8 185 (0, lv_args 0 [.ref 352], [], h1 ++ [st_o12]) 0 0)))
  | _ => false
theorem st_k2_ok {o : Option (Option Value × jm_H × Nat × Nat)} (q : st_k2 o = true) : ∃ h2 c2 s2, o = some (none, h2, c2, s2) ∧ c2 ≤ 1000 ∧ s2 ≤ 300000 ∧ (zH h2 → fw_gh st_W fw_T h2) := by
  unfold st_k2 at q
  split at q
  · rename_i h2 c2 s2
    rw [Bool.and_eq_true, Bool.and_eq_true, Bool.and_eq_true] at q
    obtain ⟨q1, q2, q3, q4⟩ := q
    refine ⟨h2, c2, s2, rfl, Nat.le_of_ble_eq_true q1, Nat.le_of_ble_eq_true q2, fun hz => ?_⟩
    obtain ⟨r1, r2⟩ := st_h_ok q4 hz
    refine ⟨⟨r1, fun k a c e1 e2 => ?_⟩, st_n_ok q3⟩
    have := r2 k a c e1 e2
    rwa [Nat.zero_add] at this
  · cases q
theorem st_k1_ok {o : Option (Option Value × jm_H × Nat × Nat)} (q : st_k1 o = true) : ∃ h1 c1 s1, o = some (none, h1, c1, s1) ∧ h1.length = 352 ∧ c1 ≤ 1000 ∧ s1 ≤ 300000 ∧ ∃ h2 c2 s2, zr_run 3000 8 185 (0, lv_args 0 [.ref 352], [], h1 ++ [st_o12]) 0 0 = some (none, h2, c2, s2) ∧ c2 ≤ 1000 ∧ s2 ≤ 300000 ∧ (zH h2 → fw_gh st_W fw_T h2) := by
  unfold st_k1 at q
  split at q
  · rename_i h1 c1 s1
    rw [Bool.and_eq_true, Bool.and_eq_true, Bool.and_eq_true] at q
    obtain ⟨q1, q2, q3, q4⟩ := q
    exact ⟨h1, c1, s1, rfl, Nat.eq_of_beq_eq_true q1, Nat.le_of_ble_eq_true q2, Nat.le_of_ble_eq_true q3, st_k2_ok q4⟩
  · cases q
set_option maxRecDepth 100000 in
theorem st_all : st_k1 (zr_run 3000 8 137 (0, lv_args 0 [.ref 0], [], [st_o11]) 0 0) = true := by decide +kernel
theorem st_runs : ∃ h1 c1 s1 h2 c2 s2, jm_run 3000 8 137 (0, lv_args 0 [.ref 0], [], [st_o11]) 0 0 = some (none, h1, c1, s1) ∧ h1.length = 352 ∧ c1 ≤ 1000 ∧ s1 ≤ 300000 ∧ jm_run 3000 8 185 (0, lv_args 0 [.ref 352], [], h1 ++ [st_o12]) 0 0 = some (none, h2, c2, s2) ∧ c2 ≤ 1000 ∧ s2 ≤ 300000 ∧ fw_gh st_W fw_T h2 := by
  obtain ⟨h1, c1, s1, r1, e1, b1, b2, h2, c2, s2, r2, b3, b4, g⟩ := st_k1_ok st_all
  obtain ⟨j1, z1⟩ := zr_run_ok _ _ _ _ _ _ _ _ _ _ r1
  obtain ⟨j2, z2⟩ := zr_run_ok _ _ _ _ _ _ _ _ _ _ r2
  have a1 : zH h1 := z1 (zH_oneR _)
  have a2 : zH (h1 ++ [st_o12]) := a1.app (zH_oneR _)
  exact ⟨h1, c1, s1, h2, c2, s2, j1, e1, b1, b2, j2, b3, b4, g (z2 a2)⟩
/-- what holds between calls holds of it -/
theorem st_kpl : ∀ k ∈ kpl, st_s k = false := by decide +kernel
theorem st_tw (c : Nat) (h : st_s c = false) (s : Int) : tw (fun i => fw_g st_W c (44 * s + i)) := tw_c tw_z (fun i _ _ => st_g h _)
theorem st_li : li st_W := by
  refine ⟨⟨ta_0 (st_g rfl 0), ⟨fun k hk => ta_0 (st_g (st_kpl k hk) 0), ?_⟩, ⟨ta_0 (st_g rfl 0), ta_0 (st_g rfl 0), ta_0 (st_g rfl 0)⟩, ?_⟩, ⟨?_, fun s _ _ => st_tw 369 rfl s, fun s _ _ => st_tw 397 rfl s, ?_, ?_, ?_⟩, ?_, ?_, ?_⟩
  · unfold nl
    rw [st_g rfl, st_g rfl]
    exact Int.le_refl _
  · intro j h1 h2
    rw [st_g rfl] at h2
    omega
  · have t : tw (fun i => fw_g st_W 366 i) := tw_c tw_z (fun i _ _ => st_g rfl _)
    exact t
  · decide +kernel
  · decide +kernel
  · decide +kernel
  · decide +kernel
  · rw [st_g rfl]
    exact Int.le_refl _
  · rw [st_g rfl]
    decide
