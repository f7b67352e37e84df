/-! the reference, method by method -/
def pcn : Nat → Nat → Nat
  | 0, _ => 0
  | f + 1, k => if k = 0 then 0 else 1 + pcn f (k &&& (k - 1))
theorem pcn_st : ∀ (f k : Nat), k ≤ f → ∀ f', k ≤ f' → pcn f k = pcn f' k := by
  intro f
  induction f with
  | zero =>
    intro k hk f' _
    have : k = 0 := by omega
    subst this
    cases f' with
    | zero => rfl
    | succ f' => rfl
  | succ f ih =>
    intro k hk f' hf
    by_cases e : k = 0
    · subst e
      cases f' with
      | zero => rfl
      | succ f' => rfl
    · cases f' with
      | zero => omega
      | succ f' =>
        have hl : k &&& (k - 1) ≤ k - 1 := Nat.and_le_right
        unfold pcn
        rw [if_neg e, if_neg e, ih (k &&& (k - 1)) (by omega) f' (by omega)]
def pcv (k : Int) : Int := (pcn k.toNat k.toNat : Nat)
theorem pcv_0 : pcv 0 = 0 := rfl
theorem pcv_s {k : Int} (h0 : 0 < k) (h1 : k ≤ 2147483647) : pcv k = 1 + pcv (fw_and k (k - 1)) ∧ 0 ≤ pcv (fw_and k (k - 1)) := by
  have e := fw_and_nat (x := k) (y := k - 1) (by omega) h1 (by omega) (by omega)
  have hl : k.toNat &&& (k.toNat - 1) ≤ k.toNat - 1 := Nat.and_le_right
  have e2 : (k - 1).toNat = k.toNat - 1 := by omega
  unfold pcv
  rw [e, Int.toNat_natCast]
  obtain ⟨j, hj⟩ : ∃ j, k.toNat = j + 1 := ⟨k.toNat - 1, by omega⟩
  have e3 : pcn k.toNat k.toNat = 1 + pcn j (k.toNat &&& (k.toNat - 1)) := by
    rw [hj]
    rfl
  rw [e3, e2, pcn_st j (k.toNat &&& (k.toNat - 1)) (by omega) (k.toNat &&& (k.toNat - 1)) (Nat.le_refl _)]
  constructor <;> omega
theorem pcv_nn (k : Int) : 0 ≤ pcv k := by unfold pcv; omega
theorem fw_shl6 {n : Int} (h0 : 0 ≤ n) (h1 : n ≤ 6) : 1 ≤ fw_shl 1 n ∧ fw_shl 1 n ≤ 64 := by
  have e := fw_shl1 h0 (by omega)
  have hp : (2 : Nat) ^ n.toNat ≤ 2 ^ 6 := Nat.pow_le_pow_right (by omega) (by omega)
  omega
/-- sets of three or four doors -/
def wd_b (s x y z : Nat) : Bool := (decide (pcn s s = 3) || decide (pcn s s = 4)) && (s.testBit x && ((List.range 6).all (fun e => decide (x ≤ e) || !s.testBit e) && (s.testBit y && (decide (x < y) && ((List.range 6).all (fun e => decide (e ≤ x) || (decide (y ≤ e) || !s.testBit e)) && (s.testBit z && (decide (y < z) && (List.range 6).all (fun e => decide (e ≤ y) || (decide (z ≤ e) || !s.testBit e)))))))))
def wd_1 (s : Nat) : Bool := !(decide (pcn s s = 3) || decide (pcn s s = 4)) || (List.range 6).any (fun e => s.testBit e)
def wd_2 (s x : Nat) : Bool := !((decide (pcn s s = 3) || decide (pcn s s = 4)) && (s.testBit x && (List.range 6).all (fun e => decide (x ≤ e) || !s.testBit e))) || (List.range 6).any (fun e => decide (x < e) && s.testBit e)
def wd_3 (s x y : Nat) : Bool := !((decide (pcn s s = 3) || decide (pcn s s = 4)) && (s.testBit x && ((List.range 6).all (fun e => decide (x ≤ e) || !s.testBit e) && (s.testBit y && (decide (x < y) && (List.range 6).all (fun e => decide (e ≤ x) || (decide (y ≤ e) || !s.testBit e))))))) || (List.range 6).any (fun e => decide (y < e) && s.testBit e)
def wd_4 (s x y z : Nat) : Bool := !(decide (pcn s s = 4) && wd_b s x y z) || (List.range 6).any (fun e => decide (z < e) && s.testBit e)
theorem wd_all : (List.range 64).all (fun s => wd_1 s && (List.range 6).all (fun x => wd_2 s x && (List.range 6).all (fun y => wd_3 s x y && (List.range 6).all (fun z => wd_4 s x y z)))) = true := by decide +kernel
theorem wd_at {s : Nat} (hs : s < 64) : wd_1 s = true ∧ ∀ x, x < 6 → wd_2 s x = true ∧ ∀ y, y < 6 → wd_3 s x y = true ∧ ∀ z, z < 6 → wd_4 s x y z = true := by
  have h := List.all_eq_true.mp wd_all s (List.mem_range.mpr hs)
  rw [Bool.and_eq_true] at h
  refine ⟨h.1, fun x hx => ?_⟩
  have h2 := List.all_eq_true.mp h.2 x (List.mem_range.mpr hx)
  rw [Bool.and_eq_true] at h2
  refine ⟨h2.1, fun y hy => ?_⟩
  have h3 := List.all_eq_true.mp h2.2 y (List.mem_range.mpr hy)
  rw [Bool.and_eq_true] at h3
  exact ⟨h3.1, fun z hz => List.all_eq_true.mp h3.2 z (List.mem_range.mpr hz)⟩
def wd_n (s frm v : Int) : Prop := frm ≤ v ∧ v < 6 ∧ s.toNat.testBit v.toNat = true ∧ ∀ e : Int, frm ≤ e → e < v → s.toNat.testBit e.toNat = false
theorem wd_pc {s : Int} (h3 : pcv s = 3 ∨ pcv s = 4) : (decide (pcn s.toNat s.toNat = 3) || decide (pcn s.toNat s.toNat = 4)) = true := by
  unfold pcv at h3
  rcases h3 with h | h
  · have : pcn s.toNat s.toNat = 3 := by omega
    simp [this]
  · have : pcn s.toNat s.toNat = 4 := by omega
    simp [this]
theorem wd_up {s frm v : Int} (hf : 0 ≤ frm) (h : wd_n s frm v) : (List.range 6).all (fun e => decide (e < frm.toNat) || (decide (v.toNat ≤ e) || !s.toNat.testBit e)) = true := by
  rw [List.all_eq_true]
  intro e _
  by_cases c1 : e < frm.toNat
  · simp [c1]
  · by_cases c2 : v.toNat ≤ e
    · simp [c2]
    · have := h.2.2.2 (e : Int) (by omega) (by omega)
      rw [Int.toNat_natCast] at this
      simp [this]
theorem wd_e1 {s : Int} (h0 : 0 ≤ s) (h1 : s < 64) (h3 : pcv s = 3 ∨ pcv s = 4) : ∃ e : Int, 0 ≤ e ∧ e < 6 ∧ s.toNat.testBit e.toNat = true := by
  have h := (wd_at (s := s.toNat) (by omega)).1
  unfold wd_1 at h
  rw [wd_pc h3] at h
  obtain ⟨e, e1, e2⟩ := List.any_eq_true.mp (by simpa using h : (List.range 6).any (fun e => s.toNat.testBit e) = true)
  have := List.mem_range.mp e1
  exact ⟨e, by omega, by omega, by rw [Int.toNat_natCast]; exact e2⟩
theorem wd_e2 {s x : Int} (h0 : 0 ≤ s) (h1 : s < 64) (h3 : pcv s = 3 ∨ pcv s = 4) (hx : wd_n s 0 x) : ∃ e : Int, x + 1 ≤ e ∧ e < 6 ∧ s.toNat.testBit e.toNat = true := by
  have h := ((wd_at (s := s.toNat) (by omega)).2 x.toNat (by have := hx.1; have := hx.2.1; omega)).1
  have a := wd_up (by omega) hx
  have a' : (List.range 6).all (fun e => decide (x.toNat ≤ e) || !s.toNat.testBit e) = true := by simpa using a
  unfold wd_2 at h
  rw [wd_pc h3, hx.2.2.1, a'] at h
  obtain ⟨e, e1, e2⟩ := List.any_eq_true.mp (by simpa using h : (List.range 6).any (fun e => decide (x.toNat < e) && s.toNat.testBit e) = true)
  have := List.mem_range.mp e1
  rw [Bool.and_eq_true] at e2
  have e3 := of_decide_eq_true e2.1
  exact ⟨e, by have := hx.1; omega, by omega, by rw [Int.toNat_natCast]; exact e2.2⟩
