/-! the class, method by method -/
/-! a town copied: its houses, the others' -/
def far4 (a b : Nat) : Prop := a + 4 ≤ b ∨ b + 4 ≤ a
def ta (W : fw_W) (c : Nat) : Prop := 0 ≤ fw_g W c 0 ∧ fw_g W c 0 ≤ 14 ∧ tr (fw_g W c 0) (fun z => fw_g W (c + 1) z)
theorem nbq {a b : Nat} (h : a ≠ b) : Nat.beq a b = false := by
  cases e : Nat.beq a b with
  | false => rfl
  | true => exact absurd (Nat.eq_of_beq_eq_true e) h
theorem cpy_o {W : fw_W} {s t c : Nat} {i : Int} (h : c < s ∨ s + 4 ≤ c) : fw_g (cpy W s t) c i = fw_g W c i := by
  unfold cpy cpy3 cpy2 cpy1
  rw [fg_cpo (nbq (by omega)), fg_cpo (nbq (by omega)), fg_cpo (nbq (by omega)), fg_up (nbq (by omega)), fg_up (nbq (by omega))]
theorem cpy_n {W : fw_W} {s t : Nat} (h : far4 s t) : fw_g (cpy W s t) s 0 = fw_g W t 0 := by
  have b := fw_g_b W t 0
  unfold cpy cpy3 cpy2 cpy1
  rw [fg_cpo (nbq (by omega)), fg_cpo (nbq (by omega)), fg_cpo (nbq (by omega)), fg_lit rfl, fg_same b.1 b.2]
theorem cpy_h {W : fw_W} {s t : Nat} {i : Int} (h : far4 s t) (i0 : 0 ≤ i) (i1 : i < fw_g W t 0) : fw_g (cpy W s t) (s + 1) i = fw_g W (t + 1) i := by
  have b := fw_g_b W t 0
  unfold far4 at h
  have e : fw_g (cpy1 W s t) s 0 = fw_g W t 0 := by
    unfold cpy1
    rw [fg_lit rfl, fg_same b.1 b.2]
  unfold cpy
  rw [fg_cpo (nbq (by omega))]
  unfold cpy3
  rw [fg_cpo (nbq (by omega))]
  unfold cpy2
  rw [fg_cp i0, e, if_pos i1]
  unfold cpy1
  rw [fg_up (nbq (by omega)), fg_up (nbq (by omega))]
theorem cpy_ta {W : fw_W} {s t : Nat} (h : far4 s t) (a : ta W t) : ta (cpy W s t) s := by
  obtain ⟨a1, a2, a3⟩ := a
  refine ⟨by rw [cpy_n h]; exact a1, by rw [cpy_n h]; exact a2, ?_⟩
  rw [cpy_n h]
  exact tr_congr a3 (fun k k1 k2 => cpy_h h k1 k2)
theorem cpy_tb {W : fw_W} {s t c : Nat} (h : far4 s c) (a : ta W c) : ta (cpy W s t) c := by
  unfold far4 at h
  obtain ⟨a1, a2, a3⟩ := a
  have e0 : fw_g (cpy W s t) c 0 = fw_g W c 0 := cpy_o (by omega)
  refine ⟨by rw [e0]; exact a1, by rw [e0]; exact a2, ?_⟩
  rw [e0]
  exact tr_congr a3 (fun k k1 k2 => cpy_o (by omega))
theorem ta_up {W : fw_W} {c c' : Nat} {i z : Int} (h1 : c' ≠ c) (h2 : c' ≠ c + 1) (a : ta W c) : ta (fw_up W c' i z) c := by
  obtain ⟨a1, a2, a3⟩ := a
  have e0 : fw_g (fw_up W c' i z) c 0 = fw_g W c 0 := fg_up (nbq (fun e => h1 e.symm))
  refine ⟨by rw [e0]; exact a1, by rw [e0]; exact a2, ?_⟩
  rw [e0]
  exact tr_congr a3 (fun k k1 k2 => fg_up (nbq (fun e => h2 e.symm)))
def kpl : List Nat := [39, 43, 47, 51, 55, 59, 63, 67, 71, 75, 79, 83, 87, 91, 95, 99, 103, 107, 111, 115, 119, 123, 127, 131, 135, 139, 143, 147, 151, 155, 159, 163, 167, 171, 175, 179, 183, 187, 191, 195, 199]
theorem kpl_ok : kpl.all (fun k => decide (k % 4 = 3 ∧ 39 ≤ k ∧ k ≤ 199)) = true := by decide
theorem kpl_m {k : Nat} (h : k ∈ kpl) : k % 4 = 3 ∧ 39 ≤ k ∧ k ≤ 199 := of_decide_eq_true (List.all_eq_true.mp kpl_ok k h)
def ka (W : fw_W) : Prop := ∀ k ∈ kpl, ta W k
theorem ka_cpy {W : fw_W} {s : Nat} (h : s ∈ kpl) (a : ta W 12) (b : ka W) : ka (cpy W s 12) := fun k hk => by
  have h1 := kpl_m h
  have h2 := kpl_m hk
  by_cases e : k = s
  · rw [e]
    exact cpy_ta (by unfold far4; omega) a
  · exact cpy_tb (by unfold far4; omega) (b k hk)
theorem ka_up {W : fw_W} {c : Nat} {i z : Int} (h : c < 39 ∨ 203 ≤ c) (b : ka W) : ka (fw_up W c i z) := fun k hk => by
  have h2 := kpl_m hk
  exact ta_up (by omega) (by omega) (b k hk)
theorem fw_sm_cpy {S : List Nat} {o : Nat} {F : List Nat} {W W2 : fw_W} {s t : Nat} (h : fw_sm S o F W W2) (e0 : fw_inS S o F s 0 = true) (e1 : fw_inS S o F s 1 = true) (e2 : S.any (fun k => Nat.beq k (s + 1)) = true) (e3 : S.any (fun k => Nat.beq k (s + 2)) = true) (e4 : S.any (fun k => Nat.beq k (s + 3)) = true) : fw_sm S o F W (cpy W2 s t) := by
  unfold cpy cpy3 cpy2 cpy1
  exact fw_sm_cp (fw_sm_cp (fw_sm_cp (fw_sm_up (fw_sm_up h e0) e1) e2) e3) e4

