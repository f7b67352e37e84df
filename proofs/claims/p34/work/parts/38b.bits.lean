/-! bits of ints that are not negative, as those of natural numbers -/
theorem fw_of {x : Int} (h0 : 0 ≤ x) (h1 : x ≤ 2147483647) : (Int32.ofInt x).toInt = x ∧ (Int32.ofInt x).toBitVec.toNat = x.toNat := by
  have e : (Int32.ofInt x).toInt = x := Int32.toInt_ofInt_of_le (by omega) (by omega)
  refine ⟨e, ?_⟩
  have := (ai_nat (i := Int32.ofInt x) (by omega)).1
  rw [this, e]
theorem fw_and_b (x : Int) {y : Int} (h0 : 0 ≤ y) (h1 : y ≤ 2147483647) : 0 ≤ fw_and x y ∧ fw_and x y ≤ y := by
  have e := (fw_of h0 h1).1
  have := ai_and_le (Int32.ofInt x) (Int32.ofInt y) (by omega)
  unfold fw_and
  omega
theorem fw_and_nat {x y : Int} (h0 : 0 ≤ x) (h1 : x ≤ 2147483647) (h2 : 0 ≤ y) (h3 : y ≤ 2147483647) : fw_and x y = ((x.toNat &&& y.toNat : Nat) : Int) := by
  obtain ⟨-, e1⟩ := fw_of h0 h1
  obtain ⟨-, e2⟩ := fw_of h2 h3
  have hb : (Int32.ofInt x &&& Int32.ofInt y).toBitVec.toNat = x.toNat &&& y.toNat := by
    rw [Int32.toBitVec_and, BitVec.toNat_and, e1, e2]
  have hl : x.toNat &&& y.toNat ≤ y.toNat := Nat.and_le_right
  have e : (Int32.ofInt x &&& Int32.ofInt y).toInt = ((Int32.ofInt x &&& Int32.ofInt y).toBitVec.toNat : Int) := ai_ofnat (b := (Int32.ofInt x &&& Int32.ofInt y).toBitVec) (by omega)
  unfold fw_and
  rw [e, hb]
theorem fw_or_nat {x y : Int} (h0 : 0 ≤ x) (h1 : x ≤ 2147483647) (h2 : 0 ≤ y) (h3 : y ≤ 2147483647) : fw_or x y = ((x.toNat ||| y.toNat : Nat) : Int) := by
  obtain ⟨-, e1⟩ := fw_of h0 h1
  obtain ⟨-, e2⟩ := fw_of h2 h3
  have hb : (Int32.ofInt x ||| Int32.ofInt y).toBitVec.toNat = x.toNat ||| y.toNat := by
    rw [Int32.toBitVec_or, BitVec.toNat_or, e1, e2]
  have hl : x.toNat ||| y.toNat < 2 ^ 31 := Nat.or_lt_two_pow (by omega) (by omega)
  have e : (Int32.ofInt x ||| Int32.ofInt y).toInt = ((Int32.ofInt x ||| Int32.ofInt y).toBitVec.toNat : Int) := ai_ofnat (b := (Int32.ofInt x ||| Int32.ofInt y).toBitVec) (by omega)
  unfold fw_or
  rw [e, hb]
theorem fw_or_b {x y : Int} (k : Nat) (hk : k ≤ 31) (h0 : 0 ≤ x) (h1 : x < 2 ^ k) (h2 : 0 ≤ y) (h3 : y < 2 ^ k) : 0 ≤ fw_or x y ∧ fw_or x y < 2 ^ k := by
  have hp : (2 : Nat) ^ k ≤ 2 ^ 31 := Nat.pow_le_pow_right (by omega) hk
  have p0 : ((2 ^ k : Nat) : Int) = (2 : Int) ^ k := by simp
  have hl : x.toNat ||| y.toNat < 2 ^ k := Nat.or_lt_two_pow (by omega) (by omega)
  rw [fw_or_nat h0 (by omega) h2 (by omega)]
  omega
theorem fw_shl_nat {n k : Nat} (hk : k < 32) (h : n * 2 ^ k < 2147483648) : fw_shl n k = ((n * 2 ^ k : Nat) : Int) := by
  have hp1 : 1 ≤ (2 : Nat) ^ k := Nat.one_le_two_pow
  have hlo : n * 1 ≤ n * 2 ^ k := Nat.mul_le_mul_left n hp1
  have ek : (Int32.ofInt (k : Int)).toInt = k := (fw_of (by omega) (by omega)).1
  have en : (Int32.ofInt (n : Int)).toInt = n := (fw_of (by omega) (by omega)).1
  obtain ⟨j, k1, k2, k3⟩ := ai_s31 (Int32.ofInt (k : Int))
  have k4 := k3 (by omega) (by omega)
  have k5 : j = k := by omega
  subst k5
  obtain ⟨m, q1, q2, q3⟩ := ai_nI (i := Int32.ofInt (n : Int)) (by omega)
  have q4 : m = n := by omega
  subst q4
  unfold fw_shl
  rw [k2, q2, pk_shlN (nI j) j (ai_sh j k1) (by omega), nI_toInt (by omega)]
theorem fw_shl1 {n : Int} (h0 : 0 ≤ n) (h1 : n ≤ 14) : fw_shl 1 n = ((2 ^ n.toNat : Nat) : Int) ∧ 1 ≤ fw_shl 1 n ∧ fw_shl 1 n ≤ 16384 := by
  have hp : (2 : Nat) ^ n.toNat ≤ 2 ^ 14 := Nat.pow_le_pow_right (by omega) (by omega)
  have hp1 : 1 ≤ (2 : Nat) ^ n.toNat := Nat.one_le_two_pow
  have e := fw_shl_nat (n := 1) (k := n.toNat) (by omega) (by omega)
  rw [Int.toNat_of_nonneg h0, Nat.one_mul] at e
  have e : fw_shl 1 n = ((2 ^ n.toNat : Nat) : Int) := e
  refine ⟨e, ?_, ?_⟩ <;> omega
theorem fw_shr_nat {x k : Int} (h0 : 0 ≤ x) (h1 : x ≤ 2147483647) (h2 : 0 ≤ k) (h3 : k < 32) : fw_shr x k = ((x.toNat / 2 ^ k.toNat : Nat) : Int) := by
  have ek : (Int32.ofInt k).toInt = k := (fw_of h2 (by omega)).1
  have en : (Int32.ofInt x).toInt = x := (fw_of h0 h1).1
  obtain ⟨j, k1, k2, k3⟩ := ai_s31 (Int32.ofInt k)
  have k4 := k3 (by omega) (by omega)
  have k5 : j = k.toNat := by omega
  subst k5
  obtain ⟨m, q1, q2, q3⟩ := ai_nI (i := Int32.ofInt x) (by omega)
  have q4 : m = x.toNat := by omega
  subst q4
  have hd : x.toNat / 2 ^ k.toNat ≤ x.toNat := Nat.div_le_self _ _
  unfold fw_shr
  rw [k2, q2, pk_shrN q1 (nI k.toNat) k.toNat (ai_sh k.toNat k1), nI_toInt (by omega)]
theorem fw_bit {x k : Int} (h0 : 0 ≤ x) (h1 : x ≤ 2147483647) (h2 : 0 ≤ k) (h3 : k < 32) : fw_and (fw_shr x k) 1 = (if x.toNat.testBit k.toNat = true then 1 else 0) := by
  have hd : x.toNat / 2 ^ k.toNat ≤ x.toNat := Nat.div_le_self _ _
  have e2 : x.toNat.testBit k.toNat = decide (x.toNat / 2 ^ k.toNat % 2 = 1) := Nat.testBit_eq_decide_div_mod_eq
  rw [fw_shr_nat h0 h1 h2 h3, e2]
  revert hd
  generalize x.toNat / 2 ^ k.toNat = q
  intro hd
  rw [fw_and_nat (by omega) (by omega) (by decide) (by decide), Int.toNat_natCast]
  have e : (1 : Int).toNat = 1 := rfl
  rw [e, Nat.and_one_is_mod]
  by_cases c : q % 2 = 1
  · rw [c]; rfl
  · have c0 : q % 2 = 0 := by omega
    rw [c0]; rfl
