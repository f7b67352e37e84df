/-! the checker's bits, shifts, divisions -/
theorem ai_nat {i : Int32} (h : 0 ≤ i.toInt) : i.toBitVec.toNat = i.toInt.toNat ∧ (i.toBitVec.toNat : Int) = i.toInt ∧ i.toBitVec.toNat < 2147483648 := by
  have e : i.toInt = i.toBitVec.toInt := rfl
  have h2 := BitVec.toInt_eq_toNat_cond i.toBitVec
  have h3 := i.toBitVec.isLt
  rw [e] at h ⊢
  split at h2 <;> omega
theorem ai_ofnat {b : BitVec 32} (h : b.toNat < 2147483648) : (Int32.ofBitVec b).toInt = (b.toNat : Int) := by
  show b.toInt = _
  rw [BitVec.toInt_eq_toNat_of_lt (by omega)]
theorem ai_nI {i : Int32} (h : 0 ≤ i.toInt) : ∃ n : Nat, n < 2 ^ 31 ∧ i = nI n ∧ (n : Int) = i.toInt := by
  obtain ⟨j, h1, h2⟩ := nI_of (x := i) (by
    intro q
    have := Int32.lt_iff_toInt_lt.mp q
    rw [Int32.toInt_zero] at this
    omega)
  exact ⟨j, h1, h2, by rw [h2, nI_toInt h1]⟩
/-- the least 2^k - 1 that isn't less -/
def ai_lg (x : Int) : Nat := if x ≤ 0 then 0 else if x ≤ 1 then 1 else if x ≤ 3 then 2 else if x ≤ 7 then 3 else if x ≤ 15 then 4 else if x ≤ 31 then 5 else if x ≤ 63 then 6 else if x ≤ 127 then 7 else if x ≤ 255 then 8 else if x ≤ 511 then 9 else if x ≤ 1023 then 10 else if x ≤ 2047 then 11 else if x ≤ 4095 then 12 else if x ≤ 8191 then 13 else if x ≤ 16383 then 14 else if x ≤ 32767 then 15 else if x ≤ 65535 then 16 else if x ≤ 4194303 then 22 else 31
def ai_ones (x : Int) : Int := 2 ^ ai_lg x - 1
theorem ai_lg_31 (x : Int) : ai_lg x ≤ 31 := by
  unfold ai_lg
  by_cases h0 : x ≤ 0
  · rw [if_pos h0]; omega
  rw [if_neg h0]
  by_cases h1 : x ≤ 1
  · rw [if_pos h1]; omega
  rw [if_neg h1]
  by_cases h2 : x ≤ 3
  · rw [if_pos h2]; omega
  rw [if_neg h2]
  by_cases h3 : x ≤ 7
  · rw [if_pos h3]; omega
  rw [if_neg h3]
  by_cases h4 : x ≤ 15
  · rw [if_pos h4]; omega
  rw [if_neg h4]
  by_cases h5 : x ≤ 31
  · rw [if_pos h5]; omega
  rw [if_neg h5]
  by_cases h6 : x ≤ 63
  · rw [if_pos h6]; omega
  rw [if_neg h6]
  by_cases h7 : x ≤ 127
  · rw [if_pos h7]; omega
  rw [if_neg h7]
  by_cases h8 : x ≤ 255
  · rw [if_pos h8]; omega
  rw [if_neg h8]
  by_cases h9 : x ≤ 511
  · rw [if_pos h9]; omega
  rw [if_neg h9]
  by_cases h10 : x ≤ 1023
  · rw [if_pos h10]; omega
  rw [if_neg h10]
  by_cases h11 : x ≤ 2047
  · rw [if_pos h11]; omega
  rw [if_neg h11]
  by_cases h12 : x ≤ 4095
  · rw [if_pos h12]; omega
  rw [if_neg h12]
  by_cases h13 : x ≤ 8191
  · rw [if_pos h13]; omega
  rw [if_neg h13]
  by_cases h14 : x ≤ 16383
  · rw [if_pos h14]; omega
  rw [if_neg h14]
  by_cases h15 : x ≤ 32767
  · rw [if_pos h15]; omega
  rw [if_neg h15]
  by_cases h16 : x ≤ 65535
  · rw [if_pos h16]; omega
  rw [if_neg h16]
  by_cases h22 : x ≤ 4194303
  · rw [if_pos h22]; omega
  rw [if_neg h22]
  omega
theorem ai_lg_le {x : Int} (h : x ≤ 2147483647) : x ≤ 2 ^ ai_lg x - 1 := by
  unfold ai_lg
  by_cases h0 : x ≤ 0
  · rw [if_pos h0]; omega
  rw [if_neg h0]
  by_cases h1 : x ≤ 1
  · rw [if_pos h1]; omega
  rw [if_neg h1]
  by_cases h2 : x ≤ 3
  · rw [if_pos h2]; omega
  rw [if_neg h2]
  by_cases h3 : x ≤ 7
  · rw [if_pos h3]; omega
  rw [if_neg h3]
  by_cases h4 : x ≤ 15
  · rw [if_pos h4]; omega
  rw [if_neg h4]
  by_cases h5 : x ≤ 31
  · rw [if_pos h5]; omega
  rw [if_neg h5]
  by_cases h6 : x ≤ 63
  · rw [if_pos h6]; omega
  rw [if_neg h6]
  by_cases h7 : x ≤ 127
  · rw [if_pos h7]; omega
  rw [if_neg h7]
  by_cases h8 : x ≤ 255
  · rw [if_pos h8]; omega
  rw [if_neg h8]
  by_cases h9 : x ≤ 511
  · rw [if_pos h9]; omega
  rw [if_neg h9]
  by_cases h10 : x ≤ 1023
  · rw [if_pos h10]; omega
  rw [if_neg h10]
  by_cases h11 : x ≤ 2047
  · rw [if_pos h11]; omega
  rw [if_neg h11]
  by_cases h12 : x ≤ 4095
  · rw [if_pos h12]; omega
  rw [if_neg h12]
  by_cases h13 : x ≤ 8191
  · rw [if_pos h13]; omega
  rw [if_neg h13]
  by_cases h14 : x ≤ 16383
  · rw [if_pos h14]; omega
  rw [if_neg h14]
  by_cases h15 : x ≤ 32767
  · rw [if_pos h15]; omega
  rw [if_neg h15]
  by_cases h16 : x ≤ 65535
  · rw [if_pos h16]; omega
  rw [if_neg h16]
  by_cases h22 : x ≤ 4194303
  · rw [if_pos h22]; omega
  rw [if_neg h22]
  omega
theorem ai_ones_ok {x : Int} (h : x ≤ ai_max) : ∃ k : Nat, k ≤ 31 ∧ ai_ones x = 2 ^ k - 1 ∧ x ≤ ai_ones x := ⟨ai_lg x, ai_lg_31 x, rfl, ai_lg_le h⟩
section AB
variable {W : Nat → Nat → Int32} {T : List ai_C} {ρ : Nat → Int} {Z : ai_S} {h : jm_H}
def ai_and (Z : ai_S) (a b : Nat × Int) : ai_V × ai_S :=
  if 0 ≤ ai_l Z.2.1 b then (if 0 ≤ ai_l Z.2.1 a ∧ ai_h Z.2.1 a ≤ ai_h Z.2.1 b then ai_mk Z 0 (ai_h Z.2.1 a) else ai_mk Z 0 (ai_h Z.2.1 b)) else if 0 ≤ ai_l Z.2.1 a then ai_mk Z 0 (ai_h Z.2.1 a) else ai_mk Z ai_min ai_max
theorem ai_and_le (i j : Int32) (hj : 0 ≤ j.toInt) : 0 ≤ (i &&& j).toInt ∧ (i &&& j).toInt ≤ j.toInt := by
  have hn := ai_nat hj
  have hb : (i &&& j).toBitVec.toNat ≤ j.toBitVec.toNat := by
    rw [Int32.toBitVec_and, BitVec.toNat_and]
    exact Nat.and_le_right
  have e := ai_ofnat (b := (i &&& j).toBitVec) (by omega)
  have e2 : (i &&& j).toInt = ((i &&& j).toBitVec.toNat : Int) := e
  omega
theorem ai_and_comm (i j : Int32) : i &&& j = j &&& i := by
  apply Int32.toBitVec_inj.mp
  rw [Int32.toBitVec_and, Int32.toBitVec_and, BitVec.and_comm]
theorem ai_and_ok {a b : Nat × Int} {i j : Int32} (hs : ai_gs W T ρ Z h) (ha : a.1 < Z.1 ∧ i.toInt = ρ a.1 + a.2) (hb : b.1 < Z.1 ∧ j.toInt = ρ b.1 + b.2) : ai_R W T ρ Z h (ai_and Z a b) (.int (i &&& j)) := by
  have l1 := ai_lh hs.2.1 hs.2.2.1 ha.2
  have l2 := ai_lh hs.2.1 hs.2.2.1 hb.2
  unfold ai_and
  split
  · have q := ai_and_le i j (by omega)
    split
    · have q2 := ai_and_le j i (by omega)
      rw [ai_and_comm] at q2
      exact ai_mk_ok hs (by omega) (by omega)
    · exact ai_mk_ok hs (by omega) (by omega)
  · split
    · have q2 := ai_and_le j i (by omega)
      rw [ai_and_comm] at q2
      exact ai_mk_ok hs (by omega) (by omega)
    · exact ai_full hs
def ai_orx (Z : ai_S) (a b : Nat × Int) : ai_V × ai_S :=
  if 0 ≤ ai_l Z.2.1 a ∧ 0 ≤ ai_l Z.2.1 b then ai_mk Z 0 (ai_ones (ai_mx (ai_h Z.2.1 a) (ai_h Z.2.1 b))) else ai_mk Z ai_min ai_max
theorem ai_orx_ok {a b : Nat × Int} {i j r : Int32} (hs : ai_gs W T ρ Z h) (ha : a.1 < Z.1 ∧ i.toInt = ρ a.1 + a.2) (hb : b.1 < Z.1 ∧ j.toInt = ρ b.1 + b.2) (hr : r = i ||| j ∨ r = i ^^^ j) : ai_R W T ρ Z h (ai_orx Z a b) (.int r) := by
  have l1 := ai_lh hs.2.1 hs.2.2.1 ha.2
  have l2 := ai_lh hs.2.1 hs.2.2.1 hb.2
  unfold ai_orx
  split
  · rename_i hz
    have n1 := ai_nat (i := i) (by omega)
    have n2 := ai_nat (i := j) (by omega)
    have u1 : ai_h Z.2.1 a ≤ ai_max := by unfold ai_h; split; (split <;> omega); omega
    have u2 : ai_h Z.2.1 b ≤ ai_max := by unfold ai_h; split; (split <;> omega); omega
    obtain ⟨k, k1, k2, k3⟩ := ai_ones_ok (x := ai_mx (ai_h Z.2.1 a) (ai_h Z.2.1 b)) (by unfold ai_mx; split <;> omega)
    have m1 : ai_h Z.2.1 a ≤ ai_mx (ai_h Z.2.1 a) (ai_h Z.2.1 b) := by unfold ai_mx; split <;> omega
    have m2 : ai_h Z.2.1 b ≤ ai_mx (ai_h Z.2.1 a) (ai_h Z.2.1 b) := by unfold ai_mx; split <;> omega
    have p0 : ((2 ^ k : Nat) : Int) = (2 : Int) ^ k := by simp
    have b1 : i.toBitVec.toNat < 2 ^ k := by omega
    have b2 : j.toBitVec.toNat < 2 ^ k := by omega
    have hk : (2 : Nat) ^ k ≤ 2 ^ 31 := Nat.pow_le_pow_right (by omega) k1
    have hlt : r.toBitVec.toNat < 2 ^ k := by
      rcases hr with rfl | rfl
      · rw [Int32.toBitVec_or, BitVec.toNat_or]
        exact Nat.or_lt_two_pow b1 b2
      · rw [Int32.toBitVec_xor, BitVec.toNat_xor]
        exact Nat.xor_lt_two_pow b1 b2
    have e : r.toInt = (r.toBitVec.toNat : Int) := ai_ofnat (b := r.toBitVec) (by omega)
    exact ai_mk_ok hs (by omega) (by omega)
  · exact ai_full hs
theorem ai_sh : ∀ n, n < 32 → ((nI n).toBitVec.smod 32).toNat = n := by decide +kernel
theorem ai_shu : ∀ n, n < 32 → ((nI n).toUInt32 &&& Int32.toUInt32 31).toBitVec.toNat = n := by decide +kernel
theorem ai_s31 (y : Int32) : ∃ k : Nat, k < 32 ∧ y &&& 31 = nI k ∧ (0 ≤ y.toInt → y.toInt < 32 → (k : Int) = y.toInt) := by
  obtain ⟨k, h1, h2⟩ := pk_andE y (m := 31) 5 (by decide)
  refine ⟨k, h1, h2, fun g1 g2 => ?_⟩
  obtain ⟨n, q1, q2, q3⟩ := ai_nI g1
  have hn : n < 32 := by omega
  have e := pk_andN (n := n) (by omega) (m := 31) 5 (by decide)
  rw [← q2, h2, Nat.mod_eq_of_lt hn] at e
  have e1 := congrArg Int32.toInt e
  rw [nI_toInt (by omega), nI_toInt (by omega)] at e1
  omega
def ai_shl (Z : ai_S) (a b : Nat × Int) : ai_V × ai_S :=
  if 0 ≤ ai_l Z.2.1 a ∧ 0 ≤ ai_l Z.2.1 b ∧ ai_h Z.2.1 b < 31 ∧ ai_h Z.2.1 a * 2 ^ (ai_h Z.2.1 b).toNat ≤ ai_max then ai_mk Z (ai_l Z.2.1 a) (ai_h Z.2.1 a * 2 ^ (ai_h Z.2.1 b).toNat) else ai_mk Z ai_min ai_max
theorem ai_shl_ok {a b : Nat × Int} {i j : Int32} (hs : ai_gs W T ρ Z h) (ha : a.1 < Z.1 ∧ i.toInt = ρ a.1 + a.2) (hb : b.1 < Z.1 ∧ j.toInt = ρ b.1 + b.2) : ai_R W T ρ Z h (ai_shl Z a b) (.int (i <<< (j &&& 31))) := by
  have l1 := ai_lh hs.2.1 hs.2.2.1 ha.2
  have l2 := ai_lh hs.2.1 hs.2.2.1 hb.2
  unfold ai_shl
  split
  · rename_i hz
    obtain ⟨z1, z2, z3, z4⟩ := hz
    obtain ⟨k, k1, k2, k3⟩ := ai_s31 j
    have k4 := k3 (by omega) (by omega)
    obtain ⟨n, q1, q2, q3⟩ := ai_nI (i := i) (by omega)
    have hkk : k ≤ (ai_h Z.2.1 b).toNat := by omega
    have hp : (2 : Nat) ^ k ≤ 2 ^ (ai_h Z.2.1 b).toNat := Nat.pow_le_pow_right (by omega) hkk
    have hp1 : 1 ≤ (2 : Nat) ^ k := Nat.one_le_two_pow
    have hA : n ≤ (ai_h Z.2.1 a).toNat := by omega
    have hm : n * 2 ^ k ≤ (ai_h Z.2.1 a).toNat * 2 ^ (ai_h Z.2.1 b).toNat := Nat.mul_le_mul hA hp
    have hc : (((ai_h Z.2.1 a).toNat * 2 ^ (ai_h Z.2.1 b).toNat : Nat) : Int) = ai_h Z.2.1 a * 2 ^ (ai_h Z.2.1 b).toNat := by
      rw [Int.natCast_mul, Int.toNat_of_nonneg (by omega)]
      simp
    have hlo : n * 1 ≤ n * 2 ^ k := Nat.mul_le_mul_left n hp1
    unfold ai_max at z4
    have e : (i <<< (j &&& 31)).toInt = ((n * 2 ^ k : Nat) : Int) := by
      rw [k2, q2, pk_shlN (nI k) k (ai_sh k k1) (by omega), nI_toInt (by omega)]
    exact ai_mk_ok hs (by omega) (by omega)
  · exact ai_full hs
def ai_shr (Z : ai_S) (a b : Nat × Int) : ai_V × ai_S :=
  if 0 ≤ ai_l Z.2.1 a then (if b.1 = 0 ∧ 0 ≤ b.2 ∧ b.2 < 32 then ai_mk Z 0 (ai_h Z.2.1 a / 2 ^ b.2.toNat) else ai_mk Z 0 (ai_h Z.2.1 a)) else ai_mk Z ai_min ai_max
theorem ai_shr_ok {a b : Nat × Int} {i j : Int32} (hs : ai_gs W T ρ Z h) (ha : a.1 < Z.1 ∧ i.toInt = ρ a.1 + a.2) (hb : b.1 < Z.1 ∧ j.toInt = ρ b.1 + b.2) : ai_R W T ρ Z h (ai_shr Z a b) (.int (i >>> (j &&& 31))) := by
  have l1 := ai_lh hs.2.1 hs.2.2.1 ha.2
  unfold ai_shr
  split
  · rename_i hz
    obtain ⟨k, k1, k2, k3⟩ := ai_s31 j
    obtain ⟨n, q1, q2, q3⟩ := ai_nI (i := i) (by omega)
    have hd : n / 2 ^ k ≤ n := Nat.div_le_self _ _
    have e : (i >>> (j &&& 31)).toInt = ((n / 2 ^ k : Nat) : Int) := by
      rw [k2, q2, pk_shrN q1 (nI k) k (ai_sh k k1), nI_toInt (by omega)]
    have e0 : 0 ≤ (i >>> (j &&& 31)).toInt := by rw [e]; exact Int.natCast_nonneg _
    have e9 : (i >>> (j &&& 31)).toInt ≤ (n : Int) := by rw [e]; exact Int.ofNat_le.mpr hd
    split
    · rename_i hc
      have hj := hb.2
      rw [hc.1, hs.2.1] at hj
      have k4 := k3 (by omega) (by omega)
      have hk : k = b.2.toNat := by omega
      subst hk
      refine ai_mk_ok hs e0 ?_
      rw [e]
      have h1 : ((n / 2 ^ b.2.toNat : Nat) : Int) = (n : Int) / 2 ^ b.2.toNat := by simp
      rw [h1]
      exact Int.ediv_le_ediv (by exact Int.pow_pos (by omega)) (by omega)
    · exact ai_mk_ok hs (by omega) (by omega)
  · exact ai_full hs
def ai_ushr (Z : ai_S) (a b : Nat × Int) : ai_V × ai_S :=
  if 0 ≤ ai_l Z.2.1 a then (if b.1 = 0 ∧ 0 ≤ b.2 ∧ b.2 < 32 then ai_mk Z 0 (ai_h Z.2.1 a / 2 ^ b.2.toNat) else ai_mk Z 0 (ai_h Z.2.1 a)) else ai_mk Z ai_min ai_max
theorem ai_dv {a b : Nat × Int} {i j : Int32} (h0 : 0 ≤ i.toInt) (h1 : 1 ≤ j.toInt) : ∃ n d : Nat, n < 2 ^ 31 ∧ d < 2 ^ 31 ∧ 0 < d ∧ i = nI n ∧ j = nI d ∧ (n : Int) = i.toInt ∧ (d : Int) = j.toInt := by
  obtain ⟨n, a1, a2, a3⟩ := ai_nI h0
  obtain ⟨d, b1, b2, b3⟩ := ai_nI (i := j) (by omega)
  exact ⟨n, d, a1, b1, by omega, a2, b2, a3, b3⟩
def ai_div (Z : ai_S) (a b : Nat × Int) : Option (ai_V × ai_S) :=
  if 1 ≤ ai_l Z.2.1 b then (if 0 ≤ ai_l Z.2.1 a then some (ai_mk Z 0 (ai_h Z.2.1 a / ai_l Z.2.1 b)) else some (ai_mk Z ai_min ai_max)) else none
theorem ai_div_ok {a b : Nat × Int} {i j : Int32} {r : ai_V × ai_S} (hs : ai_gs W T ρ Z h) (ha : a.1 < Z.1 ∧ i.toInt = ρ a.1 + a.2) (hb : b.1 < Z.1 ∧ j.toInt = ρ b.1 + b.2) (hr : ai_div Z a b = some r) : ¬ j = 0 ∧ ai_R W T ρ Z h r (.int (i / j)) := by
  have l1 := ai_lh hs.2.1 hs.2.2.1 ha.2
  have l2 := ai_lh hs.2.1 hs.2.2.1 hb.2
  unfold ai_div at hr
  split at hr
  · rename_i hz
    have hne : ¬ j = 0 := fun q => by rw [q, Int32.toInt_zero] at l2; omega
    split at hr
    · cases hr
      refine ⟨hne, ?_⟩
      obtain ⟨n, d, n1, d1, d0, e1, e2, e3, e4⟩ := ai_dv (a := a) (b := b) (i := i) (j := j) (by omega) (by omega)
      have e : (i / j).toInt = ((n / d : Nat) : Int) := by
        rw [e1, e2, pk_div n1 d0 d1, nI_toInt (Nat.lt_of_le_of_lt (Nat.div_le_self _ _) n1)]
      have hle : n / d ≤ n / (ai_l Z.2.1 b).toNat := Nat.div_le_div_left (by omega) (by omega)
      have hle2 : n / (ai_l Z.2.1 b).toNat ≤ (ai_h Z.2.1 a).toNat / (ai_l Z.2.1 b).toNat := Nat.div_le_div_right (by omega)
      have hc : (((ai_h Z.2.1 a).toNat / (ai_l Z.2.1 b).toNat : Nat) : Int) = ai_h Z.2.1 a / ai_l Z.2.1 b := by
        rw [Int.natCast_ediv, Int.toNat_of_nonneg (by omega), Int.toNat_of_nonneg (by omega)]
      rw [← hc]
      exact ai_mk_ok hs (by rw [e]; exact Int.natCast_nonneg _) (by rw [e]; exact Int.ofNat_le.mpr (Nat.le_trans hle hle2))
    · cases hr
      exact ⟨hne, ai_full hs⟩
  · cases hr
def ai_rem (Z : ai_S) (a b : Nat × Int) : Option (ai_V × ai_S) :=
  if 1 ≤ ai_l Z.2.1 b then (if 0 ≤ ai_l Z.2.1 a then some (ai_mk Z 0 (ai_mn (ai_h Z.2.1 a) (ai_h Z.2.1 b - 1))) else some (ai_mk Z ai_min ai_max)) else none
theorem ai_rem_ok {a b : Nat × Int} {i j : Int32} {r : ai_V × ai_S} (hs : ai_gs W T ρ Z h) (ha : a.1 < Z.1 ∧ i.toInt = ρ a.1 + a.2) (hb : b.1 < Z.1 ∧ j.toInt = ρ b.1 + b.2) (hr : ai_rem Z a b = some r) : ¬ j = 0 ∧ ai_R W T ρ Z h r (.int (i - i / j * j)) := by
  have l1 := ai_lh hs.2.1 hs.2.2.1 ha.2
  have l2 := ai_lh hs.2.1 hs.2.2.1 hb.2
  unfold ai_rem at hr
  split at hr
  · rename_i hz
    have hne : ¬ j = 0 := fun q => by rw [q, Int32.toInt_zero] at l2; omega
    split at hr
    · cases hr
      refine ⟨hne, ?_⟩
      obtain ⟨n, d, n1, d1, d0, e1, e2, e3, e4⟩ := ai_dv (a := a) (b := b) (i := i) (j := j) (by omega) (by omega)
      have hlt : n % d < d := Nat.mod_lt _ d0
      have hle : n % d ≤ n := Nat.mod_le _ _
      have e : (i - i / j * j).toInt = ((n % d : Nat) : Int) := by
        rw [e1, e2, pk_rem n1 d0 d1, nI_toInt (by omega)]
      unfold ai_mn
      refine ai_mk_ok hs (by omega) ?_
      split <;> omega
    · cases hr
      exact ⟨hne, ai_full hs⟩
  · cases hr
theorem ai_i2b (i : Int32) : -128 ≤ i.toInt8.toInt32.toInt ∧ i.toInt8.toInt32.toInt ≤ 127 := by
  rw [Int8.toInt_toInt32]
  have h1 := Int8.le_toInt i.toInt8
  have h2 := Int8.toInt_lt i.toInt8
  omega
end AB
