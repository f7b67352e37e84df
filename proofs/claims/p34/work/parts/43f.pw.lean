/-! what is known of such a tree, in ints -/
theorem q0_i {n : Int} {q : List Nat} (h : qok n.toNat q = true) : ∃ c1 c2 : Int, 0 ≤ c1 ∧ c1 ≤ c2 ∧ c2 < n ∧ (∀ h, 0 ≤ h → h < n → (((qE q n.toNat h.toNat : Nat) : Int) ≤ ((qL q n.toNat : Nat) : Int) ↔ h = c1 ∨ h = c2)) ∧ (c1 = c2 ∨ (1 ≤ c1 ∧ ((qp q c1.toNat : Nat) : Int) = c2) ∨ (1 ≤ c2 ∧ ((qp q c2.toNat : Nat) : Int) = c1)) := by
  unfold qok at h
  rw [Bool.and_eq_true, Bool.and_eq_true] at h
  obtain ⟨c2, k2, h2⟩ := qan_ok h.2.1
  obtain ⟨c1, k1, h1⟩ := qan_ok h2
  rw [Bool.and_eq_true] at h1
  refine ⟨(c1 : Int), (c2 : Int), by omega, by omega, by omega, fun x x1 x2 => ?_, ?_⟩
  · have e := eq_of_beq (qal_ok h1.1 x.toNat (by omega))
    constructor
    · intro z
      rw [Nat.ble_eq_true_of_le (by omega)] at e
      have e := e.symm
      rw [Bool.or_eq_true] at e
      rcases e with e | e
      · have := Nat.eq_of_beq_eq_true e
        omega
      · have := Nat.eq_of_beq_eq_true e
        omega
    · intro z
      have e2 : (Nat.beq x.toNat c1 || Nat.beq x.toNat c2) = true := by
        rw [Bool.or_eq_true]
        rcases z with z | z
        · left
          rw [show x.toNat = c1 by omega]
          exact Nat.beq_refl c1
        · right
          rw [show x.toNat = c2 by omega]
          exact Nat.beq_refl c2
      rw [e2] at e
      have := Nat.le_of_ble_eq_true e
      omega
  · have g := h1.2
    rw [Bool.or_eq_true] at g
    rcases g with g | g
    · left
      have := Nat.eq_of_beq_eq_true g
      omega
    · right
      unfold qadj at g
      rw [Bool.or_eq_true, Bool.and_eq_true, Bool.and_eq_true] at g
      rcases g with ⟨g1, g2⟩ | ⟨g1, g2⟩
      · left
        have a := Nat.le_of_ble_eq_true g1
        have b := Nat.eq_of_beq_eq_true g2
        rw [Int.toNat_natCast]
        omega
      · right
        have a := Nat.le_of_ble_eq_true g1
        have b := Nat.eq_of_beq_eq_true g2
        rw [Int.toNat_natCast]
        omega
theorem q1_i {n : Int} {q : List Nat} (h : qok n.toNat q = true) {a b c e : Int} (a0 : 0 ≤ a) (ab : a < b) (bc : b < c) (ce : c < e) (en : e < n) : (zD q a b + zD q c e = zD q a c + zD q b e ∧ zD q a e + zD q b c ≤ zD q a b + zD q c e) ∨ (zD q a b + zD q c e = zD q a e + zD q b c ∧ zD q a c + zD q b e ≤ zD q a b + zD q c e) ∨ (zD q a c + zD q b e = zD q a e + zD q b c ∧ zD q a b + zD q c e ≤ zD q a c + zD q b e) := by
  unfold qok at h
  rw [Bool.and_eq_true, Bool.and_eq_true, Bool.and_eq_true] at h
  have g := qal_ok (qal_ok (qal_ok (qal_ok h.2.2.1 e.toNat (by omega)) c.toNat (by omega)) b.toNat (by omega)) a.toNat (by omega)
  unfold q4 at g
  rw [Bool.or_eq_true, Bool.or_eq_true, Bool.and_eq_true, Bool.and_eq_true, Bool.and_eq_true] at g
  unfold zD
  rcases g with ⟨g1, g2⟩ | ⟨g1, g2⟩ | ⟨g1, g2⟩
  · have x1 := Nat.eq_of_beq_eq_true g1
    have x2 := Nat.le_of_ble_eq_true g2
    omega
  · have x1 := Nat.eq_of_beq_eq_true g1
    have x2 := Nat.le_of_ble_eq_true g2
    omega
  · have x1 := Nat.eq_of_beq_eq_true g1
    have x2 := Nat.le_of_ble_eq_true g2
    omega
theorem q2_u {n : Int} {q : List Nat} (h : qok n.toNat q = true) : ∃ u, q2 n.toNat u q = true := by
  unfold qok at h
  rw [Bool.and_eq_true, Bool.and_eq_true, Bool.and_eq_true] at h
  obtain ⟨u, -, hu⟩ := qan_ok h.2.2.2
  exact ⟨u, hu⟩
/-- the bits of those that are near -/
theorem qnr_t (q : List Nat) (h : Nat) : ∀ (n k : Nat), Nat.testBit (qnr q h n) k = (decide (k < n) && Nat.ble (qD q h k) 1)
  | 0, k => by
    show Nat.testBit 0 k = _
    rw [Nat.zero_testBit]
    simp
  | n + 1, k => by
    unfold qnr
    have ih := qnr_t q h n k
    by_cases e : k = n
    · subst e
      split
      · rename_i z
        show Nat.testBit (qnr q h k ||| (1 <<< k)) k = _
        rw [Nat.testBit_or, Nat.testBit_shiftLeft]
        simp [z]
      · rename_i z
        rw [ih, z]
        simp
    · split
      · rename_i z
        show Nat.testBit (qnr q h n ||| (1 <<< n)) k = _
        rw [Nat.testBit_or, ih, Nat.testBit_shiftLeft]
        by_cases l : k < n
        · simp [l, show ¬ n ≤ k by omega, show k < n + 1 by omega]
        · have l2 : n < k := by omega
          have e2 : Nat.testBit 1 (k - n) = false := by
            obtain ⟨j, hj⟩ : ∃ j, k - n = j + 1 := ⟨k - n - 1, by omega⟩
            rw [hj, Nat.testBit_succ]
            simp
          simp [l, e2, show ¬ k < n + 1 by omega]
      · rw [ih]
        by_cases l : k < n
        · simp [l, show k < n + 1 by omega]
        · simp [l, show ¬ k < n + 1 by omega]
theorem q_and {a b s n : Nat} (hs : s < 2 ^ n) (h : ∀ k, k < n → a.testBit k = b.testBit k) : a &&& s = b &&& s := by
  apply Nat.eq_of_testBit_eq
  intro i
  rw [Nat.testBit_and, Nat.testBit_and]
  by_cases l : i < n
  · rw [h i l]
  · have z : s.testBit i = false := Nat.testBit_lt_two_pow (Nat.lt_of_lt_of_le hs (Nat.pow_le_pow_right (by omega) (by omega)))
    rw [z, Bool.and_false, Bool.and_false]
/-- a house's row of bits, as the store has it -/
def znr (q : List Nat) (n h x : Int) : Prop := 0 ≤ x ∧ x < 16384 ∧ ∀ k, 0 ≤ k → k < n → (x.toNat.testBit k.toNat = true ↔ zD q h k ≤ 1)
theorem znr_a {q : List Nat} {n h x s : Int} (hx : znr q n h x) (n0 : 0 ≤ n) (h0 : 0 ≤ h) (s0 : 0 ≤ s) (s1 : s.toNat < 2 ^ n.toNat) (s2 : s ≤ 2147483647) : (fw_and x s = 0 ↔ Nat.beq (Nat.land (qnr q h.toNat n.toNat) s.toNat) 0 = true) := by
  have e1 := fw_and_nat (x := x) (y := s) hx.1 (by have := hx.2.1; omega) s0 s2
  have e2 : x.toNat &&& s.toNat = qnr q h.toNat n.toNat &&& s.toNat := q_and s1 (fun k hk => by
    rw [qnr_t]
    have g := hx.2.2 (k : Int) (by omega) (by omega)
    rw [Int.toNat_natCast] at g
    unfold zD at g
    rw [Int.toNat_natCast] at g
    cases hc : x.toNat.testBit k with
    | true =>
      have := g.mp hc
      rw [decide_eq_true hk, Nat.ble_eq_true_of_le (by omega)]
      rfl
    | false =>
      cases hb : Nat.ble (qD q h.toNat k) 1 with
      | false => simp
      | true =>
        have := Nat.le_of_ble_eq_true hb
        have := g.mpr (by omega)
        rw [hc] at this
        cases this)
  rw [e1, e2]
  constructor
  · intro z
    have z2 : qnr q h.toNat n.toNat &&& s.toNat = 0 := by omega
    show Nat.beq (qnr q h.toNat n.toNat &&& s.toNat) 0 = true
    rw [z2]
    rfl
  · intro z
    have z2 : qnr q h.toNat n.toNat &&& s.toNat = 0 := Nat.eq_of_beq_eq_true z
    rw [z2]
    rfl
/-- the farthest that has none near, among the first k; -1 for none -/
def zsl (q : List Nat) (n s k : Int) : Int := if qsl q n.toNat s.toNat k.toNat = 99 then -1 else ((qsl q n.toNat s.toNat k.toNat : Nat) : Int)
theorem qsl_b (q : List Nat) (n s : Nat) : ∀ k, k ≤ 99 → qsl q n s k = 99 ∨ qsl q n s k < k
  | 0, _ => Or.inl rfl
  | k + 1, h => by
    unfold qsl
    have ih := qsl_b q n s k (by omega)
    split
    · split
      · right; omega
      · rcases ih with e | e
        · left; exact e
        · right; omega
    · rcases ih with e | e
      · left; exact e
      · right; omega
theorem zsl_0 (q : List Nat) (n s : Int) : zsl q n s 0 = -1 := rfl
theorem zsl_b (q : List Nat) (n s : Int) {k : Int} (h : 0 ≤ k) (h2 : k ≤ 14) : zsl q n s k = -1 ∨ (0 ≤ zsl q n s k ∧ zsl q n s k < k) := by
  unfold zsl
  have := qsl_b q n.toNat s.toNat k.toNat (by omega)
  split
  · left; rfl
  · right; omega
theorem zsl_s {q : List Nat} {n s x k : Int} (n0 : 0 ≤ n) (s0 : 0 ≤ s) (s1 : s.toNat < 2 ^ n.toNat) (s2 : s ≤ 2147483647) (h : 0 ≤ k) (h2 : k ≤ 14) (hx : znr q n k x) : (¬ fw_and x s = 0 → zsl q n s (k + 1) = zsl q n s k) ∧ (fw_and x s = 0 → zsl q n s k < 0 → zsl q n s (k + 1) = k) ∧ (fw_and x s = 0 → 0 ≤ zsl q n s k → zD q 0 (zsl q n s k) < zD q 0 k → zsl q n s (k + 1) = k) ∧ (fw_and x s = 0 → 0 ≤ zsl q n s k → zD q 0 k ≤ zD q 0 (zsl q n s k) → zsl q n s (k + 1) = zsl q n s k) := by
  have ha := znr_a hx n0 h s0 s1 s2
  have hb := qsl_b q n.toNat s.toNat k.toNat (by omega)
  have e : (k + 1).toNat = k.toNat + 1 := by omega
  have e0 : (0 : Int).toNat = 0 := rfl
  have ez : 0 ≤ zsl q n s k → (zsl q n s k).toNat = qsl q n.toNat s.toNat k.toNat ∧ qsl q n.toNat s.toNat k.toNat ≠ 99 := fun z => by
    unfold zsl at z ⊢
    split at z
    · omega
    · rename_i c
      rw [if_neg c]
      exact ⟨Int.toNat_natCast _, c⟩
  refine ⟨fun z => ?_, fun z w => ?_, fun z w v => ?_, fun z w v => ?_⟩
  · have c : Nat.beq (Nat.land (qnr q k.toNat n.toNat) s.toNat) 0 = false := by
      cases c : Nat.beq (Nat.land (qnr q k.toNat n.toNat) s.toNat) 0 with
      | false => rfl
      | true => exact absurd (ha.mpr c) z
    have f : qsl q n.toNat s.toNat (k.toNat + 1) = qsl q n.toNat s.toNat k.toNat := by
      conv => lhs; unfold qsl
      rw [c]
    unfold zsl
    rw [e, f]
  · have c := ha.mp z
    have d : qsl q n.toNat s.toNat k.toNat = 99 := by
      unfold zsl at w
      split at w
      · assumption
      · omega
    have f : qsl q n.toNat s.toNat (k.toNat + 1) = k.toNat := by
      unfold qsl
      rw [c, d]
      rfl
    unfold zsl
    rw [e, f, if_neg (by omega)]
    omega
  · have c := ha.mp z
    obtain ⟨d1, d2⟩ := ez w
    have f : qsl q n.toNat s.toNat (k.toNat + 1) = k.toNat := by
      unfold qsl
      rw [c]
      have g : Nat.blt (qD q 0 (qsl q n.toNat s.toNat k.toNat)) (qD q 0 k.toNat) = true := by
        unfold zD at v
        rw [d1, e0] at v
        exact Nat.ble_eq_true_of_le (by omega)
      rw [g, Bool.or_true]
    unfold zsl
    rw [e, f, if_neg (by omega)]
    omega
  · have c := ha.mp z
    obtain ⟨d1, d2⟩ := ez w
    have f : qsl q n.toNat s.toNat (k.toNat + 1) = qsl q n.toNat s.toNat k.toNat := by
      have g : Nat.blt (qD q 0 (qsl q n.toNat s.toNat k.toNat)) (qD q 0 k.toNat) = false := by
        cases g : Nat.blt (qD q 0 (qsl q n.toNat s.toNat k.toNat)) (qD q 0 k.toNat) with
        | false => rfl
        | true =>
          have g := Nat.le_of_ble_eq_true g
          unfold zD at v
          rw [d1, e0] at v
          omega
      have g2 : Nat.beq (qsl q n.toNat s.toNat k.toNat) 99 = false := nbq d2
      conv => lhs; unfold qsl
      rw [c, g, g2]
      rfl
    unfold zsl
    rw [e, f]
/-- from here the farthest ones ask for u in all -/
def zgr (q : List Nat) (n : Int) (u : Nat) (s : Int) : Prop := ∃ f, qgr q n.toNat u f s.toNat = true
theorem zgr_0 {q : List Nat} {n : Int} {u : Nat} (h : q2 n.toNat u q = true) : zgr q n u 0 := by
  unfold q2 at h
  rw [Bool.and_eq_true, Bool.and_eq_true] at h
  exact ⟨7, h.2.2⟩
theorem zgr_e {q : List Nat} {n s : Int} {u : Nat} (h : zgr q n u s) (z : zsl q n s n = -1) : pcv s = (u : Int) := by
  obtain ⟨f, hf⟩ := h
  have e : qsl q n.toNat s.toNat n.toNat = 99 := by
    unfold zsl at z
    split at z
    · assumption
    · omega
  cases f with
  | zero => cases hf
  | succ f =>
    unfold qgr at hf
    rw [e] at hf
    have hf : Nat.beq (pcn s.toNat s.toNat) u = true := hf
    unfold pcv
    rw [Nat.eq_of_beq_eq_true hf]
theorem zgr_s {q : List Nat} {n s h : Int} {u : Nat} (hg : zgr q n u s) (n2 : n ≤ 6) (z : zsl q n s n = h) (h0 : 0 ≤ h) {c : Int} (hc : c = ((qp q h.toNat : Nat) : Int)) (c0 : c ≤ 13) (s0 : 0 ≤ s) (s1 : s ≤ 2147483647) : zgr q n u (fw_or s (fw_shl 1 c)) := by
  obtain ⟨f, hf⟩ := hg
  have e : qsl q n.toNat s.toNat n.toNat = h.toNat ∧ qsl q n.toNat s.toNat n.toNat ≠ 99 := by
    unfold zsl at z
    split at z
    · omega
    · rename_i x
      exact ⟨by omega, x⟩
  cases f with
  | zero => cases hf
  | succ f =>
    refine ⟨f, ?_⟩
    unfold qgr at hf
    rw [nbq e.2] at hf
    have hf : qgr q n.toNat u f (s.toNat ||| (1 <<< qp q (qsl q n.toNat s.toNat n.toNat))) = true := hf
    have g := fw_shl1 (n := c) (by omega) (by omega)
    have e2 : (fw_or s (fw_shl 1 c)).toNat = s.toNat ||| (1 <<< qp q (qsl q n.toNat s.toNat n.toNat)) := by
      rw [fw_or_nat s0 s1 (by omega) (by omega), Int.toNat_natCast, g.1, Int.toNat_natCast, e.1, Nat.shiftLeft_eq, Nat.one_mul, hc, Int.toNat_natCast]
    rw [e2]
    exact hf
/-- those that are near all -/
def zdm (n : Int) (nr : Int → Int) (s : Int) : Prop := ∀ h, 0 ≤ h → h < n → ¬ fw_and (nr h) s = 0
theorem zdm_b {q : List Nat} {n s : Int} {nr : Int → Int} (hx : ∀ h, 0 ≤ h → h < n → znr q n h (nr h)) (n0 : 0 ≤ n) (s0 : 0 ≤ s) (s1 : s.toNat < 2 ^ n.toNat) (s2 : s ≤ 2147483647) : zdm n nr s ↔ qdm q n.toNat s.toNat = true := by
  constructor
  · intro h
    refine qal_mk (fun k hk => ?_)
    have a := znr_a (hx (k : Int) (by omega) (by omega)) n0 (by omega) s0 s1 s2
    rw [Int.toNat_natCast] at a
    cases c : Nat.beq (Nat.land (qnr q k n.toNat) s.toNat) 0 with
    | false => rfl
    | true => exact absurd (a.mpr c) (h (k : Int) (by omega) (by omega))
  · intro h x x1 x2 z
    have a := znr_a (hx x x1 x2) n0 x1 s0 s1 s2
    have b := qal_ok h x.toNat (by omega)
    rw [a.mp z] at b
    cases b
theorem zdm_u {q : List Nat} {n b : Int} {u : Nat} {nr : Int → Int} (h : q2 n.toNat u q = true) (hx : ∀ h, 0 ≤ h → h < n → znr q n h (nr h)) (n0 : 0 ≤ n) (n6 : n ≤ 6) (b0 : 0 ≤ b) (b1 : b < fw_shl 1 n) (hb : zdm n nr b) (hm : ∀ s, 0 ≤ s → s < fw_shl 1 n → zdm n nr s → pcv b ≤ pcv s) : pcv b = (u : Int) := by
  unfold q2 at h
  rw [Bool.and_eq_true, Bool.and_eq_true] at h
  have g := fw_shl1 n0 (by omega)
  have p : (2 : Nat) ^ n.toNat ≤ 2 ^ 6 := Nat.pow_le_pow_right (by omega) (by omega)
  have p6 : (2 : Nat) ^ 6 = 64 := by decide
  have b2 : b.toNat < 2 ^ n.toNat := by omega
  have k1 := qal_ok h.1 b.toNat b2
  rw [Bool.or_eq_true] at k1
  have k1 : u ≤ pcn b.toNat b.toNat := by
    rcases k1 with k1 | k1
    · rw [(zdm_b hx n0 b0 b2 (by omega)).mp hb] at k1
      cases k1
    · exact Nat.le_of_ble_eq_true k1
  obtain ⟨s, s1, s2⟩ := qan_ok h.2.1
  rw [Bool.and_eq_true] at s2
  have k2 := hm (s : Int) (by omega) (by omega) ((zdm_b hx n0 (by omega) (by rw [Int.toNat_natCast]; exact s1) (by omega)).mpr (by rw [Int.toNat_natCast]; exact s2.1))
  have k3 : pcn s s = u := Nat.eq_of_beq_eq_true s2.2
  have k4 : pcv (s : Int) = (u : Int) := by
    unfold pcv
    rw [Int.toNat_natCast, k3]
  have k5 : pcv b = ((pcn b.toNat b.toNat : Nat) : Int) := rfl
  omega
theorem qD_self (q : List Nat) (x : Nat) : qD q x x = 0 := by
  unfold qD qm
  rw [Nat.beq_refl]
theorem zdm_all {q : List Nat} {n : Int} {nr : Int → Int} (hx : ∀ h, 0 ≤ h → h < n → znr q n h (nr h)) (n6 : n ≤ 6) : zdm n nr (fw_shl 1 n - 1) := by
  intro h h0 h1 z
  have g := fw_shl1 (n := n) (by omega) (by omega)
  have a := hx h h0 h1
  rw [fw_and_nat a.1 (by have := a.2.1; omega) (by omega) (by omega)] at z
  have e : (fw_shl 1 n - 1).toNat = 2 ^ n.toNat - 1 := by
    have p : 1 ≤ (2 : Nat) ^ n.toNat := Nat.one_le_two_pow
    omega
  have b : (nr h).toNat.testBit h.toNat = true := (a.2.2 h h0 h1).mpr (by
    unfold zD
    rw [qD_self]
    omega)
  have c : ((nr h).toNat &&& (fw_shl 1 n - 1).toNat).testBit h.toNat = true := by
    rw [Nat.testBit_and, b, e, Nat.testBit_two_pow_sub_one, decide_eq_true (by omega)]
    rfl
  have z2 : (nr h).toNat &&& (fw_shl 1 n - 1).toNat = 0 := by omega
  rw [z2, Nat.zero_testBit] at c
  cases c
theorem zor_b {n s c : Int} (s0 : 0 ≤ s) (s1 : s.toNat < 2 ^ n.toNat) (c0 : 0 ≤ c) (c1 : c < n) (n6 : n ≤ 6) : 0 ≤ fw_or s (fw_shl 1 c) ∧ fw_or s (fw_shl 1 c) < 16384 ∧ (fw_or s (fw_shl 1 c)).toNat < 2 ^ n.toNat := by
  have g := fw_shl1 (n := c) (by omega) (by omega)
  have p : (2 : Nat) ^ n.toNat ≤ 2 ^ 6 := Nat.pow_le_pow_right (by omega) (by omega)
  have p6 : (2 : Nat) ^ 6 = 64 := by decide
  have b : s.toNat ||| 2 ^ c.toNat < 2 ^ n.toNat := Nat.or_lt_two_pow s1 (Nat.pow_lt_pow_right (by omega) (by omega))
  rw [fw_or_nat s0 (by omega) (by omega) (by omega), g.1, Int.toNat_natCast, Int.toNat_natCast]
  omega
/-- where a house hangs is near -/
theorem zD_p {n h c : Int} {q : List Nat} (hk : qck n.toNat q = true) (h0 : 0 ≤ h) (h1 : h < n) (e0 : h = 0 → c = 0) (e1 : 1 ≤ h → c = ((qp q h.toNat : Nat) : Int)) (hlt : 1 ≤ h → c < n) : zD q h c ≤ 1 := by
  by_cases z : h = 0
  · rw [z, e0 z]
    unfold zD
    rw [qD_self]
    omega
  · have x1 : 1 ≤ h := by omega
    have g := qal_ok hk h.toNat (by omega)
    rw [Bool.and_eq_true, Bool.and_eq_true, Bool.or_eq_true] at g
    have d : qd q 6 h.toNat = qd q 6 (qp q h.toNat) + 1 := by
      rcases g.1 with w | w
      · have := Nat.eq_of_beq_eq_true w
        omega
      · exact Nat.eq_of_beq_eq_true w
    have y := e1 x1
    have yl := hlt x1
    have m := qal_ok g.2.2 (qp q h.toNat) (by omega)
    have ne : Nat.beq h.toNat (qp q h.toNat) = false := nbq (fun w => by rw [← w] at d; omega)
    rw [ne, Nat.ble_eq_true_of_le (by omega : qd q 6 (qp q h.toNat) ≤ qd q 6 h.toNat)] at m
    have m := Nat.eq_of_beq_eq_true m
    unfold zD
    rw [y, Int.toNat_natCast, m, qD_self]
    omega
