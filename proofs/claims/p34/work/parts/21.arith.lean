/-! the checker's arithmetic: ranges of results -/
theorem ai_b (i : Int32) : ai_min ≤ i.toInt ∧ i.toInt ≤ ai_max := by
  have h1 := Int32.le_toInt i
  have h2 := Int32.toInt_lt i
  unfold ai_min ai_max
  omega
theorem ai_bm {z : Int} (h1 : ai_min ≤ z) (h2 : z ≤ ai_max) : z.bmod (2 ^ 32) = z := by
  unfold ai_min at h1
  unfold ai_max at h2
  exact Int.bmod_eq_of_le (by omega) (by omega)
def ai_l (C : ai_K) (a : Nat × Int) : Int := match ai_lo C a with
  | some d => if d < ai_min then ai_min else d
  | none => ai_min
def ai_h (C : ai_K) (a : Nat × Int) : Int := match ai_hi C a with
  | some d => if ai_max < d then ai_max else d
  | none => ai_max
theorem ai_lh {nv : Nat} {ρ : Nat → Int} {C : ai_K} {a : Nat × Int} {i : Int32} (h0 : ρ 0 = 0) (hC : ai_gk nv ρ C) (hi : i.toInt = ρ a.1 + a.2) : ai_l C a ≤ i.toInt ∧ i.toInt ≤ ai_h C a := by
  have hb := ai_b i
  constructor
  · unfold ai_l
    split
    · rename_i d hd
      have := ai_lo_ok h0 hC hd
      split <;> omega
    · exact hb.1
  · unfold ai_h
    split
    · rename_i d hd
      have := ai_hi_ok h0 hC hd
      split <;> omega
    · exact hb.2
/-- a result: its value, and what is known then -/
def ai_R (W : Nat → Nat → Int32) (T : List ai_C) (ρ : Nat → Int) (Z : ai_S) (h : jm_H) (r : ai_V × ai_S) (v : Value) : Prop := ∃ ρ', ai_ext Z.1 ρ ρ' ∧ Z.1 ≤ r.2.1 ∧ ai_gs W T ρ' r.2 h ∧ ai_gv r.2.1 ρ' r.1 v
def ai_mk (Z : ai_S) (lo hi : Int) : ai_V × ai_S := (.inl (Z.1, 0), ai_new Z lo hi)
section AA
variable {W : Nat → Nat → Int32} {T : List ai_C} {ρ : Nat → Int} {Z : ai_S} {h : jm_H}
theorem ai_mk_ok {lo hi : Int} {i : Int32} (hs : ai_gs W T ρ Z h) (h1 : lo ≤ i.toInt) (h2 : i.toInt ≤ hi) : ai_R W T ρ Z h (ai_mk Z lo hi) (.int i) := by
  obtain ⟨ρ', e1, e2, e3⟩ := ai_new_ok hs h1 h2
  exact ⟨ρ', e1, Nat.le_succ _, e3, Nat.lt_succ_self _, i, rfl, by rw [e2]; omega⟩
theorem ai_full {i : Int32} (hs : ai_gs W T ρ Z h) : ai_R W T ρ Z h (ai_mk Z ai_min ai_max) (.int i) := ai_mk_ok hs (ai_b i).1 (ai_b i).2
theorem ai_same {a : ai_V} {v : Value} (hs : ai_gs W T ρ Z h) (hv : ai_gv Z.1 ρ a v) : ai_R W T ρ Z h (a, Z) v := ⟨ρ, fun _ _ => rfl, Nat.le_refl _, hs, hv⟩
def ai_add (Z : ai_S) (a b : Nat × Int) : ai_V × ai_S :=
  if ai_min ≤ ai_l Z.2.1 a + ai_l Z.2.1 b ∧ ai_h Z.2.1 a + ai_h Z.2.1 b ≤ ai_max then
    (if b.1 = 0 then (.inl (a.1, a.2 + b.2), Z) else if a.1 = 0 then (.inl (b.1, a.2 + b.2), Z) else ai_mk Z (ai_l Z.2.1 a + ai_l Z.2.1 b) (ai_h Z.2.1 a + ai_h Z.2.1 b))
  else ai_mk Z ai_min ai_max
theorem ai_add_ok {a b : Nat × Int} {i j : Int32} (hs : ai_gs W T ρ Z h) (ha : a.1 < Z.1 ∧ i.toInt = ρ a.1 + a.2) (hb : b.1 < Z.1 ∧ j.toInt = ρ b.1 + b.2) : ai_R W T ρ Z h (ai_add Z a b) (.int (i + j)) := by
  have l1 := ai_lh hs.2.1 hs.2.2.1 ha.2
  have l2 := ai_lh hs.2.1 hs.2.2.1 hb.2
  unfold ai_add
  split
  · rename_i hr
    have e : (i + j).toInt = i.toInt + j.toInt := by rw [Int32.toInt_add, ai_bm (by omega) (by omega)]
    split
    · rename_i hz
      refine ai_same hs ⟨ha.1, _, rfl, ?_⟩
      have := hb.2
      rw [hz, hs.2.1] at this
      show (i + j).toInt = ρ a.1 + (a.2 + b.2)
      omega
    · split
      · rename_i hz
        refine ai_same hs ⟨hb.1, _, rfl, ?_⟩
        have := ha.2
        rw [hz, hs.2.1] at this
        show (i + j).toInt = ρ b.1 + (a.2 + b.2)
        omega
      · exact ai_mk_ok hs (by omega) (by omega)
  · exact ai_full hs
/-- the range of a difference: by the ranges, and by what is known of the difference itself -/
def ai_dl (Z : ai_S) (a b : Nat × Int) : Int := match ai_ub Z.2.1 b.1 a.1 with
  | some d => if ai_l Z.2.1 a - ai_h Z.2.1 b ≤ a.2 - b.2 - d then a.2 - b.2 - d else ai_l Z.2.1 a - ai_h Z.2.1 b
  | none => ai_l Z.2.1 a - ai_h Z.2.1 b
def ai_dh (Z : ai_S) (a b : Nat × Int) : Int := match ai_ub Z.2.1 a.1 b.1 with
  | some d => if a.2 - b.2 + d ≤ ai_h Z.2.1 a - ai_l Z.2.1 b then a.2 - b.2 + d else ai_h Z.2.1 a - ai_l Z.2.1 b
  | none => ai_h Z.2.1 a - ai_l Z.2.1 b
theorem ai_d_ok {a b : Nat × Int} {i j : Int32} (hs : ai_gs W T ρ Z h) (ha : a.1 < Z.1 ∧ i.toInt = ρ a.1 + a.2) (hb : b.1 < Z.1 ∧ j.toInt = ρ b.1 + b.2) : ai_dl Z a b ≤ i.toInt - j.toInt ∧ i.toInt - j.toInt ≤ ai_dh Z a b := by
  have l1 := ai_lh hs.2.1 hs.2.2.1 ha.2
  have l2 := ai_lh hs.2.1 hs.2.2.1 hb.2
  constructor
  · unfold ai_dl
    split
    · rename_i d hd
      have := ai_ub_ok hs.2.2.1 hd
      split <;> omega
    · omega
  · unfold ai_dh
    split
    · rename_i d hd
      have := ai_ub_ok hs.2.2.1 hd
      split <;> omega
    · omega
def ai_sub (Z : ai_S) (a b : Nat × Int) : ai_V × ai_S :=
  if ai_min ≤ ai_dl Z a b ∧ ai_dh Z a b ≤ ai_max then
    (if b.1 = 0 then (.inl (a.1, a.2 - b.2), Z) else if a.1 = b.1 then (.inl (0, a.2 - b.2), Z) else ai_mk Z (ai_dl Z a b) (ai_dh Z a b))
  else ai_mk Z ai_min ai_max
theorem ai_sub_ok {a b : Nat × Int} {i j : Int32} (hs : ai_gs W T ρ Z h) (ha : a.1 < Z.1 ∧ i.toInt = ρ a.1 + a.2) (hb : b.1 < Z.1 ∧ j.toInt = ρ b.1 + b.2) : ai_R W T ρ Z h (ai_sub Z a b) (.int (i - j)) := by
  have hd := ai_d_ok hs ha hb
  unfold ai_sub
  split
  · rename_i hr
    have e : (i - j).toInt = i.toInt - j.toInt := by rw [Int32.toInt_sub, ai_bm (by omega) (by omega)]
    split
    · rename_i hz
      refine ai_same hs ⟨ha.1, _, rfl, ?_⟩
      have h8 := ha.2
      have h9 := hb.2
      rw [hz, hs.2.1] at h9
      show (i - j).toInt = ρ a.1 + (a.2 - b.2)
      omega
    · split
      · rename_i hz
        refine ai_same hs ⟨hs.1, _, rfl, ?_⟩
        have h8 := ha.2
        rw [hz] at h8
        have h9 := hb.2
        show (i - j).toInt = ρ 0 + (a.2 - b.2)
        rw [hs.2.1]
        omega
      · exact ai_mk_ok hs (by omega) (by omega)
  · exact ai_full hs
/-- the product of two ranges: of its four corners -/
def ai_mn (x y : Int) : Int := if x ≤ y then x else y
def ai_mx (x y : Int) : Int := if x ≤ y then y else x
theorem ai_mul1 {x y l u : Int} (h1 : l ≤ y) (h2 : y ≤ u) : ai_mn (x * l) (x * u) ≤ x * y ∧ x * y ≤ ai_mx (x * l) (x * u) := by
  unfold ai_mn ai_mx
  rcases Int.le_total 0 x with hx | hx
  · have a1 := Int.mul_le_mul_of_nonneg_left h1 hx
    have a2 := Int.mul_le_mul_of_nonneg_left h2 hx
    split <;> omega
  · have a1 := Int.mul_le_mul_of_nonpos_left hx h1
    have a2 := Int.mul_le_mul_of_nonpos_left hx h2
    split <;> omega
theorem ai_mulr {x y l1 u1 l2 u2 : Int} (h1 : l1 ≤ x) (h2 : x ≤ u1) (h3 : l2 ≤ y) (h4 : y ≤ u2) : ai_mn (ai_mn (l1 * l2) (l1 * u2)) (ai_mn (u1 * l2) (u1 * u2)) ≤ x * y ∧ x * y ≤ ai_mx (ai_mx (l1 * l2) (l1 * u2)) (ai_mx (u1 * l2) (u1 * u2)) := by
  have a := ai_mul1 (x := x) h3 h4
  have b := ai_mul1 (x := l2) h1 h2
  have c := ai_mul1 (x := u2) h1 h2
  rw [Int.mul_comm l2 x, Int.mul_comm l2 l1, Int.mul_comm l2 u1] at b
  rw [Int.mul_comm u2 x, Int.mul_comm u2 l1, Int.mul_comm u2 u1] at c
  unfold ai_mn ai_mx at *
  generalize x * y = p at *
  generalize x * l2 = p1 at *
  generalize x * u2 = p2 at *
  generalize l1 * l2 = q1 at *
  generalize l1 * u2 = q2 at *
  generalize u1 * l2 = q3 at *
  generalize u1 * u2 = q4 at *
  constructor
  · have a1 := a.1; have b1 := b.1; have c1 := c.1
    repeat' split at a1
    all_goals (repeat' split at b1)
    all_goals (repeat' split at c1)
    all_goals (repeat' split)
    all_goals omega
  · have a1 := a.2; have b1 := b.2; have c1 := c.2
    repeat' split at a1
    all_goals (repeat' split at b1)
    all_goals (repeat' split at c1)
    all_goals (repeat' split)
    all_goals omega
def ai_mulb (Z : ai_S) (a b : Nat × Int) : Int × Int :=
  (ai_mn (ai_mn (ai_l Z.2.1 a * ai_l Z.2.1 b) (ai_l Z.2.1 a * ai_h Z.2.1 b)) (ai_mn (ai_h Z.2.1 a * ai_l Z.2.1 b) (ai_h Z.2.1 a * ai_h Z.2.1 b)), ai_mx (ai_mx (ai_l Z.2.1 a * ai_l Z.2.1 b) (ai_l Z.2.1 a * ai_h Z.2.1 b)) (ai_mx (ai_h Z.2.1 a * ai_l Z.2.1 b) (ai_h Z.2.1 a * ai_h Z.2.1 b)))
def ai_mul (Z : ai_S) (a b : Nat × Int) : ai_V × ai_S :=
  if a.1 = 0 ∧ b.1 = 0 ∧ ai_min ≤ a.2 * b.2 ∧ a.2 * b.2 ≤ ai_max then (.inl (0, a.2 * b.2), Z)
  else if ai_min ≤ (ai_mulb Z a b).1 ∧ (ai_mulb Z a b).2 ≤ ai_max then ai_mk Z (ai_mulb Z a b).1 (ai_mulb Z a b).2
  else ai_mk Z ai_min ai_max
theorem ai_mul_ok {a b : Nat × Int} {i j : Int32} (hs : ai_gs W T ρ Z h) (ha : a.1 < Z.1 ∧ i.toInt = ρ a.1 + a.2) (hb : b.1 < Z.1 ∧ j.toInt = ρ b.1 + b.2) : ai_R W T ρ Z h (ai_mul Z a b) (.int (i * j)) := by
  have l1 := ai_lh hs.2.1 hs.2.2.1 ha.2
  have l2 := ai_lh hs.2.1 hs.2.2.1 hb.2
  unfold ai_mul
  split
  · rename_i hr
    obtain ⟨z1, z2, r1, r2⟩ := hr
    have e1 := ha.2
    have e2 := hb.2
    rw [z1, hs.2.1, Int.zero_add] at e1
    rw [z2, hs.2.1, Int.zero_add] at e2
    refine ai_same hs ⟨hs.1, _, rfl, ?_⟩
    show (i * j).toInt = ρ 0 + a.2 * b.2
    rw [hs.2.1, Int32.toInt_mul, e1, e2, ai_bm r1 r2, Int.zero_add]
  · split
    · rename_i hr
      have hm := ai_mulr l1.1 l1.2 l2.1 l2.2
      have q1 : (ai_mulb Z a b).1 ≤ i.toInt * j.toInt := hm.1
      have q2 : i.toInt * j.toInt ≤ (ai_mulb Z a b).2 := hm.2
      have e : (i * j).toInt = i.toInt * j.toInt := by rw [Int32.toInt_mul, ai_bm (Int.le_trans hr.1 q1) (Int.le_trans q2 hr.2)]
      exact ai_mk_ok hs (by rw [e]; exact q1) (by rw [e]; exact q2)
    · exact ai_full hs
def ai_neg (Z : ai_S) (a : Nat × Int) : ai_V × ai_S :=
  if ai_min < ai_l Z.2.1 a then (if a.1 = 0 then (.inl (0, -a.2), Z) else ai_mk Z (-(ai_h Z.2.1 a)) (-(ai_l Z.2.1 a))) else ai_mk Z ai_min ai_max
theorem ai_neg_ok {a : Nat × Int} {i : Int32} (hs : ai_gs W T ρ Z h) (ha : a.1 < Z.1 ∧ i.toInt = ρ a.1 + a.2) : ai_R W T ρ Z h (ai_neg Z a) (.int (-i)) := by
  have l1 := ai_lh hs.2.1 hs.2.2.1 ha.2
  have hb := ai_b i
  unfold ai_neg
  split
  · rename_i hr
    have e : (-i).toInt = -i.toInt := by
      rw [Int32.toInt_neg]
      unfold ai_min ai_max at *
      exact Int.bmod_eq_of_le (by omega) (by omega)
    split
    · rename_i hz
      refine ai_same hs ⟨hs.1, _, rfl, ?_⟩
      have := ha.2
      rw [hz, hs.2.1] at this
      show (-i).toInt = ρ 0 + -a.2
      rw [hs.2.1]
      omega
    · exact ai_mk_ok hs (by omega) (by omega)
  · exact ai_full hs
end AA
