/-! marks of the class: links as bits, hung round by round -/
def bt (m y : Int) : Int := if m.toNat.testBit y.toNat = true then 1 else 0
theorem bt_01 (m y : Int) : bt m y = 0 ∨ bt m y = 1 := by
  unfold bt
  split
  · exact Or.inr rfl
  · exact Or.inl rfl
theorem bt_0 (y : Int) : bt 0 y = 0 := by
  unfold bt
  rw [show (0 : Int).toNat = 0 from rfl, Nat.zero_testBit]
  rfl
theorem bt_1 {y : Int} (h : 0 ≤ y) : bt 1 y = if y = 0 then 1 else 0 := by
  unfold bt
  rw [show (1 : Int).toNat = 2 ^ 0 from rfl, Nat.testBit_two_pow]
  by_cases e : y = 0
  · subst e; rfl
  · rw [if_neg e, if_neg (by simp; omega)]
theorem bt_or {m y : Int} (m0 : 0 ≤ m) (m1 : m < 16384) (y0 : 0 ≤ y) (y1 : y < 14) : 0 ≤ fw_or m (fw_shl 1 y) ∧ fw_or m (fw_shl 1 y) < 16384 ∧ ∀ j, 0 ≤ j → bt (fw_or m (fw_shl 1 y)) j = if y = j then 1 else bt m j := by
  obtain ⟨e, s1, s2⟩ := fw_shl1 y0 (by omega)
  have hp : (2 : Nat) ^ y.toNat ≤ 2 ^ 13 := Nat.pow_le_pow_right (by omega) (by omega)
  have b := fw_or_b 14 (by omega) m0 (by omega : m < 2 ^ 14) (y := fw_shl 1 y) (by omega) (by rw [e]; omega)
  refine ⟨b.1, by omega, fun j j0 => ?_⟩
  rw [fw_or_nat m0 (by omega) (by omega) (by omega), e, Int.toNat_natCast]
  unfold bt
  rw [Int.toNat_natCast, Nat.testBit_or, Nat.testBit_two_pow]
  by_cases c : y = j
  · subst c
    simp
  · have : ¬ y.toNat = j.toNat := by omega
    simp [c, this]
theorem or_bt {a b : Int} (a0 : 0 ≤ a) (a1 : a < 16384) (b0 : 0 ≤ b) (b1 : b < 16384) : 0 ≤ fw_or a b ∧ fw_or a b < 16384 ∧ ∀ j, bt (fw_or a b) j = if bt b j = 1 then 1 else bt a j := by
  have c := fw_or_b 14 (by omega) a0 (by omega : a < 2 ^ 14) b0 (by omega : b < 2 ^ 14)
  refine ⟨c.1, by omega, fun j => ?_⟩
  rw [fw_or_nat a0 (by omega) b0 (by omega)]
  unfold bt
  rw [Int.toNat_natCast, Nat.testBit_or]
  cases a.toNat.testBit j.toNat <;> cases b.toNat.testBit j.toNat <;> simp
theorem fw_not_tb {h : Int} (h0 : 0 ≤ h) (h1 : h ≤ 2147483647) {j : Nat} (hj : j < 32) : (Int32.ofInt (fw_xor h (-1))).toBitVec.toNat.testBit j = !(h.toNat.testBit j) := by
  obtain ⟨e1, e2⟩ := fw_of h0 h1
  have e3 : Int32.ofInt (fw_xor h (-1)) = Int32.ofInt h ^^^ Int32.ofInt (-1) := by
    unfold fw_xor
    exact Int32.ofInt_toInt _
  rw [e3]
  show ((Int32.ofInt h).toBitVec ^^^ (Int32.ofInt (-1)).toBitVec).toNat.testBit j = _
  rw [BitVec.toNat_xor, Nat.testBit_xor, e2]
  have e4 : (Int32.ofInt (-1)).toBitVec.toNat = 2 ^ 32 - 1 := by decide
  rw [e4, Nat.testBit_two_pow_sub_one]
  simp [hj]
theorem nxt_bt {k h : Int} (k0 : 0 ≤ k) (k1 : k < 16384) (h0 : 0 ≤ h) (h1 : h ≤ 2147483647) : 0 ≤ fw_and k (fw_xor h (-1)) ∧ fw_and k (fw_xor h (-1)) < 16384 ∧ ∀ j, 0 ≤ j → j < 32 → bt (fw_and k (fw_xor h (-1))) j = if bt k j = 1 ∧ bt h j ≠ 1 then 1 else 0 := by
  have b := fw_and_l (fw_xor h (-1)) k0 (by omega)
  refine ⟨b.1, by omega, fun j j0 j1 => ?_⟩
  obtain ⟨e1, e2⟩ := fw_of k0 (by omega)
  have en : (fw_and k (fw_xor h (-1))).toNat = k.toNat &&& (Int32.ofInt (fw_xor h (-1))).toBitVec.toNat := by
    have e3 : (Int32.ofInt k &&& Int32.ofInt (fw_xor h (-1))).toBitVec.toNat = k.toNat &&& (Int32.ofInt (fw_xor h (-1))).toBitVec.toNat := by
      show ((Int32.ofInt k).toBitVec &&& (Int32.ofInt (fw_xor h (-1))).toBitVec).toNat = _
      rw [BitVec.toNat_and, e2]
    have e4 : k.toNat &&& (Int32.ofInt (fw_xor h (-1))).toBitVec.toNat ≤ k.toNat := Nat.and_le_left
    have e5 : fw_and k (fw_xor h (-1)) = (((Int32.ofInt k &&& Int32.ofInt (fw_xor h (-1))).toBitVec.toNat : Nat) : Int) := by
      unfold fw_and
      show ((Int32.ofInt k &&& Int32.ofInt (fw_xor h (-1))).toBitVec).toInt = _
      rw [BitVec.toInt_eq_toNat_of_lt]
      rw [e3]
      omega
    rw [e5, Int.toNat_natCast, e3]
  unfold bt
  rw [en, Nat.testBit_and, fw_not_tb h0 h1 (by omega)]
  cases k.toNat.testBit j.toNat <;> cases h.toNat.testBit j.toNat <;> simp
theorem bt_fw {m k : Int} (h0 : 0 ≤ m) (h1 : m ≤ 2147483647) (h2 : 0 ≤ k) (h3 : k < 32) : fw_and (fw_shr m k) 1 = bt m k := by
  rw [fw_bit h0 h1 h2 h3]
  rfl
/-- hung so far: round r, house h -/
def cnb (b : Int → Int) (k : Nat) : Nat := (List.range k).countP (fun q : Nat => decide (b (q : Int) = 1))
theorem cnb_le (b : Int → Int) (k : Nat) : cnb b k ≤ k := by
  unfold cnb
  have := List.countP_le_length (p := fun q : Nat => decide (b (q : Int) = 1)) (l := List.range k)
  rwa [List.length_range] at this
theorem cnb_s (b : Int → Int) (k : Nat) : cnb b (k + 1) = cnb b k + (if b (k : Int) = 1 then 1 else 0) := by
  unfold cnb
  rw [List.range_succ, List.countP_append, List.countP_singleton]
  by_cases c : b (k : Int) = 1
  · simp [c]
  · simp [c]
theorem cnb_m {b b' : Int → Int} : ∀ (k : Nat), (∀ x : Int, 0 ≤ x → x < (k : Int) → b x = 1 → b' x = 1) → cnb b k ≤ cnb b' k
  | 0, _ => Nat.le_refl _
  | k + 1, h => by
    have ih := cnb_m (b := b) (b' := b') k (fun x x1 x2 => h x x1 (by omega))
    rw [cnb_s, cnb_s]
    by_cases c : b (k : Int) = 1
    · rw [if_pos c, if_pos (h _ (by omega) (by omega) c)]; omega
    · rw [if_neg c]; omega
theorem cnb_lt {b b' : Int → Int} {y : Int} (y0 : 0 ≤ y) (hy : b y ≠ 1) (hy' : b' y = 1) : ∀ (k : Nat), y < (k : Int) → (∀ x : Int, 0 ≤ x → x < (k : Int) → b x = 1 → b' x = 1) → cnb b k + 1 ≤ cnb b' k
  | 0, h, _ => by omega
  | k + 1, h, hm => by
    rw [cnb_s, cnb_s]
    by_cases e : y = (k : Int)
    · have := cnb_m (b := b) (b' := b') k (fun x x1 x2 => hm x x1 (by omega))
      rw [← e, if_neg hy, if_pos hy']; omega
    · have ih := cnb_lt y0 hy hy' k (by omega) (fun x x1 x2 => hm x x1 (by omega))
      by_cases c : b (k : Int) = 1
      · rw [if_pos c, if_pos (hm _ (by omega) (by omega) c)]; omega
      · rw [if_neg c]; omega
def hu_t (n : Int) (b hg : Int → Int) : Prop := b 0 = 1 ∧ hg 0 = -1 ∧ ∃ ρ : Int → Nat, ∀ x, 1 ≤ x → x < n → b x = 1 → 0 ≤ hg x ∧ hg x < n ∧ b (hg x) = 1 ∧ ρ (hg x) < ρ x
def hu_c (n : Int) (nx : Int → Int → Int) (b : Int → Int) (r h : Int) : Prop := (∀ x, 0 ≤ x → x < n → b x = 1) ∨ r + 2 ≤ ((cnb b n.toNat : Nat) : Int) ∨ (r + 1 ≤ ((cnb b n.toNat : Nat) : Int) ∧ ∀ x, 0 ≤ x → x < h → x < n → b x = 1 → ∀ y, 0 ≤ y → y < n → nx x y = 1 → b y = 1)
def hu_ok (n : Int) (nx : Int → Int → Int) (b hg : Int → Int) (r h : Int) : Prop := hu_t n b hg ∧ hu_c n nx b r h
section HU
variable {n r h : Int} {nx : Int → Int → Int} {b b' hg hg' : Int → Int}
theorem hu_init (hn : 1 ≤ n) (b0 : b 0 = 1) (bx : ∀ x, 1 ≤ x → x < n → b x ≠ 1) (h0 : hg 0 = -1) : hu_ok n nx b hg 0 0 := by
  refine ⟨⟨b0, h0, fun _ => 0, fun x x1 x2 x3 => absurd x3 (bx x x1 x2)⟩, Or.inr (Or.inr ⟨?_, fun x x1 x2 => by omega⟩)⟩
  have := cnb_lt (b := fun _ => 0) (b' := b) (y := 0) (by omega) (by decide) b0 n.toNat (by omega) (fun x x1 x2 x3 => absurd x3 (by decide))
  omega
theorem hu_skip (k : hu_ok n nx b hg r h) (hb : b h ≠ 1) : hu_ok n nx b hg r (h + 1) := by
  refine ⟨k.1, ?_⟩
  rcases k.2 with a | a | a
  · exact Or.inl a
  · exact Or.inr (Or.inl a)
  · refine Or.inr (Or.inr ⟨a.1, fun x x1 x2 x3 x4 => ?_⟩)
    by_cases e : x = h
    · rw [e] at x4; exact absurd x4 hb
    · exact a.2 x x1 (by omega) x3 x4
theorem hu_step (k : hu_ok n nx b hg r h) (h1 : 0 ≤ h) (h2 : h < n) (hb : b h = 1) (eb : ∀ x, 0 ≤ x → x < n → b' x = if nx h x = 1 then 1 else b x) (eg : ∀ x, 0 ≤ x → x < n → hg' x = if nx h x = 1 ∧ b x ≠ 1 then h else hg x) : hu_ok n nx b' hg' r (h + 1) := by
  obtain ⟨⟨b0, g0, ρ, hρ⟩, kc⟩ := k
  have mono : ∀ x, 0 ≤ x → x < n → b x = 1 → b' x = 1 := fun x x1 x2 x3 => by
    rw [eb x x1 x2]
    split
    · rfl
    · exact x3
  refine ⟨⟨mono 0 (by omega) (by omega) b0, ?_, fun x => if b x = 1 then ρ x else ρ h + 1, fun x x1 x2 x3 => ?_⟩, ?_⟩
  · rw [eg 0 (by omega) (by omega), if_neg (fun z => z.2 b0)]; exact g0
  · dsimp only
    by_cases c : b x = 1
    · rw [if_pos c]
      have e : hg' x = hg x := by rw [eg x (by omega) x2, if_neg (fun z => z.2 c)]
      obtain ⟨q1, q2, q3, q4⟩ := hρ x x1 x2 c
      rw [e, if_pos q3]
      exact ⟨q1, q2, mono _ q1 q2 q3, q4⟩
    · rw [if_neg c]
      have e1 := eb x (by omega) x2
      have e2 : nx h x = 1 := by
        apply Classical.byContradiction
        intro z
        rw [if_neg z] at e1
        exact c (e1.symm.trans x3)
      have e : hg' x = h := by rw [eg x (by omega) x2, if_pos ⟨e2, c⟩]
      rw [e, if_pos hb]
      exact ⟨h1, h2, mono _ h1 h2 hb, Nat.lt_succ_self _⟩
  · have hm := cnb_m (b := b) (b' := b') n.toNat (fun x x1 x2 => mono x x1 (by omega))
    rcases kc with a | a | a
    · exact Or.inl (fun x x1 x2 => mono x x1 x2 (a x x1 x2))
    · exact Or.inr (Or.inl (by omega))
    · by_cases hz : ∃ y, 0 ≤ y ∧ y < n ∧ nx h y = 1 ∧ b y ≠ 1
      · obtain ⟨y, y1, y2, y3, y4⟩ := hz
        have := cnb_lt (b := b) (b' := b') y1 y4 (by rw [eb y y1 y2, if_pos y3]) n.toNat (by omega) (fun x x1 x2 => mono x x1 (by omega))
        exact Or.inr (Or.inl (by omega))
      · have same : ∀ x, 0 ≤ x → x < n → b' x = 1 → b x = 1 := fun x x1 x2 x3 => by
          apply Classical.byContradiction
          intro z
          have e1 := eb x x1 x2
          by_cases e2 : nx h x = 1
          · exact hz ⟨x, x1, x2, e2, z⟩
          · rw [if_neg e2] at e1
            exact z (e1.symm.trans x3)
        refine Or.inr (Or.inr ⟨by omega, fun x x1 x2 x3 x4 y y1 y2 y3 => ?_⟩)
        have x5 := same x x1 x3 x4
        by_cases e : x = h
        · rw [e] at y3
          rw [eb y y1 y2, if_pos y3]
        · exact mono y y1 y2 (a.2 x x1 (by omega) x3 x5 y y1 y2 y3)
theorem hu_full (b0 : b 0 = 1) (hn : 1 ≤ n) (hc : ∀ x, 0 ≤ x → x < n → b x = 1 → ∀ y, 0 ≤ y → y < n → nx x y = 1 → b y = 1) (g : gc_ok n nx) : ∀ x, 0 ≤ x → x < n → b x = 1 := by
  obtain ⟨v, P, ρ, v1, v2, hP⟩ := g
  have up : ∀ (m : Nat) (x : Int), ρ x ≤ m → 0 ≤ x → x < n → b x = 1 → b v = 1 := by
    intro m
    induction m with
    | zero =>
      intro x hx x1 x2 x3
      by_cases e : x = v
      · rw [← e]; exact x3
      · have := (hP x x1 x2 e).2.2.1; omega
    | succ m ih =>
      intro x hx x1 x2 x3
      by_cases e : x = v
      · rw [← e]; exact x3
      · obtain ⟨q1, q2, q3, q4, q5⟩ := hP x x1 x2 e
        exact ih (P x) (by omega) q1 q2 (hc x x1 x2 x3 _ q1 q2 q4)
  have bv := up _ 0 (Nat.le_refl _) (by omega) (by omega) b0
  have dn : ∀ (m : Nat) (x : Int), ρ x ≤ m → 0 ≤ x → x < n → b x = 1 := by
    intro m
    induction m with
    | zero =>
      intro x hx x1 x2
      by_cases e : x = v
      · rw [e]; exact bv
      · have := (hP x x1 x2 e).2.2.1; omega
    | succ m ih =>
      intro x hx x1 x2
      by_cases e : x = v
      · rw [e]; exact bv
      · obtain ⟨q1, q2, q3, q4, q5⟩ := hP x x1 x2 e
        exact hc _ q1 q2 (ih (P x) (by omega) q1 q2) x x1 x2 q5
  exact fun x x1 x2 => dn _ x (Nat.le_refl _) x1 x2
theorem hu_next (k : hu_ok n nx b hg r h) (hh : n ≤ h) (hn : 1 ≤ n) (g : gc_ok n nx) : hu_ok n nx b hg (r + 1) 0 := by
  refine ⟨k.1, ?_⟩
  rcases k.2 with a | a | a
  · exact Or.inl a
  · exact Or.inr (Or.inr ⟨by omega, fun x x1 x2 => by omega⟩)
  · exact Or.inl (hu_full k.1.1 hn (fun x x1 x2 => a.2 x x1 (by omega) x2) g)
theorem hu_end (k : hu_ok n nx b hg r 0) (hr : n ≤ r) (hn : 1 ≤ n) : tr n hg := by
  have hl := cnb_le b n.toNat
  have hf : ∀ x, 0 ≤ x → x < n → b x = 1 := by
    rcases k.2 with a | a | a
    · exact a
    · omega
    · have := a.1; omega
  obtain ⟨⟨b0, g0, ρ, hρ⟩, -⟩ := k
  exact ⟨fun _ => g0, ρ, fun x x1 x2 => by
    obtain ⟨q1, q2, q3, q4⟩ := hρ x x1 x2 (hf x (by omega) x2)
    exact ⟨q1, q2, q4⟩⟩
end HU
section PF2
variable {n i : Int} {mk L : Int → Int} {nx : Int → Int → Int}
/-- an end that isn't the last house -/
theorem pf_end2 (h : pf_ok n mk L nx i) (i0 : 0 ≤ i) (hi : i ≤ n - 2) (hn : 2 ≤ n) : ∃ l, 0 ≤ l ∧ l < n - 1 ∧ L l = 1 := by
  apply Classical.byContradiction
  intro hc
  have nn := fun (x : Int) (x1 : 0 ≤ x) (x2 : x < n) => pf_nn h hi x1 x2
  have no : ∀ x, 0 ≤ x → x < n - 1 → L x ≠ 1 := fun x x1 x2 x3 => hc ⟨x, x1, x2, x3⟩
  obtain ⟨-, hs, hk, -⟩ := h
  have two := sml_two (L := fun x => if x = n - 1 then (if L x = 1 then 2 else L x) else L x) n.toNat (fun y y1 y2 => by
    have := nn y y1 (by omega)
    by_cases e : y = n - 1
    · rw [if_pos e]
      by_cases e2 : L y = 1
      · rw [if_pos e2]; omega
      · rw [if_neg e2]; exact ⟨this, e2⟩
    · rw [if_neg e]; exact ⟨this, no y y1 (by omega)⟩)
  have ec : cnl (fun x => if x = n - 1 then (if L x = 1 then 2 else L x) else L x) n.toNat = cnl L n.toNat := by
    unfold cnl
    refine List.countP_congr (fun q hq => ?_)
    have hq := List.mem_range.mp hq
    by_cases e : (q : Int) = n - 1
    · by_cases e2 : L (q : Int) = 1
      · simp [e, e2]
        rw [← e, e2]
        simp
      · simp [e]
        rw [← e]
        simp [e2]
    · simp [e]
  have es := sml_up (L := L) (L' := fun x => if x = n - 1 then (if L x = 1 then 2 else L x) else L x) (x := n - 1) (by omega) n.toNat (by omega) (fun y y1 y2 y3 => by
    rw [if_neg y3])
  rw [if_pos rfl] at es
  rw [ec] at two
  by_cases e2 : L (n - 1) = 1
  · rw [if_pos e2] at es; omega
  · rw [if_neg e2] at es; omega
end PF2

