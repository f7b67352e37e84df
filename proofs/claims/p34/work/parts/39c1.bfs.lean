/-! houses in the order of their hops: each comes in once, all come in -/
theorem pig : ∀ (m : Nat) (n : Int) (o : Int → Int), (∀ j, 0 ≤ j → j < (m : Int) → 0 ≤ o j ∧ o j < n) → (∀ i j, 0 ≤ i → i < j → j < (m : Int) → o i ≠ o j) → (m : Int) ≤ n ∨ m = 0 := by
  intro m n o h1 h2
  have key : ∀ (k : Nat), k ≤ m → k ≤ (List.range n.toNat).countP (fun x : Nat => (List.range k).any (fun j : Nat => decide (o (j : Int) = (x : Int)))) := by
    intro k
    induction k with
    | zero => intro _; exact Nat.zero_le _
    | succ k ih =>
      intro hk
      have ih := ih (by omega)
      have hr := h1 k (by omega) (by omega)
      have : (List.range n.toNat).countP (fun x : Nat => (List.range k).any (fun j : Nat => decide (o (j : Int) = (x : Int)))) < (List.range n.toNat).countP (fun x : Nat => (List.range (k + 1)).any (fun j : Nat => decide (o (j : Int) = (x : Int)))) := by
        refine cnt_lt (fun x _ hx => ?_) ⟨(o k).toNat, List.mem_range.mpr (by omega), ?_, ?_⟩
        · obtain ⟨j, j1, j2⟩ := List.any_eq_true.mp hx
          exact List.any_eq_true.mpr ⟨j, List.mem_range.mpr (by have := List.mem_range.mp j1; omega), j2⟩
        · exact List.any_eq_true.mpr ⟨k, List.mem_range.mpr (by omega), decide_eq_true (by rw [Int.toNat_of_nonneg hr.1])⟩
        · rw [List.any_eq_false]
          intro j j1 j2
          have j3 := of_decide_eq_true j2
          rw [Int.toNat_of_nonneg hr.1] at j3
          exact h2 j k (by omega) (by have := List.mem_range.mp j1; omega) (by omega) j3
      omega
  have h3 := key m (Nat.le_refl _)
  have h4 : (List.range n.toNat).countP (fun x : Nat => (List.range m).any (fun j : Nat => decide (o (j : Int) = (x : Int)))) ≤ n.toNat := by
    have := List.countP_le_length (l := List.range n.toNat) (p := fun x : Nat => (List.range m).any (fun j : Nat => decide (o (j : Int) = (x : Int))))
    rw [List.length_range] at this
    exact this
  omega
theorem pig' {m n : Int} {o : Int → Int} (hm : 0 ≤ m) (h1 : ∀ j, 0 ≤ j → j < m → 0 ≤ o j ∧ o j < n) (h2 : ∀ i j, 0 ≤ i → i < j → j < m → o i ≠ o j) : m ≤ n ∨ m = 0 := by
  have := pig m.toNat n o (fun j a b => h1 j a (by omega)) (fun i j a b c => h2 i j a b (by omega))
  omega
/-- what holds while house number i of the order is looked at, up to k -/
def bq (n : Int) (p : Int → Int) (b : Int) (η : Int → Int) (m i k : Int) (o fr : Int → Int) : Prop := 1 ≤ m ∧ o 0 = b ∧ fr b = -1 ∧ (∀ j, 0 ≤ j → j < m → 0 ≤ o j ∧ o j < n) ∧ (∀ j l, 0 ≤ j → j < l → l < m → o j ≠ o l) ∧ (∀ j, 1 ≤ j → j < m → ∃ a, 0 ≤ a ∧ a < m ∧ a ≤ i ∧ (a = i → o j < k) ∧ fr (o j) = o a ∧ tr_nx p (o j) (o a) ∧ η (o j) = η (o a) + 1) ∧ (∀ a x, 0 ≤ a → a < m → 0 ≤ x → x < n → tr_nx p (o a) x → η x = η (o a) + 1 → (a < i ∨ (a = i ∧ x < k)) → ∃ j, 0 ≤ j ∧ j < m ∧ o j = x)
section BQ
variable {n : Int} {p : Int → Int} {b : Int} {η : Int → Int} {m i k : Int} {o fr o' fr' : Int → Int}
theorem bq_init (b1 : 0 ≤ b) (b2 : b < n) (e1 : o 0 = b) (e2 : fr b = -1) : bq n p b η 1 0 0 o fr := by
  refine ⟨by omega, e1, e2, fun j j1 j2 => ?_, fun j l j1 j2 j3 => by omega, fun j j1 j2 => by omega, fun a x a1 a2 x1 x2 _ _ h => by omega⟩
  have : j = 0 := by omega
  rw [this, e1]
  exact ⟨b1, b2⟩
theorem bq_next (h : bq n p b η m i k o fr) (hk : n ≤ k) : bq n p b η m (i + 1) 0 o fr := by
  obtain ⟨q1, q2, q3, q4, q5, q6, q7⟩ := h
  refine ⟨q1, q2, q3, q4, q5, fun j j1 j2 => ?_, fun a x a1 a2 x1 x2 hx he hc => ?_⟩
  · obtain ⟨a, a1, a2, a3, a4, a5⟩ := q6 j j1 j2
    exact ⟨a, a1, a2, by omega, fun e => by omega, a5⟩
  · exact q7 a x a1 a2 x1 x2 hx he (by omega)
theorem bq_skip (hp : tr_hop n p b η) (h : bq n p b η m i k o fr) (i1 : 0 ≤ i) (i2 : i < m) (k1 : 0 ≤ k) (hs : k = o i ∨ k = fr (o i) ∨ ¬ tr_nx p (o i) k) : bq n p b η m i (k + 1) o fr := by
  obtain ⟨q1, q2, q3, q4, q5, q6, q7⟩ := h
  refine ⟨q1, q2, q3, q4, q5, fun j j1 j2 => ?_, fun a x a1 a2 x1 x2 hx he hc => ?_⟩
  · obtain ⟨a, a1, a2, a3, a4, a5⟩ := q6 j j1 j2
    exact ⟨a, a1, a2, a3, fun e => by have := a4 e; omega, a5⟩
  · by_cases c : a < i ∨ (a = i ∧ x < k)
    · exact q7 a x a1 a2 x1 x2 hx he c
    · have ea : a = i := by omega
      have ex : x = k := by omega
      subst ea
      subst ex
      exfalso
      rcases hs with hs | hs | hs
      · rw [← hs] at he; omega
      · by_cases a0 : a = 0
        · rw [a0, q2, q3] at hs; omega
        · obtain ⟨c, c1, c2, c3, c4, c5, c6, c7⟩ := q6 a (by omega) i2
          rw [c5] at hs
          rw [← hs] at c7
          omega
      · exact hs hx
/-- the house that comes in is new, and there is room -/
theorem bq_new (hp : tr_hop n p b η) (h : bq n p b η m i k o fr) (i1 : 0 ≤ i) (i2 : i < m) (k1 : 0 ≤ k) (k2 : k < n) (h2 : k ≠ fr (o i)) (h3 : tr_nx p (o i) k) : η k = η (o i) + 1 ∧ (∀ j, 0 ≤ j → j < m → o j ≠ k) ∧ m < n := by
  obtain ⟨q1, q2, q3, q4, q5, q6, q7⟩ := h
  have oi := q4 i i1 i2
  have e1 : η k = η (o i) + 1 := by
    rcases hp.2.2.1 (o i) k oi.1 oi.2 k1 k2 h3 with e | e
    · exact e
    · exfalso
      have hk := hp.2.1 k k1 k2
      have ib : o i ≠ b := fun z => by rw [z, hp.1] at e; omega
      have i0 : i ≠ 0 := fun z => ib (by rw [z]; exact q2)
      obtain ⟨c, c1, c2, c3, c4, c5, c6, c7⟩ := q6 i (by omega) i2
      obtain ⟨u, -, -, -, -, -, u7⟩ := hp.2.2.2 (o i) oi.1 oi.2 ib
      have oc := q4 c c1 c2
      have r1 := u7 k k1 k2 h3 e
      have r2 := u7 (o c) oc.1 oc.2 c6 c7
      exact h2 (by rw [c5, r2, r1])
  have nw : ∀ j, 0 ≤ j → j < m → o j ≠ k := fun j j1 j2 e => by
    have kb : k ≠ b := fun z => by
      rw [z, hp.1] at e1
      have := hp.2.1 (o i) oi.1 oi.2
      omega
    have j0 : j ≠ 0 := fun z => kb (by rw [← e, z]; exact q2)
    obtain ⟨c, c1, c2, c3, c4, c5, c6, c7⟩ := q6 j (by omega) j2
    rw [e] at c6 c7
    obtain ⟨u, -, -, -, -, -, u7⟩ := hp.2.2.2 k k1 k2 kb
    have oc := q4 c c1 c2
    have r1 := u7 (o i) oi.1 oi.2 (Or.symm h3) e1
    have r2 := u7 (o c) oc.1 oc.2 c6 c7
    have ci : c = i := by
      have : o c = o i := by rw [r1, r2]
      by_cases l1 : c < i
      · exact absurd this (q5 c i c1 l1 i2)
      · by_cases l2 : i < c
        · exact absurd this.symm (q5 i c i1 l2 c2)
        · omega
    have := c4 ci
    omega
  refine ⟨e1, nw, ?_⟩
  have pg := pig' (m := m + 1) (n := n) (o := fun j => if j = m then k else o j) (by omega) (fun j j1 j2 => by
    by_cases e : j = m
    · rw [if_pos e]; exact ⟨k1, k2⟩
    · rw [if_neg e]; exact q4 j j1 (by omega)) (fun x y x1 x2 x3 => by
    rw [if_neg (by omega : ¬ x = m)]
    by_cases e : y = m
    · rw [if_pos e]; exact nw x x1 (by omega)
    · rw [if_neg e]; exact q5 x y x1 x2 (by omega))
  omega
theorem bq_push (hp : tr_hop n p b η) (h : bq n p b η m i k o fr) (i1 : 0 ≤ i) (i2 : i < m) (k1 : 0 ≤ k) (k2 : k < n) (h2 : k ≠ fr (o i)) (h3 : tr_nx p (o i) k) (f1 : ∀ x, 0 ≤ x → x < n → fr' x = if x = k then o i else fr x) (f2 : ∀ j, 0 ≤ j → j ≤ m → o' j = if j = m then k else o j) : bq n p b η (m + 1) i (k + 1) o' fr' := by
  obtain ⟨e1, nw, mn⟩ := bq_new hp h i1 i2 k1 k2 h2 h3
  obtain ⟨q1, q2, q3, q4, q5, q6, q7⟩ := h
  have hb : 0 ≤ b ∧ b < n := by have := q4 0 (by omega) (by omega); rw [q2] at this; exact this
  have oj : ∀ j, 0 ≤ j → j < m → o' j = o j := fun j j1 j2 => by rw [f2 j j1 (by omega), if_neg (by omega)]
  have om : o' m = k := by rw [f2 m (by omega) (by omega), if_pos rfl]
  have frj : ∀ j, 0 ≤ j → j < m → fr' (o j) = fr (o j) := fun j j1 j2 => by
    have := q4 j j1 j2
    rw [f1 (o j) this.1 this.2, if_neg (nw j j1 j2)]
  refine ⟨by omega, by rw [oj 0 (by omega) (by omega)]; exact q2, ?_, fun j j1 j2 => ?_, fun j l j1 j2 j3 => ?_, fun j j1 j2 => ?_, fun a x a1 a2 x1 x2 hx he hc => ?_⟩
  · have := frj 0 (by omega) (by omega)
    rw [q2] at this
    rw [this]; exact q3
  · by_cases e : j = m
    · rw [e, om]; exact ⟨k1, k2⟩
    · rw [oj j j1 (by omega)]; exact q4 j j1 (by omega)
  · rw [oj j j1 (by omega)]
    by_cases e : l = m
    · rw [e, om]; exact nw j j1 (by omega)
    · rw [oj l (by omega) (by omega)]; exact q5 j l j1 j2 (by omega)
  · by_cases e : j = m
    · refine ⟨i, i1, by omega, by omega, fun _ => by rw [e, om]; omega, ?_, ?_, ?_⟩
      · rw [e, om, oj i i1 i2, f1 k k1 k2, if_pos rfl]
      · rw [e, om, oj i i1 i2]; exact Or.symm h3
      · rw [e, om, oj i i1 i2]; exact e1
    · obtain ⟨c, c1, c2, c3, c4, c5, c6, c7⟩ := q6 j j1 (by omega)
      rw [oj j (by omega) (by omega)]
      refine ⟨c, c1, by omega, c3, fun z => by have := c4 z; omega, ?_, ?_, ?_⟩
      · rw [frj j (by omega) (by omega), oj c c1 c2]; exact c5
      · rw [oj c c1 c2]; exact c6
      · rw [oj c c1 c2]; exact c7
  · by_cases am : a = m
    · omega
    · rw [oj a a1 (by omega)] at hx he
      by_cases c : a < i ∨ (a = i ∧ x < k)
      · obtain ⟨j, j1, j2, j3⟩ := q7 a x a1 (by omega) x1 x2 hx he c
        exact ⟨j, j1, by omega, by rw [oj j j1 j2]; exact j3⟩
      · exact ⟨m, by omega, by omega, by rw [om]; omega⟩
/-- at the end all have come in; from each the fronts lead to b -/
theorem bq_end (hp : tr_hop n p b η) (h : bq n p b η m i k o fr) (hi : m ≤ i) : m = n ∧ ∀ x, 0 ≤ x → x < n → x ≠ b → 0 ≤ fr x ∧ fr x < n ∧ η x = η (fr x) + 1 := by
  obtain ⟨q1, q2, q3, q4, q5, q6, q7⟩ := h
  have all : ∀ (l : Nat) (x : Int), 0 ≤ x → x < n → (η x).toNat = l → ∃ j, 0 ≤ j ∧ j < m ∧ o j = x := by
    intro l
    induction l using Nat.strongRecOn with
    | ind l ih =>
      intro x x1 x2 hl
      by_cases e : x = b
      · exact ⟨0, by omega, by omega, by rw [q2, e]⟩
      · obtain ⟨u, u1, u2, u3, u4, u5, -⟩ := hp.2.2.2 x x1 x2 e
        have hu := hp.2.1 u u1 u2
        obtain ⟨j, j1, j2, j3⟩ := ih _ (by omega) u u1 u2 rfl
        exact q7 j x j1 j2 x1 x2 (by rw [j3]; exact Or.symm u4) (by rw [j3]; exact u5) (by omega)
  have mn : m = n := by
    have g1 := pig' (m := m) (n := n) (o := o) (by omega) q4 q5
    have ch : ∀ x : Int, ∃ j, 0 ≤ x → x < n → 0 ≤ j ∧ j < m ∧ o j = x := fun x => by
      by_cases c : 0 ≤ x ∧ x < n
      · obtain ⟨j, hj⟩ := all _ x c.1 c.2 rfl
        exact ⟨j, fun _ _ => hj⟩
      · exact ⟨0, fun a b => absurd ⟨a, b⟩ c⟩
    obtain ⟨g, hg⟩ := Classical.axiomOfChoice ch
    have g2 := pig' (m := n) (n := m) (o := g) (by have := q4 0 (by omega) (by omega); omega) (fun j j1 j2 => ⟨(hg j j1 j2).1, (hg j j1 j2).2.1⟩) (fun x y x1 x2 x3 e => by
      have a1 := (hg x x1 (by omega)).2.2
      have a2 := (hg y (by omega) x3).2.2
      rw [e] at a1
      omega)
    omega
  refine ⟨mn, fun x x1 x2 xb => ?_⟩
  obtain ⟨j, j1, j2, j3⟩ := all _ x x1 x2 rfl
  have j0 : j ≠ 0 := fun z => xb (by rw [← j3, z]; exact q2)
  obtain ⟨c, c1, c2, c3, c4, c5, c6, c7⟩ := q6 j (by omega) j2
  have oc := q4 c c1 c2
  rw [j3] at c5 c7
  rw [c5]
  exact ⟨oc.1, oc.2, c7⟩
end BQ
