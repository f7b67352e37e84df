/-! ends taken away one by one: L x says how many neighbours of x are left, 0 of one that is gone -/
def dgl (p L : Int → Int) (k : Nat) (h : Int) : Nat := (List.range k).countP (fun q : Nat => decide ((q : Int) ≠ h ∧ (p h = (q : Int) ∨ p (q : Int) = h) ∧ 0 < L (q : Int)))
def cnl (L : Int → Int) (k : Nat) : Nat := (List.range k).countP (fun q : Nat => decide (0 < L (q : Int)))
def mk_ok (N : Int) (p L : Int → Int) (n : Int) : Prop := (∀ x, 0 ≤ x → x < N → 0 ≤ L x ∧ L x ≤ 14) ∧ (∃ top, rm_ok N p (fun x => 0 < L x) top) ∧ (∀ x, 0 ≤ x → x < N → 0 < L x → L x = ((dgl p L N.toNat x : Nat) : Int)) ∧ ((cnl L N.toNat : Nat) : Int) = n
theorem cr_two {P : Nat → Bool} {c d : Nat} : ∀ {N : Nat}, (∀ k, k < N → P k = true → k = c ∨ k = d) → (List.range N).countP P ≤ 2 := by
  intro N h
  have h1 : (List.range N).countP P ≤ (List.range N).countP (fun k => (k == c) || (k == d)) := List.countP_mono_left (fun k hk hp => by
    rcases h k (List.mem_range.mp hk) hp with e | e
    · simp [e]
    · simp [e])
  have h2 : ∀ (M c : Nat), (List.range M).countP (fun k => k == c) ≤ 1 := fun M c => by
    by_cases e : c < M
    · rw [cr_one e (fun k _ => by simp)]; exact Nat.le_refl 1
    · rw [List.countP_eq_zero.mpr (fun k hk hp => by
        have := List.mem_range.mp hk
        have := of_decide_eq_true hp
        omega)]
      exact Nat.zero_le 1
  have h3 : ∀ l : List Nat, l.countP (fun k => (k == c) || (k == d)) ≤ l.countP (fun k => k == c) + l.countP (fun k => k == d) := fun l => by
    induction l with
    | nil => simp
    | cons y l ih =>
      rw [List.countP_cons, List.countP_cons, List.countP_cons]
      cases h4 : (y == c) with
      | true => cases h5 : (y == d) with
        | true => simp; omega
        | false => simp; omega
      | false => cases h5 : (y == d) with
        | true => simp; omega
        | false => simp; omega
  have := h3 (List.range N)
  have := h2 N c
  have := h2 N d
  omega
section MK
variable {N n : Int} {p L L' : Int → Int}
theorem mk_end (t : tr N p) (m : mk_ok N p L n) (h2 : 2 ≤ n) : ∃ l, 0 ≤ l ∧ l < N ∧ L l = 1 := by
  obtain ⟨top, ht⟩ := m.2.1
  have hx : ∃ x, 0 ≤ x ∧ x < N ∧ 0 < L x ∧ x ≠ top := by
    apply Classical.byContradiction
    intro hn
    have h1 : cnl L N.toNat ≤ (List.range N.toNat).countP (fun q : Nat => decide (q = top.toNat)) := List.countP_mono_left (fun k hk hp => by
      apply decide_eq_true
      apply Classical.byContradiction
      intro e
      have e1 := List.mem_range.mp hk
      exact hn ⟨(k : Int), by omega, by omega, of_decide_eq_true hp, by omega⟩)
    rw [cr_one (a := top.toNat) (by have := ht.1; have := ht.2.1; omega) (fun k _ => by simp)] at h1
    have := m.2.2.2
    omega
  obtain ⟨x, x1, x2, x3, x4⟩ := hx
  obtain ⟨δ, dd⟩ := tr_has t
  obtain ⟨l, l1, l2, l3, l4, l5⟩ := rm_end t ht _ δ dd x x1 x2 x3 x4 rfl
  refine ⟨l, l1, l2, ?_⟩
  have hh := ht.2.2.2 l l1 l2 l3 l4
  have hp := tr_p t hh.1 l2
  rw [m.2.2.1 l l1 l2 l3]
  have : dgl p L N.toNat l = 1 := cr_one (a := (p l).toNat) (by omega) (fun k hk => by
    rw [decide_eq_true_iff]
    constructor
    · intro ⟨_, c2, c3⟩
      have := rm_nb (R := fun x => 0 < L x) t l1 l2 (k := (k : Int)) (by omega) (by omega) c3 l5 c2
      omega
    · intro e
      have e2 : (k : Int) = p l := by omega
      rw [e2]
      exact ⟨tr_ne t hh.1 l2, Or.inl rfl, hh.2⟩)
  rw [this]; rfl
theorem mk_nb (m : mk_ok N p L n) {h : Int} (h1 : 0 ≤ h) (h2 : h < N) (h3 : L h = 1) : ∃ q, 0 ≤ q ∧ q < N ∧ q ≠ h ∧ 0 < L q ∧ tr_nx p h q ∧ ∀ k, 0 ≤ k → k < N → 0 < L k → k ≠ h → tr_nx p h k → k = q := by
  have e := m.2.2.1 h h1 h2 (by omega)
  obtain ⟨a, a1, a2, a3⟩ := cr_uniq (P := fun q : Nat => decide ((q : Int) ≠ h ∧ (p h = (q : Int) ∨ p (q : Int) = h) ∧ 0 < L (q : Int))) (N := N.toNat) (by unfold dgl at e; omega)
  have a4 := of_decide_eq_true a2
  refine ⟨(a : Int), by omega, by omega, a4.1, a4.2.2, a4.2.1, fun k k1 k2 k3 k4 k5 => ?_⟩
  have := a3 k.toNat (by omega) (decide_eq_true (by rw [Int.toNat_of_nonneg k1]; exact ⟨k4, k5, k3⟩))
  omega
theorem nx_sym {a b : Int} (h : tr_nx p a b) : tr_nx p b a := Or.symm h
theorem mk_two (t : tr N p) (m : mk_ok N p L n) (hn : 3 ≤ n) {h q : Int} (h1 : 0 ≤ h) (h2 : h < N) (h3 : L h = 1) (q1 : 0 ≤ q) (q2 : q < N) (q3 : q ≠ h) (q4 : 0 < L q) (q5 : tr_nx p h q) : 2 ≤ L q := by
  apply Classical.byContradiction
  intro hc
  have hq : L q = 1 := by omega
  obtain ⟨top, ht⟩ := m.2.1
  -- one of the two is the other's front
  have core : ∀ c d : Int, 0 ≤ c → c < N → 0 ≤ d → d < N → L c = 1 → L d = 1 → 1 ≤ c → p c = d → False := by
    intro c d c1 c2 d1 d2 c3 d3 c4 hcd
    obtain ⟨x, _, _, _, _, _, xu⟩ := mk_nb m c1 c2 c3
    obtain ⟨y, _, _, _, _, _, yu⟩ := mk_nb m d1 d2 d3
    have hne : c ≠ d := fun e => tr_ne t c4 c2 (by rw [hcd]; exact e.symm)
    have xd := xu d d1 d2 (by omega) (fun e => hne e.symm) (Or.inl hcd)
    have yc := yu c c1 c2 (by omega) hne (Or.inr hcd)
    subst xd
    subst yc
    have hdt : d = top := by
      apply Classical.byContradiction
      intro e
      have g := ht.2.2.2 d d1 d2 (by show 0 < L d; omega) e
      have gp := tr_p t g.1 d2
      have := yu (p d) gp.1 gp.2 g.2 (tr_ne t g.1 d2) (Or.inl rfl)
      obtain ⟨δ, dd⟩ := tr_has t
      have e1 := dd.2.1 d g.1 d2
      have e2 := dd.2.1 c c4 c2
      rw [this] at e1
      rw [hcd] at e2
      omega
    have all : ∀ x, 0 ≤ x → x < N → (0 < L x → x = c ∨ x = d) := by
      refine tr_ind t (P := fun x => 0 < L x → x = c ∨ x = d) ?_ ?_
      · intro h0
        right
        apply Classical.byContradiction
        intro e
        have := (ht.2.2.2 0 (by omega) (by omega) h0 (fun z => e (z.trans hdt.symm))).1
        omega
      · intro x x1 x2 ih h0
        by_cases e : x = d
        · exact Or.inr e
        · have g := ht.2.2.2 x (by omega) x2 h0 (fun z => e (z.trans hdt.symm))
          rcases ih g.2 with k | k
          · by_cases e2 : x = c
            · exact Or.inl e2
            · exact Or.inr (xu x (by omega) x2 h0 e2 (Or.inr k))
          · exact Or.inl (yu x (by omega) x2 h0 e (Or.inr k))
    have h5 : cnl L N.toNat ≤ 2 := cr_two (c := c.toNat) (d := d.toNat) (fun k hk hp => by
      have := all (k : Int) (by omega) (by omega) (of_decide_eq_true hp)
      omega)
    have := m.2.2.2
    omega
  rcases tr_nxc t h1 h2 q1 q2 q5 with ⟨a, b⟩ | ⟨a, b⟩
  · exact core h q h1 h2 q1 q2 h3 hq a b
  · exact core q h q1 q2 h1 h2 hq h3 a b
theorem mk_take (t : tr N p) (m : mk_ok N p L n) (hn : 3 ≤ n) {h q : Int} (h1 : 0 ≤ h) (h2 : h < N) (h3 : L h = 1) (q1 : 0 ≤ q) (q2 : q < N) (q3 : q ≠ h) (q4 : 0 < L q) (q5 : tr_nx p h q) (eh : L' h = 0) (eq : L' q = L q - 1) (eo : ∀ x, 0 ≤ x → x < N → x ≠ h → x ≠ q → L' x = L x) : mk_ok N p L' (n - 1) := by
  have hq2 := mk_two t m hn h1 h2 h3 q1 q2 q3 q4 q5
  have pos : ∀ x, 0 ≤ x → x < N → (0 < L' x ↔ 0 < L x ∧ x ≠ h) := fun x x1 x2 => by
    by_cases e : x = h
    · rw [e, eh]; exact ⟨fun z => absurd z (by decide), fun z => absurd rfl z.2⟩
    · by_cases e2 : x = q
      · rw [e2, eq]; exact ⟨fun _ => ⟨by omega, q3⟩, fun _ => by omega⟩
      · rw [eo x x1 x2 e e2]; exact ⟨fun z => ⟨z, e⟩, fun z => z.1⟩
  obtain ⟨y, y1, y2, y3, y4, y5, yu⟩ := mk_nb m h1 h2 h3
  have qu : ∀ k, 0 ≤ k → k < N → 0 < L k → k ≠ h → tr_nx p h k → k = q := fun k k1 k2 k3 k4 k5 => (yu k k1 k2 k3 k4 k5).trans (yu q q1 q2 q4 q3 q5).symm
  refine ⟨fun x x1 x2 => ?_, ?_, fun x x1 x2 x3 => ?_, ?_⟩
  · have := m.1 x x1 x2
    by_cases e : x = h
    · rw [e, eh]; omega
    · by_cases e2 : x = q
      · rw [e2] at this; rw [e2, eq]; omega
      · rw [eo x x1 x2 e e2]; exact this
  · obtain ⟨top, ht⟩ := m.2.1
    exact rm_take (R := fun x => 0 < L x) (R' := fun x => 0 < L' x) t ht h1 h2 (by show 0 < L h; omega) q1 q2 q4 q3 q5 qu (fun x x1 x2 => pos x x1 x2)
  · have xp := (pos x x1 x2).mp x3
    have hm := m.2.2.1 x x1 x2 xp.1
    by_cases e2 : x = q
    · subst e2
      rw [eq, hm]
      have := cr_dec (P := fun k : Nat => decide ((k : Int) ≠ x ∧ (p x = (k : Int) ∨ p (k : Int) = x) ∧ 0 < L (k : Int))) (Q := fun k : Nat => decide ((k : Int) ≠ x ∧ (p x = (k : Int) ∨ p (k : Int) = x) ∧ 0 < L' (k : Int))) (N := N.toNat) (a := h.toNat) (by omega)
        (decide_eq_true (by rw [Int.toNat_of_nonneg h1]; exact ⟨fun z => q3 z.symm, nx_sym q5, by omega⟩))
        (decide_eq_false (by rw [Int.toNat_of_nonneg h1, eh]; exact fun z => absurd z.2.2 (by decide)))
        (fun k hk kh => by
          apply decide_eq_decide.mpr
          have kp := pos (k : Int) (by omega) (by omega)
          exact ⟨fun z => ⟨z.1, z.2.1, (kp.mp z.2.2).1⟩, fun z => ⟨z.1, z.2.1, kp.mpr ⟨z.2.2, by omega⟩⟩⟩)
      unfold dgl
      omega
    · rw [eo x x1 x2 xp.2 e2, hm]
      have : dgl p L N.toNat x = dgl p L' N.toNat x := List.countP_congr (fun k hk => by
        have k1 := List.mem_range.mp hk
        have kp := pos (k : Int) (by omega) (by omega)
        rw [decide_eq_true_iff, decide_eq_true_iff]
        refine ⟨fun z => ⟨z.1, z.2.1, kp.mpr ⟨z.2.2, fun ek => ?_⟩⟩, fun z => ⟨z.1, z.2.1, (kp.mp z.2.2).1⟩⟩
        rw [ek] at z
        exact e2 (qu x x1 x2 xp.1 xp.2 (nx_sym z.2.1)))
      rw [this]
  · have h9 := m.2.2.2
    have := cr_dec (P := fun k : Nat => decide (0 < L (k : Int))) (Q := fun k : Nat => decide (0 < L' (k : Int))) (N := N.toNat) (a := h.toNat) (by omega)
      (decide_eq_true (by rw [Int.toNat_of_nonneg h1]; omega))
      (decide_eq_false (by rw [Int.toNat_of_nonneg h1, eh]; decide))
      (fun k hk kh => by
        apply decide_eq_decide.mpr
        have kp := pos (k : Int) (by omega) (by omega)
        exact ⟨fun z => (kp.mp z).1, fun z => kp.mpr ⟨z, by omega⟩⟩)
    unfold cnl at h9 ⊢
    omega
theorem tr_child (t : tr N p) (h : 2 ≤ N) : ∃ c, 1 ≤ c ∧ c < N ∧ p c = 0 := by
  have := tr_ind t (P := fun x => x = 0 ∨ ∃ c, 1 ≤ c ∧ c < N ∧ p c = 0) (Or.inl rfl) (fun x x1 x2 ih => by
    rcases ih with e | e
    · exact Or.inr ⟨x, x1, x2, e⟩
    · exact Or.inr e) 1 (by omega) (by omega)
  rcases this with e | e
  · omega
  · exact e
theorem dga_pos (t : tr N p) (h : 2 ≤ N) {x : Int} (x1 : 0 ≤ x) (x2 : x < N) : 1 ≤ dga p N.toNat x := by
  have hx : ∃ q, 0 ≤ q ∧ q < N ∧ q ≠ x ∧ (p x = q ∨ p q = x) := by
    by_cases e : x = 0
    · obtain ⟨c, c1, c2, c3⟩ := tr_child t h
      exact ⟨c, by omega, c2, by omega, Or.inr (by rw [c3, e])⟩
    · have := tr_p t (h := x) (by omega) x2
      exact ⟨p x, this.1, this.2, tr_ne t (by omega) x2, Or.inl rfl⟩
  obtain ⟨q, q1, q2, q3, q4⟩ := hx
  unfold dga
  refine List.countP_pos_iff.mpr ⟨q.toNat, List.mem_range.mpr (by omega), decide_eq_true ?_⟩
  rw [Int.toNat_of_nonneg q1]
  exact ⟨q3, q4⟩
theorem dga_le (p : Int → Int) (k : Nat) (x : Int) : dga p k x ≤ k := by
  have := List.countP_le_length (p := fun q : Nat => decide ((q : Int) ≠ x ∧ (p x = (q : Int) ∨ p (q : Int) = x))) (l := List.range k)
  rw [List.length_range] at this
  exact this
theorem mk_init (t : tr N p) (h : 2 ≤ N) (h14 : N ≤ 14) (hL : ∀ x, 0 ≤ x → x < N → L x = ((dga p N.toNat x : Nat) : Int)) : mk_ok N p L N := by
  have pos : ∀ x, 0 ≤ x → x < N → 0 < L x := fun x x1 x2 => by
    have := dga_pos t h x1 x2
    rw [hL x x1 x2]; omega
  refine ⟨fun x x1 x2 => ?_, ⟨0, by omega, by omega, pos 0 (by omega) (by omega), fun x x1 x2 _ xt => ?_⟩, fun x x1 x2 _ => ?_, ?_⟩
  · have := dga_le p N.toNat x
    rw [hL x x1 x2]; omega
  · have := tr_p t (h := x) (by omega) x2
    exact ⟨by omega, pos _ this.1 this.2⟩
  · rw [hL x x1 x2]
    have : dga p N.toNat x = dgl p L N.toNat x := List.countP_congr (fun k hk => by
      have k1 := List.mem_range.mp hk
      rw [decide_eq_true_iff, decide_eq_true_iff]
      exact ⟨fun z => ⟨z.1, z.2, pos _ (by omega) (by omega)⟩, fun z => ⟨z.1, z.2.1⟩⟩)
    rw [this]
  · have : cnl L N.toNat = (List.range N.toNat).length := List.countP_eq_length.mpr (fun k hk => decide_eq_true (pos _ (by omega) (by have := List.mem_range.mp hk; omega)))
    rw [this, List.length_range]; omega
end MK
