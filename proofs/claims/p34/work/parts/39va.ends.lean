/-! the middle by streets: ends taken away in rounds. I x > 0: x remains; L x: how many neighbours of it remain -/
def ml_ok (N : Int) (p I L : Int → Int) (n : Int) : Prop := (∃ top, rm_ok N p (fun x => 0 < I x) top) ∧ (∀ x, 0 ≤ x → x < N → 0 < I x → L x = ((dgl p I N.toNat x : Nat) : Int)) ∧ ((cnl I N.toNat : Nat) : Int) = n
section ML
variable {N n : Int} {p I I' L L' : Int → Int}
theorem ml_end (t : tr N p) (m : ml_ok N p I L n) (h2 : 2 ≤ n) : ∃ l, 0 ≤ l ∧ l < N ∧ 0 < I l ∧ L l = 1 := by
  obtain ⟨top, ht⟩ := m.1
  have hx : ∃ x, 0 ≤ x ∧ x < N ∧ 0 < I x ∧ x ≠ top := by
    apply Classical.byContradiction
    intro hn
    have h1 : cnl I N.toNat ≤ (List.range N.toNat).countP (fun q : Nat => decide (q = top.toNat)) := List.countP_mono_left (fun k hk hp => by
      apply decide_eq_true
      apply Classical.byContradiction
      intro e
      have e1 := List.mem_range.mp hk
      exact hn ⟨(k : Int), by omega, by omega, of_decide_eq_true hp, by omega⟩)
    rw [cr_one (a := top.toNat) (by have := ht.1; have := ht.2.1; omega) (fun k _ => by simp)] at h1
    have := m.2.2
    omega
  obtain ⟨x, x1, x2, x3, x4⟩ := hx
  obtain ⟨δ, dd⟩ := tr_has t
  obtain ⟨l, l1, l2, l3, l4, l5⟩ := rm_end t ht _ δ dd x x1 x2 x3 x4 rfl
  refine ⟨l, l1, l2, l3, ?_⟩
  have hh := ht.2.2.2 l l1 l2 l3 l4
  have hp := tr_p t hh.1 l2
  rw [m.2.1 l l1 l2 l3]
  have : dgl p I N.toNat l = 1 := cr_one (a := (p l).toNat) (by omega) (fun k hk => by
    rw [decide_eq_true_iff]
    constructor
    · intro ⟨_, c2, c3⟩
      have := rm_nb (R := fun x => 0 < I x) t l1 l2 (k := (k : Int)) (by omega) (by omega) c3 l5 c2
      omega
    · intro e
      have e2 : (k : Int) = p l := by omega
      rw [e2]
      exact ⟨tr_ne t hh.1 l2, Or.inl rfl, hh.2⟩)
  rw [this]; rfl
theorem ml_nb (m : ml_ok N p I L n) {h : Int} (h1 : 0 ≤ h) (h2 : h < N) (h0 : 0 < I h) (h3 : L h = 1) : ∃ q, 0 ≤ q ∧ q < N ∧ q ≠ h ∧ 0 < I q ∧ tr_nx p h q ∧ ∀ k, 0 ≤ k → k < N → 0 < I k → k ≠ h → tr_nx p h k → k = q := by
  have e := m.2.1 h h1 h2 h0
  obtain ⟨a, a1, a2, a3⟩ := cr_uniq (P := fun q : Nat => decide ((q : Int) ≠ h ∧ (p h = (q : Int) ∨ p (q : Int) = h) ∧ 0 < I (q : Int))) (N := N.toNat) (by unfold dgl at e; omega)
  have a4 := of_decide_eq_true a2
  refine ⟨(a : Int), by omega, by omega, a4.1, a4.2.2, a4.2.1, fun k k1 k2 k3 k4 k5 => ?_⟩
  have := a3 k.toNat (by omega) (decide_eq_true (by rw [Int.toNat_of_nonneg k1]; exact ⟨k4, k5, k3⟩))
  omega
theorem ml_two (t : tr N p) (m : ml_ok N p I L n) (hn : 3 ≤ n) {h q : Int} (h1 : 0 ≤ h) (h2 : h < N) (h0 : 0 < I h) (h3 : L h = 1) (q1 : 0 ≤ q) (q2 : q < N) (q4 : 0 < I q) (q5 : tr_nx p h q) : L q ≠ 1 := by
  intro hq
  obtain ⟨top, ht⟩ := m.1
  have core : ∀ c d : Int, 0 ≤ c → c < N → 0 ≤ d → d < N → 0 < I c → 0 < I d → L c = 1 → L d = 1 → 1 ≤ c → p c = d → False := by
    intro c d c1 c2 d1 d2 ci di c3 d3 c4 hcd
    obtain ⟨x, _, _, _, _, _, xu⟩ := ml_nb m c1 c2 ci c3
    obtain ⟨y, _, _, _, _, _, yu⟩ := ml_nb m d1 d2 di d3
    have hne : c ≠ d := fun e => tr_ne t c4 c2 (by rw [hcd]; exact e.symm)
    have xd := xu d d1 d2 di (fun e => hne e.symm) (Or.inl hcd)
    have yc := yu c c1 c2 ci hne (Or.inr hcd)
    subst xd
    subst yc
    have hdt : d = top := by
      apply Classical.byContradiction
      intro e
      have g := ht.2.2.2 d d1 d2 di e
      have gp := tr_p t g.1 d2
      have := yu (p d) gp.1 gp.2 g.2 (tr_ne t g.1 d2) (Or.inl rfl)
      obtain ⟨δ, dd⟩ := tr_has t
      have e1 := dd.2.1 d g.1 d2
      have e2 := dd.2.1 c c4 c2
      rw [this] at e1
      rw [hcd] at e2
      omega
    have all : ∀ x, 0 ≤ x → x < N → (0 < I x → x = c ∨ x = d) := by
      refine tr_ind t (P := fun x => 0 < I x → x = c ∨ x = d) ?_ ?_
      · intro h0
        right
        apply Classical.byContradiction
        intro e
        have := (ht.2.2.2 0 (by omega) (by omega) h0 (fun z => e (z.trans hdt.symm))).1
        omega
      · intro x x1 x2 ih h0
        by_cases e : x = d
        · exact Or.inr e
        · have g := ht.2.2.2 x (by omega) x2 h0 (fun z => e (z.trans hdt.symm))
          rcases ih g.2 with k | k
          · by_cases e2 : x = c
            · exact Or.inl e2
            · exact Or.inr (xu x (by omega) x2 h0 e2 (Or.inr k))
          · exact Or.inl (yu x (by omega) x2 h0 e (Or.inr k))
    have h5 : cnl I N.toNat ≤ 2 := cr_two (c := c.toNat) (d := d.toNat) (fun k hk hp => by
      have := all (k : Int) (by omega) (by omega) (of_decide_eq_true hp)
      omega)
    have := m.2.2
    omega
  rcases tr_nxc t h1 h2 q1 q2 q5 with ⟨a, b⟩ | ⟨a, b⟩
  · exact core h q h1 h2 q1 q2 h0 q4 h3 hq a b
  · exact core q h q1 q2 h1 h2 q4 h0 hq h3 a b
theorem ml_congr (t : tr N p) (m : ml_ok N p I L n) (hI : ∀ x, 0 ≤ x → x < N → (0 < I' x ↔ 0 < I x)) (hL : ∀ x, 0 ≤ x → x < N → 0 < I x → L' x = L x) : ml_ok N p I' L' n := by
  obtain ⟨⟨top, a, b, c, d⟩, m2, m3⟩ := m
  have ed : ∀ x, dgl p I' N.toNat x = dgl p I N.toNat x := fun x => List.countP_congr (fun k hk => by
    have k1 := List.mem_range.mp hk
    rw [decide_eq_true_iff, decide_eq_true_iff, hI k (by omega) (by omega)])
  have ec : cnl I' N.toNat = cnl I N.toNat := List.countP_congr (fun k hk => by
    have k1 := List.mem_range.mp hk
    rw [decide_eq_true_iff, decide_eq_true_iff, hI k (by omega) (by omega)])
  refine ⟨⟨top, a, b, (hI top a b).mpr c, fun x x1 x2 x3 x4 => ?_⟩, fun x x1 x2 x3 => ?_, by rw [ec]; exact m3⟩
  · have := d x x1 x2 ((hI x x1 x2).mp x3) x4
    have hp := tr_p t this.1 x2
    exact ⟨this.1, (hI _ hp.1 hp.2).mpr this.2⟩
  · rw [ed, hL x x1 x2 ((hI x x1 x2).mp x3)]
    exact m2 x x1 x2 ((hI x x1 x2).mp x3)
theorem ml_take (t : tr N p) (m : ml_ok N p I L n) {h q : Int} (h1 : 0 ≤ h) (h2 : h < N) (h0 : 0 < I h) (q1 : 0 ≤ q) (q2 : q < N) (q3 : q ≠ h) (q4 : 0 < I q) (q5 : tr_nx p h q) (qu : ∀ k, 0 ≤ k → k < N → 0 < I k → k ≠ h → tr_nx p h k → k = q) (pos : ∀ x, 0 ≤ x → x < N → (0 < I' x ↔ 0 < I x ∧ x ≠ h)) (hL : ∀ x, 0 ≤ x → x < N → 0 < I x → x ≠ h → (tr_nx p h x → L' x = L x - 1) ∧ (¬ tr_nx p h x → L' x = L x)) : ml_ok N p I' L' (n - 1) := by
  refine ⟨?_, fun x x1 x2 x3 => ?_, ?_⟩
  · obtain ⟨top, ht⟩ := m.1
    exact rm_take (R := fun x => 0 < I x) (R' := fun x => 0 < I' x) t ht h1 h2 h0 q1 q2 q4 q3 q5 qu (fun x x1 x2 => pos x x1 x2)
  · have xp := (pos x x1 x2).mp x3
    have hm := m.2.1 x x1 x2 xp.1
    have hl := hL x x1 x2 xp.1 xp.2
    by_cases e2 : tr_nx p h x
    · rw [hl.1 e2, hm]
      have := cr_dec (P := fun k : Nat => decide ((k : Int) ≠ x ∧ (p x = (k : Int) ∨ p (k : Int) = x) ∧ 0 < I (k : Int))) (Q := fun k : Nat => decide ((k : Int) ≠ x ∧ (p x = (k : Int) ∨ p (k : Int) = x) ∧ 0 < I' (k : Int))) (N := N.toNat) (a := h.toNat) (by omega)
        (decide_eq_true (by rw [Int.toNat_of_nonneg h1]; exact ⟨fun z => xp.2 z.symm, nx_sym e2, h0⟩))
        (decide_eq_false (by rw [Int.toNat_of_nonneg h1]; exact fun z => ((pos h h1 h2).mp z.2.2).2 rfl))
        (fun k hk kh => by
          apply decide_eq_decide.mpr
          have kp := pos (k : Int) (by omega) (by omega)
          exact ⟨fun z => ⟨z.1, z.2.1, (kp.mp z.2.2).1⟩, fun z => ⟨z.1, z.2.1, kp.mpr ⟨z.2.2, by omega⟩⟩⟩)
      unfold dgl
      omega
    · rw [hl.2 e2, hm]
      have : dgl p I N.toNat x = dgl p I' N.toNat x := List.countP_congr (fun k hk => by
        have k1 := List.mem_range.mp hk
        have kp := pos (k : Int) (by omega) (by omega)
        rw [decide_eq_true_iff, decide_eq_true_iff]
        refine ⟨fun z => ⟨z.1, z.2.1, kp.mpr ⟨z.2.2, fun ek => ?_⟩⟩, fun z => ⟨z.1, z.2.1, (kp.mp z.2.2).1⟩⟩
        rw [ek] at z
        exact e2 (nx_sym z.2.1))
      rw [this]
  · have h9 := m.2.2
    have := cr_dec (P := fun k : Nat => decide (0 < I (k : Int))) (Q := fun k : Nat => decide (0 < I' (k : Int))) (N := N.toNat) (a := h.toNat) (by omega)
      (decide_eq_true (by rw [Int.toNat_of_nonneg h1]; omega))
      (decide_eq_false (by rw [Int.toNat_of_nonneg h1]; exact fun z => ((pos h h1 h2).mp z).2 rfl))
      (fun k hk kh => by
        apply decide_eq_decide.mpr
        have kp := pos (k : Int) (by omega) (by omega)
        exact ⟨fun z => (kp.mp z).1, fun z => kp.mpr ⟨z, by omega⟩⟩)
    unfold cnl at h9 ⊢
    omega
end ML
def cn0 (LV : Int → Int) (k : Nat) : Nat := (List.range k).countP (fun q : Nat => decide (LV (q : Int) = 0))
def lm_bd (N left : Int) (SL : Int → Int) : Prop := ∀ x, 0 ≤ x → x < N → -(N - left) ≤ SL x ∧ SL x ≤ 14
def lm_z (N : Int) (LV : Int → Int) : Prop := ∃ z, 0 ≤ z ∧ z < N ∧ LV z = 0
def lm_q (N : Int) (p LV : Int → Int) (x : Int) : Prop := ∃ q, 0 ≤ q ∧ q < N ∧ q ≠ x ∧ LV q = 0 ∧ tr_nx p x q ∧ ∀ k, 0 ≤ k → k < N → LV k ≤ 0 → k ≠ x → tr_nx p x k → k = q
def lb_ok (N : Int) (p LV SL : Int → Int) (r left : Int) : Prop := ml_ok N p (fun z => 1 - LV z) SL left ∧ (∀ x, 0 ≤ x → x < N → 0 ≤ LV x ∧ LV x < r) ∧ lm_z N LV ∧ lm_bd N left SL
def lc_ok (N : Int) (p LV SL : Int → Int) (r left h : Int) : Prop := ml_ok N p (fun z => 1 - LV z) SL left ∧ (∀ x, 0 ≤ x → x < N → (0 ≤ LV x ∧ LV x < r) ∨ (LV x = -r ∧ SL x = 1)) ∧ (∀ x, 0 ≤ x → x < h → x < N → LV x = 0 → SL x ≠ 1) ∧ (∀ x, h ≤ x → x < N → 0 ≤ LV x) ∧ lm_bd N left SL
def ld_ok (N : Int) (p LV SL : Int → Int) (r left h : Int) : Prop := ml_ok N p (fun z => 1 - LV z) SL left ∧ (∀ x, 0 ≤ x → x < N → (0 ≤ LV x ∧ LV x ≤ r) ∨ (LV x = -r ∧ h ≤ x)) ∧ (∀ x, 0 ≤ x → x < N → LV x = -r → lm_q N p LV x) ∧ lm_z N LV ∧ lm_bd N left SL
def le_ok (N : Int) (p LV SL : Int → Int) (r left h k : Int) : Prop := ∃ SL0 : Int → Int, ml_ok N p (fun z => if z = h then 1 else 1 - LV z) SL0 (left + 1) ∧ (∀ x, 0 ≤ x → x < N → SL x = SL0 x - (if x < k ∧ x ≠ h ∧ (p h = x ∨ p x = h) then 1 else 0)) ∧ lm_bd N (left + 1) SL0 ∧ LV h = r ∧ (∀ x, 0 ≤ x → x < N → (0 ≤ LV x ∧ LV x ≤ r) ∨ (LV x = -r ∧ h + 1 ≤ x)) ∧ lm_q N p LV h ∧ (∀ x, 0 ≤ x → x < N → LV x = -r → lm_q N p LV x) ∧ lm_z N LV
section LM
variable {N r left h k : Int} {p LV LV' SL SL' : Int → Int}
theorem lb_init (t : tr N p) (h1 : 1 ≤ N) (h14 : N ≤ 14) (hV : ∀ x, 0 ≤ x → x < N → LV x = 0) (hS : ∀ x, 0 ≤ x → x < N → SL x = ((dga p N.toNat x : Nat) : Int)) : lb_ok N p LV SL 1 N := by
  have pos : ∀ x, 0 ≤ x → x < N → 0 < 1 - LV x := fun x x1 x2 => by rw [hV x x1 x2]; decide
  refine ⟨⟨⟨0, by omega, by omega, pos 0 (by omega) (by omega), fun x x1 x2 _ xt => ?_⟩, fun x x1 x2 _ => ?_, ?_⟩, fun x x1 x2 => by rw [hV x x1 x2]; decide, ⟨0, by omega, by omega, hV 0 (by omega) (by omega)⟩, fun x x1 x2 => ?_⟩
  · have := tr_p t (h := x) (by omega) x2
    exact ⟨by omega, pos _ this.1 this.2⟩
  · rw [hS x x1 x2]
    have : dga p N.toNat x = dgl p (fun z => 1 - LV z) N.toNat x := List.countP_congr (fun k hk => by
      have k1 := List.mem_range.mp hk
      rw [decide_eq_true_iff, decide_eq_true_iff]
      exact ⟨fun z => ⟨z.1, z.2, pos _ (by omega) (by omega)⟩, fun z => ⟨z.1, z.2.1⟩⟩)
    rw [this]
  · have : cnl (fun z => 1 - LV z) N.toNat = (List.range N.toNat).length := List.countP_eq_length.mpr (fun k hk => decide_eq_true (pos _ (by omega) (by have := List.mem_range.mp hk; omega)))
    rw [this, List.length_range]; omega
  · have := dga_le p N.toNat x
    rw [hS x x1 x2]; omega
theorem lb_lc (b : lb_ok N p LV SL r left) : lc_ok N p LV SL r left 0 := ⟨b.1, fun x x1 x2 => Or.inl (b.2.1 x x1 x2), fun x x1 x2 => by omega, fun x x1 x2 => (b.2.1 x x1 x2).1, b.2.2.2⟩
theorem lc_mark (t : tr N p) (hr : 1 ≤ r) (c : lc_ok N p LV SL r left h) (h1 : 0 ≤ h) (h2 : h < N) (hv : LV h = 0) (hs : SL h = 1) (e : ∀ x, 0 ≤ x → x < N → LV' x = if h = x then -r else LV x) : lc_ok N p LV' SL r left (h + 1) := by
  refine ⟨ml_congr t c.1 (fun x x1 x2 => ?_) (fun _ _ _ _ => rfl), fun x x1 x2 => ?_, fun x x1 x2 x3 x4 => ?_, fun x x1 x2 => ?_, c.2.2.2.2⟩
  · show 0 < 1 - LV' x ↔ 0 < 1 - LV x
    rw [e x x1 x2]
    by_cases g : h = x
    · rw [if_pos g, ← g, hv]; omega
    · rw [if_neg g]
  · rw [e x x1 x2]
    by_cases g : h = x
    · rw [if_pos g, ← g]; exact Or.inr ⟨rfl, hs⟩
    · rw [if_neg g]; exact c.2.1 x x1 x2
  · rw [e x x1 x3] at x4
    by_cases g : h = x
    · rw [if_pos g] at x4; omega
    · rw [if_neg g] at x4; exact c.2.2.1 x x1 (by omega) x3 x4
  · rw [e x (by omega) x2, if_neg (by omega)]
    exact c.2.2.2.1 x (by omega) x2
theorem lc_skip (c : lc_ok N p LV SL r left h) (hv : ¬ (LV h = 0 ∧ SL h = 1)) : lc_ok N p LV SL r left (h + 1) := by
  refine ⟨c.1, c.2.1, fun x x1 x2 x3 x4 x5 => ?_, fun x x1 x2 => c.2.2.2.1 x (by omega) x2, c.2.2.2.2⟩
  by_cases g : x = h
  · rw [g] at x4 x5; exact hv ⟨x4, x5⟩
  · exact c.2.2.1 x x1 (by omega) x3 x4 x5
theorem lc_ld (t : tr N p) (hr : 1 ≤ r) (c : lc_ok N p LV SL r left N) (h3 : 3 ≤ left) : ld_ok N p LV SL r left 0 ∧ ((cn0 LV N.toNat : Nat) : Int) + 1 ≤ left := by
  have mq : ∀ x, 0 ≤ x → x < N → LV x = -r → lm_q N p LV x := fun x x1 x2 x3 => by
    have xs : SL x = 1 := by
      rcases c.2.1 x x1 x2 with g | g
      · omega
      · exact g.2
    have xi : 0 < (fun z => 1 - LV z) x := by show 0 < 1 - LV x; omega
    obtain ⟨q, q1, q2, q3, q4, q5, q6⟩ := ml_nb c.1 x1 x2 xi xs
    have q7 := ml_two t c.1 h3 x1 x2 xi xs q1 q2 q4 q5
    have q8 : 0 < 1 - LV q := q4
    refine ⟨q, q1, q2, q3, ?_, q5, fun k k1 k2 k3 k4 k5 => q6 k k1 k2 (by show 0 < 1 - LV k; omega) k4 k5⟩
    rcases c.2.1 q q1 q2 with g | g
    · omega
    · exact absurd g.2 q7
  obtain ⟨l, l1, l2, l3, l4⟩ := ml_end t c.1 (by omega)
  have l5 : 0 < 1 - LV l := l3
  have l6 : LV l = -r := by
    rcases c.2.1 l l1 l2 with g | g
    · exact absurd l4 (c.2.2.1 l l1 l2 l2 (by omega))
    · exact g.1
  refine ⟨⟨c.1, fun x x1 x2 => ?_, mq, ?_, c.2.2.2.2⟩, ?_⟩
  · rcases c.2.1 x x1 x2 with g | g
    · exact Or.inl ⟨g.1, by omega⟩
    · exact Or.inr ⟨g.1, x1⟩
  · obtain ⟨q, q1, q2, _, q4, _⟩ := mq l l1 l2 l6
    exact ⟨q, q1, q2, q4⟩
  · have h5 : cn0 LV N.toNat < cnl (fun z => 1 - LV z) N.toNat := cnt_lt (fun k hk hp => decide_eq_true (by
      have := of_decide_eq_true hp
      show 0 < 1 - LV (k : Int)
      omega)) ⟨l.toNat, List.mem_range.mpr (by omega), decide_eq_true (by rw [Int.toNat_of_nonneg l1]; exact l3), decide_eq_false (by rw [Int.toNat_of_nonneg l1]; omega)⟩
    have := c.1.2.2
    omega
theorem ld_skip (d : ld_ok N p LV SL r left h) (hv : LV h ≠ -r) : ld_ok N p LV SL r left (h + 1) := by
  refine ⟨d.1, fun x x1 x2 => ?_, d.2.2⟩
  rcases d.2.1 x x1 x2 with g | g
  · exact Or.inl g
  · refine Or.inr ⟨g.1, ?_⟩
    have : x ≠ h := fun e => hv (by rw [← e]; exact g.1)
    omega
theorem ld_le (t : tr N p) (hr : 1 ≤ r) (d : ld_ok N p LV SL r left h) (h1 : 0 ≤ h) (h2 : h < N) (hv : LV h = -r) (e : ∀ x, 0 ≤ x → x < N → LV' x = if h = x then r else LV x) : le_ok N p LV' SL r (left - 1) h 0 ∧ cn0 LV' N.toNat = cn0 LV N.toNat := by
  have lq : ∀ x, 0 ≤ x → x < N → LV x = -r → lm_q N p LV' x := fun x x1 x2 x3 => by
    obtain ⟨q, q1, q2, q3, q4, q5, q6⟩ := d.2.2.1 x x1 x2 x3
    have qh : ¬ h = q := fun g => by rw [← g] at q4; omega
    refine ⟨q, q1, q2, q3, by rw [e q q1 q2, if_neg qh]; exact q4, q5, fun k k1 k2 k3 k4 k5 => ?_⟩
    rw [e k k1 k2] at k3
    by_cases g : h = k
    · rw [if_pos g] at k3; omega
    · rw [if_neg g] at k3; exact q6 k k1 k2 k3 k4 k5
  refine ⟨⟨SL, ?_, fun x x1 x2 => ?_, ?_, ?_, fun x x1 x2 => ?_, lq h h1 h2 hv, fun x x1 x2 x3 => ?_, ?_⟩, ?_⟩
  · rw [show left - 1 + 1 = left by omega]
    refine ml_congr t d.1 (fun x x1 x2 => ?_) (fun _ _ _ _ => rfl)
    show 0 < (if x = h then 1 else 1 - LV' x) ↔ 0 < 1 - LV x
    by_cases g : x = h
    · rw [if_pos g, g, hv]; omega
    · rw [if_neg g, e x x1 x2, if_neg (fun z => g z.symm)]
  · rw [if_neg (by omega)]; omega
  · rw [show left - 1 + 1 = left by omega]; exact d.2.2.2.2
  · rw [e h h1 h2, if_pos rfl]
  · rw [e x x1 x2]
    by_cases g : h = x
    · rw [if_pos g]; exact Or.inl ⟨by omega, by omega⟩
    · rw [if_neg g]
      rcases d.2.1 x x1 x2 with y | y
      · exact Or.inl y
      · exact Or.inr ⟨y.1, by omega⟩
  · rw [e x x1 x2] at x3
    by_cases g : h = x
    · rw [if_pos g] at x3; omega
    · rw [if_neg g] at x3; exact lq x x1 x2 x3
  · obtain ⟨z, z1, z2, z3⟩ := d.2.2.2.1
    refine ⟨z, z1, z2, ?_⟩
    rw [e z z1 z2, if_neg (fun g => by rw [← g] at z3; omega)]
    exact z3
  · refine List.countP_congr (fun k hk => ?_)
    have k1 := List.mem_range.mp hk
    rw [decide_eq_true_iff, decide_eq_true_iff, e k (by omega) (by omega)]
    by_cases g : h = (k : Int)
    · rw [if_pos g, ← g, hv]; omega
    · rw [if_neg g]
theorem ld_pos (hr : 1 ≤ r) (d : ld_ok N p LV SL r left h) (h1 : 0 ≤ h) (h2 : h < N) (hv : LV h = -r) : 1 ≤ left := by
  have h9 := d.1.2.2
  have : 0 < cnl (fun z => 1 - LV z) N.toNat := List.countP_pos_iff.mpr ⟨h.toNat, List.mem_range.mpr (by omega), decide_eq_true (by rw [Int.toNat_of_nonneg h1]; show 0 < 1 - LV h; omega)⟩
  omega
theorem le_step (q : le_ok N p LV SL r left h k) (k1 : 0 ≤ k) (k2 : k < N) (e : ∀ x, 0 ≤ x → x < N → SL' x = if k = x ∧ k ≠ h ∧ (p h = k ∨ p k = h) then SL x - 1 else SL x) : le_ok N p LV SL' r left h (k + 1) := by
  obtain ⟨S0, a, b, c⟩ := q
  refine ⟨S0, a, fun x x1 x2 => ?_, c⟩
  rw [e x x1 x2, b x x1 x2]
  by_cases g : k = x
  · subst g
    by_cases g2 : k ≠ h ∧ (p h = k ∨ p k = h)
    · rw [if_pos ⟨rfl, g2⟩, if_neg (by omega), if_pos ⟨by omega, g2⟩]; omega
    · rw [if_neg (fun z => g2 z.2), if_neg (fun z => g2 z.2), if_neg (fun z => g2 z.2)]
  · rw [if_neg (fun z => g z.1)]
    by_cases g2 : x < k ∧ x ≠ h ∧ (p h = x ∨ p x = h)
    · rw [if_pos g2, if_pos ⟨by omega, g2.2⟩]
    · rw [if_neg g2, if_neg (fun z => g2 ⟨by omega, z.2⟩)]
theorem le_bd (q : le_ok N p LV SL r left h k) {x : Int} (x1 : 0 ≤ x) (x2 : x < N) : -(N - left) ≤ SL x ∧ SL x ≤ 14 := by
  obtain ⟨S0, a, b, c, _⟩ := q
  have := c x x1 x2
  rw [b x x1 x2]
  by_cases g : x < k ∧ x ≠ h ∧ (p h = x ∨ p x = h)
  · rw [if_pos g]; omega
  · rw [if_neg g]; omega
theorem le_ld (t : tr N p) (hr : 1 ≤ r) (q : le_ok N p LV SL r left h N) (h1 : 0 ≤ h) (h2 : h < N) : ld_ok N p LV SL r left (h + 1) := by
  have bd : lm_bd N left SL := fun x x1 x2 => le_bd q x1 x2
  obtain ⟨S0, a, b, c, hv, d, eq, f, g⟩ := q
  refine ⟨?_, d, f, g, bd⟩
  obtain ⟨y, y1, y2, y3, y4, y5, y6⟩ := eq
  rw [show left = left + 1 - 1 by omega]
  refine ml_take t a h1 h2 (by show 0 < (if h = h then 1 else 1 - LV h); rw [if_pos rfl]; decide) y1 y2 y3 (by show 0 < (if y = h then 1 else 1 - LV y); rw [if_neg y3, y4]; decide) y5 (fun k k1 k2 k3 k4 k5 => ?_) (fun x x1 x2 => ?_) (fun x x1 x2 x3 x4 => ?_)
  · have k6 : 0 < (if k = h then 1 else 1 - LV k) := k3
    rw [if_neg k4] at k6
    exact y6 k k1 k2 (by omega) k4 k5
  · show 0 < 1 - LV x ↔ 0 < (if x = h then 1 else 1 - LV x) ∧ x ≠ h
    by_cases z : x = h
    · rw [if_pos z, z, hv]; omega
    · rw [if_neg z]; exact ⟨fun w => ⟨w, z⟩, fun w => w.1⟩
  · refine ⟨fun z => ?_, fun z => ?_⟩
    · rw [b x x1 x2, if_pos ⟨x2, x4, z⟩]
    · rw [b x x1 x2, if_neg (fun w => z w.2.2)]; omega
theorem ld_lb (t : tr N p) (hr : 1 ≤ r) (d : ld_ok N p LV SL r left N) : lb_ok N p LV SL (r + 1) left ∧ left = ((cn0 LV N.toNat : Nat) : Int) := by
  have pos : ∀ x, 0 ≤ x → x < N → 0 ≤ LV x ∧ LV x < r + 1 := fun x x1 x2 => by
    rcases d.2.1 x x1 x2 with g | g
    · omega
    · omega
  refine ⟨⟨d.1, pos, d.2.2.2⟩, ?_⟩
  have h9 := d.1.2.2
  have : cn0 LV N.toNat = cnl (fun z => 1 - LV z) N.toNat := List.countP_congr (fun k hk => by
    have k1 := List.mem_range.mp hk
    rw [decide_eq_true_iff, decide_eq_true_iff]
    have := pos k (by omega) (by omega)
    show LV (k : Int) = 0 ↔ 0 < 1 - LV (k : Int)
    omega)
  rw [this]; omega
end LM
