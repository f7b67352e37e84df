/-! trees: each house but 0 hangs at one of lesser rank -/
def tr (n : Int) (p : Int → Int) : Prop := (0 < n → p 0 = -1) ∧ ∃ r : Int → Nat, ∀ h, 1 ≤ h → h < n → 0 ≤ p h ∧ p h < n ∧ r (p h) < r h
theorem tr_p {n : Int} {p : Int → Int} (t : tr n p) {h : Int} (h1 : 1 ≤ h) (h2 : h < n) : 0 ≤ p h ∧ p h < n := by
  obtain ⟨-, r, hr⟩ := t
  exact ⟨(hr h h1 h2).1, (hr h h1 h2).2.1⟩
theorem tr_ne {n : Int} {p : Int → Int} (t : tr n p) {h : Int} (h1 : 1 ≤ h) (h2 : h < n) : p h ≠ h := by
  obtain ⟨-, r, hr⟩ := t
  intro e
  have := (hr h h1 h2).2.2
  rw [e] at this
  omega
theorem tr_ind {n : Int} {p : Int → Int} (t : tr n p) {P : Int → Prop} (h0 : P 0) (hs : ∀ h, 1 ≤ h → h < n → P (p h) → P h) : ∀ h, 0 ≤ h → h < n → P h := by
  obtain ⟨-, r, hr⟩ := t
  have key : ∀ (m : Nat) (h : Int), r h ≤ m → 0 ≤ h → h < n → P h := by
    intro m
    induction m with
    | zero =>
      intro h hm h1 h2
      by_cases e : h = 0
      · subst e; exact h0
      · have := (hr h (by omega) h2).2.2
        omega
    | succ m ih =>
      intro h hm h1 h2
      by_cases e : h = 0
      · subst e; exact h0
      · obtain ⟨a, b, c⟩ := hr h (by omega) h2
        exact hs h (by omega) h2 (ih (p h) (by omega) a b)
  exact fun h h1 h2 => key (r h) h (Nat.le_refl _) h1 h2
def tr_F {α : Type} (p : Int → Int) (a : α) (g : Int → α → α) : Nat → Int → α
  | 0, _ => a
  | f + 1, h => if h = 0 then a else g h (tr_F p a g f (p h))
theorem tr_rec {α : Type} {n : Int} {p : Int → Int} (t : tr n p) (a : α) (g : Int → α → α) : ∃ F : Int → α, F 0 = a ∧ ∀ h, 1 ≤ h → h < n → F h = g h (F (p h)) := by
  obtain ⟨-, r, hr⟩ := t
  have st : ∀ (f : Nat) (h : Int), 0 ≤ h → h < n → r h < f → ∀ f', r h < f' → tr_F p a g f h = tr_F p a g f' h := by
    intro f
    induction f with
    | zero => intro h _ _ hf; omega
    | succ f ih =>
      intro h h1 h2 hf f' hf'
      cases f' with
      | zero => omega
      | succ f' =>
        unfold tr_F
        by_cases e : h = 0
        · rw [if_pos e, if_pos e]
        · rw [if_neg e, if_neg e]
          obtain ⟨x, y, z⟩ := hr h (by omega) h2
          rw [ih (p h) x y (by omega) f' (by omega)]
  refine ⟨fun h => tr_F p a g (r h + 1) h, ?_, fun h h1 h2 => ?_⟩
  · show tr_F p a g (r 0 + 1) 0 = a
    unfold tr_F
    rw [if_pos rfl]
  · obtain ⟨x, y, z⟩ := hr h h1 h2
    show tr_F p a g (r h + 1) h = g h (tr_F p a g (r (p h) + 1) (p h))
    rw [show tr_F p a g (r h + 1) h = if h = 0 then a else g h (tr_F p a g (r h) (p h)) from rfl, if_neg (by omega), st (r h) (p h) x y z (r (p h) + 1) (by omega)]
theorem cnt_lt {α : Type} {P Q : α → Bool} : ∀ {l : List α}, (∀ x ∈ l, P x = true → Q x = true) → (∃ x ∈ l, Q x = true ∧ P x = false) → l.countP P < l.countP Q
  | [], _, h => by obtain ⟨x, hx, -⟩ := h; cases hx
  | y :: l, h1, h2 => by
    have hle : ∀ l : List α, (∀ x ∈ l, P x = true → Q x = true) → l.countP P ≤ l.countP Q := by
      intro l
      induction l with
      | nil => intro _; exact Nat.le_refl _
      | cons z l ih =>
        intro h
        have := ih (fun x hx => h x (List.mem_cons_of_mem _ hx))
        rw [List.countP_cons, List.countP_cons]
        have hz := h z List.mem_cons_self
        by_cases e : P z = true
        · rw [if_pos e, if_pos (hz e)]; omega
        · rw [if_neg e]; split <;> omega
    have h1' : ∀ x ∈ l, P x = true → Q x = true := fun x hx => h1 x (List.mem_cons_of_mem _ hx)
    rw [List.countP_cons, List.countP_cons]
    obtain ⟨x, hx, q1, q2⟩ := h2
    rcases List.mem_cons.mp hx with rfl | hx
    · rw [if_pos q1, if_neg (by rw [q2]; decide)]
      have := hle l h1'
      omega
    · have := cnt_lt h1' ⟨x, hx, q1, q2⟩
      have hy := h1 y List.mem_cons_self
      by_cases e : P y = true
      · rw [if_pos e, if_pos (hy e)]; omega
      · rw [if_neg e]; split <;> omega
/-- a rank below n -/
theorem tr_rank {n : Int} {p : Int → Int} (t : tr n p) : ∃ c : Int → Nat, (∀ h, 1 ≤ h → h < n → 0 ≤ p h ∧ p h < n ∧ c (p h) < c h) ∧ ∀ h, 0 ≤ h → h < n → (c h : Int) ≤ n - 1 := by
  obtain ⟨-, r, hr⟩ := t
  refine ⟨fun h => (List.range n.toNat).countP (fun k : Nat => decide (r (k : Int) < r h)), fun h h1 h2 => ?_, fun h h1 h2 => ?_⟩
  · obtain ⟨a, b, c⟩ := hr h h1 h2
    refine ⟨a, b, cnt_lt (fun x _ hx => ?_) ⟨(p h).toNat, List.mem_range.mpr (by omega), ?_, ?_⟩⟩
    · have := of_decide_eq_true hx
      exact decide_eq_true (by omega)
    · exact decide_eq_true (by rw [Int.toNat_of_nonneg a]; exact c)
    · exact decide_eq_false (by rw [Int.toNat_of_nonneg a]; omega)
  · have h3 : (List.range n.toNat).countP (fun k : Nat => decide (r (k : Int) < r h)) < (List.range n.toNat).countP (fun _ => true) := cnt_lt (fun _ _ _ => rfl) ⟨h.toNat, List.mem_range.mpr (by omega), rfl, decide_eq_false (by rw [Int.toNat_of_nonneg h1]; omega)⟩
    have h4 : (List.range n.toNat).countP (fun _ => true) = n.toNat := by
      rw [List.countP_true, List.length_range]
    show (((List.range n.toNat).countP (fun k : Nat => decide (r (k : Int) < r h)) : Nat) : Int) ≤ n - 1
    omega
/-- how deep houses lie -/
def tr_dep (n : Int) (p δ : Int → Int) : Prop := δ 0 = 0 ∧ (∀ h, 1 ≤ h → h < n → δ h = δ (p h) + 1) ∧ ∀ h, 0 ≤ h → h < n → 0 ≤ δ h ∧ δ h ≤ n - 1
theorem tr_has {n : Int} {p : Int → Int} (t : tr n p) : ∃ δ, tr_dep n p δ := by
  obtain ⟨δ, d0, d1⟩ := tr_rec t (0 : Int) (fun _ x => x + 1)
  obtain ⟨c, c1, c2⟩ := tr_rank t
  refine ⟨δ, d0, d1, fun h h1 h2 => ?_⟩
  have key : ∀ h, 0 ≤ h → h < n → 0 ≤ δ h ∧ δ h ≤ c h := by
    refine tr_ind t (P := fun h => 0 ≤ δ h ∧ δ h ≤ c h) ?_ ?_
    · rw [d0]; omega
    · intro h h1 h2 ih
      have := c1 h h1 h2
      rw [d1 h h1 h2]
      omega
  have := key h h1 h2
  have := c2 h h1 h2
  omega
/-- whether a house is another one (h) or behind it -/
def tr_beh (n : Int) (p : Int → Int) (h : Int) (B : Int → Prop) : Prop := (B 0 ↔ 0 = h) ∧ ∀ k, 1 ≤ k → k < n → (B k ↔ k = h ∨ B (p k))
theorem tr_hasb {n : Int} {p : Int → Int} (t : tr n p) (h : Int) : ∃ B, tr_beh n p h B := by
  obtain ⟨F, f0, f1⟩ := tr_rec t ((0 : Int) = h) (fun k x => k = h ∨ x)
  exact ⟨F, by rw [f0], fun k h1 h2 => by rw [f1 k h1 h2]⟩
theorem tr_beh_self {n : Int} {p : Int → Int} {h : Int} {B : Int → Prop} (b : tr_beh n p h B) (h1 : 0 ≤ h) (h2 : h < n) : B h := by
  by_cases e : h = 0
  · have := b.1
    rw [e] at this ⊢
    exact this.mpr rfl
  · exact (b.2 h (by omega) h2).mpr (Or.inl rfl)
/-- behind a house: deeper, but itself -/
theorem tr_beh_dep {n : Int} {p δ : Int → Int} {h : Int} {B : Int → Prop} (t : tr n p) (dd : tr_dep n p δ) (b : tr_beh n p h B) : ∀ k, 0 ≤ k → k < n → B k → k = h ∨ δ h < δ k := by
  refine tr_ind t (P := fun k => B k → k = h ∨ δ h < δ k) ?_ ?_
  · intro hb; exact Or.inl (b.1.mp hb)
  · intro k h1 h2 ih hb
    rcases (b.2 k h1 h2).mp hb with e | e
    · exact Or.inl e
    · have := dd.2.1 k h1 h2
      rcases ih e with e | e
      · rw [e] at this; exact Or.inr (by omega)
      · exact Or.inr (by omega)
/-- a street hung elsewhere: a tree still, where the new place is not behind it -/
theorem tr_move {n : Int} {p : Int → Int} {h to : Int} {B : Int → Prop} (t : tr n p) (b : tr_beh n p h B) (h1 : 1 ≤ h) (h2 : h < n) (t1 : 0 ≤ to) (t2 : to < n) (hb : ¬ B to) {q : Int → Int} (q1 : q h = to) (q2 : ∀ k, 0 ≤ k → k < n → k ≠ h → q k = p k) : tr n q := by
  obtain ⟨r0, r, hr⟩ := t
  refine ⟨fun hn => by rw [q2 0 (by omega) (by omega) (by omega)]; exact r0 hn, ?_⟩
  have ex : ∀ k : Int, ∃ x : Nat, (B k → x = r k + (r to + 1)) ∧ (¬ B k → x = r k) := fun k => by
    by_cases bk : B k
    · exact ⟨_, fun _ => rfl, fun z => absurd bk z⟩
    · exact ⟨_, fun z => absurd z bk, fun _ => rfl⟩
  obtain ⟨g, hg⟩ := Classical.axiomOfChoice ex
  refine ⟨g, fun k k1 k2 => ?_⟩
  obtain ⟨a1, a2, a3⟩ := hr k k1 k2
  by_cases e : k = h
  · subst e
    rw [q1]
    have bk : B k := (b.2 k k1 k2).mpr (Or.inl rfl)
    refine ⟨t1, t2, ?_⟩
    rw [(hg to).2 hb, (hg k).1 bk]
    omega
  · rw [q2 k (by omega) k2 e]
    refine ⟨a1, a2, ?_⟩
    have bk := b.2 k k1 k2
    by_cases bb : B (p k)
    · rw [(hg (p k)).1 bb, (hg k).1 (bk.mpr (Or.inr bb))]
      omega
    · rw [(hg (p k)).2 bb]
      by_cases bb2 : B k
      · rw [(hg k).1 bb2]; omega
      · rw [(hg k).2 bb2]; exact a3
/-- a house more -/
theorem tr_grow {n : Int} {p q : Int → Int} (t : tr n p) (hn : 0 ≤ n) (q0 : n = 0 → q 0 = -1) (q1 : 0 < n → 0 ≤ q n ∧ q n < n) (q2 : ∀ k, 0 ≤ k → k < n → q k = p k) : tr (n + 1) q := by
  obtain ⟨r0, r, hr⟩ := t
  by_cases e : n = 0
  · refine ⟨fun _ => q0 e, fun _ => 0, fun h h1 h2 => ?_⟩
    omega
  · refine ⟨fun _ => by rw [q2 0 (by omega) (by omega)]; exact r0 (by omega), fun k => if k = n then r (q n) + 1 else r k, fun h h1 h2 => ?_⟩
    have hq := q1 (by omega)
    by_cases e2 : h = n
    · subst e2
      refine ⟨hq.1, by omega, ?_⟩
      show (if q h = h then r (q h) + 1 else r (q h)) < (if h = h then r (q h) + 1 else r h)
      rw [if_neg (by omega), if_pos rfl]
      omega
    · rw [q2 h (by omega) (by omega)]
      obtain ⟨a1, a2, a3⟩ := hr h h1 (by omega)
      refine ⟨a1, by omega, ?_⟩
      show (if p h = n then r (q n) + 1 else r (p h)) < (if h = n then r (q n) + 1 else r h)
      rw [if_neg (by omega), if_neg e2]
      exact a3
theorem tr_congr {n : Int} {p q : Int → Int} (t : tr n p) (h : ∀ k, 0 ≤ k → k < n → q k = p k) : tr n q := by
  obtain ⟨r0, r, hr⟩ := t
  refine ⟨fun hn => by rw [h 0 (by omega) hn]; exact r0 hn, r, fun k k1 k2 => ?_⟩
  rw [h k (by omega) k2]
  exact hr k k1 k2
theorem tr_zero (p : Int → Int) : tr 0 p := ⟨fun h => absurd h (by decide), fun _ => 0, fun h h1 h2 => by omega⟩
