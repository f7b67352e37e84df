/-! a town out of its marks: ends joined one by one; then hung from house 0 on -/
def sml (L : Int → Int) : Nat → Int
  | 0 => 0
  | k + 1 => sml L k + L (k : Int)
theorem sml_congr {L L' : Int → Int} : ∀ (k : Nat), (∀ y : Int, 0 ≤ y → y < (k : Int) → L' y = L y) → sml L' k = sml L k
  | 0, _ => rfl
  | k + 1, h => by
    unfold sml
    rw [sml_congr k (fun y y1 y2 => h y y1 (by omega)), h (k : Int) (by omega) (by omega)]
theorem sml_up {L L' : Int → Int} {x : Int} (x1 : 0 ≤ x) : ∀ (k : Nat), x < (k : Int) → (∀ y : Int, 0 ≤ y → y < (k : Int) → y ≠ x → L' y = L y) → sml L' k = sml L k + (L' x - L x)
  | 0, h, _ => by omega
  | k + 1, h, hy => by
    unfold sml
    by_cases e : x = (k : Int)
    · rw [sml_congr k (fun y y1 y2 => hy y y1 (by omega) (by omega)), ← e]; omega
    · rw [sml_up x1 k (by omega) (fun y y1 y2 y3 => hy y y1 (by omega) y3), hy (k : Int) (by omega) (by omega) (fun z => e z.symm)]; omega
theorem sml_one {L : Int → Int} : ∀ (k : Nat), (∀ y : Int, 0 ≤ y → y < (k : Int) → L y = 1) → sml L k = (k : Int)
  | 0, _ => rfl
  | k + 1, h => by
    unfold sml
    rw [sml_one k (fun y y1 y2 => h y y1 (by omega)), h (k : Int) (by omega) (by omega)]; omega
theorem cnl_s (L : Int → Int) (k : Nat) : cnl L (k + 1) = cnl L k + (if 0 < L (k : Int) then 1 else 0) := by
  unfold cnl
  rw [List.range_succ, List.countP_append, List.countP_singleton]
  by_cases c : 0 < L (k : Int)
  · simp [c]
  · simp [c]
theorem sml_two {L : Int → Int} : ∀ (k : Nat), (∀ y : Int, 0 ≤ y → y < (k : Int) → 0 ≤ L y ∧ L y ≠ 1) → 2 * ((cnl L k : Nat) : Int) ≤ sml L k
  | 0, _ => by show 2 * ((cnl L 0 : Nat) : Int) ≤ 0; simp [cnl]
  | k + 1, h => by
    have ih := sml_two k (fun y y1 y2 => h y y1 (by omega))
    have h1 := h (k : Int) (by omega) (by omega)
    rw [cnl_s]
    show _ ≤ sml L k + L (k : Int)
    by_cases c : 0 < L (k : Int)
    · rw [if_pos c]; omega
    · rw [if_neg c]; omega
theorem fd_m {f : Int → Int} {x : Int} {a b : Nat} (h : a ≤ b) : fd_c f a x ≤ fd_c f b x := by
  induction b with
  | zero => rw [Nat.le_zero.mp h]; exact Nat.le_refl _
  | succ b ih =>
    by_cases e : a = b + 1
    · rw [e]; exact Nat.le_refl _
    · refine Nat.le_trans (ih (by omega)) ?_
      unfold fd_c
      rw [List.range_succ, List.countP_append]
      exact Nat.le_add_right _ _
def pf_ok (n : Int) (mk L : Int → Int) (nx : Int → Int → Int) (i : Int) : Prop := (∀ x, 0 ≤ x → x < n → (L x = 0 ∧ fd_c mk i.toNat x = fd_c mk (n - 2).toNat x) ∨ L x + ((fd_c mk i.toNat x : Nat) : Int) = 1 + ((fd_c mk (n - 2).toNat x : Nat) : Int)) ∧ sml L n.toNat = 2 * n - 2 - 2 * i ∧ ((cnl L n.toNat : Nat) : Int) = n - i ∧ ∃ (P τ : Int → Int), ∀ x, 0 ≤ x → x < n → L x = 0 → 0 ≤ P x ∧ P x < n ∧ 0 ≤ τ x ∧ τ x < i ∧ (L (P x) = 0 → τ x < τ (P x)) ∧ nx x (P x) = 1 ∧ nx (P x) x = 1
def gc_ok (n : Int) (nx : Int → Int → Int) : Prop := ∃ (v : Int) (P : Int → Int) (ρ : Int → Nat), 0 ≤ v ∧ v < n ∧ ∀ x, 0 ≤ x → x < n → x ≠ v → 0 ≤ P x ∧ P x < n ∧ ρ (P x) < ρ x ∧ nx x (P x) = 1 ∧ nx (P x) x = 1
section PF
variable {n i : Int} {mk L L' : Int → Int} {nx nx' : Int → Int → Int}
theorem pf_init (hn : 2 ≤ n) (hL : ∀ x, 0 ≤ x → x < n → L x = 1 + ((fd_c mk (n - 2).toNat x : Nat) : Int)) (hs : sml L n.toNat = 2 * n - 2) : pf_ok n mk L nx 0 := by
  refine ⟨fun x x1 x2 => Or.inr ?_, by omega, ?_, fun x => x, fun x => x, fun x x1 x2 x3 => ?_⟩
  · rw [hL x x1 x2]
    show _ + ((fd_c mk 0 x : Nat) : Int) = _
    simp [fd_c]
  · have : cnl L n.toNat = (List.range n.toNat).length := List.countP_eq_length.mpr (fun k hk => decide_eq_true (by
      have := List.mem_range.mp hk
      rw [hL k (by omega) (by omega)]; omega))
    rw [this, List.length_range]; omega
  · rw [hL x x1 x2] at x3; omega
theorem pf_nn (h : pf_ok n mk L nx i) (hi : i ≤ n - 2) {x : Int} (x1 : 0 ≤ x) (x2 : x < n) : 0 ≤ L x := by
  have h1 := fd_m (f := mk) (x := x) (a := i.toNat) (b := (n - 2).toNat) (by omega)
  rcases h.1 x x1 x2 with e | e
  · omega
  · omega
theorem fd_le (f : Int → Int) (k : Nat) (x : Int) : fd_c f k x ≤ k := by
  have := List.countP_le_length (p := fun q : Nat => decide (f (q : Int) = x)) (l := List.range k)
  rw [List.length_range] at this
  exact this
theorem pf_bd (h : pf_ok n mk L nx i) (hi : i ≤ n - 2) (hn : 2 ≤ n) {x : Int} (x1 : 0 ≤ x) (x2 : x < n) : 0 ≤ L x ∧ L x ≤ n := by
  have h1 := fd_m (f := mk) (x := x) (a := i.toNat) (b := (n - 2).toNat) (by omega)
  have h2 := fd_le mk (n - 2).toNat x
  rcases h.1 x x1 x2 with e | e
  · omega
  · omega
theorem pl_bd {one h : Int} (hn : 2 ≤ n) (p : (one = -1 ∧ pf_ok n mk L nx (n - 2) ∧ ∀ x, 0 ≤ x → x < h → x < n → L x = 0) ∨ (0 ≤ one ∧ one < h ∧ one < n ∧ L one = 1 ∧ pf_ok n mk L nx (n - 2) ∧ ∀ x, 0 ≤ x → x < h → x < n → x ≠ one → L x = 0) ∨ (one = -1 ∧ gc_ok n nx ∧ ∀ x, 0 ≤ x → x < n → L x = 0)) {x : Int} (x1 : 0 ≤ x) (x2 : x < n) : 0 ≤ L x ∧ L x ≤ n := by
  rcases p with q | q | q
  · exact pf_bd q.2.1 (by omega) hn x1 x2
  · exact pf_bd q.2.2.2.2.1 (by omega) hn x1 x2
  · have := q.2.2 x x1 x2; omega
theorem pf_end (h : pf_ok n mk L nx i) (i0 : 0 ≤ i) (hi : i < n - 2) : ∃ l, 0 ≤ l ∧ l < n ∧ L l = 1 := by
  apply Classical.byContradiction
  intro hc
  have h1 := sml_two (L := L) n.toNat (fun y y1 y2 => ⟨pf_nn h (by omega) y1 (by omega), fun e => hc ⟨y, y1, by omega, e⟩⟩)
  have h2 := h.2.1
  have h3 := h.2.2.1
  omega
theorem pf_b (h : pf_ok n mk L nx i) (i0 : 0 ≤ i) (hi : i < n - 2) (b1 : 0 ≤ mk i) (b2 : mk i < n) : 2 ≤ L (mk i) := by
  have h1 := fd_m (f := mk) (x := mk i) (a := (i + 1).toNat) (b := (n - 2).toNat) (by omega)
  have h2 := fd_c_s mk i (mk i) i0
  rw [if_pos rfl] at h2
  rcases h.1 (mk i) b1 b2 with e | e
  · omega
  · omega
theorem pf_step (h : pf_ok n mk L nx i) (i0 : 0 ≤ i) (hi : i < n - 2) {e b : Int} (hb : b = mk i) (b1 : 0 ≤ b) (b2 : b < n) (e1 : 0 ≤ e) (e2 : e < n) (e3 : L e = 1) (le : L' e = 0) (lb : L' b = L b - 1) (lo : ∀ x, 0 ≤ x → x < n → x ≠ e → x ≠ b → L' x = L x) (nm : ∀ x y, 0 ≤ x → x < n → 0 ≤ y → y < n → nx x y = 1 → nx' x y = 1) (n1 : nx' e b = 1) (n2 : nx' b e = 1) : pf_ok n mk L' nx' (i + 1) := by
  have hb2 : 2 ≤ L b := by rw [hb]; exact pf_b h i0 hi (by rw [← hb]; exact b1) (by rw [← hb]; exact b2)
  have hne : b ≠ e := fun z => by rw [z] at hb2; omega
  refine ⟨fun x x1 x2 => ?_, ?_, ?_, ?_⟩
  · have hs := fd_c_s mk i x i0
    have hx := h.1 x x1 x2
    by_cases c1 : x = e
    · rw [if_neg (fun z => hne (by rw [hb, z, c1]))] at hs
      left
      rw [c1] at hs hx ⊢
      refine ⟨le, ?_⟩
      rcases hx with z | z
      · omega
      · omega
    · by_cases c2 : x = b
      · rw [if_pos (by rw [c2, hb])] at hs
        right
        rw [c2] at hs hx ⊢
        rcases hx with z | z
        · omega
        · omega
      · rw [if_neg (fun z => c2 (by rw [hb, z]))] at hs
        rw [lo x x1 x2 c1 c2]
        rcases hx with z | z
        · left; omega
        · right; omega
  · have hs := h.2.1
    have s1 := sml_up (L := L) (L' := fun x => if x = e then 0 else L x) e1 n.toNat (by omega) (fun y _ _ y3 => if_neg y3)
    have s2 := sml_up (L := fun x => if x = e then 0 else L x) (L' := L') b1 n.toNat (by omega) (fun y y1 y2 y3 => by
      show L' y = if y = e then 0 else L y
      by_cases c : y = e
      · rw [if_pos c, c, le]
      · rw [if_neg c]; exact lo y y1 (by omega) c y3)
    rw [if_pos rfl, e3] at s1
    rw [if_neg hne, lb] at s2
    omega
  · have h9 := h.2.2.1
    have := cr_dec (P := fun k : Nat => decide (0 < L (k : Int))) (Q := fun k : Nat => decide (0 < L' (k : Int))) (N := n.toNat) (a := e.toNat) (by omega)
      (decide_eq_true (by rw [Int.toNat_of_nonneg e1]; omega))
      (decide_eq_false (by rw [Int.toNat_of_nonneg e1, le]; decide))
      (fun k hk kh => by
        apply decide_eq_decide.mpr
        by_cases c : (k : Int) = b
        · rw [c, lb]; omega
        · rw [lo k (by omega) (by omega) (by omega) c])
    unfold cnl at h9 ⊢
    omega
  · obtain ⟨P, τ, hP⟩ := h.2.2.2
    refine ⟨fun x => if x = e then b else P x, fun x => if x = e then i else τ x, fun x x1 x2 x3 => ?_⟩
    dsimp only
    by_cases c : x = e
    · rw [if_pos c, if_pos c, if_neg hne]
      refine ⟨b1, b2, i0, by omega, fun z => ?_, by rw [c]; exact n1, by rw [c]; exact n2⟩
      omega
    · have c2 : x ≠ b := fun z => by rw [z] at x3; omega
      have hL : L x = 0 := by rw [← lo x x1 x2 c c2]; exact x3
      obtain ⟨p1, p2, p3, p4, p5, p6, p7⟩ := hP x x1 x2 hL
      rw [if_neg c, if_neg c]
      refine ⟨p1, p2, p3, by omega, fun z => ?_, nm _ _ x1 x2 p1 p2 p6, nm _ _ p1 p2 x1 x2 p7⟩
      by_cases c3 : P x = e
      · rw [if_pos c3]; exact p4
      · rw [if_neg c3]
        have c4 : P x ≠ b := fun w => by rw [w] at z; omega
        exact p5 (by rw [← lo (P x) p1 p2 c3 c4]; exact z)
theorem pf_01 (h : pf_ok n mk L nx (n - 2)) {x : Int} (x1 : 0 ≤ x) (x2 : x < n) : L x = 0 ∨ L x = 1 := by
  rcases h.1 x x1 x2 with e | e
  · omega
  · omega
theorem pf_last (hn : 2 ≤ n) (h : pf_ok n mk L nx (n - 2)) {a b : Int} (a1 : 0 ≤ a) (a2 : a < n) (b1 : 0 ≤ b) (b2 : b < n) (hab : a ≠ b) (a3 : L a = 1) (b3 : L b = 1) (nm : ∀ x y, 0 ≤ x → x < n → 0 ≤ y → y < n → nx x y = 1 → nx' x y = 1) (n1 : nx' a b = 1) (n2 : nx' b a = 1) : gc_ok n nx' ∧ ∀ x, 0 ≤ x → x < n → x ≠ a → x ≠ b → L x = 0 := by
  have zero : ∀ x, 0 ≤ x → x < n → x ≠ a → x ≠ b → L x = 0 := fun x x1 x2 xa xb => by
    have h9 := h.2.2.1
    have g1 := cr_dec (P := fun k : Nat => decide (0 < L (k : Int))) (Q := fun k : Nat => decide (0 < L (k : Int) ∧ (k : Int) ≠ a)) (N := n.toNat) (a := a.toNat) (by omega)
      (decide_eq_true (by rw [Int.toNat_of_nonneg a1]; omega))
      (decide_eq_false (by rw [Int.toNat_of_nonneg a1]; exact fun z => z.2 rfl))
      (fun k hk kh => by
        apply decide_eq_decide.mpr
        exact ⟨fun z => z.1, fun z => ⟨z, by omega⟩⟩)
    have g2 := cr_dec (P := fun k : Nat => decide (0 < L (k : Int) ∧ (k : Int) ≠ a)) (Q := fun k : Nat => decide (0 < L (k : Int) ∧ (k : Int) ≠ a ∧ (k : Int) ≠ b)) (N := n.toNat) (a := b.toNat) (by omega)
      (decide_eq_true (by rw [Int.toNat_of_nonneg b1]; exact ⟨by omega, fun z => hab z.symm⟩))
      (decide_eq_false (by rw [Int.toNat_of_nonneg b1]; exact fun z => z.2.2 rfl))
      (fun k hk kh => by
        apply decide_eq_decide.mpr
        exact ⟨fun z => ⟨z.1, z.2.1⟩, fun z => ⟨z.1, z.2, by omega⟩⟩)
    have g3 : (List.range n.toNat).countP (fun k : Nat => decide (0 < L (k : Int) ∧ (k : Int) ≠ a ∧ (k : Int) ≠ b)) = 0 := by
      unfold cnl at h9
      omega
    rw [List.countP_eq_zero] at g3
    rcases pf_01 h x1 x2 with e | e
    · exact e
    · exact absurd (decide_eq_true (by rw [Int.toNat_of_nonneg x1]; exact ⟨by omega, xa, xb⟩)) (g3 x.toNat (List.mem_range.mpr (by omega)))
  refine ⟨?_, zero⟩
  obtain ⟨P, τ, hP⟩ := h.2.2.2
  refine ⟨b, fun x => if x = a then b else P x, fun x => if x = b then 0 else if x = a then 1 else (n - τ x).toNat + 2, b1, b2, fun x x1 x2 xb => ?_⟩
  dsimp only
  by_cases c : x = a
  · rw [if_pos c, if_pos rfl, if_neg xb, if_pos c]
    exact ⟨b1, b2, by decide, by rw [c]; exact n1, by rw [c]; exact n2⟩
  · obtain ⟨p1, p2, p3, p4, p5, p6, p7⟩ := hP x x1 x2 (zero x x1 x2 c xb)
    rw [if_neg c, if_neg xb, if_neg c]
    refine ⟨p1, p2, ?_, nm _ _ x1 x2 p1 p2 p6, nm _ _ p1 p2 x1 x2 p7⟩
    by_cases c2 : P x = b
    · rw [if_pos c2]; omega
    · by_cases c3 : P x = a
      · rw [if_neg c2, if_pos c3]; omega
      · rw [if_neg c2, if_neg c3]
        have := p5 (zero _ p1 p2 c3 c2)
        have := hP (P x) p1 p2 (zero _ p1 p2 c3 c2)
        omega
/-- the last two are looked for -/
def pl_ok (n : Int) (mk L : Int → Int) (nx : Int → Int → Int) (one h : Int) : Prop := (one = -1 ∧ pf_ok n mk L nx (n - 2) ∧ ∀ x, 0 ≤ x → x < h → x < n → L x = 0) ∨ (0 ≤ one ∧ one < h ∧ one < n ∧ L one = 1 ∧ pf_ok n mk L nx (n - 2) ∧ ∀ x, 0 ≤ x → x < h → x < n → x ≠ one → L x = 0) ∨ (one = -1 ∧ gc_ok n nx ∧ ∀ x, 0 ≤ x → x < n → L x = 0)
theorem pl_init (h : pf_ok n mk L nx (n - 2)) : pl_ok n mk L nx (-1) 0 := Or.inl ⟨rfl, h, fun x x1 x2 => by omega⟩
theorem pl_rng {one h : Int} (p : pl_ok n mk L nx one h) : one = -1 ∨ (0 ≤ one ∧ one < h ∧ one < n ∧ L one = 1) := by
  rcases p with q | q | q
  · exact Or.inl q.1
  · exact Or.inr ⟨q.1, q.2.1, q.2.2.1, q.2.2.2.1⟩
  · exact Or.inl q.1
theorem pl_skip {one h : Int} (p : pl_ok n mk L nx one h) (h1 : 0 ≤ h) (h2 : h < n) (h3 : L h ≠ 1) : pl_ok n mk L nx one (h + 1) := by
  rcases p with q | q | q
  · refine Or.inl ⟨q.1, q.2.1, fun x x1 x2 x3 => ?_⟩
    by_cases e : x = h
    · rw [e]; exact (pf_01 q.2.1 h1 h2).resolve_right h3
    · exact q.2.2 x x1 (by omega) x3
  · refine Or.inr (Or.inl ⟨q.1, by omega, q.2.2.1, q.2.2.2.1, q.2.2.2.2.1, fun x x1 x2 x3 x4 => ?_⟩)
    by_cases e : x = h
    · rw [e]; exact (pf_01 q.2.2.2.2.1 h1 h2).resolve_right h3
    · exact q.2.2.2.2.2 x x1 (by omega) x3 x4
  · exact Or.inr (Or.inr q)
theorem pl_first {one h : Int} (p : pl_ok n mk L nx one h) (ho : one < 0) (h1 : 0 ≤ h) (h2 : h < n) (h3 : L h = 1) : pl_ok n mk L nx h (h + 1) := by
  rcases p with q | q | q
  · refine Or.inr (Or.inl ⟨h1, by omega, h2, h3, q.2.1, fun x x1 x2 x3 x4 => q.2.2 x x1 (by omega) x3⟩)
  · omega
  · have := q.2.2 h h1 h2; omega
theorem pl_join (hn : 2 ≤ n) {one h : Int} (p : pl_ok n mk L nx one h) (ho : 0 ≤ one) (h1 : 0 ≤ h) (h2 : h < n) (h3 : L h = 1) (la : L' one = L one - 1) (lb : L' h = L h - 1) (lo : ∀ x, 0 ≤ x → x < n → x ≠ one → x ≠ h → L' x = L x) (nm : ∀ x y, 0 ≤ x → x < n → 0 ≤ y → y < n → nx x y = 1 → nx' x y = 1) (n1 : nx' one h = 1) (n2 : nx' h one = 1) {k : Int} : pl_ok n mk L' nx' (-1) k := by
  rcases p with q | q | q
  · omega
  · have z := pf_last hn q.2.2.2.2.1 q.1 q.2.2.1 h1 h2 (by omega) q.2.2.2.1 h3 nm n1 n2
    refine Or.inr (Or.inr ⟨rfl, z.1, fun x x1 x2 => ?_⟩)
    by_cases e : x = one
    · rw [e, la, q.2.2.2.1]; rfl
    · by_cases e2 : x = h
      · rw [e2, lb, h3]; rfl
      · rw [lo x x1 x2 e e2]; exact z.2 x x1 x2 e e2
  · omega
theorem pl_end (hn : 2 ≤ n) {one h : Int} (p : pl_ok n mk L nx one h) (hh : n ≤ h) : gc_ok n nx := by
  rcases p with q | q | q
  · have h9 := q.2.1.2.2.1
    have : cnl L n.toNat = 0 := List.countP_eq_zero.mpr (fun k hk hp => by
      have k1 := List.mem_range.mp hk
      have := of_decide_eq_true hp
      rw [q.2.2 k (by omega) (by omega) (by omega)] at this
      omega)
    omega
  · have h9 := q.2.2.2.2.1.2.2.1
    have : cnl L n.toNat = 1 := cr_one (a := one.toNat) (by omega) (fun k hk => by
      rw [decide_eq_true_iff]
      constructor
      · intro z
        apply Classical.byContradiction
        intro w
        rw [q.2.2.2.2.2 k (by omega) (by omega) (by omega) (by omega)] at z
        omega
      · intro z
        have : (k : Int) = one := by omega
        rw [this, q.2.2.2.1]; decide)
    omega
  · exact q.2.1
end PF
def cns (hg : Int → Int) (k : Nat) : Nat := (List.range k).countP (fun q : Nat => decide (hg (q : Int) = -2))
def hb_ok (n : Int) (nx : Int → Int → Int) (hg od : Int → Int) (met i k : Int) : Prop := (1 ≤ met ∧ met + ((cns hg n.toNat : Nat) : Int) = n) ∧ hg 0 = -1 ∧ od 0 = 0 ∧ (∃ pos : Int → Int, pos 0 = 0 ∧ ∀ x, 1 ≤ x → x < n → hg x ≠ -2 → 0 ≤ pos x ∧ pos x < met ∧ od (pos x) = x ∧ 0 ≤ hg x ∧ hg x < n ∧ hg (hg x) ≠ -2 ∧ pos (hg x) < pos x) ∧ (∀ j, 0 ≤ j → j < met → 0 ≤ od j ∧ od j < n ∧ hg (od j) ≠ -2) ∧ (∀ j y, 0 ≤ j → j < met → 1 ≤ y → y < n → (j < i ∨ (j = i ∧ y < k)) → nx (od j) y ≠ 0 → hg y ≠ -2)
section HB
variable {n met i k : Int} {nx : Int → Int → Int} {hg hg' od od' : Int → Int}
theorem hb_init (hn : 1 ≤ n) (h0 : hg 0 = -1) (hx : ∀ x, 1 ≤ x → x < n → hg x = -2) (ho : od 0 = 0) : hb_ok n nx hg od 1 0 1 := by
  refine ⟨⟨by omega, ?_⟩, h0, ho, ⟨fun _ => 0, rfl, fun x x1 x2 x3 => absurd (hx x x1 x2) x3⟩, fun j j1 j2 => ?_, fun j y j1 j2 y1 y2 c => by omega⟩
  · have := cr_dec (P := fun _ : Nat => true) (Q := fun k : Nat => decide (hg (k : Int) = -2)) (N := n.toNat) (a := 0) (by omega) rfl (decide_eq_false (by show ¬ hg 0 = -2; rw [h0]; decide)) (fun k hk kh => decide_eq_true (hx k (by omega) (by omega)))
    rw [List.countP_eq_length.mpr (fun _ _ => rfl), List.length_range] at this
    unfold cns
    omega
  · have : j = 0 := by omega
    subst this
    rw [ho]
    exact ⟨by omega, by omega, by rw [h0]; decide⟩
theorem hb_skip (h : hb_ok n nx hg od met i k) (hc : ¬ (nx (od i) k ≠ 0 ∧ hg k = -2)) : hb_ok n nx hg od met i (k + 1) := by
  refine ⟨h.1, h.2.1, h.2.2.1, h.2.2.2.1, h.2.2.2.2.1, fun j y j1 j2 y1 y2 c z => ?_⟩
  by_cases e : j = i ∧ y = k
  · obtain ⟨e1, e2⟩ := e
    rw [e1, e2] at z
    rw [e2]
    exact fun w => hc ⟨z, w⟩
  · exact h.2.2.2.2.2 j y j1 j2 y1 y2 (by omega) z
theorem hb_next (h : hb_ok n nx hg od met i k) (hk : n ≤ k) : hb_ok n nx hg od met (i + 1) 1 := by
  refine ⟨h.1, h.2.1, h.2.2.1, h.2.2.2.1, h.2.2.2.2.1, fun j y j1 j2 y1 y2 c z => h.2.2.2.2.2 j y j1 j2 y1 y2 (by omega) z⟩
theorem hb_room (h : hb_ok n nx hg od met i k) (k1 : 1 ≤ k) (k2 : k < n) (hk : hg k = -2) : met < n := by
  have : 0 < cns hg n.toNat := List.countP_pos_iff.mpr ⟨k.toNat, List.mem_range.mpr (by omega), decide_eq_true (by rw [Int.toNat_of_nonneg (by omega)]; exact hk)⟩
  have := h.1.2
  omega
theorem hb_le (h : hb_ok n nx hg od met i k) : met ≤ n := by
  have := h.1.2
  omega
theorem hb_take (h : hb_ok n nx hg od met i k) (i1 : 0 ≤ i) (i2 : i < met) (k1 : 1 ≤ k) (k2 : k < n) (hk : hg k = -2) (eh : ∀ x, 0 ≤ x → x < n → hg' x = if k = x then od i else hg x) (eo : ∀ j, 0 ≤ j → j < n → od' j = if met = j then k else od j) : hb_ok n nx hg' od' (met + 1) i (k + 1) := by
  have hm := hb_room h k1 k2 hk
  have hm1 := h.1.1
  have hoi := h.2.2.2.2.1 i i1 i2
  have odk : ∀ j, 0 ≤ j → j < met → od j ≠ k := fun j j1 j2 e => (h.2.2.2.2.1 j j1 j2).2.2 (by rw [e]; exact hk)
  have ho : ∀ j, 0 ≤ j → j < met → od' j = od j := fun j j1 j2 => by rw [eo j j1 (by omega), if_neg (by omega)]
  have hh : ∀ x, 0 ≤ x → x < n → x ≠ k → hg' x = hg x := fun x x1 x2 x3 => by rw [eh x x1 x2, if_neg (fun z => x3 z.symm)]
  have hkk : hg' k = od i := by rw [eh k (by omega) k2, if_pos rfl]
  refine ⟨⟨by omega, ?_⟩, ?_, ?_, ?_, fun j j1 j2 => ?_, fun j y j1 j2 y1 y2 c z => ?_⟩
  · have := cr_dec (P := fun q : Nat => decide (hg (q : Int) = -2)) (Q := fun q : Nat => decide (hg' (q : Int) = -2)) (N := n.toNat) (a := k.toNat) (by omega)
      (decide_eq_true (by rw [Int.toNat_of_nonneg (by omega)]; exact hk))
      (decide_eq_false (by rw [Int.toNat_of_nonneg (by omega), hkk]; omega))
      (fun q hq qk => by
        apply decide_eq_decide.mpr
        rw [hh q (by omega) (by omega) (by omega)])
    have h9 := h.1.2
    unfold cns at h9 ⊢
    omega
  · rw [hh 0 (by omega) (by omega) (by omega)]; exact h.2.1
  · rw [ho 0 (by omega) (by omega)]; exact h.2.2.1
  · obtain ⟨pos, p0, hp⟩ := h.2.2.2.1
    refine ⟨fun x => if x = k then met else pos x, by dsimp only; rw [if_neg (by omega)]; exact p0, fun x x1 x2 x3 => ?_⟩
    dsimp only
    by_cases e : x = k
    · have hpos : pos (od i) < met := by
        by_cases z : od i = 0
        · rw [z, p0]; omega
        · exact (hp (od i) (by omega) hoi.2.1 hoi.2.2).2.1
      rw [if_pos e, e, hkk, if_neg (odk i i1 i2), hh (od i) hoi.1 hoi.2.1 (odk i i1 i2)]
      exact ⟨by omega, by omega, by rw [eo met (by omega) hm, if_pos rfl], hoi.1, hoi.2.1, hoi.2.2, hpos⟩
    · rw [hh x (by omega) x2 e] at x3 ⊢
      obtain ⟨q1, q2, q3, q4, q5, q6, q7⟩ := hp x x1 x2 x3
      have e2 : hg x ≠ k := fun z => q6 (by rw [z]; exact hk)
      rw [if_neg e, if_neg e2, hh (hg x) q4 q5 e2]
      exact ⟨q1, by omega, by rw [ho _ q1 q2]; exact q3, q4, q5, q6, q7⟩
  · by_cases e : j = met
    · rw [e, eo met (by omega) hm, if_pos rfl, hkk]
      exact ⟨by omega, k2, by omega⟩
    · have q := h.2.2.2.2.1 j j1 (by omega)
      rw [ho j j1 (by omega), hh _ q.1 q.2.1 (odk j j1 (by omega))]
      exact q
  · have hj : j < met := by omega
    rw [ho j j1 hj] at z
    by_cases e : y = k
    · rw [e, hkk]; omega
    · rw [hh y (by omega) y2 e]
      exact h.2.2.2.2.2 j y j1 hj y1 y2 (by omega) z
theorem hb_end (h : hb_ok n nx hg od met i k) (hi : met ≤ i) (g : gc_ok n nx) (hn : 1 ≤ n) : tr n hg := by
  obtain ⟨pos, p0, hp⟩ := h.2.2.2.1
  have clo : ∀ x y, 0 ≤ x → x < n → 0 ≤ y → y < n → hg x ≠ -2 → nx x y = 1 → hg y ≠ -2 := fun x y x1 x2 y1 y2 hx hxy => by
    by_cases y0 : y = 0
    · rw [y0, h.2.1]; decide
    · have hj : ∃ j, 0 ≤ j ∧ j < met ∧ od j = x := by
        by_cases x0 : x = 0
        · exact ⟨0, by omega, by have := h.1.1; omega, by rw [x0]; exact h.2.2.1⟩
        · have q := hp x (by omega) x2 hx
          exact ⟨pos x, q.1, q.2.1, q.2.2.1⟩
      obtain ⟨j, j1, j2, j3⟩ := hj
      exact h.2.2.2.2.2 j y j1 j2 (by omega) y2 (by omega) (by rw [j3, hxy]; decide)
  obtain ⟨v, P, ρ, v1, v2, hP⟩ := g
  have hv : ∀ (m : Nat) (x : Int), ρ x = m → 0 ≤ x → x < n → hg x ≠ -2 → hg v ≠ -2 := by
    intro m
    induction m using Nat.strongRecOn with
    | ind m ih =>
      intro x hm x1 x2 hx
      by_cases e : x = v
      · rw [← e]; exact hx
      · have q := hP x x1 x2 e
        exact ih _ (by rw [← hm]; exact q.2.2.1) (P x) rfl q.1 q.2.1 (clo x (P x) x1 x2 q.1 q.2.1 hx q.2.2.2.1)
  have hv0 := hv _ 0 rfl (by omega) (by omega) (by rw [h.2.1]; decide)
  have all : ∀ (m : Nat) (x : Int), ρ x = m → 0 ≤ x → x < n → hg x ≠ -2 := by
    intro m
    induction m using Nat.strongRecOn with
    | ind m ih =>
      intro x hm x1 x2
      by_cases e : x = v
      · rw [e]; exact hv0
      · have q := hP x x1 x2 e
        exact clo (P x) x q.1 q.2.1 x1 x2 (ih _ (by rw [← hm]; exact q.2.2.1) (P x) rfl q.1 q.2.1) q.2.2.2.2
  refine ⟨fun _ => h.2.1, fun x => (pos x).toNat, fun x x1 x2 => ?_⟩
  have q := hp x x1 x2 (all _ x rfl (by omega) x2)
  refine ⟨q.2.2.2.1, q.2.2.2.2.1, ?_⟩
  have : 0 ≤ pos (hg x) := by
    by_cases z : hg x = 0
    · rw [z, p0]; exact Int.le_refl 0
    · exact (hp (hg x) (by omega) q.2.2.2.2.1 q.2.2.2.2.2.1).1
  have q7 := q.2.2.2.2.2.2
  show (pos (hg x)).toNat < (pos x).toNat
  omega
end HB
