/-! how far apart houses are -/
theorem tr_hop_le {n : Int} {p : Int → Int} {b : Int} {η : Int → Int} (hp : tr_hop n p b η) : ∀ k, 0 ≤ k → k < n → η k ≤ n - 1 := by
  have key : ∀ (m : Nat) (k : Int), 0 ≤ k → k < n → (η k).toNat = m → η k ≤ ((List.range n.toNat).countP (fun x : Nat => decide (η (x : Int) < η k)) : Nat) := by
    intro m
    induction m using Nat.strongRecOn with
    | ind m ih =>
      intro k k1 k2 hm
      by_cases e : k = b
      · rw [e, hp.1]; omega
      · obtain ⟨u, u1, u2, -, -, u5, -⟩ := hp.2.2.2 k k1 k2 e
        have hk := hp.2.1 u u1 u2
        have h1 := ih (η u).toNat (by omega) u u1 u2 rfl
        have h2 : (List.range n.toNat).countP (fun x : Nat => decide (η (x : Int) < η u)) < (List.range n.toNat).countP (fun x : Nat => decide (η (x : Int) < η k)) := by
          refine cnt_lt (fun x _ hx => ?_) ⟨u.toNat, List.mem_range.mpr (by omega), ?_, ?_⟩
          · have := of_decide_eq_true hx
            exact decide_eq_true (by omega)
          · exact decide_eq_true (by rw [Int.toNat_of_nonneg u1]; omega)
          · exact decide_eq_false (by rw [Int.toNat_of_nonneg u1]; omega)
        omega
  intro k k1 k2
  have h1 := key _ k k1 k2 rfl
  have h2 : (List.range n.toNat).countP (fun x : Nat => decide (η (x : Int) < η k)) < (List.range n.toNat).countP (fun _ => true) := cnt_lt (fun _ _ _ => rfl) ⟨k.toNat, List.mem_range.mpr (by omega), rfl, decide_eq_false (by rw [Int.toNat_of_nonneg k1]; omega)⟩
  rw [List.countP_true, List.length_range] at h2
  omega
def tr_met (n : Int) (p w δ : Int → Int) (D : Int → Int → Int) : Prop := ∀ x y, 0 ≤ x → x < n → 0 ≤ y → y < n → (x = y → D x y = 0) ∧ (x ≠ y → δ y ≤ δ x → D x y = w x + D (p x) y) ∧ (x ≠ y → δ x < δ y → D x y = w y + D x (p y))
def tr_Df (p w δ : Int → Int) : Nat → Int → Int → Int
  | 0, _, _ => 0
  | f + 1, x, y => if x = y then 0 else if δ y ≤ δ x then w x + tr_Df p w δ f (p x) y else w y + tr_Df p w δ f x (p y)
section TM
variable {n : Int} {p w δ : Int → Int} {An D : Int → Int → Int}
theorem tr_dep0 (t : tr n p) (dd : tr_dep n p δ) {x : Int} (h1 : 0 ≤ x) (h2 : x < n) : (1 ≤ x ∧ δ x = δ (p x) + 1 ∧ 1 ≤ δ x ∧ 0 ≤ p x ∧ p x < n) ∨ (x = 0 ∧ δ x = 0) := by
  by_cases e : x = 0
  · right; exact ⟨e, by rw [e]; exact dd.1⟩
  · left
    have a := dd.2.1 x (by omega) h2
    have b := tr_p t (by omega : 1 ≤ x) h2
    have c := dd.2.2 _ b.1 b.2
    exact ⟨by omega, a, by omega, b.1, b.2⟩
theorem tr_hasm (t : tr n p) (dd : tr_dep n p δ) (hn : n ≤ 14) (w : Int → Int) : ∃ D, tr_met n p w δ D := by
  have st : ∀ (f : Nat) (x y : Int), 0 ≤ x → x < n → 0 ≤ y → y < n → (δ x + δ y).toNat < f → ∀ f', (δ x + δ y).toNat < f' → tr_Df p w δ f x y = tr_Df p w δ f' x y := by
    intro f
    induction f with
    | zero => intro x y _ _ _ _ hf; omega
    | succ f ih =>
      intro x y x1 x2 y1 y2 hf f' hf'
      cases f' with
      | zero => omega
      | succ f' =>
        have dx := tr_dep0 t dd x1 x2
        have dy := tr_dep0 t dd y1 y2
        have gx := dd.2.2 x x1 x2
        have gy := dd.2.2 y y1 y2
        unfold tr_Df
        by_cases e : x = y
        · rw [if_pos e, if_pos e]
        · rw [if_neg e, if_neg e]
          by_cases c : δ y ≤ δ x
          · rw [if_pos c, if_pos c]
            rcases dx with ⟨q1, q2, q3, q4, q5⟩ | ⟨q1, q2⟩
            · have gp := dd.2.2 _ q4 q5
              rw [ih (p x) y q4 q5 y1 y2 (by omega) f' (by omega)]
            · rcases dy with ⟨r1, r2, r3, r4, r5⟩ | ⟨r1, r2⟩
              · omega
              · omega
          · rw [if_neg c, if_neg c]
            rcases dy with ⟨q1, q2, q3, q4, q5⟩ | ⟨q1, q2⟩
            · have gp := dd.2.2 _ q4 q5
              rw [ih x (p y) x1 x2 q4 q5 (by omega) f' (by omega)]
            · omega
  refine ⟨tr_Df p w δ 40, fun x y x1 x2 y1 y2 => ?_⟩
  have dx := tr_dep0 t dd x1 x2
  have dy := tr_dep0 t dd y1 y2
  have gx := dd.2.2 x x1 x2
  have gy := dd.2.2 y y1 y2
  have un : tr_Df p w δ 40 x y = if x = y then 0 else if δ y ≤ δ x then w x + tr_Df p w δ 39 (p x) y else w y + tr_Df p w δ 39 x (p y) := rfl
  refine ⟨fun e => by rw [un, if_pos e], fun e c => ?_, fun e c => ?_⟩
  · rw [un, if_neg e, if_pos c]
    rcases dx with ⟨q1, q2, q3, q4, q5⟩ | ⟨q1, q2⟩
    · have gp := dd.2.2 _ q4 q5
      rw [st 39 (p x) y q4 q5 y1 y2 (by omega) 40 (by omega)]
    · rcases dy with ⟨r1, r2, r3, r4, r5⟩ | ⟨r1, r2⟩
      · omega
      · omega
  · rw [un, if_neg e, if_neg (by omega)]
    rcases dy with ⟨q1, q2, q3, q4, q5⟩ | ⟨q1, q2⟩
    · have gp := dd.2.2 _ q4 q5
      rw [st 39 x (p y) x1 x2 q4 q5 (by omega) 40 (by omega)]
    · omega
/-- towards a house that is not behind x, the way leads over where x hangs -/
theorem met_up {A : Int → Int → Prop} (t : tr n p) (dd : tr_dep n p δ) (a : tr_an n p A) (hD : tr_met n p w δ D) {x : Int} (x1 : 1 ≤ x) (x2 : x < n) : ∀ y, 0 ≤ y → y < n → ¬ A x y → D x y = w x + D (p x) y := by
  refine tr_ind t (P := fun y => ¬ A x y → D x y = w x + D (p x) y) ?_ ?_
  · intro g
    have gx := dd.2.2 x (by omega) x2
    exact (hD x 0 (by omega) x2 (by omega) (by omega)).2.1 (by omega) (by rw [dd.1]; omega)
  · intro y y1 y2 ih g
    have hne : x ≠ y := fun e => g (by rw [e]; exact an_refl a (by omega) y2)
    by_cases c : δ y ≤ δ x
    · exact (hD x y (by omega) x2 (by omega) y2).2.1 hne c
    · have hp := tr_p t y1 y2
      have hq := tr_p t x1 x2
      have dx := dd.2.1 x x1 x2
      rw [(hD x y (by omega) x2 (by omega) y2).2.2 hne (by omega), ih (fun z => g (an_up a y1 y2 z)), (hD (p x) y hq.1 hq.2 (by omega) y2).2.2 (fun e => by rw [e] at dx; omega) (by omega)]
      omega
/-- towards a house behind x, from where x hangs, over x -/
theorem met_down {A : Int → Int → Prop} (t : tr n p) (dd : tr_dep n p δ) (a : tr_an n p A) (hD : tr_met n p w δ D) {x : Int} (x1 : 1 ≤ x) (x2 : x < n) : ∀ y, 0 ≤ y → y < n → A x y → D (p x) y = w x + D x y := by
  have hq := tr_p t x1 x2
  have dx := dd.2.1 x x1 x2
  refine tr_ind t (P := fun y => A x y → D (p x) y = w x + D x y) ?_ ?_
  · intro g
    have := (a x).1.mp g
    omega
  · intro y y1 y2 ih g
    have hp := tr_p t y1 y2
    by_cases e : y = x
    · subst e
      rw [(hD (p y) y hq.1 hq.2 (by omega) y2).2.2 (fun e => tr_ne t y1 y2 e) (by omega), (hD (p y) (p y) hq.1 hq.2 hq.1 hq.2).1 rfl, (hD y y (by omega) y2 (by omega) y2).1 rfl]
    · have g2 : A x (p y) := (((a x).2 y y1 y2).mp g).resolve_left e
      have dy : δ x < δ y := (an_dep t dd a (by omega) y2 g).resolve_left e
      rw [(hD (p x) y hq.1 hq.2 (by omega) y2).2.2 (fun e => by rw [e] at dx; omega) (by omega), ih g2, (hD x y (by omega) x2 (by omega) y2).2.2 (fun e2 => e e2.symm) dy]
      omega
theorem met_b (t : tr n p) (dd : tr_dep n p δ) (hD : tr_met n p w δ D) (hw : ∀ h, 1 ≤ h → h < n → 1 ≤ w h ∧ w h ≤ 99) : ∀ (m : Nat) (x y : Int), 0 ≤ x → x < n → 0 ≤ y → y < n → (δ x + δ y).toNat = m → 0 ≤ D x y ∧ D x y ≤ 99 * (δ x + δ y) ∧ (x ≠ y → 1 ≤ D x y) := by
  intro m
  induction m using Nat.strongRecOn with
  | ind m ih =>
    intro x y x1 x2 y1 y2 hm
    have dx := tr_dep0 t dd x1 x2
    have dy := tr_dep0 t dd y1 y2
    have gx := dd.2.2 x x1 x2
    have gy := dd.2.2 y y1 y2
    have hd := hD x y x1 x2 y1 y2
    by_cases e : x = y
    · rw [hd.1 e]
      exact ⟨by omega, by omega, fun z => absurd e z⟩
    · by_cases c : δ y ≤ δ x
      · rcases dx with ⟨q1, q2, q3, q4, q5⟩ | ⟨q1, q2⟩
        · have gp := dd.2.2 _ q4 q5
          have := ih _ (by omega) (p x) y q4 q5 y1 y2 rfl
          have hx := hw x q1 x2
          rw [hd.2.1 e c]
          exact ⟨by omega, by omega, fun _ => by omega⟩
        · rcases dy with ⟨r1, r2, r3, r4, r5⟩ | ⟨r1, r2⟩
          · omega
          · omega
      · rcases dy with ⟨q1, q2, q3, q4, q5⟩ | ⟨q1, q2⟩
        · have gp := dd.2.2 _ q4 q5
          have := ih _ (by omega) x (p y) x1 x2 q4 q5 rfl
          have hx := hw y q1 y2
          rw [hd.2.2 e (by omega)]
          exact ⟨by omega, by omega, fun _ => by omega⟩
        · omega
/-- of the houses next to x one lies on the way to b; only one that is nearer by one street does -/
theorem met_way (t : tr n p) (hn : n ≤ 14) (dd : tr_dep n p δ) (hD : tr_met n p w δ D) (hw : ∀ h, 1 ≤ h → h < n → 1 ≤ w h ∧ w h ≤ 99) {b : Int} (b1 : 0 ≤ b) (b2 : b < n) : ∃ η, tr_hop n p b η ∧ ∀ x, 0 ≤ x → x < n → x ≠ b → (∃ k, 0 ≤ k ∧ k < n ∧ k ≠ x ∧ tr_nx p x k ∧ D x b = D x k + D k b) ∧ ∀ k, 0 ≤ k → k < n → k ≠ x → tr_nx p x k → D x b = D x k + D k b → η x = η k + 1 := by
  obtain ⟨A, a⟩ := tr_hasa t
  have root : p 0 = -1 := t.1 (by omega)
  -- a street's ends
  have s1 : ∀ x, 1 ≤ x → x < n → D x (p x) = w x ∧ D (p x) x = w x := fun x x1 x2 => by
    have hq := tr_p t x1 x2
    have dx := dd.2.1 x x1 x2
    have g : ¬ A x (p x) := fun z => by
      rcases an_dep t dd a hq.1 hq.2 z with e | e
      · exact tr_ne t x1 x2 e
      · omega
    have h1 := met_up t dd a hD x1 x2 (p x) hq.1 hq.2 g
    rw [(hD (p x) (p x) hq.1 hq.2 hq.1 hq.2).1 rfl] at h1
    have h2 := met_down t dd a hD x1 x2 x (by omega) x2 (an_refl a (by omega) x2)
    rw [(hD x x (by omega) x2 (by omega) x2).1 rfl] at h2
    exact ⟨by omega, by omega⟩
  obtain ⟨η, hη, hop⟩ := tr_hashopA t hn a b1 b2
  refine ⟨η, hη, fun x x1 x2 xb => ⟨?_, fun k k1 k2 kx hk he => ?_⟩⟩
  · by_cases c : A x b
    · obtain ⟨ch, q1, q2, q3, q4⟩ := an_down t a b b1 b2 c (fun e => xb e.symm)
      refine ⟨ch, by omega, q2, fun e => ?_, Or.inr q3, ?_⟩
      · have := tr_ne t q1 q2
        rw [q3] at this
        exact this e.symm
      · have h1 := met_down t dd a hD q1 q2 b b1 b2 q4
        have h2 := (s1 ch q1 q2).2
        rw [q3] at h1 h2
        omega
    · have x0 : 1 ≤ x := by
        by_cases e : x = 0
        · rw [e] at c
          exact absurd (an_root t a b b1 b2) c
        · omega
      have hq := tr_p t x0 x2
      refine ⟨p x, hq.1, hq.2, tr_ne t x0 x2, Or.inl rfl, ?_⟩
      have h1 := met_up t dd a hD x0 x2 b b1 b2 c
      have h2 := (s1 x x0 x2).1
      omega
  · rcases tr_nxc t x1 x2 k1 k2 hk with ⟨c1, c2⟩ | ⟨c1, c2⟩
    · have hs := s1 x c1 x2
      have hwx := hw x c1 x2
      rw [c2] at hs
      by_cases c : A x b
      · have h1 := met_down t dd a hD c1 x2 b b1 b2 c
        rw [c2] at h1
        omega
      · have := (hop x c1 x2).2 c
        rw [c2] at this
        exact this
    · have hs := s1 k c1 k2
      have hwx := hw k c1 k2
      rw [c2] at hs
      by_cases c : A k b
      · have := (hop k c1 k2).1 c
        rw [c2] at this
        exact this
      · have h1 := met_up t dd a hD c1 k2 b b1 b2 c
        rw [c2] at h1
        omega
end TM
