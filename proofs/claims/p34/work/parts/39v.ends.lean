/-! houses that remain: one top, the others hang within; an end is found, and taken away -/
def rm_ok (n : Int) (p : Int → Int) (R : Int → Prop) (top : Int) : Prop := 0 ≤ top ∧ top < n ∧ R top ∧ ∀ x, 0 ≤ x → x < n → R x → x ≠ top → 1 ≤ x ∧ R (p x)
section RM
variable {n : Int} {p : Int → Int} {R R' : Int → Prop} {top : Int}
theorem rm_top (t : tr n p) (h : rm_ok n p R top) (h1 : 1 ≤ top) : ¬ R (p top) := by
  obtain ⟨δ, dd⟩ := tr_has t
  have key : ∀ x, 0 ≤ x → x < n → (δ x < δ top → ¬ R x) := by
    refine tr_ind t (P := fun x => δ x < δ top → ¬ R x) ?_ ?_
    · intro _ hR
      have := (h.2.2.2 0 (by omega) (by have := h.2.1; omega) hR (by omega)).1
      omega
    · intro x x1 x2 ih hl hR
      have hx := dd.2.1 x x1 x2
      have := h.2.2.2 x (by omega) x2 hR (fun e => by rw [e] at hl; omega)
      exact ih (by omega) this.2
  have hp := tr_p t h1 h.2.1
  have ht := dd.2.1 top h1 h.2.1
  exact key (p top) hp.1 hp.2 (by omega)
/-- an end: no house that remains hangs at it -/
theorem rm_end (t : tr n p) (h : rm_ok n p R top) : ∀ (m : Nat) (δ : Int → Int), tr_dep n p δ → ∀ x, 0 ≤ x → x < n → R x → x ≠ top → (n - δ x).toNat = m → ∃ l, 0 ≤ l ∧ l < n ∧ R l ∧ l ≠ top ∧ ∀ c, 1 ≤ c → c < n → R c → p c ≠ l := by
  intro m
  induction m using Nat.strongRecOn with
  | ind m ih =>
    intro δ dd x x1 x2 hR hne hm
    by_cases hc : ∃ c, 1 ≤ c ∧ c < n ∧ R c ∧ p c = x
    · obtain ⟨c, c1, c2, c3, c4⟩ := hc
      have hct : c ≠ top := fun e => by
        subst e
        exact rm_top t h c1 (by rw [c4]; exact hR)
      have dc := dd.2.1 c c1 c2
      have db := dd.2.2 c (by omega) c2
      rw [c4] at dc
      exact ih _ (by omega) δ dd c (by omega) c2 c3 hct rfl
    · exact ⟨x, x1, x2, hR, hne, fun c c1 c2 c3 c4 => hc ⟨c, c1, c2, c3, c4⟩⟩
theorem rm_nb (t : tr n p) {l k : Int} (l1 : 0 ≤ l) (l2 : l < n) (k1 : 0 ≤ k) (k2 : k < n) (hk : R k) (he : ∀ c, 1 ≤ c → c < n → R c → p c ≠ l) (hx : tr_nx p l k) : k = p l := by
  rcases tr_nxc t l1 l2 k1 k2 hx with ⟨a, b⟩ | ⟨a, b⟩
  · exact b.symm
  · exact absurd b (he k a k2 hk)
/-- a house with one neighbour alone is taken away -/
theorem rm_take (t : tr n p) (h : rm_ok n p R top) {l q : Int} (l1 : 0 ≤ l) (l2 : l < n) (hl : R l) (q1 : 0 ≤ q) (q2 : q < n) (hq : R q) (hql : q ≠ l) (hx : tr_nx p l q) (hu : ∀ k, 0 ≤ k → k < n → R k → k ≠ l → tr_nx p l k → k = q) (hR : ∀ x, 0 ≤ x → x < n → (R' x ↔ R x ∧ x ≠ l)) : ∃ top', rm_ok n p R' top' := by
  by_cases e : l = top
  · refine ⟨q, q1, q2, (hR q q1 q2).mpr ⟨hq, hql⟩, fun x x1 x2 xR xq => ?_⟩
    have xr := (hR x x1 x2).mp xR
    have hh := h.2.2.2 x x1 x2 xr.1 (by rw [← e]; exact xr.2)
    have hp := tr_p t hh.1 x2
    refine ⟨hh.1, (hR (p x) hp.1 hp.2).mpr ⟨hh.2, fun e2 => ?_⟩⟩
    exact xq (hu x x1 x2 xr.1 xr.2 (Or.inr e2))
  · have hh := h.2.2.2 l l1 l2 hl e
    have hp := tr_p t hh.1 l2
    have hpl : p l = q := hu (p l) hp.1 hp.2 hh.2 (tr_ne t hh.1 l2) (Or.inl rfl)
    refine ⟨top, h.1, h.2.1, (hR top h.1 h.2.1).mpr ⟨h.2.2.1, fun e2 => e e2.symm⟩, fun x x1 x2 xR xt => ?_⟩
    have xr := (hR x x1 x2).mp xR
    have h3 := h.2.2.2 x x1 x2 xr.1 xt
    have hp3 := tr_p t h3.1 x2
    refine ⟨h3.1, (hR (p x) hp3.1 hp3.2).mpr ⟨h3.2, fun e2 => ?_⟩⟩
    have hxq := hu x x1 x2 xr.1 xr.2 (Or.inr e2)
    -- then x = q = p l and p x = l: a round
    obtain ⟨δ, dd⟩ := tr_has t
    have d1 := dd.2.1 l hh.1 l2
    have d2 := dd.2.1 x h3.1 x2
    rw [hpl, ← hxq] at d1
    rw [e2] at d2
    omega
end RM
/-! counts over a range -/
theorem cr_one {P : Nat → Bool} : ∀ {N a : Nat}, a < N → (∀ k, k < N → (P k = true ↔ k = a)) → (List.range N).countP P = 1
  | 0, a, ha, _ => by omega
  | N + 1, a, ha, h => by
    rw [List.range_succ, List.countP_append, List.countP_singleton]
    by_cases e : a = N
    · subst e
      have z : (List.range a).countP P = 0 := by
        rw [List.countP_eq_zero]
        intro k hk hp
        have h1 := List.mem_range.mp hk
        have h2 := (h k (by omega)).mp hp
        omega
      have z2 := (h a (by omega)).mpr rfl
      rw [z, if_pos z2]
    · have ih := cr_one (P := P) (N := N) (a := a) (by omega) (fun k hk => h k (by omega))
      have z2 : ¬ P N = true := fun hp => e ((h N (by omega)).mp hp).symm
      rw [ih, if_neg z2]
theorem cr_uniq {P : Nat → Bool} : ∀ {N : Nat}, (List.range N).countP P = 1 → ∃ a, a < N ∧ P a = true ∧ ∀ k, k < N → P k = true → k = a
  | 0, h => by cases h
  | N + 1, h => by
    rw [List.range_succ, List.countP_append, List.countP_singleton] at h
    by_cases e : P N = true
    · rw [if_pos e] at h
      have z : (List.range N).countP P = 0 := by omega
      rw [List.countP_eq_zero] at z
      refine ⟨N, by omega, e, fun k hk hp => ?_⟩
      by_cases e2 : k = N
      · exact e2
      · exact absurd hp (z k (List.mem_range.mpr (by omega)))
    · rw [if_neg e] at h
      obtain ⟨a, a1, a2, a3⟩ := cr_uniq (P := P) (N := N) (by omega)
      refine ⟨a, by omega, a2, fun k hk hp => ?_⟩
      by_cases e2 : k = N
      · rw [e2] at hp; exact absurd hp e
      · exact a3 k (by omega) hp
theorem cr_dec {P Q : Nat → Bool} : ∀ {N a : Nat}, a < N → P a = true → Q a = false → (∀ k, k < N → k ≠ a → Q k = P k) → (List.range N).countP P = (List.range N).countP Q + 1
  | 0, a, ha, _, _, _ => by omega
  | N + 1, a, ha, h1, h2, h3 => by
    rw [List.range_succ, List.countP_append, List.countP_singleton, List.countP_append, List.countP_singleton]
    by_cases e : a = N
    · subst e
      have z : (List.range a).countP P = (List.range a).countP Q := List.countP_congr (fun k hk => by rw [h3 k (by have := List.mem_range.mp hk; omega) (by have := List.mem_range.mp hk; omega)])
      rw [z, if_pos h1, if_neg (by rw [h2]; decide)]
    · have ih := cr_dec (P := P) (Q := Q) (N := N) (a := a) (by omega) h1 h2 (fun k hk => h3 k (by omega))
      rw [ih, h3 N (by omega) (fun z => e z.symm)]
      omega
