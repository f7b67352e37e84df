/-! the reference, method by method -/
/-! how many have their front at a house; at all houses of the order seen so far -/
def fd_c (fr : Int → Int) (k : Nat) (h : Int) : Nat := (List.range k).countP (fun q : Nat => decide (fr (q : Int) = h))
theorem fd_c_s (fr : Int → Int) (k : Int) (h : Int) (hk : 0 ≤ k) : fd_c fr (k + 1).toNat h = fd_c fr k.toNat h + (if fr k = h then 1 else 0) := by
  have e : (k + 1).toNat = k.toNat + 1 := by omega
  unfold fd_c
  rw [e, List.range_succ, List.countP_append, List.countP_singleton, Int.toNat_of_nonneg hk]
  by_cases c : fr k = h
  · simp [c]
  · simp [c]
def fd_s (fr o : Int → Int) (N : Int) : Nat → Nat
  | 0 => 0
  | t + 1 => fd_s fr o N t + fd_c fr N.toNat (o (N - 1 - (t : Int)))
theorem cr_or {α : Type} {P Q : α → Bool} : ∀ {l : List α}, (∀ x ∈ l, ¬ (P x = true ∧ Q x = true)) → l.countP P + l.countP Q ≤ l.countP (fun x => P x || Q x)
  | [], _ => by simp
  | y :: l, h => by
    have ih := cr_or (P := P) (Q := Q) (l := l) (fun x hx => h x (List.mem_cons_of_mem _ hx))
    have hy := h y List.mem_cons_self
    rw [List.countP_cons, List.countP_cons, List.countP_cons]
    cases hp : P y with
    | true =>
      cases hq : Q y with
      | true => exact absurd ⟨hp, hq⟩ hy
      | false => simp; omega
    | false =>
      cases hq : Q y with
      | true => simp; omega
      | false => simp; omega
theorem fd_s_le {fr o : Int → Int} {N : Int} (inj : ∀ i j, 0 ≤ i → i < j → j < N → o i ≠ o j) : ∀ t : Nat, (t : Int) ≤ N → fd_s fr o N t ≤ (List.range N.toNat).countP (fun q : Nat => (List.range t).any (fun s : Nat => decide (fr (q : Int) = o (N - 1 - (s : Int)))))
  | 0, _ => by simp [fd_s]
  | t + 1, ht => by
    have ih := fd_s_le (fr := fr) inj t (by omega)
    have h1 := cr_or (l := List.range N.toNat) (P := fun q : Nat => (List.range t).any (fun s : Nat => decide (fr (q : Int) = o (N - 1 - (s : Int))))) (Q := fun q : Nat => decide (fr (q : Int) = o (N - 1 - (t : Int)))) (fun q _ hpq => by
      obtain ⟨s, s1, s2⟩ := List.any_eq_true.mp hpq.1
      have s3 := List.mem_range.mp s1
      have e1 := of_decide_eq_true s2
      have e2 := of_decide_eq_true hpq.2
      exact inj (N - 1 - (t : Int)) (N - 1 - (s : Int)) (by omega) (by omega) (by omega) (by rw [← e1, ← e2]))
    have h2 : (List.range N.toNat).countP (fun q : Nat => (List.range t).any (fun s : Nat => decide (fr (q : Int) = o (N - 1 - (s : Int)))) || decide (fr (q : Int) = o (N - 1 - (t : Int)))) = (List.range N.toNat).countP (fun q : Nat => (List.range (t + 1)).any (fun s : Nat => decide (fr (q : Int) = o (N - 1 - (s : Int))))) := List.countP_congr (fun q _ => by
      rw [List.range_succ, List.any_append]
      simp)
    unfold fd_s fd_c
    omega
theorem fd_s_N {fr o : Int → Int} {N : Int} (inj : ∀ i j, 0 ≤ i → i < j → j < N → o i ≠ o j) (t : Nat) (ht : (t : Int) ≤ N) : fd_s fr o N t ≤ N.toNat := by
  have h1 := fd_s_le (fr := fr) inj t ht
  have h2 := List.countP_le_length (l := List.range N.toNat) (p := fun q : Nat => (List.range t).any (fun s : Nat => decide (fr (q : Int) = o (N - 1 - (s : Int)))))
  rw [List.length_range] at h2
  omega
