/-! houses so that each comes behind the one that it hangs at -/
def so_ok (n : Int) (p od : Int → Int) (m i k : Int) : Prop := (1 ≤ m ∧ od 0 = 0) ∧ (∀ j, 0 ≤ j → j < m → 0 ≤ od j ∧ od j < n) ∧ (∀ j, 1 ≤ j → j < m → 1 ≤ od j ∧ ∃ a, 0 ≤ a ∧ a < j ∧ od a = p (od j) ∧ (a < i ∨ (a = i ∧ od j < k))) ∧ (∀ a b, 0 ≤ a → a < b → b < m → od a ≠ od b) ∧ (∀ a x, 0 ≤ a → a < m → 1 ≤ x → x < n → (a < i ∨ (a = i ∧ x < k)) → p x = od a → ∃ b, 0 ≤ b ∧ b < m ∧ od b = x) ∧ ∃ hg : Int → Int, m + ((cns hg n.toNat : Nat) : Int) = n ∧ ∀ x, 0 ≤ x → x < n → (hg x ≠ -2 ↔ ∃ b, 0 ≤ b ∧ b < m ∧ od b = x)
section SO
variable {n m i k : Int} {p od od' : Int → Int}
theorem so_init (hn : 1 ≤ n) (h0 : od 0 = 0) : so_ok n p od 1 0 1 := by
  refine ⟨⟨by omega, h0⟩, fun j j1 j2 => ?_, fun j j1 j2 => by omega, fun a b a1 a2 a3 => by omega, fun a x a1 a2 x1 x2 c => by omega, fun x => if x = 0 then 0 else -2, ?_, fun x x1 x2 => ?_⟩
  · have : j = 0 := by omega
    rw [this, h0]; omega
  · have := cr_dec (P := fun _ : Nat => true) (Q := fun q : Nat => decide ((fun x : Int => if x = 0 then (0 : Int) else -2) (q : Int) = -2)) (N := n.toNat) (a := 0) (by omega) rfl (decide_eq_false (by decide)) (fun q hq qh => decide_eq_true (by show (if (q : Int) = 0 then (0 : Int) else -2) = -2; rw [if_neg (by omega)]))
    rw [List.countP_eq_length.mpr (fun _ _ => rfl), List.length_range] at this
    unfold cns
    omega
  · dsimp only
    by_cases e : x = 0
    · rw [if_pos e]
      exact ⟨fun _ => ⟨0, by omega, by omega, by rw [h0, e]⟩, fun _ => by decide⟩
    · rw [if_neg e]
      refine ⟨fun z => absurd rfl z, fun ⟨b, b1, b2, b3⟩ => ?_⟩
      have : b = 0 := by omega
      rw [this, h0] at b3
      omega
theorem so_le (s : so_ok n p od m i k) : m ≤ n := by
  obtain ⟨hg, h1, -⟩ := s.2.2.2.2.2
  omega
theorem so_skip (s : so_ok n p od m i k) (h : p k ≠ od i) : so_ok n p od m i (k + 1) := by
  refine ⟨s.1, s.2.1, fun j j1 j2 => ?_, s.2.2.2.1, fun a x a1 a2 x1 x2 c z => ?_, s.2.2.2.2.2⟩
  · obtain ⟨q1, a, a1, a2, a3, a4⟩ := s.2.2.1 j j1 j2
    exact ⟨q1, a, a1, a2, a3, by omega⟩
  · by_cases e : a = i ∧ x = k
    · rw [e.1, e.2] at z
      exact absurd z h
    · exact s.2.2.2.2.1 a x a1 a2 x1 x2 (by omega) z
theorem so_next (s : so_ok n p od m i k) (hk : n ≤ k) : so_ok n p od m (i + 1) 1 := by
  refine ⟨s.1, s.2.1, fun j j1 j2 => ?_, s.2.2.2.1, fun a x a1 a2 x1 x2 c z => s.2.2.2.2.1 a x a1 a2 x1 x2 (by omega) z, s.2.2.2.2.2⟩
  obtain ⟨q1, a, a1, a2, a3, a4⟩ := s.2.2.1 j j1 j2
  exact ⟨q1, a, a1, a2, a3, by omega⟩
theorem so_new (s : so_ok n p od m i k) (i0 : 0 ≤ i) (i1 : i < m) (k1 : 1 ≤ k) (hp : p k = od i) : ¬ ∃ b, 0 ≤ b ∧ b < m ∧ od b = k := by
  rintro ⟨b, b1, b2, b3⟩
  by_cases e : b = 0
  · rw [e, s.1.2] at b3; omega
  · obtain ⟨-, a, a1, a2, a3, a4⟩ := s.2.2.1 b (by omega) b2
    rw [b3, hp] at a3
    have : a = i := by
      apply Classical.byContradiction
      intro ne
      rcases (by omega : a < i ∨ i < a) with q | q
      · exact s.2.2.2.1 a i a1 q i1 a3
      · exact s.2.2.2.1 i a i0 q (by omega) a3.symm
    omega
theorem so_room (s : so_ok n p od m i k) (i0 : 0 ≤ i) (i1 : i < m) (k1 : 1 ≤ k) (k2 : k < n) (hp : p k = od i) : m < n := by
  have hnew := so_new s i0 i1 k1 hp
  obtain ⟨hg, h1, h2⟩ := s.2.2.2.2.2
  have hk : hg k = -2 := by
    apply Classical.byContradiction
    intro z
    exact hnew ((h2 k (by omega) k2).mp z)
  have : 0 < cns hg n.toNat := List.countP_pos_iff.mpr ⟨k.toNat, List.mem_range.mpr (by omega), decide_eq_true (by rw [Int.toNat_of_nonneg (by omega)]; exact hk)⟩
  omega
theorem so_take (s : so_ok n p od m i k) (i0 : 0 ≤ i) (i1 : i < m) (k1 : 1 ≤ k) (k2 : k < n) (hp : p k = od i) (e : ∀ j, 0 ≤ j → j < n → od' j = if m = j then k else od j) : so_ok n p od' (m + 1) i (k + 1) := by
  have hnew := so_new s i0 i1 k1 hp
  have hm := so_room s i0 i1 k1 k2 hp
  have hm1 := s.1.1
  have ho : ∀ j, 0 ≤ j → j < m → od' j = od j := fun j j1 j2 => by rw [e j j1 (by omega), if_neg (by omega)]
  have hmm : od' m = k := by rw [e m (by omega) hm, if_pos rfl]
  refine ⟨⟨by omega, by rw [ho 0 (by omega) (by omega)]; exact s.1.2⟩, fun j j1 j2 => ?_, fun j j1 j2 => ?_, fun a b a1 a2 a3 => ?_, fun a x a1 a2 x1 x2 c z => ?_, ?_⟩
  · by_cases q : j = m
    · rw [q, hmm]; omega
    · rw [ho j j1 (by omega)]; exact s.2.1 j j1 (by omega)
  · by_cases q : j = m
    · rw [q, hmm]
      exact ⟨k1, i, i0, i1, by rw [ho i i0 i1, hp], by omega⟩
    · obtain ⟨q1, a, b1, b2, b3, b4⟩ := s.2.2.1 j j1 (by omega)
      rw [ho j (by omega) (by omega)]
      exact ⟨q1, a, b1, b2, by rw [ho a b1 (by omega)]; exact b3, by omega⟩
  · by_cases q : b = m
    · rw [q, hmm, ho a a1 (by omega)]
      exact fun z => hnew ⟨a, a1, by omega, z⟩
    · rw [ho a a1 (by omega), ho b (by omega) (by omega)]
      exact s.2.2.2.1 a b a1 a2 (by omega)
  · by_cases q : x = k
    · exact ⟨m, by omega, by omega, by rw [hmm, q]⟩
    · have ham : a < m := by omega
      rw [ho a a1 ham] at z
      obtain ⟨b, b1, b2, b3⟩ := s.2.2.2.2.1 a x a1 ham x1 x2 (by omega) z
      exact ⟨b, b1, by omega, by rw [ho b b1 b2]; exact b3⟩
  · obtain ⟨hg, h1, h2⟩ := s.2.2.2.2.2
    have hk : hg k = -2 := by
      apply Classical.byContradiction
      intro z
      exact hnew ((h2 k (by omega) k2).mp z)
    refine ⟨fun x => if x = k then 0 else hg x, ?_, fun x x1 x2 => ?_⟩
    · have := cr_dec (P := fun q : Nat => decide (hg (q : Int) = -2)) (Q := fun q : Nat => decide ((fun x : Int => if x = k then (0 : Int) else hg x) (q : Int) = -2)) (N := n.toNat) (a := k.toNat) (by omega)
        (decide_eq_true (by rw [Int.toNat_of_nonneg (by omega)]; exact hk))
        (decide_eq_false (by rw [Int.toNat_of_nonneg (by omega)]; dsimp only; rw [if_pos rfl]; decide))
        (fun q hq qk => by
          apply decide_eq_decide.mpr
          dsimp only
          rw [if_neg (by omega)])
      unfold cns at h1 ⊢
      omega
    · dsimp only
      by_cases q : x = k
      · rw [if_pos q]
        exact ⟨fun _ => ⟨m, by omega, by omega, by rw [hmm, q]⟩, fun _ => by decide⟩
      · rw [if_neg q, h2 x x1 x2]
        constructor
        · rintro ⟨b, b1, b2, b3⟩
          exact ⟨b, b1, by omega, by rw [ho b b1 b2]; exact b3⟩
        · rintro ⟨b, b1, b2, b3⟩
          by_cases r : b = m
          · rw [r, hmm] at b3; exact absurd b3.symm q
          · exact ⟨b, b1, by omega, by rw [← ho b b1 (by omega)]; exact b3⟩
theorem so_end (t : tr n p) (hn : 1 ≤ n) (s : so_ok n p od m i k) (hi : m ≤ i) : m = n ∧ ∀ j, 1 ≤ j → j < n → 1 ≤ od j ∧ od j < n := by
  have all : ∀ x, 0 ≤ x → x < n → ∃ b, 0 ≤ b ∧ b < m ∧ od b = x := by
    refine tr_ind t (P := fun x => ∃ b, 0 ≤ b ∧ b < m ∧ od b = x) ⟨0, by omega, by have := s.1.1; omega, s.1.2⟩ (fun x x1 x2 ih => ?_)
    obtain ⟨b, b1, b2, b3⟩ := ih
    exact s.2.2.2.2.1 b x b1 b2 x1 x2 (by omega) b3.symm
  obtain ⟨hg, h1, h2⟩ := s.2.2.2.2.2
  have h3 : cns hg n.toNat = 0 := List.countP_eq_zero.mpr (fun q hq z => by
    have q1 := List.mem_range.mp hq
    exact (h2 (q : Int) (by omega) (by omega)).mpr (all (q : Int) (by omega) (by omega)) (of_decide_eq_true z))
  have hm : m = n := by omega
  refine ⟨hm, fun j j1 j2 => ?_⟩
  exact ⟨(s.2.2.1 j j1 (by omega)).1, (s.2.1 j (by omega) (by omega)).2⟩
end SO
