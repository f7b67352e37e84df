/-! who lies ahead of whom; how many streets apart; how far apart -/
def tr_an (n : Int) (p : Int → Int) (An : Int → Int → Prop) : Prop := ∀ k, tr_beh n p k (An k)
theorem tr_hasa {n : Int} {p : Int → Int} (t : tr n p) : ∃ An, tr_an n p An := Classical.axiomOfChoice (fun k => tr_hasb t k)
section TA
variable {n : Int} {p δ : Int → Int} {An : Int → Int → Prop}
theorem an_refl (a : tr_an n p An) {k : Int} (h1 : 0 ≤ k) (h2 : k < n) : An k k := tr_beh_self (a k) h1 h2
theorem an_up (a : tr_an n p An) {k x : Int} (h1 : 1 ≤ x) (h2 : x < n) (h : An k (p x)) : An k x := ((a k).2 x h1 h2).mpr (Or.inr h)
theorem an_par (t : tr n p) (a : tr_an n p An) {x : Int} (h1 : 1 ≤ x) (h2 : x < n) : An (p x) x := an_up a h1 h2 (an_refl a (tr_p t h1 h2).1 (tr_p t h1 h2).2)
theorem an_trans (t : tr n p) (a : tr_an n p An) {j k : Int} (h : An j k) : ∀ x, 0 ≤ x → x < n → An k x → An j x := by
  refine tr_ind t (P := fun x => An k x → An j x) ?_ ?_
  · intro hx
    rw [(a k).1.mp hx]
    exact h
  · intro x h1 h2 ih hx
    rcases ((a k).2 x h1 h2).mp hx with e | e
    · rw [e]; exact h
    · exact an_up a h1 h2 (ih e)
theorem an_dep (t : tr n p) (dd : tr_dep n p δ) (a : tr_an n p An) {k x : Int} (h1 : 0 ≤ x) (h2 : x < n) (h : An k x) : x = k ∨ δ k < δ x := tr_beh_dep t dd (a k) x h1 h2 h
theorem an_one (t : tr n p) (dd : tr_dep n p δ) (a : tr_an n p An) {h k : Int} (e : δ h = δ k) : ∀ x, 0 ≤ x → x < n → An h x → An k x → h = k := by
  refine tr_ind t (P := fun x => An h x → An k x → h = k) ?_ ?_
  · intro h1 h2
    rw [← (a h).1.mp h1, (a k).1.mp h2]
  · intro x h1 h2 ih g1 g2
    have hp := tr_p t h1 h2
    have hx := dd.2.1 x h1 h2
    rcases ((a h).2 x h1 h2).mp g1 with e1 | e1
    · rcases ((a k).2 x h1 h2).mp g2 with e2 | e2
      · rw [← e1, e2]
      · rcases an_dep t dd a hp.1 hp.2 e2 with e3 | e3
        · rw [← e3] at e; rw [← e1] at e; omega
        · rw [← e1] at e; omega
    · rcases ((a k).2 x h1 h2).mp g2 with e2 | e2
      · rcases an_dep t dd a hp.1 hp.2 e1 with e3 | e3
        · rw [← e3] at e; rw [← e2] at e; omega
        · rw [← e2] at e; omega
      · exact ih e1 e2
/-- one step down, towards a house behind -/
theorem an_down (t : tr n p) (a : tr_an n p An) {k : Int} : ∀ x, 0 ≤ x → x < n → An k x → x ≠ k → ∃ c, 1 ≤ c ∧ c < n ∧ p c = k ∧ An c x := by
  refine tr_ind t (P := fun x => An k x → x ≠ k → ∃ c, 1 ≤ c ∧ c < n ∧ p c = k ∧ An c x) ?_ ?_
  · intro h1 h2
    exact absurd ((a k).1.mp h1) h2
  · intro x h1 h2 ih g1 g2
    rcases ((a k).2 x h1 h2).mp g1 with e | e
    · exact absurd e g2
    · by_cases e2 : p x = k
      · exact ⟨x, h1, h2, e2, an_refl a (by omega) h2⟩
      · obtain ⟨c, c1, c2, c3, c4⟩ := ih e e2
        exact ⟨c, c1, c2, c3, an_up a h1 h2 c4⟩
theorem an_root (t : tr n p) (a : tr_an n p An) : ∀ x, 0 ≤ x → x < n → An 0 x := by
  refine tr_ind t (P := fun x => An 0 x) ?_ ?_
  · exact (a 0).1.mpr rfl
  · intro x h1 h2 ih
    exact an_up a h1 h2 ih
/-- next to each other -/
def tr_nx (p : Int → Int) (a b : Int) : Prop := p a = b ∨ p b = a
/-- how many streets from b: one more or one less at each street; of the houses next to one, one alone is nearer -/
def tr_hop (n : Int) (p : Int → Int) (b : Int) (η : Int → Int) : Prop := η b = 0 ∧ (∀ k, 0 ≤ k → k < n → 0 ≤ η k ∧ η k ≤ 26 ∧ (η k = 0 → k = b)) ∧ (∀ u k, 0 ≤ u → u < n → 0 ≤ k → k < n → tr_nx p u k → η k = η u + 1 ∨ η u = η k + 1) ∧ (∀ k, 0 ≤ k → k < n → k ≠ b → ∃ u, 0 ≤ u ∧ u < n ∧ u ≠ k ∧ tr_nx p k u ∧ η k = η u + 1 ∧ ∀ v, 0 ≤ v → v < n → tr_nx p k v → η k = η v + 1 → v = u)
theorem tr_hashopA (t : tr n p) (hn : n ≤ 14) (a : tr_an n p An) {b : Int} (b1 : 0 ≤ b) (b2 : b < n) : ∃ η, tr_hop n p b η ∧ ∀ h, 1 ≤ h → h < n → (An h b → η (p h) = η h + 1) ∧ (¬ An h b → η h = η (p h) + 1) := by
  obtain ⟨δ, dd⟩ := tr_has t
  have cl : ∀ h : Int, ∃ s : Int, (An h b → s = -1) ∧ (¬ An h b → s = 1) := fun h => by
    by_cases c : An h b
    · exact ⟨-1, fun _ => rfl, fun z => absurd c z⟩
    · exact ⟨1, fun z => absurd z c, fun _ => rfl⟩
  obtain ⟨s, hs⟩ := Classical.axiomOfChoice cl
  obtain ⟨η, e0, e1⟩ := tr_rec t (δ b) (fun h x => x + s h)
  have anc : ∀ h, 0 ≤ h → h < n → An h b → η h = δ b - δ h := by
    refine tr_ind t (P := fun h => An h b → η h = δ b - δ h) ?_ ?_
    · intro _
      rw [e0, dd.1]; omega
    · intro h h1 h2 ih g
      have := ih (an_trans t a (an_par t a h1 h2) b b1 b2 g)
      rw [e1 h h1 h2, (hs h).1 g, this, dd.2.1 h h1 h2]; omega
  have db := dd.2.2 b b1 b2
  have pos : ∀ h, 0 ≤ h → h < n → 0 ≤ η h ∧ η h ≤ δ b + δ h ∧ (η h = 0 → h = b) := by
    refine tr_ind t (P := fun h => 0 ≤ η h ∧ η h ≤ δ b + δ h ∧ (η h = 0 → h = b)) ?_ ?_
    · have hn0 : 0 < n := by omega
      have h0 := anc 0 (by omega) hn0 (an_root t a b b1 b2)
      rw [dd.1] at h0
      refine ⟨by omega, by rw [dd.1]; omega, fun z => ?_⟩
      rcases an_dep t dd a b1 b2 (an_root t a b b1 b2) with e | e
      · exact e.symm
      · rw [dd.1] at e; omega
    · intro h h1 h2 ih
      have dh := dd.2.1 h h1 h2
      by_cases c : An h b
      · have hh := anc h (by omega) h2 c
        have d3 := dd.2.2 h (by omega) h2
        rcases an_dep t dd a b1 b2 c with e | e
        · rw [← e] at hh; exact ⟨by rw [← e]; omega, by rw [← e]; omega, fun _ => e.symm⟩
        · exact ⟨by omega, by omega, fun z => by omega⟩
      · have hh := e1 h h1 h2
        rw [(hs h).2 c] at hh
        exact ⟨by omega, by omega, fun z => by omega⟩
  have st : ∀ h, 1 ≤ h → h < n → (An h b → η (p h) = η h + 1) ∧ (¬ An h b → η h = η (p h) + 1) := fun h h1 h2 => by
    have hh := e1 h h1 h2
    exact ⟨fun c => by rw [(hs h).1 c] at hh; omega, fun c => by rw [(hs h).2 c] at hh; omega⟩
  have root : p 0 = -1 := t.1 (by omega)
  -- who is next to whom, one of the two hangs
  have nxc : ∀ u k, 0 ≤ u → u < n → 0 ≤ k → k < n → tr_nx p u k → (1 ≤ u ∧ p u = k) ∨ (1 ≤ k ∧ p k = u) := fun u k u1 u2 k1 k2 h => by
    rcases h with h | h
    · left
      refine ⟨?_, h⟩
      by_cases e : u = 0
      · rw [e, root] at h; omega
      · omega
    · right
      refine ⟨?_, h⟩
      by_cases e : k = 0
      · rw [e, root] at h; omega
      · omega
  refine ⟨η, ⟨?_, fun k k1 k2 => ?_, fun u k u1 u2 k1 k2 h => ?_, fun k k1 k2 kb => ?_⟩, st⟩
  · have := anc b b1 b2 (an_refl a b1 b2)
    omega
  · have h1 := pos k k1 k2
    have h2 := dd.2.2 k k1 k2
    exact ⟨h1.1, by omega, h1.2.2⟩
  · rcases nxc u k u1 u2 k1 k2 h with ⟨c1, c2⟩ | ⟨c1, c2⟩
    · have s1 := st u c1 u2
      rw [c2] at s1
      by_cases c : An u b
      · left; exact s1.1 c
      · right; exact s1.2 c
    · have s1 := st k c1 k2
      rw [c2] at s1
      by_cases c : An k b
      · right; exact s1.1 c
      · left; exact s1.2 c
  · by_cases c : An k b
    · obtain ⟨ch, q1, q2, q3, q4⟩ := an_down t a b b1 b2 c (fun e => kb e.symm)
      have s1 := (st ch q1 q2).1 q4
      rw [q3] at s1
      refine ⟨ch, by omega, q2, ?_, Or.inr q3, s1, fun v v1 v2 hv hvk => ?_⟩
      · intro e
        have := tr_ne t q1 q2
        rw [q3] at this
        exact this e.symm
      · rcases nxc k v k1 k2 v1 v2 hv with ⟨c1, c2⟩ | ⟨c1, c2⟩
        · have s2 := (st k c1 k2).1 c
          rw [c2] at s2; omega
        · have s2 := st v c1 v2
          rw [c2] at s2
          by_cases cv : An v b
          · have d1 := dd.2.1 v c1 v2
            have d2 := dd.2.1 ch q1 q2
            rw [c2] at d1
            rw [q3] at d2
            exact an_one t dd a (by omega) b b1 b2 cv q4
          · have := s2.2 cv; omega
    · by_cases k0 : k = 0
      · rw [k0] at c
        exact absurd (an_root t a b b1 b2) c
      · have hp := tr_p t (by omega : 1 ≤ k) k2
        have s1 := (st k (by omega) k2).2 c
        refine ⟨p k, hp.1, hp.2, tr_ne t (by omega) k2, Or.inl rfl, s1, fun v v1 v2 hv hvk => ?_⟩
        rcases nxc k v k1 k2 v1 v2 hv with ⟨c1, c2⟩ | ⟨c1, c2⟩
        · exact c2.symm
        · have s2 := st v c1 v2
          rw [c2] at s2
          by_cases cv : An v b
          · exact absurd (an_trans t a (by have := an_par t a c1 v2; rw [c2] at this; exact this) b b1 b2 cv) c
          · have := s2.2 cv; omega
theorem tr_hashop (t : tr n p) (hn : n ≤ 14) {b : Int} (b1 : 0 ≤ b) (b2 : b < n) : ∃ η, tr_hop n p b η := by
  obtain ⟨A, a⟩ := tr_hasa t
  obtain ⟨η, h, -⟩ := tr_hashopA t hn a b1 b2
  exact ⟨η, h⟩
theorem tr_nxc (t : tr n p) {u k : Int} (u1 : 0 ≤ u) (u2 : u < n) (k1 : 0 ≤ k) (k2 : k < n) (h : tr_nx p u k) : (1 ≤ u ∧ p u = k) ∨ (1 ≤ k ∧ p k = u) := by
  have root : p 0 = -1 := t.1 (by omega)
  rcases h with h | h
  · left
    refine ⟨?_, h⟩
    by_cases e : u = 0
    · rw [e, root] at h; omega
    · omega
  · right
    refine ⟨?_, h⟩
    by_cases e : k = 0
    · rw [e, root] at h; omega
    · omega
end TA
