/-! the reference: who hangs where, by hand -/
def fr_188 : fw_P := [(0, 2, 0, 0, 0), (1, 50, 12, 24, 0), (4, 0, 0, 0, 0), (5, 52, 0, 0, 0), (6, 70, 0, 0, 0)]
theorem fr_188_ok : fw_mk 188 1 12 (some .int) fr_188 = true := by decide +kernel
theorem sm_many {Post : Option fw_V → fw_W → Prop} {d : Nat} {W : fw_W}
    (hw_ : 0 ≤ (0 : Int) ∧ (0 : Int) < 44 ∧ (-2147483648 ≤ (fw_g W 366 (0 : Int)) → (fw_g W 366 (0 : Int)) ≤ 2147483647 → Post (some (.inl (fw_g W 366 (0 : Int)))) W)) :
    jf fw_T (d + 1) 188 0 [(0, .inr (.inl 352))] [] W Post := fw_ok (n := 6) (ss := []) (hv := []) fr_188_ok fm_ok (fw_c0 _ _) hw_

def fr_215 : fw_P := [(0, 2, 0, 0, 0), (1, 50, 12, 24, 0), (4, 0, 0, 0, 2), (5, 0, 0, 0, 3), (6, 1, 1, 0, 0), (7, 32, 0, 0, 0), (8, 30, 0, 0, 0), (9, 52, 0, 0, 0), (10, 70, 0, 0, 0)]
theorem fr_215_ok : fw_mk 215 2 12 (some .int) fr_215 = true := by decide +kernel
theorem sm_hangsAt {Post : Option fw_V → fw_W → Prop} {d : Nat} {W : fw_W} {h : Int}
    (hw_ : -2147483648 ≤ (3 : Int) * h ∧ (3 : Int) * h ≤ 2147483647 ∧ (-2147483648 ≤ (2 : Int) + ((3 : Int) * h) ∧ (2 : Int) + ((3 : Int) * h) ≤ 2147483647 ∧ (0 ≤ ((2 : Int) + ((3 : Int) * h)) ∧ ((2 : Int) + ((3 : Int) * h)) < 44 ∧ (-2147483648 ≤ (fw_g W 366 ((2 : Int) + ((3 : Int) * h))) → (fw_g W 366 ((2 : Int) + ((3 : Int) * h))) ≤ 2147483647 → Post (some (.inl (fw_g W 366 ((2 : Int) + ((3 : Int) * h))))) W)))) :
    jf fw_T (d + 1) 215 0 [(0, .inr (.inl 352)), (1, .inl h)] [] W Post := fw_ok (n := 10) (ss := []) (hv := []) fr_215_ok fm_ok (fw_c0 _ _) hw_

def fr_216 : fw_P := [(0, 2, 0, 0, 0), (1, 50, 12, 24, 0), (4, 0, 0, 0, 3), (5, 0, 0, 0, 3), (6, 1, 1, 0, 0), (7, 32, 0, 0, 0), (8, 30, 0, 0, 0), (9, 52, 0, 0, 0), (10, 70, 0, 0, 0)]
theorem fr_216_ok : fw_mk 216 2 12 (some .int) fr_216 = true := by decide +kernel
theorem sm_streetOf {Post : Option fw_V → fw_W → Prop} {d : Nat} {W : fw_W} {h : Int}
    (hw_ : -2147483648 ≤ (3 : Int) * h ∧ (3 : Int) * h ≤ 2147483647 ∧ (-2147483648 ≤ (3 : Int) + ((3 : Int) * h) ∧ (3 : Int) + ((3 : Int) * h) ≤ 2147483647 ∧ (0 ≤ ((3 : Int) + ((3 : Int) * h)) ∧ ((3 : Int) + ((3 : Int) * h)) < 44 ∧ (-2147483648 ≤ (fw_g W 366 ((3 : Int) + ((3 : Int) * h))) → (fw_g W 366 ((3 : Int) + ((3 : Int) * h))) ≤ 2147483647 → Post (some (.inl (fw_g W 366 ((3 : Int) + ((3 : Int) * h))))) W)))) :
    jf fw_T (d + 1) 216 0 [(0, .inr (.inl 352)), (1, .inl h)] [] W Post := fw_ok (n := 10) (ss := []) (hv := []) fr_216_ok fm_ok (fw_c0 _ _) hw_

def fr_217 : fw_P := [(0, 2, 0, 0, 0), (1, 50, 12, 24, 0), (4, 0, 0, 0, 4), (5, 0, 0, 0, 3), (6, 1, 1, 0, 0), (7, 32, 0, 0, 0), (8, 30, 0, 0, 0), (9, 52, 0, 0, 0), (10, 70, 0, 0, 0)]
theorem fr_217_ok : fw_mk 217 2 12 (some .int) fr_217 = true := by decide +kernel
theorem sm_peopleOf {Post : Option fw_V → fw_W → Prop} {d : Nat} {W : fw_W} {h : Int}
    (hw_ : -2147483648 ≤ (3 : Int) * h ∧ (3 : Int) * h ≤ 2147483647 ∧ (-2147483648 ≤ (4 : Int) + ((3 : Int) * h) ∧ (4 : Int) + ((3 : Int) * h) ≤ 2147483647 ∧ (0 ≤ ((4 : Int) + ((3 : Int) * h)) ∧ ((4 : Int) + ((3 : Int) * h)) < 44 ∧ (-2147483648 ≤ (fw_g W 366 ((4 : Int) + ((3 : Int) * h))) → (fw_g W 366 ((4 : Int) + ((3 : Int) * h))) ≤ 2147483647 → Post (some (.inl (fw_g W 366 ((4 : Int) + ((3 : Int) * h))))) W)))) :
    jf fw_T (d + 1) 217 0 [(0, .inr (.inl 352)), (1, .inl h)] [] W Post := fw_ok (n := 10) (ss := []) (hv := []) fr_217_ok fm_ok (fw_c0 _ _) hw_

def xm_many : fw_X := fun as W Q => match as with
  | [.inr (.inl k)] => fw_if (Nat.beq k 352) (Q (some (.inl (fw_g W 366 0))) W)
  | _ => False
def xm_hangsAt : fw_X := fun as W Q => match as with
  | [.inr (.inl k), .inl h] => fw_if (Nat.beq k 352) (0 ≤ h ∧ h < 14 ∧ Q (some (.inl (fw_g W 366 (2 + 3 * h)))) W)
  | _ => False
def xm_streetOf : fw_X := fun as W Q => match as with
  | [.inr (.inl k), .inl h] => fw_if (Nat.beq k 352) (0 ≤ h ∧ h < 14 ∧ Q (some (.inl (fw_g W 366 (3 + 3 * h)))) W)
  | _ => False
def xm_peopleOf : fw_X := fun as W Q => match as with
  | [.inr (.inl k), .inl h] => fw_if (Nat.beq k 352) (0 ≤ h ∧ h < 14 ∧ Q (some (.inl (fw_g W 366 (4 + 3 * h)))) W)
  | _ => False
def xm_1 : List (Nat × fw_X) := [(215, xm_hangsAt), (188, xm_many), (216, xm_streetOf), (217, xm_peopleOf)]
theorem xm_many_ok (d : Nat) (as : List fw_V) (W : fw_W) (Q : Option fw_V → fw_W → Prop) (h : xm_many as W Q) : jf fw_T (d + 1) 188 0 (fw_args 0 as) [] W Q := by
  unfold xm_many at h
  split at h
  · obtain ⟨e, h⟩ := fw_if_ok h
    have e := Nat.eq_of_beq_eq_true e
    subst e
    exact sm_many (by refine ⟨by omega, by omega, fun _ _ => h⟩)
  · exact h.elim
theorem xm_hangsAt_ok (d : Nat) (as : List fw_V) (W : fw_W) (Q : Option fw_V → fw_W → Prop) (h : xm_hangsAt as W Q) : jf fw_T (d + 1) 215 0 (fw_args 0 as) [] W Q := by
  unfold xm_hangsAt at h
  split at h
  · obtain ⟨e, h1, h2, h3⟩ := fw_if_ok h
    have e := Nat.eq_of_beq_eq_true e
    subst e
    exact sm_hangsAt (by refine ⟨by omega, by omega, by omega, by omega, by omega, by omega, fun _ _ => h3⟩)
  · exact h.elim
theorem xm_streetOf_ok (d : Nat) (as : List fw_V) (W : fw_W) (Q : Option fw_V → fw_W → Prop) (h : xm_streetOf as W Q) : jf fw_T (d + 1) 216 0 (fw_args 0 as) [] W Q := by
  unfold xm_streetOf at h
  split at h
  · obtain ⟨e, h1, h2, h3⟩ := fw_if_ok h
    have e := Nat.eq_of_beq_eq_true e
    subst e
    exact sm_streetOf (by refine ⟨by omega, by omega, by omega, by omega, by omega, by omega, fun _ _ => h3⟩)
  · exact h.elim
theorem xm_peopleOf_ok (d : Nat) (as : List fw_V) (W : fw_W) (Q : Option fw_V → fw_W → Prop) (h : xm_peopleOf as W Q) : jf fw_T (d + 1) 217 0 (fw_args 0 as) [] W Q := by
  unfold xm_peopleOf at h
  split at h
  · obtain ⟨e, h1, h2, h3⟩ := fw_if_ok h
    have e := Nat.eq_of_beq_eq_true e
    subst e
    exact sm_peopleOf (by refine ⟨by omega, by omega, by omega, by omega, by omega, by omega, fun _ _ => h3⟩)
  · exact h.elim
theorem xm_1_ok (d : Nat) : fw_cok fw_T (d + 1) xm_1 := by
  intro q hq as W Q h
  simp only [xm_1, List.mem_cons, List.not_mem_nil, or_false] at hq
  rcases hq with rfl | rfl | rfl | rfl
  · exact xm_hangsAt_ok d as W Q h
  · exact xm_many_ok d as W Q h
  · exact xm_streetOf_ok d as W Q h
  · exact xm_peopleOf_ok d as W Q h
def fr_224 : fw_P := [(0, 0, 0, 0, 0), (1, 3, 2, 0, 0), (2, 1, 1, 0, 0), (3, 3, 3, 0, 0), (4, 2, 0, 0, 0), (5, 1, 3, 0, 0), (6, 64, 215, 1, 12), (9, 22, 24, 0, 0), (12, 5, 2, 0, 1), (15, 2, 0, 0, 0), (16, 1, 3, 0, 0), (17, 64, 215, 1, 12), (20, 3, 3, 0, 0), (21, 6, 4, 0, 0), (24, 1, 2, 0, 0), (25, 70, 0, 0, 0)]
theorem fr_224_ok : fw_mk 224 4 12 (some .int) fr_224 = true := by decide +kernel
theorem sm_deepOf_0 {Post : Option fw_V → fw_W → Prop} {d : Nat} {W : fw_W} {h : Int}
    (hw_ : jf fw_T (d + 2) 224 4 [(0, .inr (.inl 352)), (2, .inl (0 : Int)), (3, .inl h)] [] W Post) :
    jf fw_T (d + 2) 224 0 [(0, .inr (.inl 352)), (1, .inl h)] [] W Post := fw_ok (n := 5) (ss := [(4, [0, 2, 3])]) (hv := []) fr_224_ok fm_ok (xm_1_ok d) hw_

theorem sm_deepOf_4 {Post : Option fw_V → fw_W → Prop} {d : Nat} {W : fw_W} {n k : Int}
    (hw_ : 0 ≤ k ∧ k < 14 ∧ ((((fw_g W 366 (2 + 3 * k)) < 0 → Post (some (.inl n)) W) ∧ (0 ≤ (fw_g W 366 (2 + 3 * k)) → -2147483648 ≤ n + (1 : Int) ∧ n + (1 : Int) ≤ 2147483647 ∧ (0 ≤ k ∧ k < 14 ∧ (jf fw_T (d + 2) 224 4 [(0, .inr (.inl 352)), (2, .inl (n + (1 : Int))), (3, .inl (fw_g W 366 (2 + 3 * k)))] [] W Post)))))) :
    jf fw_T (d + 2) 224 4 [(0, .inr (.inl 352)), (2, .inl n), (3, .inl k)] [] W Post := fw_ok (n := 11) (ss := [(4, [0, 2, 3])]) (hv := []) fr_224_ok fm_ok (xm_1_ok d) hw_

