/-! the reference, method by method -/
def mt (W : fw_W) : Prop := 0 ≤ fw_g W 366 0 ∧ fw_g W 366 0 ≤ 14 ∧ tr (fw_g W 366 0) (fun h => fw_g W 366 (2 + 3 * h)) ∧ (∀ h, 1 ≤ h → h < fw_g W 366 0 → (1 ≤ fw_g W 366 (3 + 3 * h) ∧ fw_g W 366 (3 + 3 * h) ≤ 99)) ∧ 0 ≤ fw_g W 366 1 ∧ fw_g W 366 1 ≤ 999
theorem mt_p {W : fw_W} (t : mt W) {k : Int} (h1 : 0 ≤ k) (h2 : k < fw_g W 366 0) : (k = 0 → fw_g W 366 (2 + 3 * k) = -1) ∧ (1 ≤ k → 0 ≤ fw_g W 366 (2 + 3 * k) ∧ fw_g W 366 (2 + 3 * k) < fw_g W 366 0) := by
  refine ⟨fun e => ?_, fun e => tr_p t.2.2.1 e h2⟩
  subst e
  exact t.2.2.1.1 h2
theorem tr_dep_u {n : Int} {p δ ε : Int → Int} (t : tr n p) (hd : tr_dep n p δ) (he : tr_dep n p ε) : ∀ h, 0 ≤ h → h < n → δ h = ε h := by
  refine tr_ind t (P := fun h => δ h = ε h) ?_ ?_
  · rw [hd.1, he.1]
  · intro h h1 h2 ih
    rw [hd.2.1 h h1 h2, he.2.1 h h1 h2, ih]
theorem mt_d {W : fw_W} {δ : Int → Int} (t : mt W) (hd : tr_dep (fw_g W 366 0) (fun h => fw_g W 366 (2 + 3 * h)) δ) {k : Int} (h1 : 0 ≤ k) (h2 : k < fw_g W 366 0) : (k = 0 → δ k = 0) ∧ (1 ≤ k → δ k = δ (fw_g W 366 (2 + 3 * k)) + 1 ∧ 1 ≤ δ k) ∧ 0 ≤ δ k ∧ δ k ≤ fw_g W 366 0 - 1 := by
  refine ⟨fun e => by subst e; exact hd.1, fun e => ?_, (hd.2.2 k h1 h2).1, (hd.2.2 k h1 h2).2⟩
  have h3 := hd.2.1 k e h2
  have h4 := tr_p t.2.2.1 e h2
  have h5 := hd.2.2 _ h4.1 h4.2
  dsimp only at h3 h5
  omega
def fr_188 : fw_P := [(0, 2, 0, 0, 0), (1, 50, 12, 24, 0), (4, 0, 0, 0, 0), (5, 52, 0, 0, 0), (6, 70, 0, 0, 0)]
theorem fr_188_ok : fw_mk 188 1 12 (some .int) fr_188 = true := by decide +kernel
theorem s_many_0 {Post : Option fw_V → fw_W → Prop} {d : Nat} {W : fw_W}
    (hw_ : 0 ≤ (0 : Int) ∧ (0 : Int) < 44 ∧ (-2147483648 ≤ (fw_g W 366 (0 : Int)) → (fw_g W 366 (0 : Int)) ≤ 2147483647 → (-2147483648 ≤ (fw_g W 366 (0 : Int)) → (fw_g W 366 (0 : Int)) ≤ 2147483647 → Post (some (.inl (fw_g W 366 (0 : Int)))) W))) :
    jf fw_T (d + 1) 188 0 [(0, .inr (.inl 352))] [] W Post := fw_ok (n := 6) (ss := []) (hv := []) fr_188_ok fm_ok (fw_c0 _ _) hw_

def x_many : fw_X := fun as W Q => match as with
  | [.inr (.inl s_)] => fw_if (Nat.beq s_ 352) ((True) ∧ Q (some (.inl (fw_g W 366 0))) W)
  | _ => False
theorem x_many_ok (d : Nat) (as : List fw_V) (W : fw_W) (Q : Option fw_V → fw_W → Prop) (hx : x_many as W Q) : jf fw_T (d + 1) 188 0 (fw_args 0 as) [] W Q := by
  unfold x_many at hx
  split at hx
  · rename_i s_
    obtain ⟨e_, hpre, hQ⟩ := fw_if_ok hx
    have e_ := Nat.eq_of_beq_eq_true e_
    subst e_
    have hP : ∀ (v : Int), v = (fw_g W 366 0) → Q (some (.inl v)) W := fun v e => by subst e; exact hQ
    refine s_many_0 ?_
    repeat' (first
      | (exact True.intro)
      | (exact hpre.1)
      | (refine And.intro ?_ ?_)
      | (refine hP _ ?_; (first | trivial | omega))
      | omega
      | (intro _))
  · exact hx.elim

def fr_215 : fw_P := [(0, 2, 0, 0, 0), (1, 50, 12, 24, 0), (4, 0, 0, 0, 2), (5, 0, 0, 0, 3), (6, 1, 1, 0, 0), (7, 32, 0, 0, 0), (8, 30, 0, 0, 0), (9, 52, 0, 0, 0), (10, 70, 0, 0, 0)]
theorem fr_215_ok : fw_mk 215 2 12 (some .int) fr_215 = true := by decide +kernel
theorem s_hangsAt_0 {Post : Option fw_V → fw_W → Prop} {d : Nat} {W : fw_W} {h : Int}
    (hw_ : -2147483648 ≤ (3 : Int) * h ∧ (3 : Int) * h ≤ 2147483647 ∧ (-2147483648 ≤ (2 : Int) + ((3 : Int) * h) ∧ (2 : Int) + ((3 : Int) * h) ≤ 2147483647 ∧ (0 ≤ ((2 : Int) + ((3 : Int) * h)) ∧ ((2 : Int) + ((3 : Int) * h)) < 44 ∧ (-2147483648 ≤ (fw_g W 366 ((2 : Int) + ((3 : Int) * h))) → (fw_g W 366 ((2 : Int) + ((3 : Int) * h))) ≤ 2147483647 → (-2147483648 ≤ (fw_g W 366 ((2 : Int) + ((3 : Int) * h))) → (fw_g W 366 ((2 : Int) + ((3 : Int) * h))) ≤ 2147483647 → Post (some (.inl (fw_g W 366 ((2 : Int) + ((3 : Int) * h))))) W))))) :
    jf fw_T (d + 1) 215 0 [(0, .inr (.inl 352)), (1, .inl h)] [] W Post := fw_ok (n := 10) (ss := []) (hv := []) fr_215_ok fm_ok (fw_c0 _ _) hw_

def x_hangsAt : fw_X := fun as W Q => match as with
  | [.inr (.inl s_), .inl h] => fw_if (Nat.beq s_ 352) ((0 ≤ h ∧ h < 14) ∧ Q (some (.inl (fw_g W 366 (2 + 3 * h)))) W)
  | _ => False
theorem x_hangsAt_ok (d : Nat) (as : List fw_V) (W : fw_W) (Q : Option fw_V → fw_W → Prop) (hx : x_hangsAt as W Q) : jf fw_T (d + 1) 215 0 (fw_args 0 as) [] W Q := by
  unfold x_hangsAt at hx
  split at hx
  · rename_i s_ h
    obtain ⟨e_, hpre, hQ⟩ := fw_if_ok hx
    have e_ := Nat.eq_of_beq_eq_true e_
    subst e_
    have hP : ∀ (v : Int), v = (fw_g W 366 (2 + 3 * h)) → Q (some (.inl v)) W := fun v e => by subst e; exact hQ
    refine s_hangsAt_0 ?_
    repeat' (first
      | (exact True.intro)
      | (exact hpre.1)
      | (refine And.intro ?_ ?_)
      | (refine hP _ ?_; (first | trivial | omega))
      | omega
      | (intro _))
  · exact hx.elim

def fr_216 : fw_P := [(0, 2, 0, 0, 0), (1, 50, 12, 24, 0), (4, 0, 0, 0, 3), (5, 0, 0, 0, 3), (6, 1, 1, 0, 0), (7, 32, 0, 0, 0), (8, 30, 0, 0, 0), (9, 52, 0, 0, 0), (10, 70, 0, 0, 0)]
theorem fr_216_ok : fw_mk 216 2 12 (some .int) fr_216 = true := by decide +kernel
theorem s_streetOf_0 {Post : Option fw_V → fw_W → Prop} {d : Nat} {W : fw_W} {h : Int}
    (hw_ : -2147483648 ≤ (3 : Int) * h ∧ (3 : Int) * h ≤ 2147483647 ∧ (-2147483648 ≤ (3 : Int) + ((3 : Int) * h) ∧ (3 : Int) + ((3 : Int) * h) ≤ 2147483647 ∧ (0 ≤ ((3 : Int) + ((3 : Int) * h)) ∧ ((3 : Int) + ((3 : Int) * h)) < 44 ∧ (-2147483648 ≤ (fw_g W 366 ((3 : Int) + ((3 : Int) * h))) → (fw_g W 366 ((3 : Int) + ((3 : Int) * h))) ≤ 2147483647 → (-2147483648 ≤ (fw_g W 366 ((3 : Int) + ((3 : Int) * h))) → (fw_g W 366 ((3 : Int) + ((3 : Int) * h))) ≤ 2147483647 → Post (some (.inl (fw_g W 366 ((3 : Int) + ((3 : Int) * h))))) W))))) :
    jf fw_T (d + 1) 216 0 [(0, .inr (.inl 352)), (1, .inl h)] [] W Post := fw_ok (n := 10) (ss := []) (hv := []) fr_216_ok fm_ok (fw_c0 _ _) hw_

def x_streetOf : fw_X := fun as W Q => match as with
  | [.inr (.inl s_), .inl h] => fw_if (Nat.beq s_ 352) ((0 ≤ h ∧ h < 14) ∧ Q (some (.inl (fw_g W 366 (3 + 3 * h)))) W)
  | _ => False
theorem x_streetOf_ok (d : Nat) (as : List fw_V) (W : fw_W) (Q : Option fw_V → fw_W → Prop) (hx : x_streetOf as W Q) : jf fw_T (d + 1) 216 0 (fw_args 0 as) [] W Q := by
  unfold x_streetOf at hx
  split at hx
  · rename_i s_ h
    obtain ⟨e_, hpre, hQ⟩ := fw_if_ok hx
    have e_ := Nat.eq_of_beq_eq_true e_
    subst e_
    have hP : ∀ (v : Int), v = (fw_g W 366 (3 + 3 * h)) → Q (some (.inl v)) W := fun v e => by subst e; exact hQ
    refine s_streetOf_0 ?_
    repeat' (first
      | (exact True.intro)
      | (exact hpre.1)
      | (refine And.intro ?_ ?_)
      | (refine hP _ ?_; (first | trivial | omega))
      | omega
      | (intro _))
  · exact hx.elim

def fr_217 : fw_P := [(0, 2, 0, 0, 0), (1, 50, 12, 24, 0), (4, 0, 0, 0, 4), (5, 0, 0, 0, 3), (6, 1, 1, 0, 0), (7, 32, 0, 0, 0), (8, 30, 0, 0, 0), (9, 52, 0, 0, 0), (10, 70, 0, 0, 0)]
theorem fr_217_ok : fw_mk 217 2 12 (some .int) fr_217 = true := by decide +kernel
theorem s_peopleOf_0 {Post : Option fw_V → fw_W → Prop} {d : Nat} {W : fw_W} {h : Int}
    (hw_ : -2147483648 ≤ (3 : Int) * h ∧ (3 : Int) * h ≤ 2147483647 ∧ (-2147483648 ≤ (4 : Int) + ((3 : Int) * h) ∧ (4 : Int) + ((3 : Int) * h) ≤ 2147483647 ∧ (0 ≤ ((4 : Int) + ((3 : Int) * h)) ∧ ((4 : Int) + ((3 : Int) * h)) < 44 ∧ (-2147483648 ≤ (fw_g W 366 ((4 : Int) + ((3 : Int) * h))) → (fw_g W 366 ((4 : Int) + ((3 : Int) * h))) ≤ 2147483647 → (-2147483648 ≤ (fw_g W 366 ((4 : Int) + ((3 : Int) * h))) → (fw_g W 366 ((4 : Int) + ((3 : Int) * h))) ≤ 2147483647 → Post (some (.inl (fw_g W 366 ((4 : Int) + ((3 : Int) * h))))) W))))) :
    jf fw_T (d + 1) 217 0 [(0, .inr (.inl 352)), (1, .inl h)] [] W Post := fw_ok (n := 10) (ss := []) (hv := []) fr_217_ok fm_ok (fw_c0 _ _) hw_

def x_peopleOf : fw_X := fun as W Q => match as with
  | [.inr (.inl s_), .inl h] => fw_if (Nat.beq s_ 352) ((0 ≤ h ∧ h < 14) ∧ Q (some (.inl (fw_g W 366 (4 + 3 * h)))) W)
  | _ => False
theorem x_peopleOf_ok (d : Nat) (as : List fw_V) (W : fw_W) (Q : Option fw_V → fw_W → Prop) (hx : x_peopleOf as W Q) : jf fw_T (d + 1) 217 0 (fw_args 0 as) [] W Q := by
  unfold x_peopleOf at hx
  split at hx
  · rename_i s_ h
    obtain ⟨e_, hpre, hQ⟩ := fw_if_ok hx
    have e_ := Nat.eq_of_beq_eq_true e_
    subst e_
    have hP : ∀ (v : Int), v = (fw_g W 366 (4 + 3 * h)) → Q (some (.inl v)) W := fun v e => by subst e; exact hQ
    refine s_peopleOf_0 ?_
    repeat' (first
      | (exact True.intro)
      | (exact hpre.1)
      | (refine And.intro ?_ ?_)
      | (refine hP _ ?_; (first | trivial | omega))
      | omega
      | (intro _))
  · exact hx.elim

def fr_224 : fw_P := [(0, 0, 0, 0, 0), (1, 3, 2, 0, 0), (2, 1, 1, 0, 0), (3, 3, 3, 0, 0), (4, 2, 0, 0, 0), (5, 1, 3, 0, 0), (6, 64, 215, 1, 212), (9, 22, 24, 0, 0), (12, 5, 2, 0, 1), (15, 2, 0, 0, 0), (16, 1, 3, 0, 0), (17, 64, 215, 1, 212), (20, 3, 3, 0, 0), (21, 6, 4, 0, 0), (24, 1, 2, 0, 0), (25, 70, 0, 0, 0)]
theorem fr_224_ok : fw_mk 224 4 12 (some .int) fr_224 = true := by decide +kernel
def ct_deepOf : List (Nat × fw_X) := [(215, x_hangsAt)]
theorem ct_deepOf_ok (d : Nat) : fw_cok fw_T (d + 1) ct_deepOf := by
  intro q hq as W Q h
  simp only [ct_deepOf, List.mem_cons, List.not_mem_nil, or_false] at hq
  rcases hq with rfl
  · exact jc_of (x_hangsAt_ok (d + 0) as W Q h)
theorem s_deepOf_0 {Post : Option fw_V → fw_W → Prop} {d : Nat} {W : fw_W} {h : Int}
    (hw_ : jf fw_T (d + 2) 224 4 [(0, .inr (.inl 352)), (2, .inl (0 : Int)), (3, .inl h)] [] W Post) :
    jf fw_T (d + 2) 224 0 [(0, .inr (.inl 352)), (1, .inl h)] [] W Post := fw_ok (n := 5) (ss := [(4, [0, 2, 3])]) (hv := []) fr_224_ok fm_ok (ct_deepOf_ok d) hw_

theorem s_deepOf_4 {Post : Option fw_V → fw_W → Prop} {d : Nat} {W : fw_W} {n k : Int}
    (hw_ : (0 ≤ k ∧ k < 14) ∧ ((((fw_g W 366 (2 + 3 * k)) < 0 → (-2147483648 ≤ n → n ≤ 2147483647 → Post (some (.inl n)) W)) ∧ (0 ≤ (fw_g W 366 (2 + 3 * k)) → -2147483648 ≤ n + (1 : Int) ∧ n + (1 : Int) ≤ 2147483647 ∧ ((0 ≤ k ∧ k < 14) ∧ (jf fw_T (d + 2) 224 4 [(0, .inr (.inl 352)), (2, .inl (n + (1 : Int))), (3, .inl (fw_g W 366 (2 + 3 * k)))] [] W Post)))))) :
    jf fw_T (d + 2) 224 4 [(0, .inr (.inl 352)), (2, .inl n), (3, .inl k)] [] W Post := fw_ok (n := 11) (ss := [(4, [0, 2, 3])]) (hv := []) fr_224_ok fm_ok (ct_deepOf_ok d) hw_

theorem lm_deepOf_4 {Post : Option fw_V → fw_W → Prop} {d : Nat} {W : fw_W} {h : Int} (δ : Int → Int) (hδ : tr_dep ((fw_g W 366 0)) (fun z_ => (fw_g W 366 (2 + 3 * z_))) δ) (hpre : mt W ∧ 0 ≤ (fw_g W 366 0) ∧ (fw_g W 366 0) ≤ 14 ∧ 0 ≤ h ∧ h < (fw_g W 366 0)) (hP : ∀ (v : Int) , (-2147483648 ≤ v ∧ v ≤ 2147483647 ∧ (∀ δ, tr_dep ((fw_g W 366 0)) (fun z_ => (fw_g W 366 (2 + 3 * z_))) δ → v = δ h)) → Post (some (.inl v)) W)  : ∀ (m : Nat) (n k : Int), (δ k).toNat = m → 0 ≤ k ∧ k < (fw_g W 366 0) ∧ 0 ≤ n ∧ n + δ k = δ h → jf fw_T (d + 2) 224 4 [(0, .inr (.inl 352)), (2, .inl n), (3, .inl k)] [] W Post := by
  intro m
  induction m using Nat.strongRecOn with
  | ind m ih =>
    intro n k hm hi
    refine jf_rng (fun hrg => ?_)
    have hrg : -2147483648 ≤ n ∧ n ≤ 2147483647 ∧ -2147483648 ≤ k ∧ k ≤ 2147483647 ∧ True := hrg
    refine s_deepOf_4 ?_
    have p1 := mt_p hpre.1 hi.1 hi.2.1
    have d1 := mt_d hpre.1 hδ hi.1 hi.2.1
    have d2 := mt_d hpre.1 hδ hpre.2.2.2.1 hpre.2.2.2.2
    repeat' (first
      | (exact True.intro)
      | (exact hpre.1)
      | (refine And.intro ?_ ?_)
      | (refine (ih _ (by omega) _ _ rfl ?_); (first | omega | trivial))
      | (refine hP _ ?_; (refine ⟨by omega, by omega, ?_⟩; (intro ε hε; have := tr_dep_u hpre.1.2.2.1 hδ hε _ hpre.2.2.2.1 hpre.2.2.2.2; omega)))
      | omega
      | (intro _))
def x_deepOf : fw_X := fun as W Q => match as with
  | [.inr (.inl s_), .inl h] => fw_if (Nat.beq s_ 352) ((mt W ∧ 0 ≤ (fw_g W 366 0) ∧ (fw_g W 366 0) ≤ 14 ∧ 0 ≤ h ∧ h < (fw_g W 366 0)) ∧ (∀ (v : Int), (-2147483648 ≤ v ∧ v ≤ 2147483647 ∧ (∀ δ, tr_dep ((fw_g W 366 0)) (fun z_ => (fw_g W 366 (2 + 3 * z_))) δ → v = δ h)) → Q (some (.inl v)) W))
  | _ => False
theorem x_deepOf_ok (d : Nat) (as : List fw_V) (W : fw_W) (Q : Option fw_V → fw_W → Prop) (hx : x_deepOf as W Q) : jf fw_T (d + 2) 224 0 (fw_args 0 as) [] W Q := by
  unfold x_deepOf at hx
  split at hx
  · rename_i s_ h
    obtain ⟨e_, hpre, hQ⟩ := fw_if_ok hx
    have e_ := Nat.eq_of_beq_eq_true e_
    subst e_
    have hP := hQ
    obtain ⟨δ, hδ⟩ := tr_has hpre.1.2.2.1
    refine s_deepOf_0 ?_
    have d1 := mt_d hpre.1 hδ hpre.2.2.2.1 hpre.2.2.2.2
    repeat' (first
      | (exact True.intro)
      | (exact hpre.1)
      | (refine And.intro ?_ ?_)
      | (refine (lm_deepOf_4 (h := h) δ hδ hpre hP _ _ _ rfl ?_); (first | omega | trivial))
      | (refine hP _ ?_; (refine ⟨by omega, by omega, ?_⟩; (intro ε hε; have := tr_dep_u hpre.1.2.2.1 hδ hε _ hpre.2.2.2.1 hpre.2.2.2.2; omega)))
      | omega
      | (intro _))
  · exact hx.elim

def fr_214 : fw_P := [(0, 1, 0, 0, 0), (1, 1, 1, 0, 0), (2, 12, 14, 0, 0), (5, 1, 0, 0, 0), (6, 1, 2, 0, 0), (7, 14, 14, 0, 0), (10, 0, 0, 0, 1), (11, 6, 15, 0, 0), (14, 0, 0, 0, 0), (15, 71, 0, 0, 0)]
theorem fr_214_ok : fw_mk 214 3 12 (some .boolean) fr_214 = true := by decide +kernel
theorem s_isIn_0 {Post : Option fw_V → fw_W → Prop} {d : Nat} {W : fw_W} {a l u : Int}
    (hw_ : ((a < l → 0 ≤ (0 : Int) ∧ (0 : Int) ≤ 1 ∧ Post (some (.inl (0 : Int))) W) ∧ (l ≤ a → ((u < a → 0 ≤ (0 : Int) ∧ (0 : Int) ≤ 1 ∧ Post (some (.inl (0 : Int))) W) ∧ (a ≤ u → 0 ≤ (1 : Int) ∧ (1 : Int) ≤ 1 ∧ Post (some (.inl (1 : Int))) W))))) :
    jf fw_T (d + 1) 214 0 [(0, .inl a), (1, .inl l), (2, .inl u)] [] W Post := fw_ok (n := 10) (ss := []) (hv := []) fr_214_ok fm_ok (fw_c0 _ _) hw_

def x_isIn : fw_X := fun as W Q => match as with
  | [.inl a, .inl l, .inl u] => (True) ∧ (∀ (v : Int), (0 ≤ v ∧ v ≤ 1 ∧ ((v = 1 ∧ l ≤ a ∧ a ≤ u) ∨ (v = 0 ∧ (a < l ∨ u < a)))) → Q (some (.inl v)) W)
  | _ => False
theorem x_isIn_ok (d : Nat) (as : List fw_V) (W : fw_W) (Q : Option fw_V → fw_W → Prop) (hx : x_isIn as W Q) : jf fw_T (d + 1) 214 0 (fw_args 0 as) [] W Q := by
  unfold x_isIn at hx
  split at hx
  · rename_i a l u
    obtain ⟨hpre, hQ⟩ := hx
    have hP := hQ
    refine s_isIn_0 ?_
    repeat' (first
      | (exact True.intro)
      | (exact hpre.1)
      | (refine And.intro ?_ ?_)
      | (refine hP _ ?_; (refine ⟨by omega, by omega, ?_⟩; (first | trivial | omega)))
      | omega
      | (intro _))
  · exact hx.elim

def fr_213 : fw_P := [(0, 1, 1, 0, 0), (1, 0, 0, 0, 0), (2, 2, 0, 0, 0), (3, 64, 188, 0, 112), (6, 0, 0, 0, 1), (7, 31, 0, 0, 0), (8, 65, 214, 3, 300), (11, 71, 0, 0, 0)]
theorem fr_213_ok : fw_mk 213 2 12 (some .boolean) fr_213 = true := by decide +kernel
def ct_isHouse : List (Nat × fw_X) := [(214, x_isIn), (188, x_many)]
theorem ct_isHouse_ok (d : Nat) : fw_cok fw_T (d + 1) ct_isHouse := by
  intro q hq as W Q h
  simp only [ct_isHouse, List.mem_cons, List.not_mem_nil, or_false] at hq
  rcases hq with rfl | rfl
  · exact jc_of (x_isIn_ok (d + 0) as W Q h)
  · exact jc_of (x_many_ok (d + 0) as W Q h)
theorem s_isHouse_0 {Post : Option fw_V → fw_W → Prop} {d : Nat} {W : fw_W} {h : Int}
    (hw_ : (True) ∧ (-2147483648 ≤ (fw_g W 366 0) - (1 : Int) ∧ (fw_g W 366 0) - (1 : Int) ≤ 2147483647 ∧ ((True) ∧ (∀ (r1 : Int), ((0 ≤ r1 ∧ r1 ≤ 1 ∧ ((r1 = 1 ∧ (0 : Int) ≤ h ∧ h ≤ ((fw_g W 366 0) - (1 : Int))) ∨ (r1 = 0 ∧ (h < (0 : Int) ∨ ((fw_g W 366 0) - (1 : Int)) < h))))) → 0 ≤ r1 ∧ r1 ≤ 1 ∧ Post (some (.inl r1)) W)))) :
    jf fw_T (d + 2) 213 0 [(0, .inr (.inl 352)), (1, .inl h)] [] W Post := fw_ok (n := 9) (ss := []) (hv := []) fr_213_ok fm_ok (ct_isHouse_ok d) hw_

def x_isHouse : fw_X := fun as W Q => match as with
  | [.inr (.inl s_), .inl h] => fw_if (Nat.beq s_ 352) ((mt W ∧ 0 ≤ (fw_g W 366 0) ∧ (fw_g W 366 0) ≤ 14) ∧ (∀ (v : Int), (0 ≤ v ∧ v ≤ 1 ∧ ((v = 1 ∧ 0 ≤ h ∧ h < (fw_g W 366 0)) ∨ (v = 0 ∧ (h < 0 ∨ (fw_g W 366 0) ≤ h)))) → Q (some (.inl v)) W))
  | _ => False
theorem x_isHouse_ok (d : Nat) (as : List fw_V) (W : fw_W) (Q : Option fw_V → fw_W → Prop) (hx : x_isHouse as W Q) : jf fw_T (d + 2) 213 0 (fw_args 0 as) [] W Q := by
  unfold x_isHouse at hx
  split at hx
  · rename_i s_ h
    obtain ⟨e_, hpre, hQ⟩ := fw_if_ok hx
    have e_ := Nat.eq_of_beq_eq_true e_
    subst e_
    have hP := hQ
    refine s_isHouse_0 ?_
    repeat' (first
      | (exact True.intro)
      | (exact hpre.1)
      | (refine And.intro ?_ ?_)
      | (refine hP _ ?_; (refine ⟨by omega, by omega, ?_⟩; (first | trivial | omega)))
      | omega
      | (intro _))
  · exact hx.elim

def fr_219 : fw_P := [(0, 2, 0, 0, 0), (1, 1, 1, 0, 0), (2, 64, 215, 1, 212), (5, 1, 2, 0, 0), (6, 10, 18, 0, 0), (9, 2, 0, 0, 0), (10, 1, 2, 0, 0), (11, 64, 215, 1, 212), (14, 1, 1, 0, 0), (15, 11, 22, 0, 0), (18, 0, 0, 0, 1), (19, 6, 23, 0, 0), (22, 0, 0, 0, 0), (23, 71, 0, 0, 0)]
theorem fr_219_ok : fw_mk 219 3 12 (some .boolean) fr_219 = true := by decide +kernel
def ct_areNext : List (Nat × fw_X) := [(215, x_hangsAt)]
theorem ct_areNext_ok (d : Nat) : fw_cok fw_T (d + 1) ct_areNext := by
  intro q hq as W Q h
  simp only [ct_areNext, List.mem_cons, List.not_mem_nil, or_false] at hq
  rcases hq with rfl
  · exact jc_of (x_hangsAt_ok (d + 0) as W Q h)
theorem s_areNext_0 {Post : Option fw_V → fw_W → Prop} {d : Nat} {W : fw_W} {a b : Int}
    (hw_ : (0 ≤ a ∧ a < 14) ∧ ((((fw_g W 366 (2 + 3 * a)) = b → 0 ≤ (1 : Int) ∧ (1 : Int) ≤ 1 ∧ Post (some (.inl (1 : Int))) W) ∧ (¬ (fw_g W 366 (2 + 3 * a)) = b → (0 ≤ b ∧ b < 14) ∧ (((¬ (fw_g W 366 (2 + 3 * b)) = a → 0 ≤ (0 : Int) ∧ (0 : Int) ≤ 1 ∧ Post (some (.inl (0 : Int))) W) ∧ ((fw_g W 366 (2 + 3 * b)) = a → 0 ≤ (1 : Int) ∧ (1 : Int) ≤ 1 ∧ Post (some (.inl (1 : Int))) W))))))) :
    jf fw_T (d + 2) 219 0 [(0, .inr (.inl 352)), (1, .inl a), (2, .inl b)] [] W Post := fw_ok (n := 14) (ss := []) (hv := []) fr_219_ok fm_ok (ct_areNext_ok d) hw_

def x_areNext : fw_X := fun as W Q => match as with
  | [.inr (.inl s_), .inl a, .inl b] => fw_if (Nat.beq s_ 352) ((0 ≤ a ∧ a < 14 ∧ 0 ≤ b ∧ b < 14) ∧ (∀ (v : Int), (0 ≤ v ∧ v ≤ 1 ∧ ((v = 1 ∧ ((fw_g W 366 (2 + 3 * a)) = b ∨ (fw_g W 366 (2 + 3 * b)) = a)) ∨ (v = 0 ∧ ¬ (fw_g W 366 (2 + 3 * a)) = b ∧ ¬ (fw_g W 366 (2 + 3 * b)) = a))) → Q (some (.inl v)) W))
  | _ => False
theorem x_areNext_ok (d : Nat) (as : List fw_V) (W : fw_W) (Q : Option fw_V → fw_W → Prop) (hx : x_areNext as W Q) : jf fw_T (d + 2) 219 0 (fw_args 0 as) [] W Q := by
  unfold x_areNext at hx
  split at hx
  · rename_i s_ a b
    obtain ⟨e_, hpre, hQ⟩ := fw_if_ok hx
    have e_ := Nat.eq_of_beq_eq_true e_
    subst e_
    have hP := hQ
    refine s_areNext_0 ?_
    repeat' (first
      | (exact True.intro)
      | (exact hpre.1)
      | (refine And.intro ?_ ?_)
      | (refine hP _ ?_; (refine ⟨by omega, by omega, ?_⟩; (first | trivial | omega)))
      | omega
      | (intro _))
  · exact hx.elim

def fr_218 : fw_P := [(0, 0, 0, 0, 0), (1, 3, 2, 0, 0), (2, 0, 0, 0, 0), (3, 3, 3, 0, 0), (4, 1, 3, 0, 0), (5, 2, 0, 0, 0), (6, 64, 188, 0, 112), (9, 13, 40, 0, 0), (12, 1, 2, 0, 0), (13, 1, 3, 0, 0), (14, 1, 1, 0, 0), (15, 10, 31, 0, 0), (18, 2, 0, 0, 0), (19, 1, 1, 0, 0), (20, 1, 3, 0, 0), (21, 64, 219, 2, 312), (24, 20, 31, 0, 0), (27, 0, 0, 0, 1), (28, 6, 32, 0, 0), (31, 0, 0, 0, 0), (32, 30, 0, 0, 0), (33, 3, 2, 0, 0), (34, 5, 3, 0, 1), (37, 6, 4, 0, 0), (40, 1, 2, 0, 0), (41, 70, 0, 0, 0)]
theorem fr_218_ok : fw_mk 218 4 12 (some .int) fr_218 = true := by decide +kernel
def ct_streetsOf : List (Nat × fw_X) := [(219, x_areNext), (188, x_many)]
theorem ct_streetsOf_ok (d : Nat) : fw_cok fw_T (d + 2) ct_streetsOf := by
  intro q hq as W Q h
  simp only [ct_streetsOf, List.mem_cons, List.not_mem_nil, or_false] at hq
  rcases hq with rfl | rfl
  · exact jc_of (x_areNext_ok (d + 0) as W Q h)
  · exact jc_of (x_many_ok (d + 1) as W Q h)
theorem s_streetsOf_0 {Post : Option fw_V → fw_W → Prop} {d : Nat} {W : fw_W} {h : Int}
    (hw_ : jf fw_T (d + 3) 218 4 [(0, .inr (.inl 352)), (1, .inl h), (2, .inl (0 : Int)), (3, .inl (0 : Int))] [] W Post) :
    jf fw_T (d + 3) 218 0 [(0, .inr (.inl 352)), (1, .inl h)] [] W Post := fw_ok (n := 5) (ss := [(4, [0, 1, 2, 3])]) (hv := [32]) fr_218_ok fm_ok (ct_streetsOf_ok d) hw_

theorem s_streetsOf_4 {Post : Option fw_V → fw_W → Prop} {d : Nat} {W : fw_W} {h n k : Int}
    (hw_ : (True) ∧ ((((fw_g W 366 0) ≤ k → (-2147483648 ≤ n → n ≤ 2147483647 → Post (some (.inl n)) W)) ∧ (k < (fw_g W 366 0) → ((k = h → ∀ v1 : Int, -2147483648 ≤ v1 → v1 ≤ 2147483647 → -2147483648 ≤ k + (1 : Int) ∧ k + (1 : Int) ≤ 2147483647 ∧ (jf fw_T (d + 3) 218 4 [(0, .inr (.inl 352)), (1, .inl h), (2, .inl v1), (3, .inl (k + (1 : Int)))] [] W Post)) ∧ (¬ k = h → (0 ≤ h ∧ h < 14 ∧ 0 ≤ k ∧ k < 14) ∧ (∀ (r2 : Int), ((0 ≤ r2 ∧ r2 ≤ 1 ∧ ((r2 = 1 ∧ ((fw_g W 366 (2 + 3 * h)) = k ∨ (fw_g W 366 (2 + 3 * k)) = h)) ∨ (r2 = 0 ∧ ¬ (fw_g W 366 (2 + 3 * h)) = k ∧ ¬ (fw_g W 366 (2 + 3 * k)) = h)))) → ((r2 = 0 → ∀ v3 : Int, -2147483648 ≤ v3 → v3 ≤ 2147483647 → -2147483648 ≤ k + (1 : Int) ∧ k + (1 : Int) ≤ 2147483647 ∧ (jf fw_T (d + 3) 218 4 [(0, .inr (.inl 352)), (1, .inl h), (2, .inl v3), (3, .inl (k + (1 : Int)))] [] W Post)) ∧ (¬ r2 = 0 → ∀ v4 : Int, -2147483648 ≤ v4 → v4 ≤ 2147483647 → -2147483648 ≤ k + (1 : Int) ∧ k + (1 : Int) ≤ 2147483647 ∧ (jf fw_T (d + 3) 218 4 [(0, .inr (.inl 352)), (1, .inl h), (2, .inl v4), (3, .inl (k + (1 : Int)))] [] W Post)))))))))) :
    jf fw_T (d + 3) 218 4 [(0, .inr (.inl 352)), (1, .inl h), (2, .inl n), (3, .inl k)] [] W Post := fw_ok (n := 20) (ss := [(4, [0, 1, 2, 3])]) (hv := [32]) fr_218_ok fm_ok (ct_streetsOf_ok d) hw_

theorem lm_streetsOf_4 {Post : Option fw_V → fw_W → Prop} {d : Nat} {W : fw_W} {h : Int} (hpre : mt W ∧ 0 ≤ (fw_g W 366 0) ∧ (fw_g W 366 0) ≤ 14 ∧ 0 ≤ h ∧ h < 14) (hP : ∀ (v : Int) , (-2147483648 ≤ v ∧ v ≤ 2147483647 ∧ (True)) → Post (some (.inl v)) W)  : ∀ (m : Nat) (n k : Int), ((fw_g W 366 0) - k).toNat = m → 0 ≤ k → jf fw_T (d + 3) 218 4 [(0, .inr (.inl 352)), (1, .inl h), (2, .inl n), (3, .inl k)] [] W Post := by
  intro m
  induction m using Nat.strongRecOn with
  | ind m ih =>
    intro n k hm hi
    refine jf_rng (fun hrg => ?_)
    have hrg : -2147483648 ≤ h ∧ h ≤ 2147483647 ∧ -2147483648 ≤ n ∧ n ≤ 2147483647 ∧ -2147483648 ≤ k ∧ k ≤ 2147483647 ∧ True := hrg
    refine s_streetsOf_4 ?_
    repeat' (first
      | (exact True.intro)
      | (exact hpre.1)
      | (refine And.intro ?_ ?_)
      | (refine (ih _ (by omega) _ _ rfl ?_); (first | omega | trivial))
      | (refine hP _ ?_; (refine ⟨by omega, by omega, ?_⟩; (first | trivial | omega)))
      | omega
      | (intro _))
def x_streetsOf : fw_X := fun as W Q => match as with
  | [.inr (.inl s_), .inl h] => fw_if (Nat.beq s_ 352) ((mt W ∧ 0 ≤ (fw_g W 366 0) ∧ (fw_g W 366 0) ≤ 14 ∧ 0 ≤ h ∧ h < 14) ∧ (∀ (v : Int), (-2147483648 ≤ v ∧ v ≤ 2147483647 ∧ (True)) → Q (some (.inl v)) W))
  | _ => False
theorem x_streetsOf_ok (d : Nat) (as : List fw_V) (W : fw_W) (Q : Option fw_V → fw_W → Prop) (hx : x_streetsOf as W Q) : jf fw_T (d + 3) 218 0 (fw_args 0 as) [] W Q := by
  unfold x_streetsOf at hx
  split at hx
  · rename_i s_ h
    obtain ⟨e_, hpre, hQ⟩ := fw_if_ok hx
    have e_ := Nat.eq_of_beq_eq_true e_
    subst e_
    have hP := hQ
    refine s_streetsOf_0 ?_
    repeat' (first
      | (exact True.intro)
      | (exact hpre.1)
      | (refine And.intro ?_ ?_)
      | (refine (lm_streetsOf_4 (h := h) hpre hP _ _ _ rfl ?_); (first | omega | trivial))
      | (refine hP _ ?_; (refine ⟨by omega, by omega, ?_⟩; (first | trivial | omega)))
      | omega
      | (intro _))
  · exact hx.elim

theorem tr_beh_u {n : Int} {p : Int → Int} {q : Int} {B C : Int → Prop} (t : tr n p) (hb : tr_beh n p q B) (hc : tr_beh n p q C) : ∀ h, 0 ≤ h → h < n → (B h ↔ C h) := by
  refine tr_ind t (P := fun h => (B h ↔ C h)) ?_ ?_
  · rw [hb.1, hc.1]
  · intro h h1 h2 ih
    rw [hb.2 h h1 h2, hc.2 h h1 h2, ih]
def fr_240 : fw_P := [(0, 1, 1, 0, 0), (1, 3, 3, 0, 0), (2, 1, 3, 0, 0), (3, 22, 20, 0, 0), (6, 1, 3, 0, 0), (7, 1, 2, 0, 0), (8, 10, 20, 0, 0), (11, 2, 0, 0, 0), (12, 1, 3, 0, 0), (13, 64, 215, 1, 212), (16, 3, 3, 0, 0), (17, 6, 2, 0, 0), (20, 1, 3, 0, 0), (21, 1, 2, 0, 0), (22, 11, 29, 0, 0), (25, 0, 0, 0, 1), (26, 6, 30, 0, 0), (29, 0, 0, 0, 0), (30, 71, 0, 0, 0)]
theorem fr_240_ok : fw_mk 240 4 12 (some .boolean) fr_240 = true := by decide +kernel
def ct_isBehind : List (Nat × fw_X) := [(215, x_hangsAt)]
theorem ct_isBehind_ok (d : Nat) : fw_cok fw_T (d + 1) ct_isBehind := by
  intro q hq as W Q h
  simp only [ct_isBehind, List.mem_cons, List.not_mem_nil, or_false] at hq
  rcases hq with rfl
  · exact jc_of (x_hangsAt_ok (d + 0) as W Q h)
theorem s_isBehind_0 {Post : Option fw_V → fw_W → Prop} {d : Nat} {W : fw_W} {h q : Int}
    (hw_ : jf fw_T (d + 2) 240 2 [(0, .inr (.inl 352)), (2, .inl q), (3, .inl h)] [] W Post) :
    jf fw_T (d + 2) 240 0 [(0, .inr (.inl 352)), (1, .inl h), (2, .inl q)] [] W Post := fw_ok (n := 3) (ss := [(2, [0, 2, 3])]) (hv := []) fr_240_ok fm_ok (ct_isBehind_ok d) hw_

theorem s_isBehind_2 {Post : Option fw_V → fw_W → Prop} {d : Nat} {W : fw_W} {q k : Int}
    (hw_ : ((k < 0 → ((¬ k = q → 0 ≤ (0 : Int) ∧ (0 : Int) ≤ 1 ∧ Post (some (.inl (0 : Int))) W) ∧ (k = q → 0 ≤ (1 : Int) ∧ (1 : Int) ≤ 1 ∧ Post (some (.inl (1 : Int))) W))) ∧ (0 ≤ k → ((k = q → ((¬ k = q → 0 ≤ (0 : Int) ∧ (0 : Int) ≤ 1 ∧ Post (some (.inl (0 : Int))) W) ∧ (k = q → 0 ≤ (1 : Int) ∧ (1 : Int) ≤ 1 ∧ Post (some (.inl (1 : Int))) W))) ∧ (¬ k = q → (0 ≤ k ∧ k < 14) ∧ (jf fw_T (d + 2) 240 2 [(0, .inr (.inl 352)), (2, .inl q), (3, .inl (fw_g W 366 (2 + 3 * k)))] [] W Post)))))) :
    jf fw_T (d + 2) 240 2 [(0, .inr (.inl 352)), (2, .inl q), (3, .inl k)] [] W Post := fw_ok (n := 12) (ss := [(2, [0, 2, 3])]) (hv := []) fr_240_ok fm_ok (ct_isBehind_ok d) hw_

theorem lm_isBehind_2 {Post : Option fw_V → fw_W → Prop} {d : Nat} {W : fw_W} {h q : Int} (δ : Int → Int) (hδ : tr_dep ((fw_g W 366 0)) (fun z_ => (fw_g W 366 (2 + 3 * z_))) δ) (B : Int → Prop) (hB : tr_beh ((fw_g W 366 0)) (fun z_ => (fw_g W 366 (2 + 3 * z_))) q B) (hpre : mt W ∧ 0 ≤ (fw_g W 366 0) ∧ (fw_g W 366 0) ≤ 14 ∧ 0 ≤ h ∧ h < (fw_g W 366 0)) (hP : ∀ (v : Int) , (0 ≤ v ∧ v ≤ 1 ∧ (∀ B, tr_beh ((fw_g W 366 0)) (fun z_ => (fw_g W 366 (2 + 3 * z_))) q B → 0 ≤ q → (v = 1 ↔ B h))) → Post (some (.inl v)) W)  : ∀ (m : Nat) (k : Int), (if k < 0 then 0 else δ k + 1).toNat = m → -1 ≤ k ∧ k < (fw_g W 366 0) ∧ ((0 ≤ k ∧ (B h ↔ B k)) ∨ (k = -1 ∧ ¬ B h)) → jf fw_T (d + 2) 240 2 [(0, .inr (.inl 352)), (2, .inl q), (3, .inl k)] [] W Post := by
  intro m
  induction m using Nat.strongRecOn with
  | ind m ih =>
    intro k hm hi
    refine jf_rng (fun hrg => ?_)
    have hrg : -2147483648 ≤ q ∧ q ≤ 2147483647 ∧ -2147483648 ≤ k ∧ k ≤ 2147483647 ∧ True := hrg
    refine s_isBehind_2 ?_
    have p1 := fun hk : 0 ≤ k => mt_p hpre.1 hk hi.2.1
    have d1 := fun hk : 0 ≤ k => mt_d hpre.1 hδ hk hi.2.1
    repeat' (first
      | (exact True.intro)
      | (exact hpre.1)
      | (refine And.intro ?_ ?_)
      | (refine (ih _ (by omega) _ rfl ?_); (
        refine ⟨by omega, by omega, ?_⟩
        rcases hi.2.2 with ⟨e1, e2⟩ | ⟨e1, e2⟩
        · by_cases e3 : k = 0
          · refine Or.inr ⟨(p1 e1).1 e3, fun e4 => ?_⟩
            rw [e2, e3, hB.1] at e4
            omega
          · refine Or.inl ⟨by omega, ?_⟩
            rw [e2, hB.2 k (by omega) hi.2.1]
            exact ⟨fun e5 => e5.resolve_left (by omega), Or.inr⟩
        · omega))
      | (refine hP _ ?_; (refine ⟨by omega, by omega, ?_⟩; (
        intro C hC hq
        rw [← tr_beh_u hpre.1.2.2.1 hB hC h hpre.2.2.2.1 hpre.2.2.2.2]
        rcases hi.2.2 with ⟨e1, e2⟩ | ⟨e1, e2⟩
        · first
            | (rw [e2]; have e3 : k = q := by omega
               subst e3; exact ⟨fun _ => tr_beh_self hB e1 hi.2.1, fun _ => rfl⟩)
            | omega
        · exact ⟨fun e3 => absurd e3 (by omega), fun e3 => absurd e3 e2⟩)))
      | omega
      | (intro _))
def x_isBehind : fw_X := fun as W Q => match as with
  | [.inr (.inl s_), .inl h, .inl q] => fw_if (Nat.beq s_ 352) ((mt W ∧ 0 ≤ (fw_g W 366 0) ∧ (fw_g W 366 0) ≤ 14 ∧ 0 ≤ h ∧ h < (fw_g W 366 0)) ∧ (∀ (v : Int), (0 ≤ v ∧ v ≤ 1 ∧ (∀ B, tr_beh ((fw_g W 366 0)) (fun z_ => (fw_g W 366 (2 + 3 * z_))) q B → 0 ≤ q → (v = 1 ↔ B h))) → Q (some (.inl v)) W))
  | _ => False
theorem x_isBehind_ok (d : Nat) (as : List fw_V) (W : fw_W) (Q : Option fw_V → fw_W → Prop) (hx : x_isBehind as W Q) : jf fw_T (d + 2) 240 0 (fw_args 0 as) [] W Q := by
  unfold x_isBehind at hx
  split at hx
  · rename_i s_ h q
    obtain ⟨e_, hpre, hQ⟩ := fw_if_ok hx
    have e_ := Nat.eq_of_beq_eq_true e_
    subst e_
    have hP := hQ
    obtain ⟨δ, hδ⟩ := tr_has hpre.1.2.2.1
    obtain ⟨B, hB⟩ := tr_hasb hpre.1.2.2.1 q
    refine s_isBehind_0 ?_
    repeat' (first
      | (exact True.intro)
      | (exact hpre.1)
      | (refine And.intro ?_ ?_)
      | (refine (lm_isBehind_2 (h := h) (q := q) δ hδ B hB hpre hP _ _ rfl ?_); (exact ⟨by omega, by omega, Or.inl ⟨by omega, Iff.rfl⟩⟩))
      | (refine hP _ ?_; (refine ⟨by omega, by omega, ?_⟩; (
        intro C hC hq
        rw [← tr_beh_u hpre.1.2.2.1 hB hC h hpre.2.2.2.1 hpre.2.2.2.2]
        rcases hi.2.2 with ⟨e1, e2⟩ | ⟨e1, e2⟩
        · first
            | (rw [e2]; have e3 : k = q := by omega
               subst e3; exact ⟨fun _ => tr_beh_self hB e1 hi.2.1, fun _ => rfl⟩)
            | omega
        · exact ⟨fun e3 => absurd e3 (by omega), fun e3 => absurd e3 e2⟩)))
      | omega
      | (intro _))
  · exact hx.elim

def fr_223 : fw_P := [(0, 1, 1, 0, 0), (1, 3, 3, 0, 0), (2, 1, 2, 0, 0), (3, 3, 4, 0, 0), (5, 0, 0, 0, 0), (6, 3, 5, 0, 0), (8, 1, 3, 0, 0), (9, 1, 4, 0, 0), (11, 10, 69, 0, 0), (14, 2, 0, 0, 0), (15, 1, 3, 0, 0), (16, 64, 224, 1, 412), (19, 2, 0, 0, 0), (20, 1, 4, 0, 0), (22, 64, 224, 1, 412), (25, 12, 47, 0, 0), (28, 1, 5, 0, 0), (30, 2, 0, 0, 0), (31, 1, 3, 0, 0), (32, 64, 216, 1, 212), (35, 30, 0, 0, 0), (36, 3, 5, 0, 0), (38, 2, 0, 0, 0), (39, 1, 3, 0, 0), (40, 64, 215, 1, 212), (43, 3, 3, 0, 0), (44, 6, 8, 0, 0), (47, 1, 5, 0, 0), (49, 2, 0, 0, 0), (50, 1, 4, 0, 0), (52, 64, 216, 1, 212), (55, 30, 0, 0, 0), (56, 3, 5, 0, 0), (58, 2, 0, 0, 0), (59, 1, 4, 0, 0), (61, 64, 215, 1, 212), (64, 3, 4, 0, 0), (66, 6, 8, 0, 0), (69, 1, 5, 0, 0), (71, 70, 0, 0, 0)]
theorem fr_223_ok : fw_mk 223 6 12 (some .int) fr_223 = true := by decide +kernel
def ct_wayOf : List (Nat × fw_X) := [(224, x_deepOf), (215, x_hangsAt), (216, x_streetOf)]
theorem ct_wayOf_ok (d : Nat) : fw_cok fw_T (d + 2) ct_wayOf := by
  intro q hq as W Q h
  simp only [ct_wayOf, List.mem_cons, List.not_mem_nil, or_false] at hq
  rcases hq with rfl | rfl | rfl
  · exact jc_of (x_deepOf_ok (d + 0) as W Q h)
  · exact jc_of (x_hangsAt_ok (d + 1) as W Q h)
  · exact jc_of (x_streetOf_ok (d + 1) as W Q h)
theorem s_wayOf_0 {Post : Option fw_V → fw_W → Prop} {d : Nat} {W : fw_W} {a b : Int}
    (hw_ : jf fw_T (d + 3) 223 8 [(0, .inr (.inl 352)), (3, .inl a), (4, .inl b), (5, .inl (0 : Int))] [] W Post) :
    jf fw_T (d + 3) 223 0 [(0, .inr (.inl 352)), (1, .inl a), (2, .inl b)] [] W Post := fw_ok (n := 7) (ss := [(8, [0, 3, 4, 5])]) (hv := [35, 55]) fr_223_ok fm_ok (ct_wayOf_ok d) hw_

theorem s_wayOf_8 {Post : Option fw_V → fw_W → Prop} {d : Nat} {W : fw_W} {x y sum : Int}
    (hw_ : ((x = y → (-2147483648 ≤ sum → sum ≤ 2147483647 → Post (some (.inl sum)) W)) ∧ (¬ x = y → (mt W ∧ 0 ≤ (fw_g W 366 0) ∧ (fw_g W 366 0) ≤ 14 ∧ 0 ≤ x ∧ x < (fw_g W 366 0)) ∧ (∀ (r1 : Int), ((-2147483648 ≤ r1 ∧ r1 ≤ 2147483647 ∧ (∀ δ, tr_dep ((fw_g W 366 0)) (fun z_ => (fw_g W 366 (2 + 3 * z_))) δ → r1 = δ x))) → (mt W ∧ 0 ≤ (fw_g W 366 0) ∧ (fw_g W 366 0) ≤ 14 ∧ 0 ≤ y ∧ y < (fw_g W 366 0)) ∧ (∀ (r2 : Int), ((-2147483648 ≤ r2 ∧ r2 ≤ 2147483647 ∧ (∀ δ, tr_dep ((fw_g W 366 0)) (fun z_ => (fw_g W 366 (2 + 3 * z_))) δ → r2 = δ y))) → ((r1 < r2 → (0 ≤ y ∧ y < 14) ∧ (∀ v3 : Int, -2147483648 ≤ v3 → v3 ≤ 2147483647 → (0 ≤ y ∧ y < 14) ∧ (jf fw_T (d + 3) 223 8 [(0, .inr (.inl 352)), (3, .inl x), (4, .inl (fw_g W 366 (2 + 3 * y))), (5, .inl v3)] [] W Post))) ∧ (r2 ≤ r1 → (0 ≤ x ∧ x < 14) ∧ (∀ v4 : Int, -2147483648 ≤ v4 → v4 ≤ 2147483647 → (0 ≤ x ∧ x < 14) ∧ (jf fw_T (d + 3) 223 8 [(0, .inr (.inl 352)), (3, .inl (fw_g W 366 (2 + 3 * x))), (4, .inl y), (5, .inl v4)] [] W Post))))))))) :
    jf fw_T (d + 3) 223 8 [(0, .inr (.inl 352)), (3, .inl x), (4, .inl y), (5, .inl sum)] [] W Post := fw_ok (n := 22) (ss := [(8, [0, 3, 4, 5])]) (hv := [35, 55]) fr_223_ok fm_ok (ct_wayOf_ok d) hw_

theorem lm_wayOf_8 {Post : Option fw_V → fw_W → Prop} {d : Nat} {W : fw_W} {a b : Int} (δ : Int → Int) (hδ : tr_dep ((fw_g W 366 0)) (fun z_ => (fw_g W 366 (2 + 3 * z_))) δ) (hpre : mt W ∧ 0 ≤ (fw_g W 366 0) ∧ (fw_g W 366 0) ≤ 14 ∧ 0 ≤ a ∧ a < (fw_g W 366 0) ∧ 0 ≤ b ∧ b < (fw_g W 366 0)) (hP : ∀ (v : Int) , (-2147483648 ≤ v ∧ v ≤ 2147483647 ∧ (True)) → Post (some (.inl v)) W)  : ∀ (m : Nat) (x y sum : Int), (δ x + δ y).toNat = m → 0 ≤ x ∧ x < (fw_g W 366 0) ∧ 0 ≤ y ∧ y < (fw_g W 366 0) → jf fw_T (d + 3) 223 8 [(0, .inr (.inl 352)), (3, .inl x), (4, .inl y), (5, .inl sum)] [] W Post := by
  intro m
  induction m using Nat.strongRecOn with
  | ind m ih =>
    intro x y sum hm hi
    refine jf_rng (fun hrg => ?_)
    have hrg : -2147483648 ≤ x ∧ x ≤ 2147483647 ∧ -2147483648 ≤ y ∧ y ≤ 2147483647 ∧ -2147483648 ≤ sum ∧ sum ≤ 2147483647 ∧ True := hrg
    refine s_wayOf_8 ?_
    have p1 := mt_p hpre.1 hi.1 hi.2.1
    have d1 := mt_d hpre.1 hδ hi.1 hi.2.1
    have p2 := mt_p hpre.1 hi.2.2.1 hi.2.2.2
    have d2 := mt_d hpre.1 hδ hi.2.2.1 hi.2.2.2
    repeat' (first
      | (exact True.intro)
      | (exact hpre.1)
      | (refine And.intro ?_ ?_)
      | (refine (ih _ (by omega) _ _ _ rfl ?_); (first | omega | trivial))
      | (refine hP _ ?_; (refine ⟨by omega, by omega, ?_⟩; (first | trivial | omega)))
      | (intro hv; have hv2 := hv.2.2 _ hδ; clear hv)
      | omega
      | (intro _))
def x_wayOf : fw_X := fun as W Q => match as with
  | [.inr (.inl s_), .inl a, .inl b] => fw_if (Nat.beq s_ 352) ((mt W ∧ 0 ≤ (fw_g W 366 0) ∧ (fw_g W 366 0) ≤ 14 ∧ 0 ≤ a ∧ a < (fw_g W 366 0) ∧ 0 ≤ b ∧ b < (fw_g W 366 0)) ∧ (∀ (v : Int), (-2147483648 ≤ v ∧ v ≤ 2147483647 ∧ (True)) → Q (some (.inl v)) W))
  | _ => False
theorem x_wayOf_ok (d : Nat) (as : List fw_V) (W : fw_W) (Q : Option fw_V → fw_W → Prop) (hx : x_wayOf as W Q) : jf fw_T (d + 3) 223 0 (fw_args 0 as) [] W Q := by
  unfold x_wayOf at hx
  split at hx
  · rename_i s_ a b
    obtain ⟨e_, hpre, hQ⟩ := fw_if_ok hx
    have e_ := Nat.eq_of_beq_eq_true e_
    subst e_
    have hP := hQ
    obtain ⟨δ, hδ⟩ := tr_has hpre.1.2.2.1
    refine s_wayOf_0 ?_
    repeat' (first
      | (exact True.intro)
      | (exact hpre.1)
      | (refine And.intro ?_ ?_)
      | (refine (lm_wayOf_8 (a := a) (b := b) δ hδ hpre hP _ _ _ _ rfl ?_); (first | omega | trivial))
      | (refine hP _ ?_; (refine ⟨by omega, by omega, ?_⟩; (first | trivial | omega)))
      | omega
      | (intro _))
  · exact hx.elim

def fr_222 : fw_P := [(0, 0, 0, 0, 0), (1, 3, 1, 0, 0), (2, 1, 1, 0, 0), (3, 2, 0, 0, 0), (4, 64, 188, 0, 112), (7, 13, 49, 0, 0), (10, 0, 0, 0, 0), (11, 3, 2, 0, 0), (12, 1, 2, 0, 0), (13, 2, 0, 0, 0), (14, 64, 188, 0, 112), (17, 13, 43, 0, 0), (20, 2, 0, 0, 0), (21, 50, 12, 25, 0), (24, 0, 0, 0, 14), (26, 1, 1, 0, 0), (27, 32, 0, 0, 0), (28, 1, 2, 0, 0), (29, 30, 0, 0, 0), (30, 2, 0, 0, 0), (31, 1, 1, 0, 0), (32, 1, 2, 0, 0), (33, 64, 223, 2, 612), (36, 53, 0, 0, 0), (37, 5, 2, 0, 1), (40, 6, 12, 0, 0), (43, 5, 1, 0, 1), (46, 6, 2, 0, 0), (49, 72, 0, 0, 0)]
theorem fr_222_ok : fw_mk 222 3 12 none fr_222 = true := by decide +kernel
def ct_layWays : List (Nat × fw_X) := [(188, x_many), (223, x_wayOf)]
theorem ct_layWays_ok (d : Nat) : fw_cok fw_T (d + 3) ct_layWays := by
  intro q hq as W Q h
  simp only [ct_layWays, List.mem_cons, List.not_mem_nil, or_false] at hq
  rcases hq with rfl | rfl
  · exact jc_of (x_many_ok (d + 2) as W Q h)
  · exact jc_of (x_wayOf_ok (d + 0) as W Q h)
theorem s_layWays_0 {Post : Option fw_V → fw_W → Prop} {d : Nat} {W : fw_W}
    (hw_ : jf fw_T (d + 4) 222 2 [(0, .inr (.inl 352)), (1, .inl (0 : Int))] [] W Post) :
    jf fw_T (d + 4) 222 0 [(0, .inr (.inl 352))] [] W Post := fw_ok (n := 3) (ss := [(2, [0, 1]), (12, [0, 1, 2])]) (hv := []) fr_222_ok fm_ok (ct_layWays_ok d) hw_

theorem s_layWays_12 {Post : Option fw_V → fw_W → Prop} {d : Nat} {W : fw_W} {a b : Int} {f : fw_W}
    (hw_ : (True) ∧ ((((fw_g W 366 0) ≤ b → -2147483648 ≤ a + (1 : Int) ∧ a + (1 : Int) ≤ 2147483647 ∧ (jf fw_T (d + 4) 222 2 [(0, .inr (.inl 352)), (1, .inl (a + (1 : Int)))] [] (fw_put [367] 352 [] W f) Post)) ∧ (b < (fw_g W 366 0) → -2147483648 ≤ (14 : Int) * a ∧ (14 : Int) * a ≤ 2147483647 ∧ (-2147483648 ≤ ((14 : Int) * a) + b ∧ ((14 : Int) * a) + b ≤ 2147483647 ∧ ((mt (fw_put [367] 352 [] W f) ∧ 0 ≤ (fw_g W 366 0) ∧ (fw_g W 366 0) ≤ 14 ∧ 0 ≤ a ∧ a < (fw_g W 366 0) ∧ 0 ≤ b ∧ b < (fw_g W 366 0)) ∧ (∀ (r1 : Int), ((-2147483648 ≤ r1 ∧ r1 ≤ 2147483647 ∧ (True))) → 0 ≤ (((14 : Int) * a) + b) ∧ (((14 : Int) * a) + b) < 196 ∧ -2147483648 ≤ r1 ∧ r1 ≤ 2147483647 ∧ (-2147483648 ≤ b + (1 : Int) ∧ b + (1 : Int) ≤ 2147483647 ∧ (jf fw_T (d + 4) 222 12 [(0, .inr (.inl 352)), (1, .inl a), (2, .inl (b + (1 : Int)))] [] (fw_up (fw_put [367] 352 [] W f) 367 (((14 : Int) * a) + b) r1) Post))))))))) :
    jf fw_T (d + 4) 222 12 [(0, .inr (.inl 352)), (1, .inl a), (2, .inl b)] [] (fw_put [367] 352 [] W f) Post := fw_ok (n := 19) (ss := [(2, [0, 1]), (12, [0, 1, 2])]) (hv := []) fr_222_ok fm_ok (ct_layWays_ok d) hw_

theorem s_layWays_2 {Post : Option fw_V → fw_W → Prop} {d : Nat} {W : fw_W} {a : Int} {f : fw_W}
    (hw_ : (True) ∧ ((((fw_g W 366 0) ≤ a → Post none (fw_put [367] 352 [] W f)) ∧ (a < (fw_g W 366 0) → jf fw_T (d + 4) 222 12 [(0, .inr (.inl 352)), (1, .inl a), (2, .inl (0 : Int))] [] (fw_put [367] 352 [] W f) Post)))) :
    jf fw_T (d + 4) 222 2 [(0, .inr (.inl 352)), (1, .inl a)] [] (fw_put [367] 352 [] W f) Post := fw_ok (n := 7) (ss := [(2, [0, 1]), (12, [0, 1, 2])]) (hv := []) fr_222_ok fm_ok (ct_layWays_ok d) hw_

theorem lm_layWays_12 {Post : Option fw_V → fw_W → Prop} {d : Nat} {W : fw_W} (hpre : mt W ∧ 0 ≤ (fw_g W 366 0) ∧ (fw_g W 366 0) ≤ 14) (hP : ∀ (W2 : fw_W), fw_sm [367] 352 [] W W2 → (True) → Post none W2) (M2 : Int) (h2 : ∀ (a : Int) (f : fw_W), 0 ≤ a → ((fw_g W 366 0) - a) < M2 → jf fw_T (d + 4) 222 2 [(0, .inr (.inl 352)), (1, .inl a)] [] (fw_put [367] 352 [] W f) Post) : ∀ (m : Nat) (a b : Int) (f : fw_W), ((fw_g W 366 0) - b).toNat = m → 0 ≤ b ∧ 0 ≤ a ∧ a < (fw_g W 366 0) → ((fw_g W 366 0) - a) ≤ M2 → jf fw_T (d + 4) 222 12 [(0, .inr (.inl 352)), (1, .inl a), (2, .inl b)] [] (fw_put [367] 352 [] W f) Post := by
  intro m
  induction m using Nat.strongRecOn with
  | ind m ih =>
    intro a b f hm hi e2
    refine jf_rng (fun hrg => ?_)
    have hrg : -2147483648 ≤ a ∧ a ≤ 2147483647 ∧ -2147483648 ≤ b ∧ b ≤ 2147483647 ∧ True := hrg
    refine s_layWays_12 ?_
    repeat' (first
      | (exact True.intro)
      | (exact hpre.1)
      | (refine And.intro ?_ ?_)
      | (refine jf_put (S := [367]) (o := 352) (F := []) (W := W) (by repeat (first | exact fw_sm_refl | exact fw_sm_put0 | refine fw_sm_arr ?_ rfl | refine fw_sm_up ?_ rfl | refine fw_sm_put ?_ rfl | refine fw_sm_cp ?_ rfl)) (h2 _ _ ?_ (by omega)); (first | omega | trivial | (simp (config := { decide := true }) only [fg_in, fg_fin, fg_out, fg_fout, fg_up, fg_same, true_and, and_true] <;> omega)))
      | (refine jf_put (S := [367]) (o := 352) (F := []) (W := W) (by repeat (first | exact fw_sm_refl | exact fw_sm_put0 | refine fw_sm_arr ?_ rfl | refine fw_sm_up ?_ rfl | refine fw_sm_put ?_ rfl | refine fw_sm_cp ?_ rfl)) (ih _ (by omega) _ _ _ rfl ?_ (by omega)); (first | omega | trivial | (simp (config := { decide := true }) only [fg_in, fg_fin, fg_out, fg_fout, fg_up, fg_same, true_and, and_true] <;> omega)))
      | (refine hP _ (by repeat (first | exact fw_sm_refl | exact fw_sm_put0 | refine fw_sm_arr ?_ rfl | refine fw_sm_up ?_ rfl | refine fw_sm_put ?_ rfl | refine fw_sm_cp ?_ rfl)) ?_; (first | trivial | omega))
      | omega
      | (intro _))
theorem lm_layWays_2 {Post : Option fw_V → fw_W → Prop} {d : Nat} {W : fw_W} (hpre : mt W ∧ 0 ≤ (fw_g W 366 0) ∧ (fw_g W 366 0) ≤ 14) (hP : ∀ (W2 : fw_W), fw_sm [367] 352 [] W W2 → (True) → Post none W2)  : ∀ (m : Nat) (a : Int) (f : fw_W), ((fw_g W 366 0) - a).toNat = m → 0 ≤ a → jf fw_T (d + 4) 222 2 [(0, .inr (.inl 352)), (1, .inl a)] [] (fw_put [367] 352 [] W f) Post := by
  intro m
  induction m using Nat.strongRecOn with
  | ind m ih =>
    intro a f hm hi
    refine jf_rng (fun hrg => ?_)
    have hrg : -2147483648 ≤ a ∧ a ≤ 2147483647 ∧ True := hrg
    refine s_layWays_2 ?_
    repeat' (first
      | (exact True.intro)
      | (exact hpre.1)
      | (refine And.intro ?_ ?_)
      | (refine jf_put (S := [367]) (o := 352) (F := []) (W := W) (by repeat (first | exact fw_sm_refl | exact fw_sm_put0 | refine fw_sm_arr ?_ rfl | refine fw_sm_up ?_ rfl | refine fw_sm_put ?_ rfl | refine fw_sm_cp ?_ rfl)) (ih _ (by omega) _ _ rfl ?_); (first | omega | trivial | (simp (config := { decide := true }) only [fg_in, fg_fin, fg_out, fg_fout, fg_up, fg_same, true_and, and_true] <;> omega)))
      | (refine jf_put (S := [367]) (o := 352) (F := []) (W := W) (by repeat (first | exact fw_sm_refl | exact fw_sm_put0 | refine fw_sm_arr ?_ rfl | refine fw_sm_up ?_ rfl | refine fw_sm_put ?_ rfl | refine fw_sm_cp ?_ rfl)) (lm_layWays_12 hpre hP ((fw_g W 366 0) - a) (fun a0 af hi hl => ih _ (by omega) a0 af rfl hi) _ _ _ _ rfl ?_ (by omega)); (first | omega | trivial | (simp (config := { decide := true }) only [fg_in, fg_fin, fg_out, fg_fout, fg_up, fg_same, true_and, and_true] <;> omega)))
      | (refine hP _ (by repeat (first | exact fw_sm_refl | exact fw_sm_put0 | refine fw_sm_arr ?_ rfl | refine fw_sm_up ?_ rfl | refine fw_sm_put ?_ rfl | refine fw_sm_cp ?_ rfl)) ?_; (first | trivial | omega))
      | omega
      | (intro _))
def x_layWays : fw_X := fun as W Q => match as with
  | [.inr (.inl s_)] => fw_if (Nat.beq s_ 352) ((mt W ∧ 0 ≤ (fw_g W 366 0) ∧ (fw_g W 366 0) ≤ 14) ∧ (∀ (f : fw_W), (True) → Q none (fw_put [367] 352 [] W f)))
  | _ => False
theorem x_layWays_ok (d : Nat) (as : List fw_V) (W : fw_W) (Q : Option fw_V → fw_W → Prop) (hx : x_layWays as W Q) : jf fw_T (d + 4) 222 0 (fw_args 0 as) [] W Q := by
  unfold x_layWays at hx
  split at hx
  · rename_i s_
    obtain ⟨e_, hpre, hQ⟩ := fw_if_ok hx
    have e_ := Nat.eq_of_beq_eq_true e_
    subst e_
    have hP : ∀ (W2 : fw_W), fw_sm [367] 352 [] W W2 → _ → Q none W2 := fun W2 hs hr => fw_sm_use (Q := fun Z => Q none Z) hs (hQ W2 hr)
    refine s_layWays_0 ?_
    repeat' (first
      | (exact True.intro)
      | (exact hpre.1)
      | (refine And.intro ?_ ?_)
      | (refine jf_put (S := [367]) (o := 352) (F := []) (W := W) (by repeat (first | exact fw_sm_refl | exact fw_sm_put0 | refine fw_sm_arr ?_ rfl | refine fw_sm_up ?_ rfl | refine fw_sm_put ?_ rfl | refine fw_sm_cp ?_ rfl)) (lm_layWays_2 hpre hP _ _ _ rfl ?_); (first | omega | trivial | (simp (config := { decide := true }) only [fg_in, fg_fin, fg_out, fg_fout, fg_up, fg_same, true_and, and_true] <;> omega)))
      | (refine jf_put (S := [367]) (o := 352) (F := []) (W := W) (by repeat (first | exact fw_sm_refl | exact fw_sm_put0 | refine fw_sm_arr ?_ rfl | refine fw_sm_up ?_ rfl | refine fw_sm_put ?_ rfl | refine fw_sm_cp ?_ rfl)) (lm_layWays_12 hpre hP M2 h2 _ _ _ _ rfl ?_ (by omega)); (first | omega | trivial | (simp (config := { decide := true }) only [fg_in, fg_fin, fg_out, fg_fout, fg_up, fg_same, true_and, and_true] <;> omega)))
      | (refine hP _ (by repeat (first | exact fw_sm_refl | exact fw_sm_put0 | refine fw_sm_arr ?_ rfl | refine fw_sm_up ?_ rfl | refine fw_sm_put ?_ rfl | refine fw_sm_cp ?_ rfl)) ?_; (first | trivial | omega))
      | omega
      | (intro _))
  · exact hx.elim

def fr_227 : fw_P := [(0, 0, 0, 0, 0), (1, 3, 2, 0, 0), (2, 0, 0, 0, 0), (3, 3, 3, 0, 0), (4, 1, 3, 0, 0), (5, 2, 0, 0, 0), (6, 64, 188, 0, 112), (9, 13, 49, 0, 0), (12, 2, 0, 0, 0), (13, 50, 12, 25, 0), (16, 0, 0, 0, 14), (18, 1, 1, 0, 0), (19, 32, 0, 0, 0), (20, 1, 3, 0, 0), (21, 30, 0, 0, 0), (22, 52, 0, 0, 0), (23, 1, 2, 0, 0), (24, 15, 41, 0, 0), (27, 2, 0, 0, 0), (28, 50, 12, 25, 0), (31, 0, 0, 0, 14), (33, 1, 1, 0, 0), (34, 32, 0, 0, 0), (35, 1, 3, 0, 0), (36, 30, 0, 0, 0), (37, 52, 0, 0, 0), (38, 6, 42, 0, 0), (41, 1, 2, 0, 0), (42, 3, 2, 0, 0), (43, 5, 3, 0, 1), (46, 6, 4, 0, 0), (49, 1, 2, 0, 0), (50, 70, 0, 0, 0)]
theorem fr_227_ok : fw_mk 227 4 12 (some .int) fr_227 = true := by decide +kernel
def ct_farOf : List (Nat × fw_X) := [(188, x_many)]
theorem ct_farOf_ok (d : Nat) : fw_cok fw_T (d + 1) ct_farOf := by
  intro q hq as W Q h
  simp only [ct_farOf, List.mem_cons, List.not_mem_nil, or_false] at hq
  rcases hq with rfl
  · exact jc_of (x_many_ok (d + 0) as W Q h)
theorem s_farOf_0 {Post : Option fw_V → fw_W → Prop} {d : Nat} {W : fw_W} {h : Int}
    (hw_ : jf fw_T (d + 2) 227 4 [(0, .inr (.inl 352)), (1, .inl h), (2, .inl (0 : Int)), (3, .inl (0 : Int))] [] W Post) :
    jf fw_T (d + 2) 227 0 [(0, .inr (.inl 352)), (1, .inl h)] [] W Post := fw_ok (n := 5) (ss := [(4, [0, 1, 2, 3])]) (hv := []) fr_227_ok fm_ok (ct_farOf_ok d) hw_

theorem s_farOf_4 {Post : Option fw_V → fw_W → Prop} {d : Nat} {W : fw_W} {h most k : Int}
    (hw_ : (True) ∧ ((((fw_g W 366 0) ≤ k → (-2147483648 ≤ most → most ≤ 2147483647 → Post (some (.inl most)) W)) ∧ (k < (fw_g W 366 0) → -2147483648 ≤ (14 : Int) * h ∧ (14 : Int) * h ≤ 2147483647 ∧ (-2147483648 ≤ ((14 : Int) * h) + k ∧ ((14 : Int) * h) + k ≤ 2147483647 ∧ (0 ≤ (((14 : Int) * h) + k) ∧ (((14 : Int) * h) + k) < 196 ∧ (-2147483648 ≤ (fw_g W 367 (((14 : Int) * h) + k)) → (fw_g W 367 (((14 : Int) * h) + k)) ≤ 2147483647 → (((fw_g W 367 (((14 : Int) * h) + k)) ≤ most → -2147483648 ≤ k + (1 : Int) ∧ k + (1 : Int) ≤ 2147483647 ∧ (jf fw_T (d + 2) 227 4 [(0, .inr (.inl 352)), (1, .inl h), (2, .inl most), (3, .inl (k + (1 : Int)))] [] W Post)) ∧ (most < (fw_g W 367 (((14 : Int) * h) + k)) → -2147483648 ≤ (14 : Int) * h ∧ (14 : Int) * h ≤ 2147483647 ∧ (-2147483648 ≤ ((14 : Int) * h) + k ∧ ((14 : Int) * h) + k ≤ 2147483647 ∧ (0 ≤ (((14 : Int) * h) + k) ∧ (((14 : Int) * h) + k) < 196 ∧ (-2147483648 ≤ (fw_g W 367 (((14 : Int) * h) + k)) → (fw_g W 367 (((14 : Int) * h) + k)) ≤ 2147483647 → -2147483648 ≤ k + (1 : Int) ∧ k + (1 : Int) ≤ 2147483647 ∧ (jf fw_T (d + 2) 227 4 [(0, .inr (.inl 352)), (1, .inl h), (2, .inl (fw_g W 367 (((14 : Int) * h) + k))), (3, .inl (k + (1 : Int)))] [] W Post))))))))))))) :
    jf fw_T (d + 2) 227 4 [(0, .inr (.inl 352)), (1, .inl h), (2, .inl most), (3, .inl k)] [] W Post := fw_ok (n := 27) (ss := [(4, [0, 1, 2, 3])]) (hv := []) fr_227_ok fm_ok (ct_farOf_ok d) hw_

theorem lm_farOf_4 {Post : Option fw_V → fw_W → Prop} {d : Nat} {W : fw_W} {h : Int} (hpre : mt W ∧ 0 ≤ (fw_g W 366 0) ∧ (fw_g W 366 0) ≤ 14 ∧ 0 ≤ h ∧ h < 14) (hP : ∀ (v : Int) , (-2147483648 ≤ v ∧ v ≤ 2147483647 ∧ (True)) → Post (some (.inl v)) W)  : ∀ (m : Nat) (most k : Int), ((fw_g W 366 0) - k).toNat = m → 0 ≤ k → jf fw_T (d + 2) 227 4 [(0, .inr (.inl 352)), (1, .inl h), (2, .inl most), (3, .inl k)] [] W Post := by
  intro m
  induction m using Nat.strongRecOn with
  | ind m ih =>
    intro most k hm hi
    refine jf_rng (fun hrg => ?_)
    have hrg : -2147483648 ≤ h ∧ h ≤ 2147483647 ∧ -2147483648 ≤ most ∧ most ≤ 2147483647 ∧ -2147483648 ≤ k ∧ k ≤ 2147483647 ∧ True := hrg
    refine s_farOf_4 ?_
    repeat' (first
      | (exact True.intro)
      | (exact hpre.1)
      | (refine And.intro ?_ ?_)
      | (refine (ih _ (by omega) _ _ rfl ?_); (first | omega | trivial))
      | (refine hP _ ?_; (refine ⟨by omega, by omega, ?_⟩; (first | trivial | omega)))
      | omega
      | (intro _))
def x_farOf : fw_X := fun as W Q => match as with
  | [.inr (.inl s_), .inl h] => fw_if (Nat.beq s_ 352) ((mt W ∧ 0 ≤ (fw_g W 366 0) ∧ (fw_g W 366 0) ≤ 14 ∧ 0 ≤ h ∧ h < 14) ∧ (∀ (v : Int), (-2147483648 ≤ v ∧ v ≤ 2147483647 ∧ (True)) → Q (some (.inl v)) W))
  | _ => False
theorem x_farOf_ok (d : Nat) (as : List fw_V) (W : fw_W) (Q : Option fw_V → fw_W → Prop) (hx : x_farOf as W Q) : jf fw_T (d + 2) 227 0 (fw_args 0 as) [] W Q := by
  unfold x_farOf at hx
  split at hx
  · rename_i s_ h
    obtain ⟨e_, hpre, hQ⟩ := fw_if_ok hx
    have e_ := Nat.eq_of_beq_eq_true e_
    subst e_
    have hP := hQ
    refine s_farOf_0 ?_
    repeat' (first
      | (exact True.intro)
      | (exact hpre.1)
      | (refine And.intro ?_ ?_)
      | (refine (lm_farOf_4 (h := h) hpre hP _ _ _ rfl ?_); (first | omega | trivial))
      | (refine hP _ ?_; (refine ⟨by omega, by omega, ?_⟩; (first | trivial | omega)))
      | omega
      | (intro _))
  · exact hx.elim

def fr_212 : fw_P := [(0, 2, 0, 0, 0), (1, 1, 1, 0, 0), (2, 64, 213, 1, 212), (5, 21, 11, 0, 0), (8, 0, 0, 0, -2), (10, 70, 0, 0, 0), (11, 1, 2, 0, 0), (12, 21, 23, 0, 0), (15, 2, 0, 0, 0), (16, 1, 1, 0, 0), (17, 64, 215, 1, 212), (20, 6, 64, 0, 0), (23, 1, 2, 0, 0), (24, 0, 0, 0, 1), (25, 11, 36, 0, 0), (28, 2, 0, 0, 0), (29, 1, 1, 0, 0), (30, 64, 216, 1, 212), (33, 6, 64, 0, 0), (36, 1, 2, 0, 0), (37, 0, 0, 0, 2), (38, 11, 49, 0, 0), (41, 2, 0, 0, 0), (42, 1, 1, 0, 0), (43, 64, 217, 1, 212), (46, 6, 64, 0, 0), (49, 1, 2, 0, 0), (50, 0, 0, 0, 3), (51, 11, 62, 0, 0), (54, 2, 0, 0, 0), (55, 1, 1, 0, 0), (56, 64, 218, 1, 412), (59, 6, 64, 0, 0), (62, 0, 0, 0, -2), (64, 70, 0, 0, 0)]
theorem fr_212_ok : fw_mk 212 3 12 (some .int) fr_212 = true := by decide +kernel
def ct_house : List (Nat × fw_X) := [(213, x_isHouse), (215, x_hangsAt), (216, x_streetOf), (217, x_peopleOf), (218, x_streetsOf)]
theorem ct_house_ok (d : Nat) : fw_cok fw_T (d + 3) ct_house := by
  intro q hq as W Q h
  simp only [ct_house, List.mem_cons, List.not_mem_nil, or_false] at hq
  rcases hq with rfl | rfl | rfl | rfl | rfl
  · exact jc_of (x_isHouse_ok (d + 1) as W Q h)
  · exact jc_of (x_hangsAt_ok (d + 2) as W Q h)
  · exact jc_of (x_streetOf_ok (d + 2) as W Q h)
  · exact jc_of (x_peopleOf_ok (d + 2) as W Q h)
  · exact jc_of (x_streetsOf_ok (d + 0) as W Q h)
theorem s_house_0 {Post : Option fw_V → fw_W → Prop} {d : Nat} {W : fw_W} {h w : Int}
    (hw_ : (mt W ∧ 0 ≤ (fw_g W 366 0) ∧ (fw_g W 366 0) ≤ 14) ∧ (∀ (r1 : Int), ((0 ≤ r1 ∧ r1 ≤ 1 ∧ ((r1 = 1 ∧ 0 ≤ h ∧ h < (fw_g W 366 0)) ∨ (r1 = 0 ∧ (h < 0 ∨ (fw_g W 366 0) ≤ h))))) → ((¬ r1 = 0 → ((¬ w = 0 → ((¬ w = (1 : Int) → ((¬ w = (2 : Int) → ((¬ w = (3 : Int) → (-2147483648 ≤ (-2 : Int) → (-2 : Int) ≤ 2147483647 → Post (some (.inl (-2 : Int))) W)) ∧ (w = (3 : Int) → (mt W ∧ 0 ≤ (fw_g W 366 0) ∧ (fw_g W 366 0) ≤ 14 ∧ 0 ≤ h ∧ h < 14) ∧ (∀ (r2 : Int), ((-2147483648 ≤ r2 ∧ r2 ≤ 2147483647 ∧ (True))) → (-2147483648 ≤ r2 → r2 ≤ 2147483647 → Post (some (.inl r2)) W))))) ∧ (w = (2 : Int) → (0 ≤ h ∧ h < 14) ∧ ((-2147483648 ≤ (fw_g W 366 (4 + 3 * h)) → (fw_g W 366 (4 + 3 * h)) ≤ 2147483647 → Post (some (.inl (fw_g W 366 (4 + 3 * h)))) W))))) ∧ (w = (1 : Int) → (0 ≤ h ∧ h < 14) ∧ ((-2147483648 ≤ (fw_g W 366 (3 + 3 * h)) → (fw_g W 366 (3 + 3 * h)) ≤ 2147483647 → Post (some (.inl (fw_g W 366 (3 + 3 * h)))) W))))) ∧ (w = 0 → (0 ≤ h ∧ h < 14) ∧ ((-2147483648 ≤ (fw_g W 366 (2 + 3 * h)) → (fw_g W 366 (2 + 3 * h)) ≤ 2147483647 → Post (some (.inl (fw_g W 366 (2 + 3 * h)))) W))))) ∧ (r1 = 0 → (-2147483648 ≤ (-2 : Int) → (-2 : Int) ≤ 2147483647 → Post (some (.inl (-2 : Int))) W))))) :
    jf fw_T (d + 4) 212 0 [(0, .inr (.inl 352)), (1, .inl h), (2, .inl w)] [] W Post := fw_ok (n := 21) (ss := []) (hv := []) fr_212_ok fm_ok (ct_house_ok d) hw_

def x_house : fw_X := fun as W Q => match as with
  | [.inr (.inl s_), .inl h, .inl w] => fw_if (Nat.beq s_ 352) ((mt W ∧ 0 ≤ (fw_g W 366 0) ∧ (fw_g W 366 0) ≤ 14) ∧ (∀ (v : Int), (-2147483648 ≤ v ∧ v ≤ 2147483647 ∧ (True)) → Q (some (.inl v)) W))
  | _ => False
theorem x_house_ok (d : Nat) (as : List fw_V) (W : fw_W) (Q : Option fw_V → fw_W → Prop) (hx : x_house as W Q) : jf fw_T (d + 4) 212 0 (fw_args 0 as) [] W Q := by
  unfold x_house at hx
  split at hx
  · rename_i s_ h w
    obtain ⟨e_, hpre, hQ⟩ := fw_if_ok hx
    have e_ := Nat.eq_of_beq_eq_true e_
    subst e_
    have hP := hQ
    refine s_house_0 ?_
    repeat' (first
      | (exact True.intro)
      | (exact hpre.1)
      | (refine And.intro ?_ ?_)
      | (refine hP _ ?_; (refine ⟨by omega, by omega, ?_⟩; (first | trivial | omega)))
      | omega
      | (intro _))
  · exact hx.elim

def fr_226 : fw_P := [(0, 2, 0, 0, 0), (1, 1, 1, 0, 0), (2, 64, 213, 1, 212), (5, 21, 10, 0, 0), (8, 0, 0, 0, -1), (9, 70, 0, 0, 0), (10, 2, 0, 0, 0), (11, 64, 222, 0, 312), (14, 2, 0, 0, 0), (15, 1, 1, 0, 0), (16, 64, 227, 1, 412), (19, 70, 0, 0, 0)]
theorem fr_226_ok : fw_mk 226 2 12 (some .int) fr_226 = true := by decide +kernel
def ct_far : List (Nat × fw_X) := [(213, x_isHouse), (222, x_layWays), (227, x_farOf)]
theorem ct_far_ok (d : Nat) : fw_cok fw_T (d + 4) ct_far := by
  intro q hq as W Q h
  simp only [ct_far, List.mem_cons, List.not_mem_nil, or_false] at hq
  rcases hq with rfl | rfl | rfl
  · exact jc_of (x_isHouse_ok (d + 2) as W Q h)
  · exact jc_of (x_layWays_ok (d + 0) as W Q h)
  · exact jc_of (x_farOf_ok (d + 2) as W Q h)
theorem s_far_0 {Post : Option fw_V → fw_W → Prop} {d : Nat} {W : fw_W} {h : Int}
    (hw_ : (mt W ∧ 0 ≤ (fw_g W 366 0) ∧ (fw_g W 366 0) ≤ 14) ∧ (∀ (r1 : Int), ((0 ≤ r1 ∧ r1 ≤ 1 ∧ ((r1 = 1 ∧ 0 ≤ h ∧ h < (fw_g W 366 0)) ∨ (r1 = 0 ∧ (h < 0 ∨ (fw_g W 366 0) ≤ h))))) → ((¬ r1 = 0 → (mt W ∧ 0 ≤ (fw_g W 366 0) ∧ (fw_g W 366 0) ≤ 14) ∧ (∀ (f2 : fw_W), ((True)) → (mt (fw_put [367] 352 [] W f2) ∧ 0 ≤ (fw_g W 366 0) ∧ (fw_g W 366 0) ≤ 14 ∧ 0 ≤ h ∧ h < 14) ∧ (∀ (r3 : Int), ((-2147483648 ≤ r3 ∧ r3 ≤ 2147483647 ∧ (True))) → (-2147483648 ≤ r3 → r3 ≤ 2147483647 → Post (some (.inl r3)) (fw_put [367] 352 [] W f2))))) ∧ (r1 = 0 → (-2147483648 ≤ (-1 : Int) → (-1 : Int) ≤ 2147483647 → Post (some (.inl (-1 : Int))) W))))) :
    jf fw_T (d + 5) 226 0 [(0, .inr (.inl 352)), (1, .inl h)] [] W Post := fw_ok (n := 11) (ss := []) (hv := []) fr_226_ok fm_ok (ct_far_ok d) hw_

def x_far : fw_X := fun as W Q => match as with
  | [.inr (.inl s_), .inl h] => fw_if (Nat.beq s_ 352) ((mt W ∧ 0 ≤ (fw_g W 366 0) ∧ (fw_g W 366 0) ≤ 14) ∧ (∀ (v : Int) (f : fw_W), (-2147483648 ≤ v ∧ v ≤ 2147483647 ∧ (True)) → Q (some (.inl v)) (fw_put [367] 352 [] W f)))
  | _ => False
theorem x_far_ok (d : Nat) (as : List fw_V) (W : fw_W) (Q : Option fw_V → fw_W → Prop) (hx : x_far as W Q) : jf fw_T (d + 5) 226 0 (fw_args 0 as) [] W Q := by
  unfold x_far at hx
  split at hx
  · rename_i s_ h
    obtain ⟨e_, hpre, hQ⟩ := fw_if_ok hx
    have e_ := Nat.eq_of_beq_eq_true e_
    subst e_
    have hP : ∀ (v : Int) (W2 : fw_W), fw_sm [367] 352 [] W W2 → _ → Q (some (.inl v)) W2 := fun v W2 hs hr => fw_sm_use (Q := fun Z => Q (some (.inl v)) Z) hs (hQ v W2 hr)
    refine s_far_0 ?_
    repeat' (first
      | (exact True.intro)
      | (exact hpre.1)
      | (refine And.intro ?_ ?_)
      | (refine hP _ _ (by repeat (first | exact fw_sm_refl | exact fw_sm_put0 | refine fw_sm_arr ?_ rfl | refine fw_sm_up ?_ rfl | refine fw_sm_put ?_ rfl | refine fw_sm_cp ?_ rfl)) ?_; (refine ⟨by omega, by omega, ?_⟩; (first | trivial | omega)))
      | omega
      | (intro _))
  · exact hx.elim

def fr_228 : fw_P := [(0, 1, 1, 0, 0), (1, 0, 0, 0, 0), (2, 0, 0, 0, 2), (3, 65, 214, 3, 300), (6, 20, 17, 0, 0), (9, 2, 0, 0, 0), (10, 64, 188, 0, 112), (13, 0, 0, 0, 2), (14, 13, 19, 0, 0), (17, 0, 0, 0, -1), (18, 70, 0, 0, 0), (19, 2, 0, 0, 0), (20, 64, 222, 0, 312), (23, 0, 0, 0, 1), (24, 3, 2, 0, 0), (25, 0, 0, 0, 0), (26, 3, 3, 0, 0), (27, 1, 3, 0, 0), (28, 2, 0, 0, 0), (29, 64, 188, 0, 112), (32, 13, 101, 0, 0), (35, 1, 3, 0, 0), (36, 0, 0, 0, 1), (37, 30, 0, 0, 0), (38, 3, 4, 0, 0), (40, 1, 4, 0, 0), (42, 2, 0, 0, 0), (43, 64, 188, 0, 112), (46, 13, 95, 0, 0), (49, 2, 0, 0, 0), (50, 50, 12, 25, 0), (53, 0, 0, 0, 14), (55, 1, 3, 0, 0), (56, 32, 0, 0, 0), (57, 1, 4, 0, 0), (59, 30, 0, 0, 0), (60, 52, 0, 0, 0), (61, 2, 0, 0, 0), (62, 50, 12, 25, 0), (65, 0, 0, 0, 14), (67, 1, 2, 0, 0), (68, 0, 0, 0, 14), (70, 33, 0, 0, 0), (71, 32, 0, 0, 0), (72, 1, 2, 0, 0), (73, 0, 0, 0, 14), (75, 34, 0, 0, 0), (76, 30, 0, 0, 0), (77, 52, 0, 0, 0), (78, 15, 89, 0, 0), (81, 0, 0, 0, 14), (83, 1, 3, 0, 0), (84, 32, 0, 0, 0), (85, 1, 4, 0, 0), (87, 30, 0, 0, 0), (88, 3, 2, 0, 0), (89, 5, 4, 0, 1), (92, 6, 40, 0, 0), (95, 5, 3, 0, 1), (98, 6, 27, 0, 0), (101, 1, 1, 0, 0), (102, 21, 112, 0, 0), (105, 1, 2, 0, 0), (106, 0, 0, 0, 14), (108, 33, 0, 0, 0), (109, 6, 141, 0, 0), (112, 1, 1, 0, 0), (113, 0, 0, 0, 1), (114, 11, 124, 0, 0), (117, 1, 2, 0, 0), (118, 0, 0, 0, 14), (120, 34, 0, 0, 0), (121, 6, 141, 0, 0), (124, 2, 0, 0, 0), (125, 50, 12, 25, 0), (128, 0, 0, 0, 14), (130, 1, 2, 0, 0), (131, 0, 0, 0, 14), (133, 33, 0, 0, 0), (134, 32, 0, 0, 0), (135, 1, 2, 0, 0), (136, 0, 0, 0, 14), (138, 34, 0, 0, 0), (139, 30, 0, 0, 0), (140, 52, 0, 0, 0), (141, 70, 0, 0, 0)]
theorem fr_228_ok : fw_mk 228 5 12 (some .int) fr_228 = true := by decide +kernel
def ct_farthest : List (Nat × fw_X) := [(214, x_isIn), (188, x_many), (222, x_layWays)]
theorem ct_farthest_ok (d : Nat) : fw_cok fw_T (d + 4) ct_farthest := by
  intro q hq as W Q h
  simp only [ct_farthest, List.mem_cons, List.not_mem_nil, or_false] at hq
  rcases hq with rfl | rfl | rfl
  · exact jc_of (x_isIn_ok (d + 3) as W Q h)
  · exact jc_of (x_many_ok (d + 3) as W Q h)
  · exact jc_of (x_layWays_ok (d + 0) as W Q h)
theorem s_farthest_0 {Post : Option fw_V → fw_W → Prop} {d : Nat} {W : fw_W} {w : Int}
    (hw_ : (True) ∧ (∀ (r1 : Int), ((0 ≤ r1 ∧ r1 ≤ 1 ∧ ((r1 = 1 ∧ (0 : Int) ≤ w ∧ w ≤ (2 : Int)) ∨ (r1 = 0 ∧ (w < (0 : Int) ∨ (2 : Int) < w))))) → ((r1 = 0 → (-2147483648 ≤ (-1 : Int) → (-1 : Int) ≤ 2147483647 → Post (some (.inl (-1 : Int))) W)) ∧ (¬ r1 = 0 → (True) ∧ ((((2 : Int) ≤ (fw_g W 366 0) → (mt W ∧ 0 ≤ (fw_g W 366 0) ∧ (fw_g W 366 0) ≤ 14) ∧ (∀ (f2 : fw_W), ((True)) → jf fw_T (d + 5) 228 27 [(0, .inr (.inl 352)), (1, .inl w), (2, .inl (1 : Int)), (3, .inl (0 : Int))] [] (fw_put [367] 352 [] W f2) Post)) ∧ ((fw_g W 366 0) < (2 : Int) → (-2147483648 ≤ (-1 : Int) → (-1 : Int) ≤ 2147483647 → Post (some (.inl (-1 : Int))) W)))))))) :
    jf fw_T (d + 5) 228 0 [(0, .inr (.inl 352)), (1, .inl w)] [] W Post := fw_ok (n := 16) (ss := [(27, [0, 1, 2, 3]), (40, [0, 1, 2, 3, 4])]) (hv := [108, 120]) fr_228_ok fm_ok (ct_farthest_ok d) hw_

theorem s_farthest_40 {Post : Option fw_V → fw_W → Prop} {d : Nat} {W : fw_W} {w best a b : Int} {f : fw_W}
    (hw_ : (True) ∧ ((((fw_g W 366 0) ≤ b → -2147483648 ≤ a + (1 : Int) ∧ a + (1 : Int) ≤ 2147483647 ∧ (jf fw_T (d + 5) 228 27 [(0, .inr (.inl 352)), (1, .inl w), (2, .inl best), (3, .inl (a + (1 : Int)))] [] (fw_put [367] 352 [] W f) Post)) ∧ (b < (fw_g W 366 0) → -2147483648 ≤ (14 : Int) * a ∧ (14 : Int) * a ≤ 2147483647 ∧ (-2147483648 ≤ ((14 : Int) * a) + b ∧ ((14 : Int) * a) + b ≤ 2147483647 ∧ (0 ≤ (((14 : Int) * a) + b) ∧ (((14 : Int) * a) + b) < 196 ∧ (-2147483648 ≤ (fw_g f 367 (((14 : Int) * a) + b)) → (fw_g f 367 (((14 : Int) * a) + b)) ≤ 2147483647 → 0 ≤ best ∧ 0 < (14 : Int) ∧ (-2147483648 ≤ (14 : Int) * (best / (14 : Int)) ∧ (14 : Int) * (best / (14 : Int)) ≤ 2147483647 ∧ (0 ≤ best ∧ 0 < (14 : Int) ∧ (-2147483648 ≤ ((14 : Int) * (best / (14 : Int))) + (best % (14 : Int)) ∧ ((14 : Int) * (best / (14 : Int))) + (best % (14 : Int)) ≤ 2147483647 ∧ (0 ≤ (((14 : Int) * (best / (14 : Int))) + (best % (14 : Int))) ∧ (((14 : Int) * (best / (14 : Int))) + (best % (14 : Int))) < 196 ∧ (-2147483648 ≤ (fw_g f 367 (((14 : Int) * (best / (14 : Int))) + (best % (14 : Int)))) → (fw_g f 367 (((14 : Int) * (best / (14 : Int))) + (best % (14 : Int)))) ≤ 2147483647 → (((fw_g f 367 (((14 : Int) * a) + b)) ≤ (fw_g f 367 (((14 : Int) * (best / (14 : Int))) + (best % (14 : Int)))) → -2147483648 ≤ b + (1 : Int) ∧ b + (1 : Int) ≤ 2147483647 ∧ (jf fw_T (d + 5) 228 40 [(0, .inr (.inl 352)), (1, .inl w), (2, .inl best), (3, .inl a), (4, .inl (b + (1 : Int)))] [] (fw_put [367] 352 [] W f) Post)) ∧ ((fw_g f 367 (((14 : Int) * (best / (14 : Int))) + (best % (14 : Int)))) < (fw_g f 367 (((14 : Int) * a) + b)) → -2147483648 ≤ (14 : Int) * a ∧ (14 : Int) * a ≤ 2147483647 ∧ (-2147483648 ≤ ((14 : Int) * a) + b ∧ ((14 : Int) * a) + b ≤ 2147483647 ∧ (-2147483648 ≤ b + (1 : Int) ∧ b + (1 : Int) ≤ 2147483647 ∧ (jf fw_T (d + 5) 228 40 [(0, .inr (.inl 352)), (1, .inl w), (2, .inl (((14 : Int) * a) + b)), (3, .inl a), (4, .inl (b + (1 : Int)))] [] (fw_put [367] 352 [] W f) Post))))))))))))))))) :
    jf fw_T (d + 5) 228 40 [(0, .inr (.inl 352)), (1, .inl w), (2, .inl best), (3, .inl a), (4, .inl b)] [] (fw_put [367] 352 [] W f) Post := fw_ok (n := 34) (ss := [(27, [0, 1, 2, 3]), (40, [0, 1, 2, 3, 4])]) (hv := [108, 120]) fr_228_ok fm_ok (ct_farthest_ok d) hw_

theorem s_farthest_27 {Post : Option fw_V → fw_W → Prop} {d : Nat} {W : fw_W} {w best a : Int} {f : fw_W}
    (hw_ : (True) ∧ ((((fw_g W 366 0) ≤ a → ((¬ w = 0 → ((¬ w = (1 : Int) → 0 ≤ best ∧ 0 < (14 : Int) ∧ (-2147483648 ≤ (14 : Int) * (best / (14 : Int)) ∧ (14 : Int) * (best / (14 : Int)) ≤ 2147483647 ∧ (0 ≤ best ∧ 0 < (14 : Int) ∧ (-2147483648 ≤ ((14 : Int) * (best / (14 : Int))) + (best % (14 : Int)) ∧ ((14 : Int) * (best / (14 : Int))) + (best % (14 : Int)) ≤ 2147483647 ∧ (0 ≤ (((14 : Int) * (best / (14 : Int))) + (best % (14 : Int))) ∧ (((14 : Int) * (best / (14 : Int))) + (best % (14 : Int))) < 196 ∧ (-2147483648 ≤ (fw_g f 367 (((14 : Int) * (best / (14 : Int))) + (best % (14 : Int)))) → (fw_g f 367 (((14 : Int) * (best / (14 : Int))) + (best % (14 : Int)))) ≤ 2147483647 → (-2147483648 ≤ (fw_g f 367 (((14 : Int) * (best / (14 : Int))) + (best % (14 : Int)))) → (fw_g f 367 (((14 : Int) * (best / (14 : Int))) + (best % (14 : Int)))) ≤ 2147483647 → Post (some (.inl (fw_g f 367 (((14 : Int) * (best / (14 : Int))) + (best % (14 : Int)))))) (fw_put [367] 352 [] W f)))))))) ∧ (w = (1 : Int) → ¬ (14 : Int) = 0 ∧ (∀ v1 : Int, -2147483648 ≤ v1 → v1 ≤ 2147483647 → (-2147483648 ≤ v1 → v1 ≤ 2147483647 → Post (some (.inl v1)) (fw_put [367] 352 [] W f)))))) ∧ (w = 0 → ¬ (14 : Int) = 0 ∧ (∀ v2 : Int, -2147483648 ≤ v2 → v2 ≤ 2147483647 → (-2147483648 ≤ v2 → v2 ≤ 2147483647 → Post (some (.inl v2)) (fw_put [367] 352 [] W f)))))) ∧ (a < (fw_g W 366 0) → -2147483648 ≤ a + (1 : Int) ∧ a + (1 : Int) ≤ 2147483647 ∧ (jf fw_T (d + 5) 228 40 [(0, .inr (.inl 352)), (1, .inl w), (2, .inl best), (3, .inl a), (4, .inl (a + (1 : Int)))] [] (fw_put [367] 352 [] W f) Post))))) :
    jf fw_T (d + 5) 228 27 [(0, .inr (.inl 352)), (1, .inl w), (2, .inl best), (3, .inl a)] [] (fw_put [367] 352 [] W f) Post := fw_ok (n := 23) (ss := [(27, [0, 1, 2, 3]), (40, [0, 1, 2, 3, 4])]) (hv := [108, 120]) fr_228_ok fm_ok (ct_farthest_ok d) hw_

theorem lm_farthest_40 {Post : Option fw_V → fw_W → Prop} {d : Nat} {W : fw_W} {w : Int} (hpre : mt W ∧ 0 ≤ (fw_g W 366 0) ∧ (fw_g W 366 0) ≤ 14) (hP : ∀ (v : Int) (W2 : fw_W), fw_sm [367] 352 [] W W2 → (-2147483648 ≤ v ∧ v ≤ 2147483647 ∧ (True)) → Post (some (.inl v)) W2) (M27 : Int) (h27 : ∀ (best a : Int) (f : fw_W), 0 ≤ a ∧ 0 ≤ best ∧ best ≤ 195 → ((fw_g W 366 0) - a) < M27 → jf fw_T (d + 5) 228 27 [(0, .inr (.inl 352)), (1, .inl w), (2, .inl best), (3, .inl a)] [] (fw_put [367] 352 [] W f) Post) : ∀ (m : Nat) (best a b : Int) (f : fw_W), ((fw_g W 366 0) - b).toNat = m → 0 ≤ a ∧ a < (fw_g W 366 0) ∧ a < b ∧ 0 ≤ best ∧ best ≤ 195 → ((fw_g W 366 0) - a) ≤ M27 → jf fw_T (d + 5) 228 40 [(0, .inr (.inl 352)), (1, .inl w), (2, .inl best), (3, .inl a), (4, .inl b)] [] (fw_put [367] 352 [] W f) Post := by
  intro m
  induction m using Nat.strongRecOn with
  | ind m ih =>
    intro best a b f hm hi e27
    refine jf_rng (fun hrg => ?_)
    have hrg : -2147483648 ≤ w ∧ w ≤ 2147483647 ∧ -2147483648 ≤ best ∧ best ≤ 2147483647 ∧ -2147483648 ≤ a ∧ a ≤ 2147483647 ∧ -2147483648 ≤ b ∧ b ≤ 2147483647 ∧ True := hrg
    refine s_farthest_40 ?_
    repeat' (first
      | (exact True.intro)
      | (exact hpre.1)
      | (refine And.intro ?_ ?_)
      | (refine jf_put (S := [367]) (o := 352) (F := []) (W := W) (by repeat (first | exact fw_sm_refl | exact fw_sm_put0 | refine fw_sm_arr ?_ rfl | refine fw_sm_up ?_ rfl | refine fw_sm_put ?_ rfl | refine fw_sm_cp ?_ rfl)) (h27 _ _ _ ?_ (by omega)); (first | omega | trivial | (simp (config := { decide := true }) only [fg_in, fg_fin, fg_out, fg_fout, fg_up, fg_same, true_and, and_true] <;> omega)))
      | (refine jf_put (S := [367]) (o := 352) (F := []) (W := W) (by repeat (first | exact fw_sm_refl | exact fw_sm_put0 | refine fw_sm_arr ?_ rfl | refine fw_sm_up ?_ rfl | refine fw_sm_put ?_ rfl | refine fw_sm_cp ?_ rfl)) (ih _ (by omega) _ _ _ _ rfl ?_ (by omega)); (first | omega | trivial | (simp (config := { decide := true }) only [fg_in, fg_fin, fg_out, fg_fout, fg_up, fg_same, true_and, and_true] <;> omega)))
      | (refine hP _ _ (by repeat (first | exact fw_sm_refl | exact fw_sm_put0 | refine fw_sm_arr ?_ rfl | refine fw_sm_up ?_ rfl | refine fw_sm_put ?_ rfl | refine fw_sm_cp ?_ rfl)) ?_; (refine ⟨by omega, by omega, ?_⟩; (first | trivial | omega)))
      | omega
      | (intro _))
theorem lm_farthest_27 {Post : Option fw_V → fw_W → Prop} {d : Nat} {W : fw_W} {w : Int} (hpre : mt W ∧ 0 ≤ (fw_g W 366 0) ∧ (fw_g W 366 0) ≤ 14) (hP : ∀ (v : Int) (W2 : fw_W), fw_sm [367] 352 [] W W2 → (-2147483648 ≤ v ∧ v ≤ 2147483647 ∧ (True)) → Post (some (.inl v)) W2)  : ∀ (m : Nat) (best a : Int) (f : fw_W), ((fw_g W 366 0) - a).toNat = m → 0 ≤ a ∧ 0 ≤ best ∧ best ≤ 195 → jf fw_T (d + 5) 228 27 [(0, .inr (.inl 352)), (1, .inl w), (2, .inl best), (3, .inl a)] [] (fw_put [367] 352 [] W f) Post := by
  intro m
  induction m using Nat.strongRecOn with
  | ind m ih =>
    intro best a f hm hi
    refine jf_rng (fun hrg => ?_)
    have hrg : -2147483648 ≤ w ∧ w ≤ 2147483647 ∧ -2147483648 ≤ best ∧ best ≤ 2147483647 ∧ -2147483648 ≤ a ∧ a ≤ 2147483647 ∧ True := hrg
    refine s_farthest_27 ?_
    repeat' (first
      | (exact True.intro)
      | (exact hpre.1)
      | (refine And.intro ?_ ?_)
      | (refine jf_put (S := [367]) (o := 352) (F := []) (W := W) (by repeat (first | exact fw_sm_refl | exact fw_sm_put0 | refine fw_sm_arr ?_ rfl | refine fw_sm_up ?_ rfl | refine fw_sm_put ?_ rfl | refine fw_sm_cp ?_ rfl)) (ih _ (by omega) _ _ _ rfl ?_); (first | omega | trivial | (simp (config := { decide := true }) only [fg_in, fg_fin, fg_out, fg_fout, fg_up, fg_same, true_and, and_true] <;> omega)))
      | (refine jf_put (S := [367]) (o := 352) (F := []) (W := W) (by repeat (first | exact fw_sm_refl | exact fw_sm_put0 | refine fw_sm_arr ?_ rfl | refine fw_sm_up ?_ rfl | refine fw_sm_put ?_ rfl | refine fw_sm_cp ?_ rfl)) (lm_farthest_40 (w := w) hpre hP ((fw_g W 366 0) - a) (fun a0 a1 af hi hl => ih _ (by omega) a0 a1 af rfl hi) _ _ _ _ _ rfl ?_ (by omega)); (first | omega | trivial | (simp (config := { decide := true }) only [fg_in, fg_fin, fg_out, fg_fout, fg_up, fg_same, true_and, and_true] <;> omega)))
      | (refine hP _ _ (by repeat (first | exact fw_sm_refl | exact fw_sm_put0 | refine fw_sm_arr ?_ rfl | refine fw_sm_up ?_ rfl | refine fw_sm_put ?_ rfl | refine fw_sm_cp ?_ rfl)) ?_; (refine ⟨by omega, by omega, ?_⟩; (first | trivial | omega)))
      | omega
      | (intro _))
def x_farthest : fw_X := fun as W Q => match as with
  | [.inr (.inl s_), .inl w] => fw_if (Nat.beq s_ 352) ((mt W ∧ 0 ≤ (fw_g W 366 0) ∧ (fw_g W 366 0) ≤ 14) ∧ (∀ (v : Int) (f : fw_W), (-2147483648 ≤ v ∧ v ≤ 2147483647 ∧ (True)) → Q (some (.inl v)) (fw_put [367] 352 [] W f)))
  | _ => False
theorem x_farthest_ok (d : Nat) (as : List fw_V) (W : fw_W) (Q : Option fw_V → fw_W → Prop) (hx : x_farthest as W Q) : jf fw_T (d + 5) 228 0 (fw_args 0 as) [] W Q := by
  unfold x_farthest at hx
  split at hx
  · rename_i s_ w
    obtain ⟨e_, hpre, hQ⟩ := fw_if_ok hx
    have e_ := Nat.eq_of_beq_eq_true e_
    subst e_
    have hP : ∀ (v : Int) (W2 : fw_W), fw_sm [367] 352 [] W W2 → _ → Q (some (.inl v)) W2 := fun v W2 hs hr => fw_sm_use (Q := fun Z => Q (some (.inl v)) Z) hs (hQ v W2 hr)
    refine s_farthest_0 ?_
    repeat' (first
      | (exact True.intro)
      | (exact hpre.1)
      | (refine And.intro ?_ ?_)
      | (refine jf_put (S := [367]) (o := 352) (F := []) (W := W) (by repeat (first | exact fw_sm_refl | exact fw_sm_put0 | refine fw_sm_arr ?_ rfl | refine fw_sm_up ?_ rfl | refine fw_sm_put ?_ rfl | refine fw_sm_cp ?_ rfl)) (lm_farthest_27 (w := w) hpre hP _ _ _ _ rfl ?_); (first | omega | trivial | (simp (config := { decide := true }) only [fg_in, fg_fin, fg_out, fg_fout, fg_up, fg_same, true_and, and_true] <;> omega)))
      | (refine jf_put (S := [367]) (o := 352) (F := []) (W := W) (by repeat (first | exact fw_sm_refl | exact fw_sm_put0 | refine fw_sm_arr ?_ rfl | refine fw_sm_up ?_ rfl | refine fw_sm_put ?_ rfl | refine fw_sm_cp ?_ rfl)) (lm_farthest_40 (w := w) hpre hP M27 h27 _ _ _ _ _ rfl ?_ (by omega)); (first | omega | trivial | (simp (config := { decide := true }) only [fg_in, fg_fin, fg_out, fg_fout, fg_up, fg_same, true_and, and_true] <;> omega)))
      | (refine hP _ _ (by repeat (first | exact fw_sm_refl | exact fw_sm_put0 | refine fw_sm_arr ?_ rfl | refine fw_sm_up ?_ rfl | refine fw_sm_put ?_ rfl | refine fw_sm_cp ?_ rfl)) ?_; (refine ⟨by omega, by omega, ?_⟩; (first | trivial | omega)))
      | omega
      | (intro _))
  · exact hx.elim

def fr_232 : fw_P := [(0, 2, 0, 0, 0), (1, 50, 12, 25, 0), (4, 0, 0, 0, 14), (6, 1, 2, 0, 0), (7, 32, 0, 0, 0), (8, 1, 3, 0, 0), (9, 30, 0, 0, 0), (10, 52, 0, 0, 0), (11, 2, 0, 0, 0), (12, 50, 12, 25, 0), (15, 0, 0, 0, 14), (17, 1, 2, 0, 0), (18, 32, 0, 0, 0), (19, 1, 1, 0, 0), (20, 30, 0, 0, 0), (21, 52, 0, 0, 0), (22, 2, 0, 0, 0), (23, 50, 12, 25, 0), (26, 0, 0, 0, 14), (28, 1, 1, 0, 0), (29, 32, 0, 0, 0), (30, 1, 3, 0, 0), (31, 30, 0, 0, 0), (32, 52, 0, 0, 0), (33, 30, 0, 0, 0), (34, 11, 41, 0, 0), (37, 0, 0, 0, 1), (38, 6, 42, 0, 0), (41, 0, 0, 0, 0), (42, 71, 0, 0, 0)]
theorem fr_232_ok : fw_mk 232 4 12 (some .boolean) fr_232 = true := by decide +kernel
theorem s_isBetween_0 {Post : Option fw_V → fw_W → Prop} {d : Nat} {W : fw_W} {c a b : Int}
    (hw_ : -2147483648 ≤ (14 : Int) * a ∧ (14 : Int) * a ≤ 2147483647 ∧ (-2147483648 ≤ ((14 : Int) * a) + b ∧ ((14 : Int) * a) + b ≤ 2147483647 ∧ (0 ≤ (((14 : Int) * a) + b) ∧ (((14 : Int) * a) + b) < 196 ∧ (-2147483648 ≤ (fw_g W 367 (((14 : Int) * a) + b)) → (fw_g W 367 (((14 : Int) * a) + b)) ≤ 2147483647 → -2147483648 ≤ (14 : Int) * a ∧ (14 : Int) * a ≤ 2147483647 ∧ (-2147483648 ≤ ((14 : Int) * a) + c ∧ ((14 : Int) * a) + c ≤ 2147483647 ∧ (0 ≤ (((14 : Int) * a) + c) ∧ (((14 : Int) * a) + c) < 196 ∧ (-2147483648 ≤ (fw_g W 367 (((14 : Int) * a) + c)) → (fw_g W 367 (((14 : Int) * a) + c)) ≤ 2147483647 → -2147483648 ≤ (14 : Int) * c ∧ (14 : Int) * c ≤ 2147483647 ∧ (-2147483648 ≤ ((14 : Int) * c) + b ∧ ((14 : Int) * c) + b ≤ 2147483647 ∧ (0 ≤ (((14 : Int) * c) + b) ∧ (((14 : Int) * c) + b) < 196 ∧ (-2147483648 ≤ (fw_g W 367 (((14 : Int) * c) + b)) → (fw_g W 367 (((14 : Int) * c) + b)) ≤ 2147483647 → ∀ v1 : Int, -2147483648 ≤ v1 → v1 ≤ 2147483647 → ((¬ (fw_g W 367 (((14 : Int) * a) + b)) = v1 → 0 ≤ (0 : Int) ∧ (0 : Int) ≤ 1 ∧ Post (some (.inl (0 : Int))) W) ∧ ((fw_g W 367 (((14 : Int) * a) + b)) = v1 → 0 ≤ (1 : Int) ∧ (1 : Int) ≤ 1 ∧ Post (some (.inl (1 : Int))) W)))))))))))) :
    jf fw_T (d + 1) 232 0 [(0, .inr (.inl 352)), (1, .inl c), (2, .inl a), (3, .inl b)] [] W Post := fw_ok (n := 30) (ss := []) (hv := [33]) fr_232_ok fm_ok (fw_c0 _ _) hw_

def x_isBetween : fw_X := fun as W Q => match as with
  | [.inr (.inl s_), .inl c, .inl a, .inl b] => fw_if (Nat.beq s_ 352) ((0 ≤ c ∧ c < 14 ∧ 0 ≤ a ∧ a < 14 ∧ 0 ≤ b ∧ b < 14) ∧ (∀ (v : Int), (0 ≤ v ∧ v ≤ 1 ∧ (True)) → Q (some (.inl v)) W))
  | _ => False
theorem x_isBetween_ok (d : Nat) (as : List fw_V) (W : fw_W) (Q : Option fw_V → fw_W → Prop) (hx : x_isBetween as W Q) : jf fw_T (d + 1) 232 0 (fw_args 0 as) [] W Q := by
  unfold x_isBetween at hx
  split at hx
  · rename_i s_ c a b
    obtain ⟨e_, hpre, hQ⟩ := fw_if_ok hx
    have e_ := Nat.eq_of_beq_eq_true e_
    subst e_
    have hP := hQ
    refine s_isBetween_0 ?_
    repeat' (first
      | (exact True.intro)
      | (exact hpre.1)
      | (refine And.intro ?_ ?_)
      | (refine hP _ ?_; (refine ⟨by omega, by omega, ?_⟩; (first | trivial | omega)))
      | omega
      | (intro _))
  · exact hx.elim

def fr_231 : fw_P := [(0, 0, 0, 0, 0), (1, 3, 3, 0, 0), (2, 0, 0, 0, 0), (3, 3, 4, 0, 0), (5, 1, 4, 0, 0), (7, 2, 0, 0, 0), (8, 64, 188, 0, 112), (11, 13, 52, 0, 0), (14, 1, 4, 0, 0), (16, 1, 2, 0, 0), (17, 10, 46, 0, 0), (20, 1, 4, 0, 0), (22, 1, 1, 0, 0), (23, 10, 37, 0, 0), (26, 2, 0, 0, 0), (27, 1, 2, 0, 0), (28, 1, 1, 0, 0), (29, 1, 4, 0, 0), (31, 64, 232, 3, 412), (34, 21, 46, 0, 0), (37, 1, 3, 0, 0), (38, 2, 0, 0, 0), (39, 1, 4, 0, 0), (41, 64, 217, 1, 212), (44, 30, 0, 0, 0), (45, 3, 3, 0, 0), (46, 5, 4, 0, 1), (49, 6, 5, 0, 0), (52, 1, 3, 0, 0), (53, 70, 0, 0, 0)]
theorem fr_231_ok : fw_mk 231 5 12 (some .int) fr_231 = true := by decide +kernel
def ct_peopleBehind : List (Nat × fw_X) := [(232, x_isBetween), (188, x_many), (217, x_peopleOf)]
theorem ct_peopleBehind_ok (d : Nat) : fw_cok fw_T (d + 1) ct_peopleBehind := by
  intro q hq as W Q h
  simp only [ct_peopleBehind, List.mem_cons, List.not_mem_nil, or_false] at hq
  rcases hq with rfl | rfl | rfl
  · exact jc_of (x_isBetween_ok (d + 0) as W Q h)
  · exact jc_of (x_many_ok (d + 0) as W Q h)
  · exact jc_of (x_peopleOf_ok (d + 0) as W Q h)
theorem s_peopleBehind_0 {Post : Option fw_V → fw_W → Prop} {d : Nat} {W : fw_W} {h away : Int}
    (hw_ : jf fw_T (d + 2) 231 5 [(0, .inr (.inl 352)), (1, .inl h), (2, .inl away), (3, .inl (0 : Int)), (4, .inl (0 : Int))] [] W Post) :
    jf fw_T (d + 2) 231 0 [(0, .inr (.inl 352)), (1, .inl h), (2, .inl away)] [] W Post := fw_ok (n := 5) (ss := [(5, [0, 1, 2, 3, 4])]) (hv := [44]) fr_231_ok fm_ok (ct_peopleBehind_ok d) hw_

theorem s_peopleBehind_5 {Post : Option fw_V → fw_W → Prop} {d : Nat} {W : fw_W} {h away sum k : Int}
    (hw_ : (True) ∧ ((((fw_g W 366 0) ≤ k → (-2147483648 ≤ sum → sum ≤ 2147483647 → Post (some (.inl sum)) W)) ∧ (k < (fw_g W 366 0) → ((k = away → -2147483648 ≤ k + (1 : Int) ∧ k + (1 : Int) ≤ 2147483647 ∧ (jf fw_T (d + 2) 231 5 [(0, .inr (.inl 352)), (1, .inl h), (2, .inl away), (3, .inl sum), (4, .inl (k + (1 : Int)))] [] W Post)) ∧ (¬ k = away → ((k = h → (0 ≤ k ∧ k < 14) ∧ (∀ v1 : Int, -2147483648 ≤ v1 → v1 ≤ 2147483647 → -2147483648 ≤ k + (1 : Int) ∧ k + (1 : Int) ≤ 2147483647 ∧ (jf fw_T (d + 2) 231 5 [(0, .inr (.inl 352)), (1, .inl h), (2, .inl away), (3, .inl v1), (4, .inl (k + (1 : Int)))] [] W Post))) ∧ (¬ k = h → (0 ≤ away ∧ away < 14 ∧ 0 ≤ h ∧ h < 14 ∧ 0 ≤ k ∧ k < 14) ∧ (∀ (r2 : Int), ((0 ≤ r2 ∧ r2 ≤ 1 ∧ (True))) → ((¬ r2 = 0 → -2147483648 ≤ k + (1 : Int) ∧ k + (1 : Int) ≤ 2147483647 ∧ (jf fw_T (d + 2) 231 5 [(0, .inr (.inl 352)), (1, .inl h), (2, .inl away), (3, .inl sum), (4, .inl (k + (1 : Int)))] [] W Post)) ∧ (r2 = 0 → (0 ≤ k ∧ k < 14) ∧ (∀ v3 : Int, -2147483648 ≤ v3 → v3 ≤ 2147483647 → -2147483648 ≤ k + (1 : Int) ∧ k + (1 : Int) ≤ 2147483647 ∧ (jf fw_T (d + 2) 231 5 [(0, .inr (.inl 352)), (1, .inl h), (2, .inl away), (3, .inl v3), (4, .inl (k + (1 : Int)))] [] W Post))))))))))))) :
    jf fw_T (d + 2) 231 5 [(0, .inr (.inl 352)), (1, .inl h), (2, .inl away), (3, .inl sum), (4, .inl k)] [] W Post := fw_ok (n := 25) (ss := [(5, [0, 1, 2, 3, 4])]) (hv := [44]) fr_231_ok fm_ok (ct_peopleBehind_ok d) hw_

theorem lm_peopleBehind_5 {Post : Option fw_V → fw_W → Prop} {d : Nat} {W : fw_W} {h away : Int} (hpre : mt W ∧ 0 ≤ (fw_g W 366 0) ∧ (fw_g W 366 0) ≤ 14 ∧ 0 ≤ h ∧ h < 14 ∧ 0 ≤ away ∧ away < 14) (hP : ∀ (v : Int) , (-2147483648 ≤ v ∧ v ≤ 2147483647 ∧ (True)) → Post (some (.inl v)) W)  : ∀ (m : Nat) (sum k : Int), ((fw_g W 366 0) - k).toNat = m → 0 ≤ k → jf fw_T (d + 2) 231 5 [(0, .inr (.inl 352)), (1, .inl h), (2, .inl away), (3, .inl sum), (4, .inl k)] [] W Post := by
  intro m
  induction m using Nat.strongRecOn with
  | ind m ih =>
    intro sum k hm hi
    refine jf_rng (fun hrg => ?_)
    have hrg : -2147483648 ≤ h ∧ h ≤ 2147483647 ∧ -2147483648 ≤ away ∧ away ≤ 2147483647 ∧ -2147483648 ≤ sum ∧ sum ≤ 2147483647 ∧ -2147483648 ≤ k ∧ k ≤ 2147483647 ∧ True := hrg
    refine s_peopleBehind_5 ?_
    repeat' (first
      | (exact True.intro)
      | (exact hpre.1)
      | (refine And.intro ?_ ?_)
      | (refine (ih _ (by omega) _ _ rfl ?_); (first | omega | trivial))
      | (refine hP _ ?_; (refine ⟨by omega, by omega, ?_⟩; (first | trivial | omega)))
      | omega
      | (intro _))
def x_peopleBehind : fw_X := fun as W Q => match as with
  | [.inr (.inl s_), .inl h, .inl away] => fw_if (Nat.beq s_ 352) ((mt W ∧ 0 ≤ (fw_g W 366 0) ∧ (fw_g W 366 0) ≤ 14 ∧ 0 ≤ h ∧ h < 14 ∧ 0 ≤ away ∧ away < 14) ∧ (∀ (v : Int), (-2147483648 ≤ v ∧ v ≤ 2147483647 ∧ (True)) → Q (some (.inl v)) W))
  | _ => False
theorem x_peopleBehind_ok (d : Nat) (as : List fw_V) (W : fw_W) (Q : Option fw_V → fw_W → Prop) (hx : x_peopleBehind as W Q) : jf fw_T (d + 2) 231 0 (fw_args 0 as) [] W Q := by
  unfold x_peopleBehind at hx
  split at hx
  · rename_i s_ h away
    obtain ⟨e_, hpre, hQ⟩ := fw_if_ok hx
    have e_ := Nat.eq_of_beq_eq_true e_
    subst e_
    have hP := hQ
    refine s_peopleBehind_0 ?_
    repeat' (first
      | (exact True.intro)
      | (exact hpre.1)
      | (refine And.intro ?_ ?_)
      | (refine (lm_peopleBehind_5 (h := h) (away := away) hpre hP _ _ _ rfl ?_); (first | omega | trivial))
      | (refine hP _ ?_; (refine ⟨by omega, by omega, ?_⟩; (first | trivial | omega)))
      | omega
      | (intro _))
  · exact hx.elim

def fr_230 : fw_P := [(0, 1, 2, 0, 0), (1, 21, 10, 0, 0), (4, 2, 0, 0, 0), (5, 1, 1, 0, 0), (6, 64, 227, 1, 412), (9, 70, 0, 0, 0), (10, 0, 0, 0, 0), (11, 3, 3, 0, 0), (12, 0, 0, 0, 0), (13, 3, 4, 0, 0), (15, 1, 4, 0, 0), (17, 2, 0, 0, 0), (18, 64, 188, 0, 112), (21, 13, 97, 0, 0), (24, 1, 2, 0, 0), (25, 0, 0, 0, 1), (26, 11, 51, 0, 0), (29, 1, 3, 0, 0), (30, 2, 0, 0, 0), (31, 50, 12, 25, 0), (34, 0, 0, 0, 14), (36, 1, 1, 0, 0), (37, 32, 0, 0, 0), (38, 1, 4, 0, 0), (40, 30, 0, 0, 0), (41, 52, 0, 0, 0), (42, 2, 0, 0, 0), (43, 1, 4, 0, 0), (45, 64, 217, 1, 212), (48, 32, 0, 0, 0), (49, 30, 0, 0, 0), (50, 3, 3, 0, 0), (51, 1, 2, 0, 0), (52, 0, 0, 0, 2), (53, 11, 91, 0, 0), (56, 1, 4, 0, 0), (58, 1, 1, 0, 0), (59, 10, 91, 0, 0), (62, 2, 0, 0, 0), (63, 1, 1, 0, 0), (64, 1, 4, 0, 0), (66, 64, 219, 2, 312), (69, 20, 91, 0, 0), (72, 2, 0, 0, 0), (73, 1, 4, 0, 0), (75, 1, 1, 0, 0), (76, 64, 231, 2, 512), (79, 1, 3, 0, 0), (80, 15, 91, 0, 0), (83, 2, 0, 0, 0), (84, 1, 4, 0, 0), (86, 1, 1, 0, 0), (87, 64, 231, 2, 512), (90, 3, 3, 0, 0), (91, 5, 4, 0, 1), (94, 6, 15, 0, 0), (97, 1, 3, 0, 0), (98, 70, 0, 0, 0)]
theorem fr_230_ok : fw_mk 230 5 12 (some .int) fr_230 = true := by decide +kernel
def ct_worthOf : List (Nat × fw_X) := [(219, x_areNext), (227, x_farOf), (188, x_many), (231, x_peopleBehind), (217, x_peopleOf)]
theorem ct_worthOf_ok (d : Nat) : fw_cok fw_T (d + 2) ct_worthOf := by
  intro q hq as W Q h
  simp only [ct_worthOf, List.mem_cons, List.not_mem_nil, or_false] at hq
  rcases hq with rfl | rfl | rfl | rfl | rfl
  · exact jc_of (x_areNext_ok (d + 0) as W Q h)
  · exact jc_of (x_farOf_ok (d + 0) as W Q h)
  · exact jc_of (x_many_ok (d + 1) as W Q h)
  · exact jc_of (x_peopleBehind_ok (d + 0) as W Q h)
  · exact jc_of (x_peopleOf_ok (d + 1) as W Q h)
theorem s_worthOf_0 {Post : Option fw_V → fw_W → Prop} {d : Nat} {W : fw_W} {h sort : Int}
    (hw_ : ((¬ sort = 0 → jf fw_T (d + 3) 230 15 [(0, .inr (.inl 352)), (1, .inl h), (2, .inl sort), (3, .inl (0 : Int)), (4, .inl (0 : Int))] [] W Post) ∧ (sort = 0 → (mt W ∧ 0 ≤ (fw_g W 366 0) ∧ (fw_g W 366 0) ≤ 14 ∧ 0 ≤ h ∧ h < 14) ∧ (∀ (r1 : Int), ((-2147483648 ≤ r1 ∧ r1 ≤ 2147483647 ∧ (True))) → (-2147483648 ≤ r1 → r1 ≤ 2147483647 → Post (some (.inl r1)) W))))) :
    jf fw_T (d + 3) 230 0 [(0, .inr (.inl 352)), (1, .inl h), (2, .inl sort)] [] W Post := fw_ok (n := 7) (ss := [(15, [0, 1, 2, 3, 4])]) (hv := [48, 49]) fr_230_ok fm_ok (ct_worthOf_ok d) hw_

theorem s_worthOf_15 {Post : Option fw_V → fw_W → Prop} {d : Nat} {W : fw_W} {h sort its k : Int}
    (hw_ : (True) ∧ ((((fw_g W 366 0) ≤ k → (-2147483648 ≤ its → its ≤ 2147483647 → Post (some (.inl its)) W)) ∧ (k < (fw_g W 366 0) → ((¬ sort = (1 : Int) → ((¬ sort = (2 : Int) → -2147483648 ≤ k + (1 : Int) ∧ k + (1 : Int) ≤ 2147483647 ∧ (jf fw_T (d + 3) 230 15 [(0, .inr (.inl 352)), (1, .inl h), (2, .inl sort), (3, .inl its), (4, .inl (k + (1 : Int)))] [] W Post)) ∧ (sort = (2 : Int) → ((k = h → -2147483648 ≤ k + (1 : Int) ∧ k + (1 : Int) ≤ 2147483647 ∧ (jf fw_T (d + 3) 230 15 [(0, .inr (.inl 352)), (1, .inl h), (2, .inl sort), (3, .inl its), (4, .inl (k + (1 : Int)))] [] W Post)) ∧ (¬ k = h → (0 ≤ h ∧ h < 14 ∧ 0 ≤ k ∧ k < 14) ∧ (∀ (r1 : Int), ((0 ≤ r1 ∧ r1 ≤ 1 ∧ ((r1 = 1 ∧ ((fw_g W 366 (2 + 3 * h)) = k ∨ (fw_g W 366 (2 + 3 * k)) = h)) ∨ (r1 = 0 ∧ ¬ (fw_g W 366 (2 + 3 * h)) = k ∧ ¬ (fw_g W 366 (2 + 3 * k)) = h)))) → ((r1 = 0 → -2147483648 ≤ k + (1 : Int) ∧ k + (1 : Int) ≤ 2147483647 ∧ (jf fw_T (d + 3) 230 15 [(0, .inr (.inl 352)), (1, .inl h), (2, .inl sort), (3, .inl its), (4, .inl (k + (1 : Int)))] [] W Post)) ∧ (¬ r1 = 0 → (mt W ∧ 0 ≤ (fw_g W 366 0) ∧ (fw_g W 366 0) ≤ 14 ∧ 0 ≤ k ∧ k < 14 ∧ 0 ≤ h ∧ h < 14) ∧ (∀ (r2 : Int), ((-2147483648 ≤ r2 ∧ r2 ≤ 2147483647 ∧ (True))) → ((r2 ≤ its → -2147483648 ≤ k + (1 : Int) ∧ k + (1 : Int) ≤ 2147483647 ∧ (jf fw_T (d + 3) 230 15 [(0, .inr (.inl 352)), (1, .inl h), (2, .inl sort), (3, .inl its), (4, .inl (k + (1 : Int)))] [] W Post)) ∧ (its < r2 → (mt W ∧ 0 ≤ (fw_g W 366 0) ∧ (fw_g W 366 0) ≤ 14 ∧ 0 ≤ k ∧ k < 14 ∧ 0 ≤ h ∧ h < 14) ∧ (∀ (r3 : Int), ((-2147483648 ≤ r3 ∧ r3 ≤ 2147483647 ∧ (True))) → -2147483648 ≤ k + (1 : Int) ∧ k + (1 : Int) ≤ 2147483647 ∧ (jf fw_T (d + 3) 230 15 [(0, .inr (.inl 352)), (1, .inl h), (2, .inl sort), (3, .inl r3), (4, .inl (k + (1 : Int)))] [] W Post))))))))))))) ∧ (sort = (1 : Int) → -2147483648 ≤ (14 : Int) * h ∧ (14 : Int) * h ≤ 2147483647 ∧ (-2147483648 ≤ ((14 : Int) * h) + k ∧ ((14 : Int) * h) + k ≤ 2147483647 ∧ (0 ≤ (((14 : Int) * h) + k) ∧ (((14 : Int) * h) + k) < 196 ∧ (-2147483648 ≤ (fw_g W 367 (((14 : Int) * h) + k)) → (fw_g W 367 (((14 : Int) * h) + k)) ≤ 2147483647 → (0 ≤ k ∧ k < 14) ∧ (∀ v4 : Int, -2147483648 ≤ v4 → v4 ≤ 2147483647 → ∀ v5 : Int, -2147483648 ≤ v5 → v5 ≤ 2147483647 → ((¬ sort = (2 : Int) → -2147483648 ≤ k + (1 : Int) ∧ k + (1 : Int) ≤ 2147483647 ∧ (jf fw_T (d + 3) 230 15 [(0, .inr (.inl 352)), (1, .inl h), (2, .inl sort), (3, .inl v5), (4, .inl (k + (1 : Int)))] [] W Post)) ∧ (sort = (2 : Int) → ((k = h → -2147483648 ≤ k + (1 : Int) ∧ k + (1 : Int) ≤ 2147483647 ∧ (jf fw_T (d + 3) 230 15 [(0, .inr (.inl 352)), (1, .inl h), (2, .inl sort), (3, .inl v5), (4, .inl (k + (1 : Int)))] [] W Post)) ∧ (¬ k = h → (0 ≤ h ∧ h < 14 ∧ 0 ≤ k ∧ k < 14) ∧ (∀ (r6 : Int), ((0 ≤ r6 ∧ r6 ≤ 1 ∧ ((r6 = 1 ∧ ((fw_g W 366 (2 + 3 * h)) = k ∨ (fw_g W 366 (2 + 3 * k)) = h)) ∨ (r6 = 0 ∧ ¬ (fw_g W 366 (2 + 3 * h)) = k ∧ ¬ (fw_g W 366 (2 + 3 * k)) = h)))) → ((r6 = 0 → -2147483648 ≤ k + (1 : Int) ∧ k + (1 : Int) ≤ 2147483647 ∧ (jf fw_T (d + 3) 230 15 [(0, .inr (.inl 352)), (1, .inl h), (2, .inl sort), (3, .inl v5), (4, .inl (k + (1 : Int)))] [] W Post)) ∧ (¬ r6 = 0 → (mt W ∧ 0 ≤ (fw_g W 366 0) ∧ (fw_g W 366 0) ≤ 14 ∧ 0 ≤ k ∧ k < 14 ∧ 0 ≤ h ∧ h < 14) ∧ (∀ (r7 : Int), ((-2147483648 ≤ r7 ∧ r7 ≤ 2147483647 ∧ (True))) → ((r7 ≤ v5 → -2147483648 ≤ k + (1 : Int) ∧ k + (1 : Int) ≤ 2147483647 ∧ (jf fw_T (d + 3) 230 15 [(0, .inr (.inl 352)), (1, .inl h), (2, .inl sort), (3, .inl v5), (4, .inl (k + (1 : Int)))] [] W Post)) ∧ (v5 < r7 → (mt W ∧ 0 ≤ (fw_g W 366 0) ∧ (fw_g W 366 0) ≤ 14 ∧ 0 ≤ k ∧ k < 14 ∧ 0 ≤ h ∧ h < 14) ∧ (∀ (r8 : Int), ((-2147483648 ≤ r8 ∧ r8 ≤ 2147483647 ∧ (True))) → -2147483648 ≤ k + (1 : Int) ∧ k + (1 : Int) ≤ 2147483647 ∧ (jf fw_T (d + 3) 230 15 [(0, .inr (.inl 352)), (1, .inl h), (2, .inl sort), (3, .inl r8), (4, .inl (k + (1 : Int)))] [] W Post)))))))))))))))))))))) :
    jf fw_T (d + 3) 230 15 [(0, .inr (.inl 352)), (1, .inl h), (2, .inl sort), (3, .inl its), (4, .inl k)] [] W Post := fw_ok (n := 47) (ss := [(15, [0, 1, 2, 3, 4])]) (hv := [48, 49]) fr_230_ok fm_ok (ct_worthOf_ok d) hw_

theorem lm_worthOf_15 {Post : Option fw_V → fw_W → Prop} {d : Nat} {W : fw_W} {h sort : Int} (hpre : mt W ∧ 0 ≤ (fw_g W 366 0) ∧ (fw_g W 366 0) ≤ 14 ∧ 0 ≤ h ∧ h < 14) (hP : ∀ (v : Int) , (-2147483648 ≤ v ∧ v ≤ 2147483647 ∧ (True)) → Post (some (.inl v)) W)  : ∀ (m : Nat) (its k : Int), ((fw_g W 366 0) - k).toNat = m → 0 ≤ k → jf fw_T (d + 3) 230 15 [(0, .inr (.inl 352)), (1, .inl h), (2, .inl sort), (3, .inl its), (4, .inl k)] [] W Post := by
  intro m
  induction m using Nat.strongRecOn with
  | ind m ih =>
    intro its k hm hi
    refine jf_rng (fun hrg => ?_)
    have hrg : -2147483648 ≤ h ∧ h ≤ 2147483647 ∧ -2147483648 ≤ sort ∧ sort ≤ 2147483647 ∧ -2147483648 ≤ its ∧ its ≤ 2147483647 ∧ -2147483648 ≤ k ∧ k ≤ 2147483647 ∧ True := hrg
    refine s_worthOf_15 ?_
    repeat' (first
      | (exact True.intro)
      | (exact hpre.1)
      | (refine And.intro ?_ ?_)
      | (refine (ih _ (by omega) _ _ rfl ?_); (first | omega | trivial))
      | (refine hP _ ?_; (refine ⟨by omega, by omega, ?_⟩; (first | trivial | omega)))
      | omega
      | (intro _))
def x_worthOf : fw_X := fun as W Q => match as with
  | [.inr (.inl s_), .inl h, .inl sort] => fw_if (Nat.beq s_ 352) ((mt W ∧ 0 ≤ (fw_g W 366 0) ∧ (fw_g W 366 0) ≤ 14 ∧ 0 ≤ h ∧ h < 14) ∧ (∀ (v : Int), (-2147483648 ≤ v ∧ v ≤ 2147483647 ∧ (True)) → Q (some (.inl v)) W))
  | _ => False
theorem x_worthOf_ok (d : Nat) (as : List fw_V) (W : fw_W) (Q : Option fw_V → fw_W → Prop) (hx : x_worthOf as W Q) : jf fw_T (d + 3) 230 0 (fw_args 0 as) [] W Q := by
  unfold x_worthOf at hx
  split at hx
  · rename_i s_ h sort
    obtain ⟨e_, hpre, hQ⟩ := fw_if_ok hx
    have e_ := Nat.eq_of_beq_eq_true e_
    subst e_
    have hP := hQ
    refine s_worthOf_0 ?_
    repeat' (first
      | (exact True.intro)
      | (exact hpre.1)
      | (refine And.intro ?_ ?_)
      | (refine (lm_worthOf_15 (h := h) (sort := sort) hpre hP _ _ _ rfl ?_); (first | omega | trivial))
      | (refine hP _ ?_; (refine ⟨by omega, by omega, ?_⟩; (first | trivial | omega)))
      | omega
      | (intro _))
  · exact hx.elim

def fr_229 : fw_P := [(0, 1, 1, 0, 0), (1, 0, 0, 0, 0), (2, 0, 0, 0, 2), (3, 65, 214, 3, 300), (6, 20, 16, 0, 0), (9, 2, 0, 0, 0), (10, 64, 188, 0, 112), (13, 21, 18, 0, 0), (16, 0, 0, 0, -1), (17, 70, 0, 0, 0), (18, 2, 0, 0, 0), (19, 64, 222, 0, 312), (22, 0, 0, 0, 0), (23, 3, 2, 0, 0), (24, 0, 0, 0, 1), (25, 3, 3, 0, 0), (26, 1, 3, 0, 0), (27, 2, 0, 0, 0), (28, 64, 188, 0, 112), (31, 13, 57, 0, 0), (34, 2, 0, 0, 0), (35, 1, 3, 0, 0), (36, 1, 1, 0, 0), (37, 64, 230, 2, 512), (40, 2, 0, 0, 0), (41, 1, 2, 0, 0), (42, 1, 1, 0, 0), (43, 64, 230, 2, 512), (46, 13, 51, 0, 0), (49, 1, 3, 0, 0), (50, 3, 2, 0, 0), (51, 5, 3, 0, 1), (54, 6, 26, 0, 0), (57, 1, 2, 0, 0), (58, 70, 0, 0, 0)]
theorem fr_229_ok : fw_mk 229 4 12 (some .int) fr_229 = true := by decide +kernel
def ct_middle : List (Nat × fw_X) := [(214, x_isIn), (222, x_layWays), (188, x_many), (230, x_worthOf)]
theorem ct_middle_ok (d : Nat) : fw_cok fw_T (d + 4) ct_middle := by
  intro q hq as W Q h
  simp only [ct_middle, List.mem_cons, List.not_mem_nil, or_false] at hq
  rcases hq with rfl | rfl | rfl | rfl
  · exact jc_of (x_isIn_ok (d + 3) as W Q h)
  · exact jc_of (x_layWays_ok (d + 0) as W Q h)
  · exact jc_of (x_many_ok (d + 3) as W Q h)
  · exact jc_of (x_worthOf_ok (d + 1) as W Q h)
theorem s_middle_0 {Post : Option fw_V → fw_W → Prop} {d : Nat} {W : fw_W} {sort : Int}
    (hw_ : (True) ∧ (∀ (r1 : Int), ((0 ≤ r1 ∧ r1 ≤ 1 ∧ ((r1 = 1 ∧ (0 : Int) ≤ sort ∧ sort ≤ (2 : Int)) ∨ (r1 = 0 ∧ (sort < (0 : Int) ∨ (2 : Int) < sort))))) → ((r1 = 0 → (-2147483648 ≤ (-1 : Int) → (-1 : Int) ≤ 2147483647 → Post (some (.inl (-1 : Int))) W)) ∧ (¬ r1 = 0 → (True) ∧ (((¬ (fw_g W 366 0) = 0 → (mt W ∧ 0 ≤ (fw_g W 366 0) ∧ (fw_g W 366 0) ≤ 14) ∧ (∀ (f2 : fw_W), ((True)) → jf fw_T (d + 5) 229 26 [(0, .inr (.inl 352)), (1, .inl sort), (2, .inl (0 : Int)), (3, .inl (1 : Int))] [] (fw_put [367] 352 [] W f2) Post)) ∧ ((fw_g W 366 0) = 0 → (-2147483648 ≤ (-1 : Int) → (-1 : Int) ≤ 2147483647 → Post (some (.inl (-1 : Int))) W)))))))) :
    jf fw_T (d + 5) 229 0 [(0, .inr (.inl 352)), (1, .inl sort)] [] W Post := fw_ok (n := 15) (ss := [(26, [0, 1, 2, 3])]) (hv := []) fr_229_ok fm_ok (ct_middle_ok d) hw_

theorem s_middle_26 {Post : Option fw_V → fw_W → Prop} {d : Nat} {W : fw_W} {sort best h : Int} {f : fw_W}
    (hw_ : (True) ∧ ((((fw_g W 366 0) ≤ h → (-2147483648 ≤ best → best ≤ 2147483647 → Post (some (.inl best)) (fw_put [367] 352 [] W f))) ∧ (h < (fw_g W 366 0) → (mt (fw_put [367] 352 [] W f) ∧ 0 ≤ (fw_g W 366 0) ∧ (fw_g W 366 0) ≤ 14 ∧ 0 ≤ h ∧ h < 14) ∧ (∀ (r1 : Int), ((-2147483648 ≤ r1 ∧ r1 ≤ 2147483647 ∧ (True))) → (mt (fw_put [367] 352 [] W f) ∧ 0 ≤ (fw_g W 366 0) ∧ (fw_g W 366 0) ≤ 14 ∧ 0 ≤ best ∧ best < 14) ∧ (∀ (r2 : Int), ((-2147483648 ≤ r2 ∧ r2 ≤ 2147483647 ∧ (True))) → ((r2 ≤ r1 → -2147483648 ≤ h + (1 : Int) ∧ h + (1 : Int) ≤ 2147483647 ∧ (jf fw_T (d + 5) 229 26 [(0, .inr (.inl 352)), (1, .inl sort), (2, .inl best), (3, .inl (h + (1 : Int)))] [] (fw_put [367] 352 [] W f) Post)) ∧ (r1 < r2 → -2147483648 ≤ h + (1 : Int) ∧ h + (1 : Int) ≤ 2147483647 ∧ (jf fw_T (d + 5) 229 26 [(0, .inr (.inl 352)), (1, .inl sort), (2, .inl h), (3, .inl (h + (1 : Int)))] [] (fw_put [367] 352 [] W f) Post))))))))) :
    jf fw_T (d + 5) 229 26 [(0, .inr (.inl 352)), (1, .inl sort), (2, .inl best), (3, .inl h)] [] (fw_put [367] 352 [] W f) Post := fw_ok (n := 18) (ss := [(26, [0, 1, 2, 3])]) (hv := []) fr_229_ok fm_ok (ct_middle_ok d) hw_

theorem lm_middle_26 {Post : Option fw_V → fw_W → Prop} {d : Nat} {W : fw_W} {sort : Int} (hpre : mt W ∧ 0 ≤ (fw_g W 366 0) ∧ (fw_g W 366 0) ≤ 14) (hP : ∀ (v : Int) (W2 : fw_W), fw_sm [367] 352 [] W W2 → (-2147483648 ≤ v ∧ v ≤ 2147483647 ∧ (True)) → Post (some (.inl v)) W2)  : ∀ (m : Nat) (best h : Int) (f : fw_W), ((fw_g W 366 0) - h).toNat = m → 1 ≤ h ∧ 0 ≤ best ∧ best < 14 → jf fw_T (d + 5) 229 26 [(0, .inr (.inl 352)), (1, .inl sort), (2, .inl best), (3, .inl h)] [] (fw_put [367] 352 [] W f) Post := by
  intro m
  induction m using Nat.strongRecOn with
  | ind m ih =>
    intro best h f hm hi
    refine jf_rng (fun hrg => ?_)
    have hrg : -2147483648 ≤ sort ∧ sort ≤ 2147483647 ∧ -2147483648 ≤ best ∧ best ≤ 2147483647 ∧ -2147483648 ≤ h ∧ h ≤ 2147483647 ∧ True := hrg
    refine s_middle_26 ?_
    repeat' (first
      | (exact True.intro)
      | (exact hpre.1)
      | (refine And.intro ?_ ?_)
      | (refine jf_put (S := [367]) (o := 352) (F := []) (W := W) (by repeat (first | exact fw_sm_refl | exact fw_sm_put0 | refine fw_sm_arr ?_ rfl | refine fw_sm_up ?_ rfl | refine fw_sm_put ?_ rfl | refine fw_sm_cp ?_ rfl)) (ih _ (by omega) _ _ _ rfl ?_); (first | omega | trivial | (simp (config := { decide := true }) only [fg_in, fg_fin, fg_out, fg_fout, fg_up, fg_same, true_and, and_true] <;> omega)))
      | (refine hP _ _ (by repeat (first | exact fw_sm_refl | exact fw_sm_put0 | refine fw_sm_arr ?_ rfl | refine fw_sm_up ?_ rfl | refine fw_sm_put ?_ rfl | refine fw_sm_cp ?_ rfl)) ?_; (refine ⟨by omega, by omega, ?_⟩; (first | trivial | omega)))
      | omega
      | (intro _))
def x_middle : fw_X := fun as W Q => match as with
  | [.inr (.inl s_), .inl sort] => fw_if (Nat.beq s_ 352) ((mt W ∧ 0 ≤ (fw_g W 366 0) ∧ (fw_g W 366 0) ≤ 14) ∧ (∀ (v : Int) (f : fw_W), (-2147483648 ≤ v ∧ v ≤ 2147483647 ∧ (True)) → Q (some (.inl v)) (fw_put [367] 352 [] W f)))
  | _ => False
theorem x_middle_ok (d : Nat) (as : List fw_V) (W : fw_W) (Q : Option fw_V → fw_W → Prop) (hx : x_middle as W Q) : jf fw_T (d + 5) 229 0 (fw_args 0 as) [] W Q := by
  unfold x_middle at hx
  split at hx
  · rename_i s_ sort
    obtain ⟨e_, hpre, hQ⟩ := fw_if_ok hx
    have e_ := Nat.eq_of_beq_eq_true e_
    subst e_
    have hP : ∀ (v : Int) (W2 : fw_W), fw_sm [367] 352 [] W W2 → _ → Q (some (.inl v)) W2 := fun v W2 hs hr => fw_sm_use (Q := fun Z => Q (some (.inl v)) Z) hs (hQ v W2 hr)
    refine s_middle_0 ?_
    repeat' (first
      | (exact True.intro)
      | (exact hpre.1)
      | (refine And.intro ?_ ?_)
      | (refine jf_put (S := [367]) (o := 352) (F := []) (W := W) (by repeat (first | exact fw_sm_refl | exact fw_sm_put0 | refine fw_sm_arr ?_ rfl | refine fw_sm_up ?_ rfl | refine fw_sm_put ?_ rfl | refine fw_sm_cp ?_ rfl)) (lm_middle_26 (sort := sort) hpre hP _ _ _ _ rfl ?_); (first | omega | trivial | (simp (config := { decide := true }) only [fg_in, fg_fin, fg_out, fg_fout, fg_up, fg_same, true_and, and_true] <;> omega)))
      | (refine hP _ _ (by repeat (first | exact fw_sm_refl | exact fw_sm_put0 | refine fw_sm_arr ?_ rfl | refine fw_sm_up ?_ rfl | refine fw_sm_put ?_ rfl | refine fw_sm_cp ?_ rfl)) ?_; (refine ⟨by omega, by omega, ?_⟩; (first | trivial | omega)))
      | omega
      | (intro _))
  · exact hx.elim

def fr_234 : fw_P := [(0, 0, 0, 0, 0), (1, 3, 1, 0, 0), (2, 0, 0, 0, 0), (3, 3, 2, 0, 0), (4, 1, 2, 0, 0), (5, 2, 0, 0, 0), (6, 64, 188, 0, 112), (9, 13, 26, 0, 0), (12, 1, 1, 0, 0), (13, 2, 0, 0, 0), (14, 1, 2, 0, 0), (15, 64, 216, 1, 212), (18, 30, 0, 0, 0), (19, 3, 1, 0, 0), (20, 5, 2, 0, 1), (23, 6, 4, 0, 0), (26, 1, 1, 0, 0), (27, 70, 0, 0, 0)]
theorem fr_234_ok : fw_mk 234 3 12 (some .int) fr_234 = true := by decide +kernel
def ct_streetsTogether : List (Nat × fw_X) := [(188, x_many), (216, x_streetOf)]
theorem ct_streetsTogether_ok (d : Nat) : fw_cok fw_T (d + 1) ct_streetsTogether := by
  intro q hq as W Q h
  simp only [ct_streetsTogether, List.mem_cons, List.not_mem_nil, or_false] at hq
  rcases hq with rfl | rfl
  · exact jc_of (x_many_ok (d + 0) as W Q h)
  · exact jc_of (x_streetOf_ok (d + 0) as W Q h)
theorem s_streetsTogether_0 {Post : Option fw_V → fw_W → Prop} {d : Nat} {W : fw_W}
    (hw_ : jf fw_T (d + 2) 234 4 [(0, .inr (.inl 352)), (1, .inl (0 : Int)), (2, .inl (0 : Int))] [] W Post) :
    jf fw_T (d + 2) 234 0 [(0, .inr (.inl 352))] [] W Post := fw_ok (n := 5) (ss := [(4, [0, 1, 2])]) (hv := [18]) fr_234_ok fm_ok (ct_streetsTogether_ok d) hw_

theorem s_streetsTogether_4 {Post : Option fw_V → fw_W → Prop} {d : Nat} {W : fw_W} {sum h : Int}
    (hw_ : (True) ∧ ((((fw_g W 366 0) ≤ h → (-2147483648 ≤ sum → sum ≤ 2147483647 → Post (some (.inl sum)) W)) ∧ (h < (fw_g W 366 0) → (0 ≤ h ∧ h < 14) ∧ (∀ v1 : Int, -2147483648 ≤ v1 → v1 ≤ 2147483647 → -2147483648 ≤ h + (1 : Int) ∧ h + (1 : Int) ≤ 2147483647 ∧ (jf fw_T (d + 2) 234 4 [(0, .inr (.inl 352)), (1, .inl v1), (2, .inl (h + (1 : Int)))] [] W Post)))))) :
    jf fw_T (d + 2) 234 4 [(0, .inr (.inl 352)), (1, .inl sum), (2, .inl h)] [] W Post := fw_ok (n := 13) (ss := [(4, [0, 1, 2])]) (hv := [18]) fr_234_ok fm_ok (ct_streetsTogether_ok d) hw_

theorem lm_streetsTogether_4 {Post : Option fw_V → fw_W → Prop} {d : Nat} {W : fw_W} (hpre : mt W ∧ 0 ≤ (fw_g W 366 0) ∧ (fw_g W 366 0) ≤ 14) (hP : ∀ (v : Int) , (-2147483648 ≤ v ∧ v ≤ 2147483647 ∧ (True)) → Post (some (.inl v)) W)  : ∀ (m : Nat) (sum h : Int), ((fw_g W 366 0) - h).toNat = m → 0 ≤ h → jf fw_T (d + 2) 234 4 [(0, .inr (.inl 352)), (1, .inl sum), (2, .inl h)] [] W Post := by
  intro m
  induction m using Nat.strongRecOn with
  | ind m ih =>
    intro sum h hm hi
    refine jf_rng (fun hrg => ?_)
    have hrg : -2147483648 ≤ sum ∧ sum ≤ 2147483647 ∧ -2147483648 ≤ h ∧ h ≤ 2147483647 ∧ True := hrg
    refine s_streetsTogether_4 ?_
    repeat' (first
      | (exact True.intro)
      | (exact hpre.1)
      | (refine And.intro ?_ ?_)
      | (refine (ih _ (by omega) _ _ rfl ?_); (first | omega | trivial))
      | (refine hP _ ?_; (refine ⟨by omega, by omega, ?_⟩; (first | trivial | omega)))
      | omega
      | (intro _))
def x_streetsTogether : fw_X := fun as W Q => match as with
  | [.inr (.inl s_)] => fw_if (Nat.beq s_ 352) ((mt W ∧ 0 ≤ (fw_g W 366 0) ∧ (fw_g W 366 0) ≤ 14) ∧ (∀ (v : Int), (-2147483648 ≤ v ∧ v ≤ 2147483647 ∧ (True)) → Q (some (.inl v)) W))
  | _ => False
theorem x_streetsTogether_ok (d : Nat) (as : List fw_V) (W : fw_W) (Q : Option fw_V → fw_W → Prop) (hx : x_streetsTogether as W Q) : jf fw_T (d + 2) 234 0 (fw_args 0 as) [] W Q := by
  unfold x_streetsTogether at hx
  split at hx
  · rename_i s_
    obtain ⟨e_, hpre, hQ⟩ := fw_if_ok hx
    have e_ := Nat.eq_of_beq_eq_true e_
    subst e_
    have hP := hQ
    refine s_streetsTogether_0 ?_
    repeat' (first
      | (exact True.intro)
      | (exact hpre.1)
      | (refine And.intro ?_ ?_)
      | (refine (lm_streetsTogether_4 hpre hP _ _ _ rfl ?_); (first | omega | trivial))
      | (refine hP _ ?_; (refine ⟨by omega, by omega, ?_⟩; (first | trivial | omega)))
      | omega
      | (intro _))
  · exact hx.elim

def fr_233 : fw_P := [(0, 2, 0, 0, 0), (1, 1, 1, 0, 0), (2, 64, 213, 1, 212), (5, 21, 10, 0, 0), (8, 0, 0, 0, -1), (9, 70, 0, 0, 0), (10, 2, 0, 0, 0), (11, 64, 222, 0, 312), (14, 0, 0, 0, 2), (15, 2, 0, 0, 0), (16, 64, 234, 0, 312), (19, 32, 0, 0, 0), (20, 1, 2, 0, 0), (21, 20, 28, 0, 0), (24, 0, 0, 0, 0), (25, 6, 33, 0, 0), (28, 2, 0, 0, 0), (29, 1, 1, 0, 0), (30, 64, 227, 1, 412), (33, 31, 0, 0, 0), (34, 70, 0, 0, 0)]
theorem fr_233_ok : fw_mk 233 3 12 (some .int) fr_233 = true := by decide +kernel
def ct_post : List (Nat × fw_X) := [(227, x_farOf), (213, x_isHouse), (222, x_layWays), (234, x_streetsTogether)]
theorem ct_post_ok (d : Nat) : fw_cok fw_T (d + 4) ct_post := by
  intro q hq as W Q h
  simp only [ct_post, List.mem_cons, List.not_mem_nil, or_false] at hq
  rcases hq with rfl | rfl | rfl | rfl
  · exact jc_of (x_farOf_ok (d + 2) as W Q h)
  · exact jc_of (x_isHouse_ok (d + 2) as W Q h)
  · exact jc_of (x_layWays_ok (d + 0) as W Q h)
  · exact jc_of (x_streetsTogether_ok (d + 2) as W Q h)
theorem s_post_0 {Post : Option fw_V → fw_W → Prop} {d : Nat} {W : fw_W} {h home : Int}
    (hw_ : (mt W ∧ 0 ≤ (fw_g W 366 0) ∧ (fw_g W 366 0) ≤ 14) ∧ (∀ (r1 : Int), ((0 ≤ r1 ∧ r1 ≤ 1 ∧ ((r1 = 1 ∧ 0 ≤ h ∧ h < (fw_g W 366 0)) ∨ (r1 = 0 ∧ (h < 0 ∨ (fw_g W 366 0) ≤ h))))) → ((¬ r1 = 0 → (mt W ∧ 0 ≤ (fw_g W 366 0) ∧ (fw_g W 366 0) ≤ 14) ∧ (∀ (f2 : fw_W), ((True)) → (mt (fw_put [367] 352 [] W f2) ∧ 0 ≤ (fw_g W 366 0) ∧ (fw_g W 366 0) ≤ 14) ∧ (∀ (r3 : Int), ((-2147483648 ≤ r3 ∧ r3 ≤ 2147483647 ∧ (True))) → ∀ v4 : Int, -2147483648 ≤ v4 → v4 ≤ 2147483647 → ((home = 0 → (mt (fw_put [367] 352 [] W f2) ∧ 0 ≤ (fw_g W 366 0) ∧ (fw_g W 366 0) ≤ 14 ∧ 0 ≤ h ∧ h < 14) ∧ (∀ (r5 : Int), ((-2147483648 ≤ r5 ∧ r5 ≤ 2147483647 ∧ (True))) → ∀ v6 : Int, -2147483648 ≤ v6 → v6 ≤ 2147483647 → (-2147483648 ≤ v6 → v6 ≤ 2147483647 → Post (some (.inl v6)) (fw_put [367] 352 [] W f2)))) ∧ (¬ home = 0 → ∀ v7 : Int, -2147483648 ≤ v7 → v7 ≤ 2147483647 → (-2147483648 ≤ v7 → v7 ≤ 2147483647 → Post (some (.inl v7)) (fw_put [367] 352 [] W f2))))))) ∧ (r1 = 0 → (-2147483648 ≤ (-1 : Int) → (-1 : Int) ≤ 2147483647 → Post (some (.inl (-1 : Int))) W))))) :
    jf fw_T (d + 5) 233 0 [(0, .inr (.inl 352)), (1, .inl h), (2, .inl home)] [] W Post := fw_ok (n := 18) (ss := []) (hv := [19, 33]) fr_233_ok fm_ok (ct_post_ok d) hw_

def x_post : fw_X := fun as W Q => match as with
  | [.inr (.inl s_), .inl h, .inl home] => fw_if (Nat.beq s_ 352) ((mt W ∧ 0 ≤ (fw_g W 366 0) ∧ (fw_g W 366 0) ≤ 14) ∧ (∀ (v : Int) (f : fw_W), (-2147483648 ≤ v ∧ v ≤ 2147483647 ∧ (True)) → Q (some (.inl v)) (fw_put [367] 352 [] W f)))
  | _ => False
theorem x_post_ok (d : Nat) (as : List fw_V) (W : fw_W) (Q : Option fw_V → fw_W → Prop) (hx : x_post as W Q) : jf fw_T (d + 5) 233 0 (fw_args 0 as) [] W Q := by
  unfold x_post at hx
  split at hx
  · rename_i s_ h home
    obtain ⟨e_, hpre, hQ⟩ := fw_if_ok hx
    have e_ := Nat.eq_of_beq_eq_true e_
    subst e_
    have hP : ∀ (v : Int) (W2 : fw_W), fw_sm [367] 352 [] W W2 → _ → Q (some (.inl v)) W2 := fun v W2 hs hr => fw_sm_use (Q := fun Z => Q (some (.inl v)) Z) hs (hQ v W2 hr)
    refine s_post_0 ?_
    repeat' (first
      | (exact True.intro)
      | (exact hpre.1)
      | (refine And.intro ?_ ?_)
      | (refine hP _ _ (by repeat (first | exact fw_sm_refl | exact fw_sm_put0 | refine fw_sm_arr ?_ rfl | refine fw_sm_up ?_ rfl | refine fw_sm_put ?_ rfl | refine fw_sm_cp ?_ rfl)) ?_; (refine ⟨by omega, by omega, ?_⟩; (first | trivial | omega)))
      | omega
      | (intro _))
  · exact hx.elim

