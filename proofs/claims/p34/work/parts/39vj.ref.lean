/-! the reference, method by method -/
def fr_273 : fw_P := [(0, 1, 1, 0, 0), (1, 0, 0, 0, 4), (2, 1, 2, 0, 0), (3, 32, 0, 0, 0), (4, 40, 0, 0, 0), (5, 0, 0, 0, 15), (7, 36, 0, 0, 0), (8, 70, 0, 0, 0)]
theorem fr_273_ok : fw_mk 273 3 12 (some .int) fr_273 = true := by decide +kernel
theorem s_place_0 {Post : Option fw_V → fw_W → Prop} {d : Nat} {W : fw_W} {s c : Int}
    (hw_ : -2147483648 ≤ (4 : Int) * c ∧ (4 : Int) * c ≤ 2147483647 ∧ ((-2147483648 ≤ (fw_shr s ((4 : Int) * c)) → (fw_shr s ((4 : Int) * c)) ≤ 2147483647 → (-2147483648 ≤ (fw_and (fw_shr s ((4 : Int) * c)) (15 : Int)) → (fw_and (fw_shr s ((4 : Int) * c)) (15 : Int)) ≤ 2147483647 → (-2147483648 ≤ (fw_and (fw_shr s ((4 : Int) * c)) (15 : Int)) → (fw_and (fw_shr s ((4 : Int) * c)) (15 : Int)) ≤ 2147483647 → Post (some (.inl (fw_and (fw_shr s ((4 : Int) * c)) (15 : Int)))) W))))) :
    jf fw_T (d + 1) 273 0 [(0, .inr (.inl 352)), (1, .inl s), (2, .inl c)] [] W Post := fw_ok (n := 9) (ss := []) (hv := []) fr_273_ok fm_ok (fw_c0 _ _) hw_

def x_place : fw_X := fun as W Q => match as with
  | [.inr (.inl s_), .inl s, .inl c] => fw_if (Nat.beq s_ 352) ((0 ≤ s ∧ s ≤ 65535 ∧ 0 ≤ c ∧ c ≤ 3) ∧ (∀ (v : Int), (-2147483648 ≤ v ∧ v ≤ 2147483647 ∧ (v = nb4 s c ∧ 0 ≤ v ∧ v ≤ 15)) → Q (some (.inl v)) W))
  | _ => False
theorem x_place_ok (d : Nat) (as : List fw_V) (W : fw_W) (Q : Option fw_V → fw_W → Prop) (hx : x_place as W Q) : jf fw_T (d + 1) 273 0 (fw_args 0 as) [] W Q := by
  unfold x_place at hx
  split at hx
  · rename_i s_ s c
    obtain ⟨e_, hpre, hQ⟩ := fw_if_ok hx
    have e_ := Nat.eq_of_beq_eq_true e_
    subst e_
    have hP := hQ
    refine s_place_0 ?_
    have e0 := pl_eq hpre.1 hpre.2.1 hpre.2.2.1 hpre.2.2.2
    have e1 := nb4_b s c
    repeat' (first
      | (exact True.intro)
      | (exact hpre.1)
      | (refine And.intro ?_ ?_)
      | (refine hP _ ?_; (refine ⟨by omega, by omega, ?_⟩; (exact ⟨e0, by omega, by omega⟩)))
      | omega
      | (intro _))
  · exact hx.elim

def fr_272 : fw_P := [(0, 0, 0, 0, 0), (1, 3, 2, 0, 0), (2, 0, 0, 0, 0), (3, 3, 3, 0, 0), (4, 1, 3, 0, 0), (5, 2, 0, 0, 0), (6, 50, 12, 12, 0), (9, 2, 0, 0, 0), (10, 50, 12, 22, 0), (13, 52, 0, 0, 0), (14, 13, 40, 0, 0), (17, 1, 2, 0, 0), (18, 2, 1, 0, 0), (19, 0, 0, 0, 4), (20, 2, 0, 0, 0), (21, 50, 12, 22, 0), (24, 32, 0, 0, 0), (25, 1, 3, 0, 0), (26, 30, 0, 0, 0), (27, 52, 0, 0, 0), (28, 0, 0, 0, 4), (29, 1, 3, 0, 0), (30, 32, 0, 0, 0), (31, 39, 0, 0, 0), (32, 37, 0, 0, 0), (33, 3, 2, 0, 0), (34, 5, 3, 0, 1), (37, 6, 4, 0, 0), (40, 1, 2, 0, 0), (41, 70, 0, 0, 0)]
theorem fr_272_ok : fw_mk 272 4 12 (some .int) fr_272 = true := by decide +kernel
theorem s_stateOfA_0 {Post : Option fw_V → fw_W → Prop} {d : Nat} {W : fw_W}
    (hw_ : jf fw_T (d + 1) 272 4 [(0, .inr (.inl 352)), (1, .inr (.inl 361)), (2, .inl (0 : Int)), (3, .inl (0 : Int))] [] W Post) :
    jf fw_T (d + 1) 272 0 [(0, .inr (.inl 352)), (1, .inr (.inl 361))] [] W Post := fw_ok (n := 5) (ss := [(4, [0, 1, 2, 3])]) (hv := []) fr_272_ok fm_ok (fw_c0 _ _) hw_

theorem s_stateOfA_4 {Post : Option fw_V → fw_W → Prop} {d : Nat} {W : fw_W} {a c : Int}
    (hw_ : (0 ≤ (fw_g W 352 22) → (fw_g W 352 22) ≤ 1 → 0 ≤ (fw_g W 352 22) ∧ (fw_g W 352 22) < 2 ∧ (0 ≤ (fw_g W 356 (fw_g W 352 22)) → (fw_g W 356 (fw_g W 352 22)) ≤ 4 → (((fw_g W 356 (fw_g W 352 22)) ≤ c → (-2147483648 ≤ a → a ≤ 2147483647 → Post (some (.inl a)) W)) ∧ (c < (fw_g W 356 (fw_g W 352 22)) → (0 ≤ (fw_g W 352 22) → (fw_g W 352 22) ≤ 1 → -2147483648 ≤ (4 : Int) * (fw_g W 352 22) ∧ (4 : Int) * (fw_g W 352 22) ≤ 2147483647 ∧ (-2147483648 ≤ ((4 : Int) * (fw_g W 352 22)) + c ∧ ((4 : Int) * (fw_g W 352 22)) + c ≤ 2147483647 ∧ (0 ≤ (((4 : Int) * (fw_g W 352 22)) + c) ∧ (((4 : Int) * (fw_g W 352 22)) + c) < 8 ∧ (0 ≤ (fw_g W 361 (((4 : Int) * (fw_g W 352 22)) + c)) → (fw_g W 361 (((4 : Int) * (fw_g W 352 22)) + c)) ≤ 13 → -2147483648 ≤ (4 : Int) * c ∧ (4 : Int) * c ≤ 2147483647 ∧ ((-2147483648 ≤ (fw_shl (fw_g W 361 (((4 : Int) * (fw_g W 352 22)) + c)) ((4 : Int) * c)) → (fw_shl (fw_g W 361 (((4 : Int) * (fw_g W 352 22)) + c)) ((4 : Int) * c)) ≤ 2147483647 → (-2147483648 ≤ (fw_or a (fw_shl (fw_g W 361 (((4 : Int) * (fw_g W 352 22)) + c)) ((4 : Int) * c))) → (fw_or a (fw_shl (fw_g W 361 (((4 : Int) * (fw_g W 352 22)) + c)) ((4 : Int) * c))) ≤ 2147483647 → -2147483648 ≤ c + (1 : Int) ∧ c + (1 : Int) ≤ 2147483647 ∧ (jf fw_T (d + 1) 272 4 [(0, .inr (.inl 352)), (1, .inr (.inl 361)), (2, .inl (fw_or a (fw_shl (fw_g W 361 (((4 : Int) * (fw_g W 352 22)) + c)) ((4 : Int) * c)))), (3, .inl (c + (1 : Int)))] [] W Post))))))))))))) :
    jf fw_T (d + 1) 272 4 [(0, .inr (.inl 352)), (1, .inr (.inl 361)), (2, .inl a), (3, .inl c)] [] W Post := fw_ok (n := 25) (ss := [(4, [0, 1, 2, 3])]) (hv := []) fr_272_ok fm_ok (fw_c0 _ _) hw_

theorem lm_stateOfA_4 {Post : Option fw_V → fw_W → Prop} {d : Nat} {W : fw_W} (hpre : True) (hP : ∀ (v : Int) , (-2147483648 ≤ v ∧ v ≤ 2147483647 ∧ (gs4 ((fw_g W 356 (fw_g W 352 22))) v ∧ 0 ≤ v ∧ v ≤ 65535)) → Post (some (.inl v)) W)  : ∀ (m : Nat) (a c : Int), ((fw_g W 356 (fw_g W 352 22)) - c).toNat = m → (0 ≤ c ∧ (c ≤ (fw_g W 356 (fw_g W 352 22)) ∨ c = 0)) ∧ gp4 c a → jf fw_T (d + 1) 272 4 [(0, .inr (.inl 352)), (1, .inr (.inl 361)), (2, .inl a), (3, .inl c)] [] W Post := by
  intro m
  induction m using Nat.strongRecOn with
  | ind m ih =>
    intro a c hm hi
    refine jf_rng (fun hrg => ?_)
    have hrg : -2147483648 ≤ a ∧ a ≤ 2147483647 ∧ -2147483648 ≤ c ∧ c ≤ 2147483647 ∧ True := hrg
    refine s_stateOfA_4 ?_
    have hi1 := hi.1
    have hi2 := hi.2.1
    have hi3 := hi.2.2.1
    repeat' (first
      | (exact True.intro)
      | (exact hpre.1)
      | (refine And.intro ?_ ?_)
      | (refine (ih _ (by omega) _ _ rfl ?_); (
        refine ⟨by omega, ?_⟩
        rw [or_eq (by omega) (by omega) hi2 hi3 (by omega) (by omega)]
        exact gp4_up hi.2 (by omega) (by omega) (by omega) (by omega)))
      | (refine hP _ ?_; (refine ⟨by omega, by omega, ?_⟩; (
        have hc : c = (fw_g W 356 (fw_g W 352 22)) := by omega
        rw [hc] at hi
        have hg := gp4_gs hi.2 (by omega) (by omega)
        exact ⟨hg, hg.1, hg.2.1⟩)))
      | omega
      | (intro _))
def x_stateOfA : fw_X := fun as W Q => match as with
  | [.inr (.inl s_), .inr (.inl r0_)] => fw_if (Nat.beq s_ 352) (fw_if (Nat.beq r0_ 361) ((True) ∧ (∀ (v : Int), (-2147483648 ≤ v ∧ v ≤ 2147483647 ∧ (gs4 ((fw_g W 356 (fw_g W 352 22))) v ∧ 0 ≤ v ∧ v ≤ 65535)) → Q (some (.inl v)) W)))
  | _ => False
theorem x_stateOfA_ok (d : Nat) (as : List fw_V) (W : fw_W) (Q : Option fw_V → fw_W → Prop) (hx : x_stateOfA as W Q) : jf fw_T (d + 1) 272 0 (fw_args 0 as) [] W Q := by
  unfold x_stateOfA at hx
  split at hx
  · rename_i s_ r0_
    obtain ⟨e0_, hx0⟩ := fw_if_ok hx
    have e0_ := Nat.eq_of_beq_eq_true e0_
    clear hx
    subst e0_
    obtain ⟨e1_, hx1⟩ := fw_if_ok hx0
    have e1_ := Nat.eq_of_beq_eq_true e1_
    clear hx0
    subst e1_
    obtain ⟨hpre, hQ⟩ := hx1
    have hP := hQ
    refine s_stateOfA_0 ?_
    repeat' (first
      | (exact True.intro)
      | (exact hpre.1)
      | (refine And.intro ?_ ?_)
      | (refine (lm_stateOfA_4 hpre hP _ _ _ rfl ?_); (
        exact ⟨by omega, by decide, by decide, fun j j0 j1 => by omega⟩))
      | (refine hP _ ?_; (refine ⟨by omega, by omega, ?_⟩; (
        have hc : c = (fw_g W 356 (fw_g W 352 22)) := by omega
        rw [hc] at hi
        have hg := gp4_gs hi.2 (by omega) (by omega)
        exact ⟨hg, hg.1, hg.2.1⟩)))
      | omega
      | (intro _))
  · exact hx.elim

theorem s_stateOfT_0 {Post : Option fw_V → fw_W → Prop} {d : Nat} {W : fw_W}
    (hw_ : jf fw_T (d + 1) 272 4 [(0, .inr (.inl 352)), (1, .inr (.inl 362)), (2, .inl (0 : Int)), (3, .inl (0 : Int))] [] W Post) :
    jf fw_T (d + 1) 272 0 [(0, .inr (.inl 352)), (1, .inr (.inl 362))] [] W Post := fw_ok (n := 5) (ss := [(4, [0, 1, 2, 3])]) (hv := []) fr_272_ok fm_ok (fw_c0 _ _) hw_

theorem s_stateOfT_4 {Post : Option fw_V → fw_W → Prop} {d : Nat} {W : fw_W} {a c : Int}
    (hw_ : (0 ≤ (fw_g W 352 22) → (fw_g W 352 22) ≤ 1 → 0 ≤ (fw_g W 352 22) ∧ (fw_g W 352 22) < 2 ∧ (0 ≤ (fw_g W 356 (fw_g W 352 22)) → (fw_g W 356 (fw_g W 352 22)) ≤ 4 → (((fw_g W 356 (fw_g W 352 22)) ≤ c → (-2147483648 ≤ a → a ≤ 2147483647 → Post (some (.inl a)) W)) ∧ (c < (fw_g W 356 (fw_g W 352 22)) → (0 ≤ (fw_g W 352 22) → (fw_g W 352 22) ≤ 1 → -2147483648 ≤ (4 : Int) * (fw_g W 352 22) ∧ (4 : Int) * (fw_g W 352 22) ≤ 2147483647 ∧ (-2147483648 ≤ ((4 : Int) * (fw_g W 352 22)) + c ∧ ((4 : Int) * (fw_g W 352 22)) + c ≤ 2147483647 ∧ (0 ≤ (((4 : Int) * (fw_g W 352 22)) + c) ∧ (((4 : Int) * (fw_g W 352 22)) + c) < 8 ∧ (0 ≤ (fw_g W 362 (((4 : Int) * (fw_g W 352 22)) + c)) → (fw_g W 362 (((4 : Int) * (fw_g W 352 22)) + c)) ≤ 13 → -2147483648 ≤ (4 : Int) * c ∧ (4 : Int) * c ≤ 2147483647 ∧ ((-2147483648 ≤ (fw_shl (fw_g W 362 (((4 : Int) * (fw_g W 352 22)) + c)) ((4 : Int) * c)) → (fw_shl (fw_g W 362 (((4 : Int) * (fw_g W 352 22)) + c)) ((4 : Int) * c)) ≤ 2147483647 → (-2147483648 ≤ (fw_or a (fw_shl (fw_g W 362 (((4 : Int) * (fw_g W 352 22)) + c)) ((4 : Int) * c))) → (fw_or a (fw_shl (fw_g W 362 (((4 : Int) * (fw_g W 352 22)) + c)) ((4 : Int) * c))) ≤ 2147483647 → -2147483648 ≤ c + (1 : Int) ∧ c + (1 : Int) ≤ 2147483647 ∧ (jf fw_T (d + 1) 272 4 [(0, .inr (.inl 352)), (1, .inr (.inl 362)), (2, .inl (fw_or a (fw_shl (fw_g W 362 (((4 : Int) * (fw_g W 352 22)) + c)) ((4 : Int) * c)))), (3, .inl (c + (1 : Int)))] [] W Post))))))))))))) :
    jf fw_T (d + 1) 272 4 [(0, .inr (.inl 352)), (1, .inr (.inl 362)), (2, .inl a), (3, .inl c)] [] W Post := fw_ok (n := 25) (ss := [(4, [0, 1, 2, 3])]) (hv := []) fr_272_ok fm_ok (fw_c0 _ _) hw_

theorem lm_stateOfT_4 {Post : Option fw_V → fw_W → Prop} {d : Nat} {W : fw_W} (hpre : True) (hP : ∀ (v : Int) , (-2147483648 ≤ v ∧ v ≤ 2147483647 ∧ (gs4 ((fw_g W 356 (fw_g W 352 22))) v ∧ 0 ≤ v ∧ v ≤ 65535)) → Post (some (.inl v)) W)  : ∀ (m : Nat) (a c : Int), ((fw_g W 356 (fw_g W 352 22)) - c).toNat = m → (0 ≤ c ∧ (c ≤ (fw_g W 356 (fw_g W 352 22)) ∨ c = 0)) ∧ gp4 c a → jf fw_T (d + 1) 272 4 [(0, .inr (.inl 352)), (1, .inr (.inl 362)), (2, .inl a), (3, .inl c)] [] W Post := by
  intro m
  induction m using Nat.strongRecOn with
  | ind m ih =>
    intro a c hm hi
    refine jf_rng (fun hrg => ?_)
    have hrg : -2147483648 ≤ a ∧ a ≤ 2147483647 ∧ -2147483648 ≤ c ∧ c ≤ 2147483647 ∧ True := hrg
    refine s_stateOfT_4 ?_
    have hi1 := hi.1
    have hi2 := hi.2.1
    have hi3 := hi.2.2.1
    repeat' (first
      | (exact True.intro)
      | (exact hpre.1)
      | (refine And.intro ?_ ?_)
      | (refine (ih _ (by omega) _ _ rfl ?_); (
        refine ⟨by omega, ?_⟩
        rw [or_eq (by omega) (by omega) hi2 hi3 (by omega) (by omega)]
        exact gp4_up hi.2 (by omega) (by omega) (by omega) (by omega)))
      | (refine hP _ ?_; (refine ⟨by omega, by omega, ?_⟩; (
        have hc : c = (fw_g W 356 (fw_g W 352 22)) := by omega
        rw [hc] at hi
        have hg := gp4_gs hi.2 (by omega) (by omega)
        exact ⟨hg, hg.1, hg.2.1⟩)))
      | omega
      | (intro _))
def x_stateOfT : fw_X := fun as W Q => match as with
  | [.inr (.inl s_), .inr (.inl r0_)] => fw_if (Nat.beq s_ 352) (fw_if (Nat.beq r0_ 362) ((True) ∧ (∀ (v : Int), (-2147483648 ≤ v ∧ v ≤ 2147483647 ∧ (gs4 ((fw_g W 356 (fw_g W 352 22))) v ∧ 0 ≤ v ∧ v ≤ 65535)) → Q (some (.inl v)) W)))
  | _ => False
theorem x_stateOfT_ok (d : Nat) (as : List fw_V) (W : fw_W) (Q : Option fw_V → fw_W → Prop) (hx : x_stateOfT as W Q) : jf fw_T (d + 1) 272 0 (fw_args 0 as) [] W Q := by
  unfold x_stateOfT at hx
  split at hx
  · rename_i s_ r0_
    obtain ⟨e0_, hx0⟩ := fw_if_ok hx
    have e0_ := Nat.eq_of_beq_eq_true e0_
    clear hx
    subst e0_
    obtain ⟨e1_, hx1⟩ := fw_if_ok hx0
    have e1_ := Nat.eq_of_beq_eq_true e1_
    clear hx0
    subst e1_
    obtain ⟨hpre, hQ⟩ := hx1
    have hP := hQ
    refine s_stateOfT_0 ?_
    repeat' (first
      | (exact True.intro)
      | (exact hpre.1)
      | (refine And.intro ?_ ?_)
      | (refine (lm_stateOfT_4 hpre hP _ _ _ rfl ?_); (
        exact ⟨by omega, by decide, by decide, fun j j0 j1 => by omega⟩))
      | (refine hP _ ?_; (refine ⟨by omega, by omega, ?_⟩; (
        have hc : c = (fw_g W 356 (fw_g W 352 22)) := by omega
        rw [hc] at hi
        have hg := gp4_gs hi.2 (by omega) (by omega)
        exact ⟨hg, hg.1, hg.2.1⟩)))
      | omega
      | (intro _))
  · exact hx.elim

def x_stateOf : fw_X := fun as W Q => match as with
  | [.inr (.inl s_), .inr (.inl r_)] => fw_if (Nat.beq s_ 352) (fw_if (Nat.beq r_ 361 || Nat.beq r_ 362) ((True) ∧ (∀ (v : Int), (-2147483648 ≤ v ∧ v ≤ 2147483647 ∧ (gs4 ((fw_g W 356 (fw_g W 352 22))) v ∧ 0 ≤ v ∧ v ≤ 65535)) → Q (some (.inl v)) W)))
  | _ => False
theorem x_stateOf_ok (d : Nat) (as : List fw_V) (W : fw_W) (Q : Option fw_V → fw_W → Prop) (hx : x_stateOf as W Q) : jf fw_T (d + 1) 272 0 (fw_args 0 as) [] W Q := by
  unfold x_stateOf at hx
  split at hx
  · rename_i s_ r_
    obtain ⟨e0, hx⟩ := fw_if_ok hx
    obtain ⟨e1, hx⟩ := fw_if_ok hx
    have e0 := Nat.eq_of_beq_eq_true e0
    subst e0
    rw [Bool.or_eq_true] at e1
    rcases e1 with e1 | e1
    · have e1 := Nat.eq_of_beq_eq_true e1
      subst e1
      exact x_stateOfA_ok d _ W Q hx
    · have e1 := Nat.eq_of_beq_eq_true e1
      subst e1
      exact x_stateOfT_ok d _ W Q hx
  · exact hx.elim
def fr_274 : fw_P := [(0, 0, 0, 0, 0), (1, 3, 3, 0, 0), (2, 1, 3, 0, 0), (3, 2, 0, 0, 0), (4, 50, 12, 12, 0), (7, 2, 0, 0, 0), (8, 50, 12, 22, 0), (11, 52, 0, 0, 0), (12, 13, 33, 0, 0), (15, 2, 0, 0, 0), (16, 1, 1, 0, 0), (17, 1, 3, 0, 0), (18, 64, 273, 2, 312), (21, 1, 2, 0, 0), (22, 11, 27, 0, 0), (25, 0, 0, 0, 1), (26, 71, 0, 0, 0), (27, 5, 3, 0, 1), (30, 6, 2, 0, 0), (33, 0, 0, 0, 0), (34, 71, 0, 0, 0)]
theorem fr_274_ok : fw_mk 274 4 12 (some .boolean) fr_274 = true := by decide +kernel
def ct_isTaken : List (Nat × fw_X) := [(273, x_place)]
theorem ct_isTaken_ok (d : Nat) : fw_cok fw_T (d + 1) ct_isTaken := by
  intro q hq as W Q h
  simp only [ct_isTaken, List.mem_cons, List.not_mem_nil, or_false] at hq
  rcases hq with rfl
  · exact jc_of (x_place_ok (d + 0) as W Q h)
theorem s_isTaken_0 {Post : Option fw_V → fw_W → Prop} {d : Nat} {W : fw_W} {s h : Int}
    (hw_ : jf fw_T (d + 2) 274 2 [(0, .inr (.inl 352)), (1, .inl s), (2, .inl h), (3, .inl (0 : Int))] [] W Post) :
    jf fw_T (d + 2) 274 0 [(0, .inr (.inl 352)), (1, .inl s), (2, .inl h)] [] W Post := fw_ok (n := 3) (ss := [(2, [0, 1, 2, 3])]) (hv := []) fr_274_ok fm_ok (ct_isTaken_ok d) hw_

theorem s_isTaken_2 {Post : Option fw_V → fw_W → Prop} {d : Nat} {W : fw_W} {s h c : Int}
    (hw_ : (0 ≤ (fw_g W 352 22) → (fw_g W 352 22) ≤ 1 → 0 ≤ (fw_g W 352 22) ∧ (fw_g W 352 22) < 2 ∧ (0 ≤ (fw_g W 356 (fw_g W 352 22)) → (fw_g W 356 (fw_g W 352 22)) ≤ 4 → (((fw_g W 356 (fw_g W 352 22)) ≤ c → 0 ≤ (0 : Int) ∧ (0 : Int) ≤ 1 ∧ Post (some (.inl (0 : Int))) W) ∧ (c < (fw_g W 356 (fw_g W 352 22)) → (0 ≤ s ∧ s ≤ 65535 ∧ 0 ≤ c ∧ c ≤ 3) ∧ (∀ (r1 : Int), ((-2147483648 ≤ r1 ∧ r1 ≤ 2147483647 ∧ (r1 = nb4 s c ∧ 0 ≤ r1 ∧ r1 ≤ 15))) → ((¬ r1 = h → -2147483648 ≤ c + (1 : Int) ∧ c + (1 : Int) ≤ 2147483647 ∧ (jf fw_T (d + 2) 274 2 [(0, .inr (.inl 352)), (1, .inl s), (2, .inl h), (3, .inl (c + (1 : Int)))] [] W Post)) ∧ (r1 = h → 0 ≤ (1 : Int) ∧ (1 : Int) ≤ 1 ∧ Post (some (.inl (1 : Int))) W)))))))) :
    jf fw_T (d + 2) 274 2 [(0, .inr (.inl 352)), (1, .inl s), (2, .inl h), (3, .inl c)] [] W Post := fw_ok (n := 16) (ss := [(2, [0, 1, 2, 3])]) (hv := []) fr_274_ok fm_ok (ct_isTaken_ok d) hw_

theorem lm_isTaken_2 {Post : Option fw_V → fw_W → Prop} {d : Nat} {W : fw_W} {s h : Int} (hpre : 0 ≤ s ∧ s ≤ 65535) (hP : ∀ (v : Int) , (0 ≤ v ∧ v ≤ 1 ∧ (True)) → Post (some (.inl v)) W)  : ∀ (m : Nat) (c : Int), ((fw_g W 356 (fw_g W 352 22)) - c).toNat = m → 0 ≤ c → jf fw_T (d + 2) 274 2 [(0, .inr (.inl 352)), (1, .inl s), (2, .inl h), (3, .inl c)] [] W Post := by
  intro m
  induction m using Nat.strongRecOn with
  | ind m ih =>
    intro c hm hi
    refine jf_rng (fun hrg => ?_)
    have hrg : -2147483648 ≤ s ∧ s ≤ 2147483647 ∧ -2147483648 ≤ h ∧ h ≤ 2147483647 ∧ -2147483648 ≤ c ∧ c ≤ 2147483647 ∧ True := hrg
    refine s_isTaken_2 ?_
    repeat' (first
      | (exact True.intro)
      | (exact hpre.1)
      | (refine And.intro ?_ ?_)
      | (refine (ih _ (by omega) _ rfl ?_); (first | omega | trivial))
      | (refine hP _ ?_; (refine ⟨by omega, by omega, ?_⟩; (first | trivial | omega)))
      | omega
      | (intro _))
def x_isTaken : fw_X := fun as W Q => match as with
  | [.inr (.inl s_), .inl s, .inl h] => fw_if (Nat.beq s_ 352) ((0 ≤ s ∧ s ≤ 65535) ∧ (∀ (v : Int), (0 ≤ v ∧ v ≤ 1 ∧ (True)) → Q (some (.inl v)) W))
  | _ => False
theorem x_isTaken_ok (d : Nat) (as : List fw_V) (W : fw_W) (Q : Option fw_V → fw_W → Prop) (hx : x_isTaken as W Q) : jf fw_T (d + 2) 274 0 (fw_args 0 as) [] W Q := by
  unfold x_isTaken at hx
  split at hx
  · rename_i s_ s h
    obtain ⟨e_, hpre, hQ⟩ := fw_if_ok hx
    have e_ := Nat.eq_of_beq_eq_true e_
    subst e_
    have hP := hQ
    refine s_isTaken_0 ?_
    repeat' (first
      | (exact True.intro)
      | (exact hpre.1)
      | (refine And.intro ?_ ?_)
      | (refine (lm_isTaken_2 (s := s) (h := h) hpre hP _ _ rfl ?_); (first | omega | trivial))
      | (refine hP _ ?_; (refine ⟨by omega, by omega, ?_⟩; (first | trivial | omega)))
      | omega
      | (intro _))
  · exact hx.elim

def fr_275 : fw_P := [(0, 0, 0, 0, 1), (1, 3, 2, 0, 0), (2, 1, 1, 0, 0), (3, 3, 3, 0, 0), (4, 2, 0, 0, 0), (5, 50, 12, 37, 0), (8, 1, 3, 0, 0), (9, 52, 0, 0, 0), (10, 25, 26, 0, 0), (13, 2, 0, 0, 0), (14, 50, 12, 37, 0), (17, 1, 3, 0, 0), (18, 52, 0, 0, 0), (19, 3, 3, 0, 0), (20, 5, 2, 0, 1), (23, 6, 4, 0, 0), (26, 0, 0, 0, 0), (27, 3, 4, 0, 0), (29, 1, 4, 0, 0), (31, 2, 0, 0, 0), (32, 50, 12, 12, 0), (35, 2, 0, 0, 0), (36, 50, 12, 22, 0), (39, 52, 0, 0, 0), (40, 13, 101, 0, 0), (43, 2, 0, 0, 0), (44, 2, 0, 0, 0), (45, 50, 12, 36, 0), (48, 0, 0, 0, 0), (49, 52, 0, 0, 0), (50, 1, 4, 0, 0), (52, 64, 273, 2, 312), (55, 2, 0, 0, 0), (56, 2, 0, 0, 0), (57, 50, 12, 36, 0), (60, 1, 3, 0, 0), (61, 52, 0, 0, 0), (62, 1, 4, 0, 0), (64, 64, 273, 2, 312), (67, 11, 73, 0, 0), (70, 6, 95, 0, 0), (73, 2, 0, 0, 0), (74, 1, 4, 0, 0), (76, 51, 12, 39, 0), (79, 2, 0, 0, 0), (80, 2, 0, 0, 0), (81, 2, 0, 0, 0), (82, 50, 12, 36, 0), (85, 1, 3, 0, 0), (86, 52, 0, 0, 0), (87, 1, 4, 0, 0), (89, 64, 273, 2, 312), (92, 51, 12, 40, 0), (95, 5, 4, 0, 1), (98, 6, 29, 0, 0), (101, 1, 2, 0, 0), (102, 70, 0, 0, 0)]
theorem fr_275_ok : fw_mk 275 5 12 (some .int) fr_275 = true := by decide +kernel
def ct_layFirst : List (Nat × fw_X) := [(273, x_place)]
theorem ct_layFirst_ok (d : Nat) : fw_cok fw_T (d + 1) ct_layFirst := by
  intro q hq as W Q h
  simp only [ct_layFirst, List.mem_cons, List.not_mem_nil, or_false] at hq
  rcases hq with rfl
  · exact jc_of (x_place_ok (d + 0) as W Q h)
theorem s_layFirst_0 {Post : Option fw_V → fw_W → Prop} {d : Nat} {W : fw_W} {e : Int}
    (hw_ : jf fw_T (d + 2) 275 4 [(0, .inr (.inl 352)), (2, .inl (1 : Int)), (3, .inl e)] [] W Post) :
    jf fw_T (d + 2) 275 0 [(0, .inr (.inl 352)), (1, .inl e)] [] W Post := fw_ok (n := 5) (ss := [(4, [0, 2, 3]), (29, [0, 2, 3, 4])]) (hv := []) fr_275_ok fm_ok (ct_layFirst_ok d) hw_

theorem s_layFirst_29 {Post : Option fw_V → fw_W → Prop} {d : Nat} {W : fw_W} {st_ k c : Int} {f : fw_W}
    (hw_ : (0 ≤ (fw_g W 352 22) → (fw_g W 352 22) ≤ 1 → 0 ≤ (fw_g W 352 22) ∧ (fw_g W 352 22) < 2 ∧ (0 ≤ (fw_g W 356 (fw_g W 352 22)) → (fw_g W 356 (fw_g W 352 22)) ≤ 4 → (((fw_g W 356 (fw_g W 352 22)) ≤ c → (-2147483648 ≤ st_ → st_ ≤ 2147483647 → Post (some (.inl st_)) (fw_put [] 352 [39, 40] W f))) ∧ (c < (fw_g W 356 (fw_g W 352 22)) → 0 ≤ (0 : Int) ∧ (0 : Int) < 20000 ∧ (0 ≤ (fw_g W 375 (0 : Int)) → (fw_g W 375 (0 : Int)) ≤ 65535 → (0 ≤ (fw_g W 375 (0 : Int)) ∧ (fw_g W 375 (0 : Int)) ≤ 65535 ∧ 0 ≤ c ∧ c ≤ 3) ∧ (∀ (r1 : Int), ((-2147483648 ≤ r1 ∧ r1 ≤ 2147483647 ∧ (r1 = nb4 (fw_g W 375 (0 : Int)) c ∧ 0 ≤ r1 ∧ r1 ≤ 15))) → 0 ≤ k ∧ k < 20000 ∧ (0 ≤ (fw_g W 375 k) → (fw_g W 375 k) ≤ 65535 → (0 ≤ (fw_g W 375 k) ∧ (fw_g W 375 k) ≤ 65535 ∧ 0 ≤ c ∧ c ≤ 3) ∧ (∀ (r2 : Int), ((-2147483648 ≤ r2 ∧ r2 ≤ 2147483647 ∧ (r2 = nb4 (fw_g W 375 k) c ∧ 0 ≤ r2 ∧ r2 ≤ 15))) → ((¬ r1 = r2 → -2147483648 ≤ c ∧ c ≤ 2147483647 ∧ (0 ≤ k ∧ k < 20000 ∧ (0 ≤ (fw_g W 375 k) → (fw_g W 375 k) ≤ 65535 → (0 ≤ (fw_g W 375 k) ∧ (fw_g W 375 k) ≤ 65535 ∧ 0 ≤ c ∧ c ≤ 3) ∧ (∀ (r3 : Int), ((-2147483648 ≤ r3 ∧ r3 ≤ 2147483647 ∧ (r3 = nb4 (fw_g W 375 k) c ∧ 0 ≤ r3 ∧ r3 ≤ 15))) → -2147483648 ≤ r3 ∧ r3 ≤ 2147483647 ∧ (-2147483648 ≤ c + (1 : Int) ∧ c + (1 : Int) ≤ 2147483647 ∧ (jf fw_T (d + 2) 275 29 [(0, .inr (.inl 352)), (2, .inl st_), (3, .inl k), (4, .inl (c + (1 : Int)))] [] (fw_up (fw_up (fw_put [] 352 [39, 40] W f) 352 39 c) 352 40 r3) Post)))))) ∧ (r1 = r2 → -2147483648 ≤ c + (1 : Int) ∧ c + (1 : Int) ≤ 2147483647 ∧ (jf fw_T (d + 2) 275 29 [(0, .inr (.inl 352)), (2, .inl st_), (3, .inl k), (4, .inl (c + (1 : Int)))] [] (fw_put [] 352 [39, 40] W f) Post)))))))))))) :
    jf fw_T (d + 2) 275 29 [(0, .inr (.inl 352)), (2, .inl st_), (3, .inl k), (4, .inl c)] [] (fw_put [] 352 [39, 40] W f) Post := fw_ok (n := 37) (ss := [(4, [0, 2, 3]), (29, [0, 2, 3, 4])]) (hv := []) fr_275_ok fm_ok (ct_layFirst_ok d) hw_

theorem s_layFirst_4 {Post : Option fw_V → fw_W → Prop} {d : Nat} {W : fw_W} {st_ k : Int} {f : fw_W}
    (hw_ : 0 ≤ k ∧ k < 20000 ∧ (-1 ≤ (fw_g W 376 k) → (fw_g W 376 k) ≤ 19999 → (((fw_g W 376 k) ≤ 0 → jf fw_T (d + 2) 275 29 [(0, .inr (.inl 352)), (2, .inl st_), (3, .inl k), (4, .inl (0 : Int))] [] (fw_put [] 352 [39, 40] W f) Post) ∧ (0 < (fw_g W 376 k) → 0 ≤ k ∧ k < 20000 ∧ (-1 ≤ (fw_g W 376 k) → (fw_g W 376 k) ≤ 19999 → -2147483648 ≤ st_ + (1 : Int) ∧ st_ + (1 : Int) ≤ 2147483647 ∧ (jf fw_T (d + 2) 275 4 [(0, .inr (.inl 352)), (2, .inl (st_ + (1 : Int))), (3, .inl (fw_g W 376 k))] [] (fw_put [] 352 [39, 40] W f) Post)))))) :
    jf fw_T (d + 2) 275 4 [(0, .inr (.inl 352)), (2, .inl st_), (3, .inl k)] [] (fw_put [] 352 [39, 40] W f) Post := fw_ok (n := 13) (ss := [(4, [0, 2, 3]), (29, [0, 2, 3, 4])]) (hv := []) fr_275_ok fm_ok (ct_layFirst_ok d) hw_

theorem lm_layFirst_29 {Post : Option fw_V → fw_W → Prop} {d : Nat} {W : fw_W} {e : Int} (hpre : 0 ≤ e ∧ e < 20000 ∧ ∀ j_, 0 ≤ j_ → j_ ≤ e → (fw_g W 376 j_) < j_) (hP : ∀ (v : Int) (W2 : fw_W), fw_sm [] 352 [39, 40] W W2 → (-2147483648 ≤ v ∧ v ≤ 2147483647 ∧ (True)) → Post (some (.inl v)) W2)  : ∀ (m : Nat) (st_ k c : Int) (f : fw_W), ((fw_g W 356 (fw_g W 352 22)) - c).toNat = m → 0 ≤ k ∧ k < 20000 ∧ 0 ≤ c → jf fw_T (d + 2) 275 29 [(0, .inr (.inl 352)), (2, .inl st_), (3, .inl k), (4, .inl c)] [] (fw_put [] 352 [39, 40] W f) Post := by
  intro m
  induction m using Nat.strongRecOn with
  | ind m ih =>
    intro st_ k c f hm hi
    refine jf_rng (fun hrg => ?_)
    have hrg : -2147483648 ≤ st_ ∧ st_ ≤ 2147483647 ∧ -2147483648 ≤ k ∧ k ≤ 2147483647 ∧ -2147483648 ≤ c ∧ c ≤ 2147483647 ∧ True := hrg
    refine s_layFirst_29 ?_
    repeat' (first
      | (exact True.intro)
      | (exact hpre.1)
      | (refine And.intro ?_ ?_)
      | (refine (ih _ (by omega) _ _ _ _ rfl ?_); (omega))
      | (refine jf_put (S := []) (o := 352) (F := [39, 40]) (W := W) (by repeat (first | exact fw_sm_refl | exact fw_sm_put0 | refine fw_sm_arr ?_ rfl | refine fw_sm_up ?_ rfl | refine fw_sm_put ?_ rfl | refine fw_sm_cp ?_ rfl)) (ih _ (by omega) _ _ _ _ rfl ?_); (omega))
      | (refine hP _ _ (by repeat (first | exact fw_sm_refl | exact fw_sm_put0 | refine fw_sm_arr ?_ rfl | refine fw_sm_up ?_ rfl | refine fw_sm_put ?_ rfl | refine fw_sm_cp ?_ rfl)) ?_; (refine ⟨by omega, by omega, ?_⟩; (first | trivial | omega)))
      | omega
      | (intro _))
theorem lm_layFirst_4 {Post : Option fw_V → fw_W → Prop} {d : Nat} {W : fw_W} {e : Int} (hpre : 0 ≤ e ∧ e < 20000 ∧ ∀ j_, 0 ≤ j_ → j_ ≤ e → (fw_g W 376 j_) < j_) (hP : ∀ (v : Int) (W2 : fw_W), fw_sm [] 352 [39, 40] W W2 → (-2147483648 ≤ v ∧ v ≤ 2147483647 ∧ (True)) → Post (some (.inl v)) W2)  : ∀ (m : Nat) (st_ k : Int) (f : fw_W), (k).toNat = m → ((0 ≤ k ∧ k ≤ e ∧ 1 ≤ st_ ∧ st_ + k ≤ e + 1) ∧ ∀ j_, 0 ≤ j_ → j_ ≤ e → (fw_g W 376 j_) < j_) → jf fw_T (d + 2) 275 4 [(0, .inr (.inl 352)), (2, .inl st_), (3, .inl k)] [] (fw_put [] 352 [39, 40] W f) Post := by
  intro m
  induction m using Nat.strongRecOn with
  | ind m ih =>
    intro st_ k f hm hi
    refine jf_rng (fun hrg => ?_)
    have hrg : -2147483648 ≤ st_ ∧ st_ ≤ 2147483647 ∧ -2147483648 ≤ k ∧ k ≤ 2147483647 ∧ True := hrg
    refine s_layFirst_4 ?_
    have hi1 := hi.1
    have hk := hi.2 k (by omega) (by omega)
    repeat' (first
      | (exact True.intro)
      | (exact hpre.1)
      | (refine And.intro ?_ ?_)
      | (refine (ih _ (by omega) _ _ _ rfl ?_); (exact ⟨by omega, hi.2⟩))
      | (refine jf_put (S := []) (o := 352) (F := [39, 40]) (W := W) (by repeat (first | exact fw_sm_refl | exact fw_sm_put0 | refine fw_sm_arr ?_ rfl | refine fw_sm_up ?_ rfl | refine fw_sm_put ?_ rfl | refine fw_sm_cp ?_ rfl)) (ih _ (by omega) _ _ _ rfl ?_); (exact ⟨by omega, hi.2⟩))
      | (refine (lm_layFirst_29 (e := e) hpre hP _ _ _ _ _ rfl ?_); (omega))
      | (refine jf_put (S := []) (o := 352) (F := [39, 40]) (W := W) (by repeat (first | exact fw_sm_refl | exact fw_sm_put0 | refine fw_sm_arr ?_ rfl | refine fw_sm_up ?_ rfl | refine fw_sm_put ?_ rfl | refine fw_sm_cp ?_ rfl)) (lm_layFirst_29 (e := e) hpre hP _ _ _ _ _ rfl ?_); (omega))
      | (refine hP _ _ (by repeat (first | exact fw_sm_refl | exact fw_sm_put0 | refine fw_sm_arr ?_ rfl | refine fw_sm_up ?_ rfl | refine fw_sm_put ?_ rfl | refine fw_sm_cp ?_ rfl)) ?_; (refine ⟨by omega, by omega, ?_⟩; (first | trivial | omega)))
      | omega
      | (intro _))
def x_layFirst : fw_X := fun as W Q => match as with
  | [.inr (.inl s_), .inl e] => fw_if (Nat.beq s_ 352) ((0 ≤ e ∧ e < 20000 ∧ ∀ j_, 0 ≤ j_ → j_ ≤ e → (fw_g W 376 j_) < j_) ∧ (∀ (v : Int) (f : fw_W), (-2147483648 ≤ v ∧ v ≤ 2147483647 ∧ (True)) → Q (some (.inl v)) (fw_put [] 352 [39, 40] W f)))
  | _ => False
theorem x_layFirst_ok (d : Nat) (as : List fw_V) (W : fw_W) (Q : Option fw_V → fw_W → Prop) (hx : x_layFirst as W Q) : jf fw_T (d + 2) 275 0 (fw_args 0 as) [] W Q := by
  unfold x_layFirst at hx
  split at hx
  · rename_i s_ e
    obtain ⟨e_, hpre, hQ⟩ := fw_if_ok hx
    have e_ := Nat.eq_of_beq_eq_true e_
    subst e_
    have hP : ∀ (v : Int) (W2 : fw_W), fw_sm [] 352 [39, 40] W W2 → _ → Q (some (.inl v)) W2 := fun v W2 hs hr => fw_sm_use (Q := fun Z => Q (some (.inl v)) Z) hs (hQ v W2 hr)
    refine s_layFirst_0 ?_
    repeat' (first
      | (exact True.intro)
      | (exact hpre.1)
      | (refine And.intro ?_ ?_)
      | (refine jf_put (S := []) (o := 352) (F := [39, 40]) (W := W) (by repeat (first | exact fw_sm_refl | exact fw_sm_put0 | refine fw_sm_arr ?_ rfl | refine fw_sm_up ?_ rfl | refine fw_sm_put ?_ rfl | refine fw_sm_cp ?_ rfl)) (lm_layFirst_4 (e := e) hpre hP _ _ _ _ rfl ?_); (exact ⟨by omega, hpre.2.2⟩))
      | (refine jf_put (S := []) (o := 352) (F := [39, 40]) (W := W) (by repeat (first | exact fw_sm_refl | exact fw_sm_put0 | refine fw_sm_arr ?_ rfl | refine fw_sm_up ?_ rfl | refine fw_sm_put ?_ rfl | refine fw_sm_cp ?_ rfl)) (lm_layFirst_29 (e := e) hpre hP _ _ _ _ _ rfl ?_); (first | omega | trivial | (simp (config := { decide := true }) only [fg_in, fg_fin, fg_out, fg_fout, fg_up, fg_same, true_and, and_true] <;> omega)))
      | (refine hP _ _ (by repeat (first | exact fw_sm_refl | exact fw_sm_put0 | refine fw_sm_arr ?_ rfl | refine fw_sm_up ?_ rfl | refine fw_sm_put ?_ rfl | refine fw_sm_cp ?_ rfl)) ?_; (refine ⟨by omega, by omega, ?_⟩; (first | trivial | omega)))
      | omega
      | (intro _))
  · exact hx.elim

def fr_271 : fw_P := [(0, 2, 0, 0, 0), (1, 2, 0, 0, 0), (2, 50, 12, 18, 0), (5, 64, 272, 1, 412), (8, 3, 1, 0, 0), (9, 0, 0, 0, 0), (10, 3, 2, 0, 0), (11, 1, 2, 0, 0), (12, 0, 0, 0, 65536), (14, 13, 30, 0, 0), (17, 2, 0, 0, 0), (18, 50, 12, 38, 0), (21, 1, 2, 0, 0), (22, 0, 0, 0, 0), (23, 55, 0, 0, 0), (24, 5, 2, 0, 1), (27, 6, 11, 0, 0), (30, 2, 0, 0, 0), (31, 50, 12, 36, 0), (34, 0, 0, 0, 0), (35, 2, 0, 0, 0), (36, 2, 0, 0, 0), (37, 50, 12, 17, 0), (40, 64, 272, 1, 412), (43, 53, 0, 0, 0), (44, 2, 0, 0, 0), (45, 50, 12, 37, 0), (48, 0, 0, 0, 0), (49, 0, 0, 0, -1), (50, 53, 0, 0, 0), (51, 2, 0, 0, 0), (52, 50, 12, 38, 0), (55, 2, 0, 0, 0), (56, 50, 12, 36, 0), (59, 0, 0, 0, 0), (60, 52, 0, 0, 0), (61, 0, 0, 0, 1), (62, 55, 0, 0, 0), (63, 0, 0, 0, 1), (64, 3, 2, 0, 0), (65, 2, 0, 0, 0), (66, 50, 12, 36, 0), (69, 0, 0, 0, 0), (70, 52, 0, 0, 0), (71, 1, 1, 0, 0), (72, 11, 77, 0, 0), (75, 0, 0, 0, 0), (76, 70, 0, 0, 0), (77, 0, 0, 0, 0), (78, 3, 3, 0, 0), (79, 1, 3, 0, 0), (80, 1, 2, 0, 0), (81, 13, 263, 0, 0), (84, 0, 0, 0, 0), (85, 3, 4, 0, 0), (87, 1, 4, 0, 0), (89, 2, 0, 0, 0), (90, 50, 12, 12, 0), (93, 2, 0, 0, 0), (94, 50, 12, 22, 0), (97, 52, 0, 0, 0), (98, 13, 257, 0, 0), (101, 2, 0, 0, 0), (102, 2, 0, 0, 0), (103, 50, 12, 36, 0), (106, 1, 3, 0, 0), (107, 52, 0, 0, 0), (108, 1, 4, 0, 0), (110, 64, 273, 2, 312), (113, 3, 5, 0, 0), (115, 0, 0, 0, 0), (116, 3, 6, 0, 0), (118, 1, 6, 0, 0), (120, 2, 0, 0, 0), (121, 64, 188, 0, 112), (124, 13, 251, 0, 0), (127, 1, 6, 0, 0), (129, 1, 5, 0, 0), (131, 10, 245, 0, 0), (134, 2, 0, 0, 0), (135, 1, 5, 0, 0), (137, 1, 6, 0, 0), (139, 64, 219, 2, 312), (142, 20, 245, 0, 0), (145, 2, 0, 0, 0), (146, 2, 0, 0, 0), (147, 50, 12, 36, 0), (150, 1, 3, 0, 0), (151, 52, 0, 0, 0), (152, 1, 6, 0, 0), (154, 64, 274, 2, 412), (157, 20, 163, 0, 0), (160, 6, 245, 0, 0), (163, 2, 0, 0, 0), (164, 50, 12, 36, 0), (167, 1, 3, 0, 0), (168, 52, 0, 0, 0), (169, 1, 6, 0, 0), (171, 1, 5, 0, 0), (173, 31, 0, 0, 0), (174, 0, 0, 0, 4), (175, 1, 4, 0, 0), (177, 32, 0, 0, 0), (178, 39, 0, 0, 0), (179, 30, 0, 0, 0), (180, 3, 7, 0, 0), (182, 2, 0, 0, 0), (183, 50, 12, 38, 0), (186, 1, 7, 0, 0), (188, 54, 0, 0, 0), (189, 20, 195, 0, 0), (192, 6, 245, 0, 0), (195, 1, 2, 0, 0), (196, 0, 0, 0, 20000), (199, 11, 205, 0, 0), (202, 0, 0, 0, -2), (204, 70, 0, 0, 0), (205, 2, 0, 0, 0), (206, 50, 12, 38, 0), (209, 1, 7, 0, 0), (211, 0, 0, 0, 1), (212, 55, 0, 0, 0), (213, 2, 0, 0, 0), (214, 50, 12, 36, 0), (217, 1, 2, 0, 0), (218, 1, 7, 0, 0), (220, 53, 0, 0, 0), (221, 2, 0, 0, 0), (222, 50, 12, 37, 0), (225, 1, 2, 0, 0), (226, 1, 3, 0, 0), (227, 53, 0, 0, 0), (228, 5, 2, 0, 1), (231, 1, 7, 0, 0), (233, 1, 1, 0, 0), (234, 11, 245, 0, 0), (237, 2, 0, 0, 0), (238, 1, 2, 0, 0), (239, 0, 0, 0, 1), (240, 31, 0, 0, 0), (241, 64, 275, 1, 512), (244, 70, 0, 0, 0), (245, 5, 6, 0, 1), (248, 6, 118, 0, 0), (251, 5, 4, 0, 1), (254, 6, 87, 0, 0), (257, 5, 3, 0, 1), (260, 6, 79, 0, 0), (263, 0, 0, 0, -1), (264, 70, 0, 0, 0)]
theorem fr_271_ok : fw_mk 271 8 12 (some .int) fr_271 = true := by decide +kernel
def ct_cartsBack : List (Nat × fw_X) := [(219, x_areNext), (274, x_isTaken), (275, x_layFirst), (188, x_many), (273, x_place), (272, x_stateOf)]
theorem ct_cartsBack_ok (d : Nat) : fw_cok fw_T (d + 2) ct_cartsBack := by
  intro q hq as W Q h
  simp only [ct_cartsBack, List.mem_cons, List.not_mem_nil, or_false] at hq
  rcases hq with rfl | rfl | rfl | rfl | rfl | rfl
  · exact jc_of (x_areNext_ok (d + 0) as W Q h)
  · exact jc_of (x_isTaken_ok (d + 0) as W Q h)
  · exact jc_of (x_layFirst_ok (d + 0) as W Q h)
  · exact jc_of (x_many_ok (d + 1) as W Q h)
  · exact jc_of (x_place_ok (d + 1) as W Q h)
  · exact jc_of (x_stateOf_ok (d + 1) as W Q h)
theorem s_cartsBack_0 {Post : Option fw_V → fw_W → Prop} {d : Nat} {W : fw_W}
    (hw_ : (True) ∧ (∀ (r1 : Int), ((-2147483648 ≤ r1 ∧ r1 ≤ 2147483647 ∧ (gs4 ((fw_g W 356 (fw_g W 352 22))) r1 ∧ 0 ≤ r1 ∧ r1 ≤ 65535))) → jf fw_T (d + 3) 271 11 [(0, .inr (.inl 352)), (1, .inl r1), (2, .inl (0 : Int))] [] W Post)) :
    jf fw_T (d + 3) 271 0 [(0, .inr (.inl 352))] [] W Post := fw_ok (n := 8) (ss := [(11, [0, 1, 2]), (79, [0, 1, 2, 3]), (87, [0, 1, 2, 3, 4]), (118, [0, 1, 2, 3, 4, 5, 6])]) (hv := []) fr_271_ok fm_ok (ct_cartsBack_ok d) hw_

set_option maxRecDepth 10000 in
theorem s_cartsBack_118 {Post : Option fw_V → fw_W → Prop} {d : Nat} {W : fw_W} {goal n i c here h : Int} {f : fw_W}
    (hw_ : (True) ∧ ((((fw_g W 366 0) ≤ h → -2147483648 ≤ c + (1 : Int) ∧ c + (1 : Int) ≤ 2147483647 ∧ (jf fw_T (d + 3) 271 87 [(0, .inr (.inl 352)), (1, .inl goal), (2, .inl n), (3, .inl i), (4, .inl (c + (1 : Int)))] [] (fw_put [375, 376, 377] 352 [39, 40] W f) Post)) ∧ (h < (fw_g W 366 0) → ((h = here → -2147483648 ≤ h + (1 : Int) ∧ h + (1 : Int) ≤ 2147483647 ∧ (jf fw_T (d + 3) 271 118 [(0, .inr (.inl 352)), (1, .inl goal), (2, .inl n), (3, .inl i), (4, .inl c), (5, .inl here), (6, .inl (h + (1 : Int)))] [] (fw_put [375, 376, 377] 352 [39, 40] W f) Post)) ∧ (¬ h = here → (0 ≤ here ∧ here < 14 ∧ 0 ≤ h ∧ h < 14) ∧ (∀ (r1 : Int), ((0 ≤ r1 ∧ r1 ≤ 1 ∧ ((r1 = 1 ∧ ((fw_g W 366 (2 + 3 * here)) = h ∨ (fw_g W 366 (2 + 3 * h)) = here)) ∨ (r1 = 0 ∧ ¬ (fw_g W 366 (2 + 3 * here)) = h ∧ ¬ (fw_g W 366 (2 + 3 * h)) = here)))) → ((r1 = 0 → -2147483648 ≤ h + (1 : Int) ∧ h + (1 : Int) ≤ 2147483647 ∧ (jf fw_T (d + 3) 271 118 [(0, .inr (.inl 352)), (1, .inl goal), (2, .inl n), (3, .inl i), (4, .inl c), (5, .inl here), (6, .inl (h + (1 : Int)))] [] (fw_put [375, 376, 377] 352 [39, 40] W f) Post)) ∧ (¬ r1 = 0 → 0 ≤ i ∧ i < 20000 ∧ (0 ≤ (fw_g f 375 i) → (fw_g f 375 i) ≤ 65535 → (0 ≤ (fw_g f 375 i) ∧ (fw_g f 375 i) ≤ 65535) ∧ (∀ (r2 : Int), ((0 ≤ r2 ∧ r2 ≤ 1 ∧ (True))) → ((r2 = 0 → 0 ≤ i ∧ i < 20000 ∧ (0 ≤ (fw_g f 375 i) → (fw_g f 375 i) ≤ 65535 → -2147483648 ≤ h - here ∧ h - here ≤ 2147483647 ∧ (-2147483648 ≤ (4 : Int) * c ∧ (4 : Int) * c ≤ 2147483647 ∧ ((-2147483648 ≤ (fw_shl (h - here) ((4 : Int) * c)) → (fw_shl (h - here) ((4 : Int) * c)) ≤ 2147483647 → -2147483648 ≤ (fw_g f 375 i) + (fw_shl (h - here) ((4 : Int) * c)) ∧ (fw_g f 375 i) + (fw_shl (h - here) ((4 : Int) * c)) ≤ 2147483647 ∧ (0 ≤ ((fw_g f 375 i) + (fw_shl (h - here) ((4 : Int) * c))) ∧ ((fw_g f 375 i) + (fw_shl (h - here) ((4 : Int) * c))) < 65536 ∧ (0 ≤ (fw_g f 377 ((fw_g f 375 i) + (fw_shl (h - here) ((4 : Int) * c)))) → (fw_g f 377 ((fw_g f 375 i) + (fw_shl (h - here) ((4 : Int) * c)))) ≤ 1 → (((fw_g f 377 ((fw_g f 375 i) + (fw_shl (h - here) ((4 : Int) * c)))) = 0 → ((¬ n = (20000 : Int) → 0 ≤ ((fw_g f 375 i) + (fw_shl (h - here) ((4 : Int) * c))) ∧ ((fw_g f 375 i) + (fw_shl (h - here) ((4 : Int) * c))) < 65536 ∧ 0 ≤ (1 : Int) ∧ (1 : Int) ≤ 1 ∧ 0 ≤ (1 : Int) ∧ (1 : Int) ≤ 1 ∧ (0 ≤ n ∧ n < 20000 ∧ 0 ≤ ((fw_g f 375 i) + (fw_shl (h - here) ((4 : Int) * c))) ∧ ((fw_g f 375 i) + (fw_shl (h - here) ((4 : Int) * c))) ≤ 65535 ∧ (0 ≤ n ∧ n < 20000 ∧ -1 ≤ i ∧ i ≤ 19999 ∧ (-2147483648 ≤ n + (1 : Int) ∧ n + (1 : Int) ≤ 2147483647 ∧ (((¬ ((fw_g f 375 i) + (fw_shl (h - here) ((4 : Int) * c))) = goal → -2147483648 ≤ h + (1 : Int) ∧ h + (1 : Int) ≤ 2147483647 ∧ (jf fw_T (d + 3) 271 118 [(0, .inr (.inl 352)), (1, .inl goal), (2, .inl (n + (1 : Int))), (3, .inl i), (4, .inl c), (5, .inl here), (6, .inl (h + (1 : Int)))] [] (fw_up (fw_up (fw_up (fw_put [375, 376, 377] 352 [39, 40] W f) 377 ((fw_g f 375 i) + (fw_shl (h - here) ((4 : Int) * c))) (1 : Int)) 375 n ((fw_g f 375 i) + (fw_shl (h - here) ((4 : Int) * c)))) 376 n i) Post)) ∧ (((fw_g f 375 i) + (fw_shl (h - here) ((4 : Int) * c))) = goal → -2147483648 ≤ (n + (1 : Int)) - (1 : Int) ∧ (n + (1 : Int)) - (1 : Int) ≤ 2147483647 ∧ ((0 ≤ ((n + (1 : Int)) - (1 : Int)) ∧ ((n + (1 : Int)) - (1 : Int)) < 20000 ∧ ∀ j_, 0 ≤ j_ → j_ ≤ ((n + (1 : Int)) - (1 : Int)) → (fw_g (fw_up (fw_up (fw_up (fw_put [375, 376, 377] 352 [39, 40] W f) 377 ((fw_g f 375 i) + (fw_shl (h - here) ((4 : Int) * c))) (1 : Int)) 375 n ((fw_g f 375 i) + (fw_shl (h - here) ((4 : Int) * c)))) 376 n i) 376 j_) < j_) ∧ (∀ (r3 : Int) (f4 : fw_W), ((-2147483648 ≤ r3 ∧ r3 ≤ 2147483647 ∧ (True))) → (-2147483648 ≤ r3 → r3 ≤ 2147483647 → Post (some (.inl r3)) (fw_put [] 352 [39, 40] (fw_up (fw_up (fw_up (fw_put [375, 376, 377] 352 [39, 40] W f) 377 ((fw_g f 375 i) + (fw_shl (h - here) ((4 : Int) * c))) (1 : Int)) 375 n ((fw_g f 375 i) + (fw_shl (h - here) ((4 : Int) * c)))) 376 n i) f4))))))))))) ∧ (n = (20000 : Int) → (-2147483648 ≤ (-2 : Int) → (-2 : Int) ≤ 2147483647 → Post (some (.inl (-2 : Int))) (fw_put [375, 376, 377] 352 [39, 40] W f))))) ∧ (¬ (fw_g f 377 ((fw_g f 375 i) + (fw_shl (h - here) ((4 : Int) * c)))) = 0 → -2147483648 ≤ h + (1 : Int) ∧ h + (1 : Int) ≤ 2147483647 ∧ (jf fw_T (d + 3) 271 118 [(0, .inr (.inl 352)), (1, .inl goal), (2, .inl n), (3, .inl i), (4, .inl c), (5, .inl here), (6, .inl (h + (1 : Int)))] [] (fw_put [375, 376, 377] 352 [39, 40] W f) Post)))))))))) ∧ (¬ r2 = 0 → -2147483648 ≤ h + (1 : Int) ∧ h + (1 : Int) ≤ 2147483647 ∧ (jf fw_T (d + 3) 271 118 [(0, .inr (.inl 352)), (1, .inl goal), (2, .inl n), (3, .inl i), (4, .inl c), (5, .inl here), (6, .inl (h + (1 : Int)))] [] (fw_put [375, 376, 377] 352 [39, 40] W f) Post)))))))))))))) :
    jf fw_T (d + 3) 271 118 [(0, .inr (.inl 352)), (1, .inl goal), (2, .inl n), (3, .inl i), (4, .inl c), (5, .inl here), (6, .inl h)] [] (fw_put [375, 376, 377] 352 [39, 40] W f) Post := fw_ok (n := 67) (ss := [(11, [0, 1, 2]), (79, [0, 1, 2, 3]), (87, [0, 1, 2, 3, 4]), (118, [0, 1, 2, 3, 4, 5, 6])]) (hv := []) fr_271_ok fm_ok (ct_cartsBack_ok d) hw_

theorem s_cartsBack_87 {Post : Option fw_V → fw_W → Prop} {d : Nat} {W : fw_W} {goal n i c : Int} {f : fw_W}
    (hw_ : (0 ≤ (fw_g W 352 22) → (fw_g W 352 22) ≤ 1 → 0 ≤ (fw_g W 352 22) ∧ (fw_g W 352 22) < 2 ∧ (0 ≤ (fw_g W 356 (fw_g W 352 22)) → (fw_g W 356 (fw_g W 352 22)) ≤ 4 → (((fw_g W 356 (fw_g W 352 22)) ≤ c → -2147483648 ≤ i + (1 : Int) ∧ i + (1 : Int) ≤ 2147483647 ∧ (jf fw_T (d + 3) 271 79 [(0, .inr (.inl 352)), (1, .inl goal), (2, .inl n), (3, .inl (i + (1 : Int)))] [] (fw_put [375, 376, 377] 352 [39, 40] W f) Post)) ∧ (c < (fw_g W 356 (fw_g W 352 22)) → 0 ≤ i ∧ i < 20000 ∧ (0 ≤ (fw_g f 375 i) → (fw_g f 375 i) ≤ 65535 → (0 ≤ (fw_g f 375 i) ∧ (fw_g f 375 i) ≤ 65535 ∧ 0 ≤ c ∧ c ≤ 3) ∧ (∀ (r1 : Int), ((-2147483648 ≤ r1 ∧ r1 ≤ 2147483647 ∧ (r1 = nb4 (fw_g f 375 i) c ∧ 0 ≤ r1 ∧ r1 ≤ 15))) → jf fw_T (d + 3) 271 118 [(0, .inr (.inl 352)), (1, .inl goal), (2, .inl n), (3, .inl i), (4, .inl c), (5, .inl r1), (6, .inl (0 : Int))] [] (fw_put [375, 376, 377] 352 [39, 40] W f) Post))))))) :
    jf fw_T (d + 3) 271 87 [(0, .inr (.inl 352)), (1, .inl goal), (2, .inl n), (3, .inl i), (4, .inl c)] [] (fw_put [375, 376, 377] 352 [39, 40] W f) Post := fw_ok (n := 18) (ss := [(11, [0, 1, 2]), (79, [0, 1, 2, 3]), (87, [0, 1, 2, 3, 4]), (118, [0, 1, 2, 3, 4, 5, 6])]) (hv := []) fr_271_ok fm_ok (ct_cartsBack_ok d) hw_

theorem s_cartsBack_79 {Post : Option fw_V → fw_W → Prop} {d : Nat} {W : fw_W} {goal n i : Int} {f : fw_W}
    (hw_ : ((n ≤ i → (-2147483648 ≤ (-1 : Int) → (-1 : Int) ≤ 2147483647 → Post (some (.inl (-1 : Int))) (fw_put [375, 376, 377] 352 [39, 40] W f))) ∧ (i < n → jf fw_T (d + 3) 271 87 [(0, .inr (.inl 352)), (1, .inl goal), (2, .inl n), (3, .inl i), (4, .inl (0 : Int))] [] (fw_put [375, 376, 377] 352 [39, 40] W f) Post))) :
    jf fw_T (d + 3) 271 79 [(0, .inr (.inl 352)), (1, .inl goal), (2, .inl n), (3, .inl i)] [] (fw_put [375, 376, 377] 352 [39, 40] W f) Post := fw_ok (n := 6) (ss := [(11, [0, 1, 2]), (79, [0, 1, 2, 3]), (87, [0, 1, 2, 3, 4]), (118, [0, 1, 2, 3, 4, 5, 6])]) (hv := []) fr_271_ok fm_ok (ct_cartsBack_ok d) hw_

theorem s_cartsBack_11 {Post : Option fw_V → fw_W → Prop} {d : Nat} {W : fw_W} {goal n : Int} {f : fw_W}
    (hw_ : (((65536 : Int) ≤ n → (True) ∧ (∀ (r1 : Int), ((-2147483648 ≤ r1 ∧ r1 ≤ 2147483647 ∧ (gs4 ((fw_g W 356 (fw_g W 352 22))) r1 ∧ 0 ≤ r1 ∧ r1 ≤ 65535))) → 0 ≤ (0 : Int) ∧ (0 : Int) < 20000 ∧ 0 ≤ r1 ∧ r1 ≤ 65535 ∧ (0 ≤ (0 : Int) ∧ (0 : Int) < 20000 ∧ -1 ≤ (-1 : Int) ∧ (-1 : Int) ≤ 19999 ∧ (0 ≤ (0 : Int) ∧ (0 : Int) < 20000 ∧ (0 ≤ (fw_g (fw_up (fw_put [375, 376, 377] 352 [39, 40] W f) 375 (0 : Int) r1) 375 (0 : Int)) → (fw_g (fw_up (fw_put [375, 376, 377] 352 [39, 40] W f) 375 (0 : Int) r1) 375 (0 : Int)) ≤ 65535 → 0 ≤ (fw_g (fw_up (fw_put [375, 376, 377] 352 [39, 40] W f) 375 (0 : Int) r1) 375 (0 : Int)) ∧ (fw_g (fw_up (fw_put [375, 376, 377] 352 [39, 40] W f) 375 (0 : Int) r1) 375 (0 : Int)) < 65536 ∧ 0 ≤ (1 : Int) ∧ (1 : Int) ≤ 1 ∧ 0 ≤ (1 : Int) ∧ (1 : Int) ≤ 1 ∧ (0 ≤ (0 : Int) ∧ (0 : Int) < 20000 ∧ (0 ≤ (fw_g (fw_up (fw_put [375, 376, 377] 352 [39, 40] W f) 375 (0 : Int) r1) 375 (0 : Int)) → (fw_g (fw_up (fw_put [375, 376, 377] 352 [39, 40] W f) 375 (0 : Int) r1) 375 (0 : Int)) ≤ 65535 → ((¬ (fw_g (fw_up (fw_put [375, 376, 377] 352 [39, 40] W f) 375 (0 : Int) r1) 375 (0 : Int)) = goal → jf fw_T (d + 3) 271 79 [(0, .inr (.inl 352)), (1, .inl goal), (2, .inl (1 : Int)), (3, .inl (0 : Int))] [] (fw_up (fw_up (fw_up (fw_put [375, 376, 377] 352 [39, 40] W f) 375 (0 : Int) r1) 376 (0 : Int) (-1 : Int)) 377 (fw_g (fw_up (fw_put [375, 376, 377] 352 [39, 40] W f) 375 (0 : Int) r1) 375 (0 : Int)) (1 : Int)) Post) ∧ ((fw_g (fw_up (fw_put [375, 376, 377] 352 [39, 40] W f) 375 (0 : Int) r1) 375 (0 : Int)) = goal → (-2147483648 ≤ (0 : Int) → (0 : Int) ≤ 2147483647 → Post (some (.inl (0 : Int))) (fw_up (fw_up (fw_up (fw_put [375, 376, 377] 352 [39, 40] W f) 375 (0 : Int) r1) 376 (0 : Int) (-1 : Int)) 377 (fw_g (fw_up (fw_put [375, 376, 377] 352 [39, 40] W f) 375 (0 : Int) r1) 375 (0 : Int)) (1 : Int)))))))))))) ∧ (n < (65536 : Int) → 0 ≤ n ∧ n < 65536 ∧ 0 ≤ (0 : Int) ∧ (0 : Int) ≤ 1 ∧ 0 ≤ (0 : Int) ∧ (0 : Int) ≤ 1 ∧ (-2147483648 ≤ n + (1 : Int) ∧ n + (1 : Int) ≤ 2147483647 ∧ (jf fw_T (d + 3) 271 11 [(0, .inr (.inl 352)), (1, .inl goal), (2, .inl (n + (1 : Int)))] [] (fw_up (fw_put [375, 376, 377] 352 [39, 40] W f) 377 n (0 : Int)) Post))))) :
    jf fw_T (d + 3) 271 11 [(0, .inr (.inl 352)), (1, .inl goal), (2, .inl n)] [] (fw_put [375, 376, 377] 352 [39, 40] W f) Post := fw_ok (n := 35) (ss := [(11, [0, 1, 2]), (79, [0, 1, 2, 3]), (87, [0, 1, 2, 3, 4]), (118, [0, 1, 2, 3, 4, 5, 6])]) (hv := []) fr_271_ok fm_ok (ct_cartsBack_ok d) hw_

theorem lm_cartsBack_118 {Post : Option fw_V → fw_W → Prop} {d : Nat} {W : fw_W} (hpre : mt W ∧ 0 ≤ (fw_g W 366 0) ∧ (fw_g W 366 0) ≤ 14) (hP : ∀ (v : Int) (W2 : fw_W), fw_sm [375, 376, 377] 352 [39, 40] W W2 → (-2147483648 ≤ v ∧ v ≤ 2147483647 ∧ (True)) → Post (some (.inl v)) W2) (M79 : Int) (h79 : ∀ (goal n i : Int) (f : fw_W), ((1 ≤ n ∧ n ≤ 20000 ∧ 0 ≤ i ∧ i ≤ n) ∧ (∀ j_, 0 ≤ j_ → j_ < n → gs4 ((fw_g W 356 (fw_g W 352 22))) ((fw_g f 375 j_)) ∧ (fw_g f 376 j_) < j_)) → (20000 - i) < M79 → jf fw_T (d + 3) 271 79 [(0, .inr (.inl 352)), (1, .inl goal), (2, .inl n), (3, .inl i)] [] (fw_put [375, 376, 377] 352 [39, 40] W f) Post) (M87 : Int) (h87 : ∀ (goal n i c : Int) (f : fw_W), ((1 ≤ n ∧ n ≤ 20000 ∧ 0 ≤ i ∧ i < n ∧ 0 ≤ c) ∧ (∀ j_, 0 ≤ j_ → j_ < n → gs4 ((fw_g W 356 (fw_g W 352 22))) ((fw_g f 375 j_)) ∧ (fw_g f 376 j_) < j_)) → ((fw_g W 356 (fw_g W 352 22)) - c) < M87 → (20000 - i) ≤ M79 → jf fw_T (d + 3) 271 87 [(0, .inr (.inl 352)), (1, .inl goal), (2, .inl n), (3, .inl i), (4, .inl c)] [] (fw_put [375, 376, 377] 352 [39, 40] W f) Post) : ∀ (m : Nat) (goal n i c here h : Int) (f : fw_W), ((fw_g W 366 0) - h).toNat = m → ((1 ≤ n ∧ n ≤ 20000 ∧ 0 ≤ i ∧ i < n ∧ 0 ≤ c ∧ c < (fw_g W 356 (fw_g W 352 22)) ∧ (fw_g W 356 (fw_g W 352 22)) ≤ 4 ∧ 0 ≤ h ∧ here = nb4 ((fw_g f 375 i)) c ∧ 0 ≤ here ∧ here < 14) ∧ (∀ j_, 0 ≤ j_ → j_ < n → gs4 ((fw_g W 356 (fw_g W 352 22))) ((fw_g f 375 j_)) ∧ (fw_g f 376 j_) < j_)) → ((fw_g W 356 (fw_g W 352 22)) - c) ≤ M87 → (20000 - i) ≤ M79 → jf fw_T (d + 3) 271 118 [(0, .inr (.inl 352)), (1, .inl goal), (2, .inl n), (3, .inl i), (4, .inl c), (5, .inl here), (6, .inl h)] [] (fw_put [375, 376, 377] 352 [39, 40] W f) Post := by
  intro m
  induction m using Nat.strongRecOn with
  | ind m ih =>
    intro goal n i c here h f hm hi e87 e79
    refine jf_rng (fun hrg => ?_)
    have hrg : -2147483648 ≤ goal ∧ goal ≤ 2147483647 ∧ -2147483648 ≤ n ∧ n ≤ 2147483647 ∧ -2147483648 ≤ i ∧ i ≤ 2147483647 ∧ -2147483648 ≤ c ∧ c ≤ 2147483647 ∧ -2147483648 ≤ here ∧ here ≤ 2147483647 ∧ -2147483648 ≤ h ∧ h ≤ 2147483647 ∧ True := hrg
    refine s_cartsBack_118 ?_
    have hi1 := hi.1
    have hq := (hi.2 i (by omega) (by omega)).1
    have hq1 := hq.1
    have hq2 := hq.2.1
    have hup : h < 14 → gs4 ((fw_g W 356 (fw_g W 352 22))) ((fw_g f 375 i) + fw_shl (h - here) (4 * c)) := fun z => by
      rw [sh_eq (by omega) (by omega) (by omega) (by omega), hi1.2.2.2.2.2.2.2.2.1]
      exact gs4_up hq (by omega) (by omega) (by omega) (by omega) z
    have hu1 : h < 14 → 0 ≤ (fw_g f 375 i) + fw_shl (h - here) (4 * c) ∧ (fw_g f 375 i) + fw_shl (h - here) (4 * c) ≤ 65535 := fun z => ⟨(hup z).1, (hup z).2.1⟩
    repeat' (first
      | (intro j j0 j1
         rw [fg_if (by omega) (by omega) (by omega) (by omega)]
         by_cases e : n = j
         · rw [if_pos e]; omega
         · rw [if_neg e, fg_up rfl, fg_up rfl]; exact (hi.2 j j0 (by omega)).2)
      | (exact True.intro)
      | (exact hpre.1)
      | (refine And.intro ?_ ?_)
      | (refine (h79 _ _ _ _ ?_ (by omega)); (first | omega | trivial | (simp (config := { decide := true }) only [fg_in, fg_fin, fg_out, fg_fout, fg_up, fg_same, true_and, and_true] <;> omega)))
      | (refine jf_put (S := [375, 376, 377]) (o := 352) (F := [39, 40]) (W := W) (by repeat (first | exact fw_sm_refl | exact fw_sm_put0 | refine fw_sm_arr ?_ rfl | refine fw_sm_up ?_ rfl | refine fw_sm_put ?_ rfl | refine fw_sm_cp ?_ rfl)) (h79 _ _ _ _ ?_ (by omega)); (first | omega | trivial | (simp (config := { decide := true }) only [fg_in, fg_fin, fg_out, fg_fout, fg_up, fg_same, true_and, and_true] <;> omega)))
      | (refine (h87 _ _ _ _ _ ?_ (by omega) (by omega)); (exact ⟨by omega, hi.2⟩))
      | (refine jf_put (S := [375, 376, 377]) (o := 352) (F := [39, 40]) (W := W) (by repeat (first | exact fw_sm_refl | exact fw_sm_put0 | refine fw_sm_arr ?_ rfl | refine fw_sm_up ?_ rfl | refine fw_sm_put ?_ rfl | refine fw_sm_cp ?_ rfl)) (h87 _ _ _ _ _ ?_ (by omega) (by omega)); (exact ⟨by omega, hi.2⟩))
      | (refine (ih _ (by omega) _ _ _ _ _ _ _ rfl ?_ (by omega) (by omega)); (
        first
          | exact ⟨by omega, hi.2⟩
          | (have hn2 : ∀ X t, fw_g (fw_up (fw_up (fw_up X 377 t 1) 375 n t) 376 n i) 375 i = fw_g X 375 i := fun X t => by rw [fg_up rfl, fw_g_un (by omega) (by omega) (by omega), fg_up rfl]
             refine ⟨⟨by omega, by omega, by omega, by omega, by omega, by omega, by omega, by omega, ?_, by omega, by omega⟩, fun j j0 j1 => ⟨?_, ?_⟩⟩
             · rw [hn2]; exact hi1.2.2.2.2.2.2.2.2.1
             · rw [fg_up rfl, fg_if (by omega) (by omega) (by have := hu1 (by omega); omega) (by have := hu1 (by omega); omega)]
               by_cases e : n = j
               · rw [if_pos e]; exact hup (by omega)
               · rw [if_neg e, fg_up rfl]; exact (hi.2 j j0 (by omega)).1
             · rw [fg_if (by omega) (by omega) (by omega) (by omega)]
               by_cases e : n = j
               · rw [if_pos e]; omega
               · rw [if_neg e, fg_up rfl, fg_up rfl]; exact (hi.2 j j0 (by omega)).2)))
      | (refine jf_put (S := [375, 376, 377]) (o := 352) (F := [39, 40]) (W := W) (by repeat (first | exact fw_sm_refl | exact fw_sm_put0 | refine fw_sm_arr ?_ rfl | refine fw_sm_up ?_ rfl | refine fw_sm_put ?_ rfl | refine fw_sm_cp ?_ rfl)) (ih _ (by omega) _ _ _ _ _ _ _ rfl ?_ (by omega) (by omega)); (
        first
          | exact ⟨by omega, hi.2⟩
          | (have hn2 : ∀ X t, fw_g (fw_up (fw_up (fw_up X 377 t 1) 375 n t) 376 n i) 375 i = fw_g X 375 i := fun X t => by rw [fg_up rfl, fw_g_un (by omega) (by omega) (by omega), fg_up rfl]
             refine ⟨⟨by omega, by omega, by omega, by omega, by omega, by omega, by omega, by omega, ?_, by omega, by omega⟩, fun j j0 j1 => ⟨?_, ?_⟩⟩
             · rw [hn2]; exact hi1.2.2.2.2.2.2.2.2.1
             · rw [fg_up rfl, fg_if (by omega) (by omega) (by have := hu1 (by omega); omega) (by have := hu1 (by omega); omega)]
               by_cases e : n = j
               · rw [if_pos e]; exact hup (by omega)
               · rw [if_neg e, fg_up rfl]; exact (hi.2 j j0 (by omega)).1
             · rw [fg_if (by omega) (by omega) (by omega) (by omega)]
               by_cases e : n = j
               · rw [if_pos e]; omega
               · rw [if_neg e, fg_up rfl, fg_up rfl]; exact (hi.2 j j0 (by omega)).2)))
      | (refine hP _ _ (by repeat (first | exact fw_sm_refl | exact fw_sm_put0 | refine fw_sm_arr ?_ rfl | refine fw_sm_up ?_ rfl | refine fw_sm_put ?_ rfl | refine fw_sm_cp ?_ rfl)) ?_; (refine ⟨by omega, by omega, ?_⟩; (first | trivial | omega)))
      | omega
      | (intro _))
theorem lm_cartsBack_87 {Post : Option fw_V → fw_W → Prop} {d : Nat} {W : fw_W} (hpre : mt W ∧ 0 ≤ (fw_g W 366 0) ∧ (fw_g W 366 0) ≤ 14) (hP : ∀ (v : Int) (W2 : fw_W), fw_sm [375, 376, 377] 352 [39, 40] W W2 → (-2147483648 ≤ v ∧ v ≤ 2147483647 ∧ (True)) → Post (some (.inl v)) W2) (M79 : Int) (h79 : ∀ (goal n i : Int) (f : fw_W), ((1 ≤ n ∧ n ≤ 20000 ∧ 0 ≤ i ∧ i ≤ n) ∧ (∀ j_, 0 ≤ j_ → j_ < n → gs4 ((fw_g W 356 (fw_g W 352 22))) ((fw_g f 375 j_)) ∧ (fw_g f 376 j_) < j_)) → (20000 - i) < M79 → jf fw_T (d + 3) 271 79 [(0, .inr (.inl 352)), (1, .inl goal), (2, .inl n), (3, .inl i)] [] (fw_put [375, 376, 377] 352 [39, 40] W f) Post) : ∀ (m : Nat) (goal n i c : Int) (f : fw_W), ((fw_g W 356 (fw_g W 352 22)) - c).toNat = m → ((1 ≤ n ∧ n ≤ 20000 ∧ 0 ≤ i ∧ i < n ∧ 0 ≤ c) ∧ (∀ j_, 0 ≤ j_ → j_ < n → gs4 ((fw_g W 356 (fw_g W 352 22))) ((fw_g f 375 j_)) ∧ (fw_g f 376 j_) < j_)) → (20000 - i) ≤ M79 → jf fw_T (d + 3) 271 87 [(0, .inr (.inl 352)), (1, .inl goal), (2, .inl n), (3, .inl i), (4, .inl c)] [] (fw_put [375, 376, 377] 352 [39, 40] W f) Post := by
  intro m
  induction m using Nat.strongRecOn with
  | ind m ih =>
    intro goal n i c f hm hi e79
    refine jf_rng (fun hrg => ?_)
    have hrg : -2147483648 ≤ goal ∧ goal ≤ 2147483647 ∧ -2147483648 ≤ n ∧ n ≤ 2147483647 ∧ -2147483648 ≤ i ∧ i ≤ 2147483647 ∧ -2147483648 ≤ c ∧ c ≤ 2147483647 ∧ True := hrg
    refine s_cartsBack_87 ?_
    have hi1 := hi.1
    have hq := (hi.2 i (by omega) (by omega)).1
    have hq1 := hq.1
    have hq2 := hq.2.1
    have hq3 := hq.2.2 c (by omega)
    repeat' (first
      | (exact True.intro)
      | (exact hpre.1)
      | (refine And.intro ?_ ?_)
      | (refine (h79 _ _ _ _ ?_ (by omega)); (exact ⟨by omega, hi.2⟩))
      | (refine jf_put (S := [375, 376, 377]) (o := 352) (F := [39, 40]) (W := W) (by repeat (first | exact fw_sm_refl | exact fw_sm_put0 | refine fw_sm_arr ?_ rfl | refine fw_sm_up ?_ rfl | refine fw_sm_put ?_ rfl | refine fw_sm_cp ?_ rfl)) (h79 _ _ _ _ ?_ (by omega)); (exact ⟨by omega, hi.2⟩))
      | (refine (ih _ (by omega) _ _ _ _ _ rfl ?_ (by omega)); (first | omega | trivial | (simp (config := { decide := true }) only [fg_in, fg_fin, fg_out, fg_fout, fg_up, fg_same, true_and, and_true] <;> omega)))
      | (refine jf_put (S := [375, 376, 377]) (o := 352) (F := [39, 40]) (W := W) (by repeat (first | exact fw_sm_refl | exact fw_sm_put0 | refine fw_sm_arr ?_ rfl | refine fw_sm_up ?_ rfl | refine fw_sm_put ?_ rfl | refine fw_sm_cp ?_ rfl)) (ih _ (by omega) _ _ _ _ _ rfl ?_ (by omega)); (first | omega | trivial | (simp (config := { decide := true }) only [fg_in, fg_fin, fg_out, fg_fout, fg_up, fg_same, true_and, and_true] <;> omega)))
      | (refine (lm_cartsBack_118 hpre hP M79 h79 ((fw_g W 356 (fw_g W 352 22)) - c) (fun a0 a1 a2 a3 af hi hl e79 => ih _ (by omega) a0 a1 a2 a3 af rfl hi e79) _ _ _ _ _ _ _ _ rfl ?_ (by omega) (by omega)); (exact ⟨by omega, hi.2⟩))
      | (refine jf_put (S := [375, 376, 377]) (o := 352) (F := [39, 40]) (W := W) (by repeat (first | exact fw_sm_refl | exact fw_sm_put0 | refine fw_sm_arr ?_ rfl | refine fw_sm_up ?_ rfl | refine fw_sm_put ?_ rfl | refine fw_sm_cp ?_ rfl)) (lm_cartsBack_118 hpre hP M79 h79 ((fw_g W 356 (fw_g W 352 22)) - c) (fun a0 a1 a2 a3 af hi hl e79 => ih _ (by omega) a0 a1 a2 a3 af rfl hi e79) _ _ _ _ _ _ _ _ rfl ?_ (by omega) (by omega)); (exact ⟨by omega, hi.2⟩))
      | (refine hP _ _ (by repeat (first | exact fw_sm_refl | exact fw_sm_put0 | refine fw_sm_arr ?_ rfl | refine fw_sm_up ?_ rfl | refine fw_sm_put ?_ rfl | refine fw_sm_cp ?_ rfl)) ?_; (refine ⟨by omega, by omega, ?_⟩; (first | trivial | omega)))
      | omega
      | (intro _))
theorem lm_cartsBack_79 {Post : Option fw_V → fw_W → Prop} {d : Nat} {W : fw_W} (hpre : mt W ∧ 0 ≤ (fw_g W 366 0) ∧ (fw_g W 366 0) ≤ 14) (hP : ∀ (v : Int) (W2 : fw_W), fw_sm [375, 376, 377] 352 [39, 40] W W2 → (-2147483648 ≤ v ∧ v ≤ 2147483647 ∧ (True)) → Post (some (.inl v)) W2)  : ∀ (m : Nat) (goal n i : Int) (f : fw_W), (20000 - i).toNat = m → ((1 ≤ n ∧ n ≤ 20000 ∧ 0 ≤ i ∧ i ≤ n) ∧ (∀ j_, 0 ≤ j_ → j_ < n → gs4 ((fw_g W 356 (fw_g W 352 22))) ((fw_g f 375 j_)) ∧ (fw_g f 376 j_) < j_)) → jf fw_T (d + 3) 271 79 [(0, .inr (.inl 352)), (1, .inl goal), (2, .inl n), (3, .inl i)] [] (fw_put [375, 376, 377] 352 [39, 40] W f) Post := by
  intro m
  induction m using Nat.strongRecOn with
  | ind m ih =>
    intro goal n i f hm hi
    refine jf_rng (fun hrg => ?_)
    have hrg : -2147483648 ≤ goal ∧ goal ≤ 2147483647 ∧ -2147483648 ≤ n ∧ n ≤ 2147483647 ∧ -2147483648 ≤ i ∧ i ≤ 2147483647 ∧ True := hrg
    refine s_cartsBack_79 ?_
    have hi1 := hi.1
    repeat' (first
      | (exact True.intro)
      | (exact hpre.1)
      | (refine And.intro ?_ ?_)
      | (refine (ih _ (by omega) _ _ _ _ rfl ?_); (first | omega | trivial | (simp (config := { decide := true }) only [fg_in, fg_fin, fg_out, fg_fout, fg_up, fg_same, true_and, and_true] <;> omega)))
      | (refine jf_put (S := [375, 376, 377]) (o := 352) (F := [39, 40]) (W := W) (by repeat (first | exact fw_sm_refl | exact fw_sm_put0 | refine fw_sm_arr ?_ rfl | refine fw_sm_up ?_ rfl | refine fw_sm_put ?_ rfl | refine fw_sm_cp ?_ rfl)) (ih _ (by omega) _ _ _ _ rfl ?_); (first | omega | trivial | (simp (config := { decide := true }) only [fg_in, fg_fin, fg_out, fg_fout, fg_up, fg_same, true_and, and_true] <;> omega)))
      | (refine (lm_cartsBack_87 hpre hP (20000 - i) (fun a0 a1 a2 af hi hl => ih _ (by omega) a0 a1 a2 af rfl hi) _ _ _ _ _ _ rfl ?_ (by omega)); (exact ⟨by omega, hi.2⟩))
      | (refine jf_put (S := [375, 376, 377]) (o := 352) (F := [39, 40]) (W := W) (by repeat (first | exact fw_sm_refl | exact fw_sm_put0 | refine fw_sm_arr ?_ rfl | refine fw_sm_up ?_ rfl | refine fw_sm_put ?_ rfl | refine fw_sm_cp ?_ rfl)) (lm_cartsBack_87 hpre hP (20000 - i) (fun a0 a1 a2 af hi hl => ih _ (by omega) a0 a1 a2 af rfl hi) _ _ _ _ _ _ rfl ?_ (by omega)); (exact ⟨by omega, hi.2⟩))
      | (refine hP _ _ (by repeat (first | exact fw_sm_refl | exact fw_sm_put0 | refine fw_sm_arr ?_ rfl | refine fw_sm_up ?_ rfl | refine fw_sm_put ?_ rfl | refine fw_sm_cp ?_ rfl)) ?_; (refine ⟨by omega, by omega, ?_⟩; (first | trivial | omega)))
      | omega
      | (intro _))
theorem lm_cartsBack_11 {Post : Option fw_V → fw_W → Prop} {d : Nat} {W : fw_W} (hpre : mt W ∧ 0 ≤ (fw_g W 366 0) ∧ (fw_g W 366 0) ≤ 14) (hP : ∀ (v : Int) (W2 : fw_W), fw_sm [375, 376, 377] 352 [39, 40] W W2 → (-2147483648 ≤ v ∧ v ≤ 2147483647 ∧ (True)) → Post (some (.inl v)) W2)  : ∀ (m : Nat) (goal n : Int) (f : fw_W), (65536 - n).toNat = m → 0 ≤ n → jf fw_T (d + 3) 271 11 [(0, .inr (.inl 352)), (1, .inl goal), (2, .inl n)] [] (fw_put [375, 376, 377] 352 [39, 40] W f) Post := by
  intro m
  induction m using Nat.strongRecOn with
  | ind m ih =>
    intro goal n f hm hi
    refine jf_rng (fun hrg => ?_)
    have hrg : -2147483648 ≤ goal ∧ goal ≤ 2147483647 ∧ -2147483648 ≤ n ∧ n ≤ 2147483647 ∧ True := hrg
    refine s_cartsBack_11 ?_
    repeat' (first
      | (exact True.intro)
      | (exact hpre.1)
      | (refine And.intro ?_ ?_)
      | (refine (ih _ (by omega) _ _ _ rfl ?_); (first | omega | trivial | (simp (config := { decide := true }) only [fg_in, fg_fin, fg_out, fg_fout, fg_up, fg_same, true_and, and_true] <;> omega)))
      | (refine jf_put (S := [375, 376, 377]) (o := 352) (F := [39, 40]) (W := W) (by repeat (first | exact fw_sm_refl | exact fw_sm_put0 | refine fw_sm_arr ?_ rfl | refine fw_sm_up ?_ rfl | refine fw_sm_put ?_ rfl | refine fw_sm_cp ?_ rfl)) (ih _ (by omega) _ _ _ rfl ?_); (first | omega | trivial | (simp (config := { decide := true }) only [fg_in, fg_fin, fg_out, fg_fout, fg_up, fg_same, true_and, and_true] <;> omega)))
      | (refine (lm_cartsBack_79 hpre hP _ _ _ _ _ rfl ?_); (
        rename_i r2 h2 w1 w2 w3 w4 w5
        have e1 : ∀ X z, fw_g (fw_up (fw_up (fw_up X 375 0 r2) 376 0 (-1)) 377 z 1) 375 0 = r2 := fun X z => by rw [fg_up rfl, fg_up rfl, fg_same (by omega) (by omega)]
        exact ⟨by omega, fun j j0 j1 => by
          have : j = 0 := by omega
          subst this
          refine ⟨?_, ?_⟩
          · rw [e1]; exact h2.2.2.1
          · rw [fg_up rfl, fg_same (by omega) (by omega)]; omega⟩))
      | (refine jf_put (S := [375, 376, 377]) (o := 352) (F := [39, 40]) (W := W) (by repeat (first | exact fw_sm_refl | exact fw_sm_put0 | refine fw_sm_arr ?_ rfl | refine fw_sm_up ?_ rfl | refine fw_sm_put ?_ rfl | refine fw_sm_cp ?_ rfl)) (lm_cartsBack_79 hpre hP _ _ _ _ _ rfl ?_); (
        rename_i r2 h2 w1 w2 w3 w4 w5
        have e1 : ∀ X z, fw_g (fw_up (fw_up (fw_up X 375 0 r2) 376 0 (-1)) 377 z 1) 375 0 = r2 := fun X z => by rw [fg_up rfl, fg_up rfl, fg_same (by omega) (by omega)]
        exact ⟨by omega, fun j j0 j1 => by
          have : j = 0 := by omega
          subst this
          refine ⟨?_, ?_⟩
          · rw [e1]; exact h2.2.2.1
          · rw [fg_up rfl, fg_same (by omega) (by omega)]; omega⟩))
      | (refine hP _ _ (by repeat (first | exact fw_sm_refl | exact fw_sm_put0 | refine fw_sm_arr ?_ rfl | refine fw_sm_up ?_ rfl | refine fw_sm_put ?_ rfl | refine fw_sm_cp ?_ rfl)) ?_; (refine ⟨by omega, by omega, ?_⟩; (first | trivial | omega)))
      | omega
      | (intro _))
def x_cartsBack : fw_X := fun as W Q => match as with
  | [.inr (.inl s_)] => fw_if (Nat.beq s_ 352) ((mt W ∧ 0 ≤ (fw_g W 366 0) ∧ (fw_g W 366 0) ≤ 14) ∧ (∀ (v : Int) (f : fw_W), (-2147483648 ≤ v ∧ v ≤ 2147483647 ∧ (True)) → Q (some (.inl v)) (fw_put [375, 376, 377] 352 [39, 40] W f)))
  | _ => False
theorem x_cartsBack_ok (d : Nat) (as : List fw_V) (W : fw_W) (Q : Option fw_V → fw_W → Prop) (hx : x_cartsBack as W Q) : jf fw_T (d + 3) 271 0 (fw_args 0 as) [] W Q := by
  unfold x_cartsBack at hx
  split at hx
  · rename_i s_
    obtain ⟨e_, hpre, hQ⟩ := fw_if_ok hx
    have e_ := Nat.eq_of_beq_eq_true e_
    subst e_
    have hP : ∀ (v : Int) (W2 : fw_W), fw_sm [375, 376, 377] 352 [39, 40] W W2 → _ → Q (some (.inl v)) W2 := fun v W2 hs hr => fw_sm_use (Q := fun Z => Q (some (.inl v)) Z) hs (hQ v W2 hr)
    refine s_cartsBack_0 ?_
    repeat' (first
      | (exact True.intro)
      | (exact hpre.1)
      | (refine And.intro ?_ ?_)
      | (refine jf_put (S := [375, 376, 377]) (o := 352) (F := [39, 40]) (W := W) (by repeat (first | exact fw_sm_refl | exact fw_sm_put0 | refine fw_sm_arr ?_ rfl | refine fw_sm_up ?_ rfl | refine fw_sm_put ?_ rfl | refine fw_sm_cp ?_ rfl)) (lm_cartsBack_11 hpre hP _ _ _ _ rfl ?_); (first | omega | trivial | (simp (config := { decide := true }) only [fg_in, fg_fin, fg_out, fg_fout, fg_up, fg_same, true_and, and_true] <;> omega)))
      | (refine jf_put (S := [375, 376, 377]) (o := 352) (F := [39, 40]) (W := W) (by repeat (first | exact fw_sm_refl | exact fw_sm_put0 | refine fw_sm_arr ?_ rfl | refine fw_sm_up ?_ rfl | refine fw_sm_put ?_ rfl | refine fw_sm_cp ?_ rfl)) (lm_cartsBack_79 hpre hP _ _ _ _ _ rfl ?_); (first | omega | trivial | (simp (config := { decide := true }) only [fg_in, fg_fin, fg_out, fg_fout, fg_up, fg_same, true_and, and_true] <;> omega)))
      | (refine jf_put (S := [375, 376, 377]) (o := 352) (F := [39, 40]) (W := W) (by repeat (first | exact fw_sm_refl | exact fw_sm_put0 | refine fw_sm_arr ?_ rfl | refine fw_sm_up ?_ rfl | refine fw_sm_put ?_ rfl | refine fw_sm_cp ?_ rfl)) (lm_cartsBack_87 hpre hP M79 h79 _ _ _ _ _ _ rfl ?_ (by omega)); (first | omega | trivial | (simp (config := { decide := true }) only [fg_in, fg_fin, fg_out, fg_fout, fg_up, fg_same, true_and, and_true] <;> omega)))
      | (refine jf_put (S := [375, 376, 377]) (o := 352) (F := [39, 40]) (W := W) (by repeat (first | exact fw_sm_refl | exact fw_sm_put0 | refine fw_sm_arr ?_ rfl | refine fw_sm_up ?_ rfl | refine fw_sm_put ?_ rfl | refine fw_sm_cp ?_ rfl)) (lm_cartsBack_118 hpre hP M79 h79 M87 h87 _ _ _ _ _ _ _ _ rfl ?_ (by omega) (by omega)); (first | omega | trivial | (simp (config := { decide := true }) only [fg_in, fg_fin, fg_out, fg_fout, fg_up, fg_same, true_and, and_true] <;> omega)))
      | (refine hP _ _ (by repeat (first | exact fw_sm_refl | exact fw_sm_put0 | refine fw_sm_arr ?_ rfl | refine fw_sm_up ?_ rfl | refine fw_sm_put ?_ rfl | refine fw_sm_cp ?_ rfl)) ?_; (refine ⟨by omega, by omega, ?_⟩; (first | trivial | omega)))
      | omega
      | (intro _))
  · exact hx.elim

def fr_270 : fw_P := [(0, 1, 1, 0, 0), (1, 0, 0, 0, 0), (2, 0, 0, 0, 2), (3, 65, 214, 3, 300), (6, 21, 12, 0, 0), (9, 0, 0, 0, -3), (11, 70, 0, 0, 0), (12, 2, 0, 0, 0), (13, 0, 0, 0, -1), (14, 51, 12, 39, 0), (17, 2, 0, 0, 0), (18, 0, 0, 0, -1), (19, 51, 12, 40, 0), (22, 2, 0, 0, 0), (23, 64, 271, 0, 812), (26, 3, 2, 0, 0), (27, 1, 2, 0, 0), (28, 22, 35, 0, 0), (31, 1, 1, 0, 0), (32, 21, 39, 0, 0), (35, 1, 2, 0, 0), (36, 6, 55, 0, 0), (39, 1, 1, 0, 0), (40, 0, 0, 0, 1), (41, 11, 51, 0, 0), (44, 2, 0, 0, 0), (45, 50, 12, 39, 0), (48, 6, 55, 0, 0), (51, 2, 0, 0, 0), (52, 50, 12, 40, 0), (55, 70, 0, 0, 0)]
theorem fr_270_ok : fw_mk 270 3 12 (some .int) fr_270 = true := by decide +kernel
def ct_carts : List (Nat × fw_X) := [(271, x_cartsBack), (214, x_isIn)]
theorem ct_carts_ok (d : Nat) : fw_cok fw_T (d + 3) ct_carts := by
  intro q hq as W Q h
  simp only [ct_carts, List.mem_cons, List.not_mem_nil, or_false] at hq
  rcases hq with rfl | rfl
  · exact jc_of (x_cartsBack_ok (d + 0) as W Q h)
  · exact jc_of (x_isIn_ok (d + 2) as W Q h)
theorem s_carts_0 {Post : Option fw_V → fw_W → Prop} {d : Nat} {W : fw_W} {what : Int}
    (hw_ : (True) ∧ (∀ (r1 : Int), ((0 ≤ r1 ∧ r1 ≤ 1 ∧ ((r1 = 1 ∧ (0 : Int) ≤ what ∧ what ≤ (2 : Int)) ∨ (r1 = 0 ∧ (what < (0 : Int) ∨ (2 : Int) < what))))) → ((¬ r1 = 0 → -2147483648 ≤ (-1 : Int) ∧ (-1 : Int) ≤ 2147483647 ∧ (-2147483648 ≤ (-1 : Int) ∧ (-1 : Int) ≤ 2147483647 ∧ ((mt (fw_up (fw_up W 352 39 (-1 : Int)) 352 40 (-1 : Int)) ∧ 0 ≤ (fw_g W 366 0) ∧ (fw_g W 366 0) ≤ 14) ∧ (∀ (r2 : Int) (f3 : fw_W), ((-2147483648 ≤ r2 ∧ r2 ≤ 2147483647 ∧ (True))) → ((r2 < 0 → (-2147483648 ≤ r2 → r2 ≤ 2147483647 → Post (some (.inl r2)) (fw_put [375, 376, 377] 352 [39, 40] (fw_up (fw_up W 352 39 (-1 : Int)) 352 40 (-1 : Int)) f3))) ∧ (0 ≤ r2 → ((¬ what = 0 → ((¬ what = (1 : Int) → (-2147483648 ≤ (fw_g f3 352 40) → (fw_g f3 352 40) ≤ 2147483647 → (-2147483648 ≤ (fw_g f3 352 40) → (fw_g f3 352 40) ≤ 2147483647 → Post (some (.inl (fw_g f3 352 40))) (fw_put [375, 376, 377] 352 [39, 40] (fw_up (fw_up W 352 39 (-1 : Int)) 352 40 (-1 : Int)) f3)))) ∧ (what = (1 : Int) → (-2147483648 ≤ (fw_g f3 352 39) → (fw_g f3 352 39) ≤ 2147483647 → (-2147483648 ≤ (fw_g f3 352 39) → (fw_g f3 352 39) ≤ 2147483647 → Post (some (.inl (fw_g f3 352 39))) (fw_put [375, 376, 377] 352 [39, 40] (fw_up (fw_up W 352 39 (-1 : Int)) 352 40 (-1 : Int)) f3)))))) ∧ (what = 0 → (-2147483648 ≤ r2 → r2 ≤ 2147483647 → Post (some (.inl r2)) (fw_put [375, 376, 377] 352 [39, 40] (fw_up (fw_up W 352 39 (-1 : Int)) 352 40 (-1 : Int)) f3)))))))))) ∧ (r1 = 0 → (-2147483648 ≤ (-3 : Int) → (-3 : Int) ≤ 2147483647 → Post (some (.inl (-3 : Int))) W))))) :
    jf fw_T (d + 4) 270 0 [(0, .inr (.inl 352)), (1, .inl what)] [] W Post := fw_ok (n := 26) (ss := []) (hv := []) fr_270_ok fm_ok (ct_carts_ok d) hw_

def x_carts : fw_X := fun as W Q => match as with
  | [.inr (.inl s_), .inl what] => fw_if (Nat.beq s_ 352) ((mt W ∧ 0 ≤ (fw_g W 366 0) ∧ (fw_g W 366 0) ≤ 14) ∧ (∀ (v : Int) (f : fw_W), (-2147483648 ≤ v ∧ v ≤ 2147483647 ∧ (True)) → Q (some (.inl v)) (fw_put [375, 376, 377] 352 [39, 40] W f)))
  | _ => False
theorem x_carts_ok (d : Nat) (as : List fw_V) (W : fw_W) (Q : Option fw_V → fw_W → Prop) (hx : x_carts as W Q) : jf fw_T (d + 4) 270 0 (fw_args 0 as) [] W Q := by
  unfold x_carts at hx
  split at hx
  · rename_i s_ what
    obtain ⟨e_, hpre, hQ⟩ := fw_if_ok hx
    have e_ := Nat.eq_of_beq_eq_true e_
    subst e_
    have hP : ∀ (v : Int) (W2 : fw_W), fw_sm [375, 376, 377] 352 [39, 40] W W2 → _ → Q (some (.inl v)) W2 := fun v W2 hs hr => fw_sm_use (Q := fun Z => Q (some (.inl v)) Z) hs (hQ v W2 hr)
    refine s_carts_0 ?_
    repeat' (first
      | (exact True.intro)
      | (exact hpre.1)
      | (refine And.intro ?_ ?_)
      | (refine hP _ _ (by repeat (first | exact fw_sm_refl | exact fw_sm_put0 | refine fw_sm_arr ?_ rfl | refine fw_sm_up ?_ rfl | refine fw_sm_put ?_ rfl | refine fw_sm_cp ?_ rfl)) ?_; (refine ⟨by omega, by omega, ?_⟩; (first | trivial | omega)))
      | omega
      | (intro _))
  · exact hx.elim

