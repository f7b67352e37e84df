/-! the class, method by method -/
def fv_tapeq : List (Nat × ai_C) := [(1, .inr (.inr (.inr (7, [.inl (0, 1200, true), .inl (0, 11, true), .inl (0, 1200, true), .inl (-2147483648, 2147483647, true), .inr (.inr ()), .inr (.inl [2]), .inl (0, 1200, true)])))), (2, .inl (.byte, 1200, -128, 127, true))]
def fg_tapeq_G : fw_G := []
theorem fv_tapeq_ok : fw_view fw_T fv_tapeq fg_tapeq_G := fw_vb_ok (by decide +kernel)
def fr_100 : fw_P := [(0, 2, 0, 0, 0), (1, 50, 7, 6, 0), (4, 2, 0, 0, 0), (5, 50, 7, 2, 0), (8, 31, 0, 0, 0), (9, 2, 1, 0, 0), (10, 97, 0, 0, 0), (13, 10, 18, 0, 0), (16, 0, 0, 0, 0), (17, 71, 0, 0, 0), (18, 0, 0, 0, 0), (19, 3, 2, 0, 0), (20, 1, 2, 0, 0), (21, 2, 1, 0, 0), (22, 97, 0, 0, 0), (25, 13, 55, 0, 0), (28, 2, 0, 0, 0), (29, 50, 7, 5, 0), (32, 2, 0, 0, 0), (33, 50, 7, 2, 0), (36, 1, 2, 0, 0), (37, 30, 0, 0, 0), (38, 54, 0, 0, 0), (39, 2, 1, 0, 0), (40, 1, 2, 0, 0), (41, 98, 0, 0, 0), (44, 10, 49, 0, 0), (47, 0, 0, 0, 0), (48, 71, 0, 0, 0), (49, 5, 2, 0, 1), (52, 6, 20, 0, 0), (55, 0, 0, 0, 1), (56, 71, 0, 0, 0)]
theorem fr_100_ok : fw_mk 100 3 7 (some .boolean) fr_100 = true := by decide +kernel
theorem s_k_spells0_0 {Post : Option fw_V → fw_W → Prop} {d : Nat} {W : fw_W}
    (hw_ : (0 ≤ (fw_g W 1 6) → (fw_g W 1 6) ≤ 1200 → (0 ≤ (fw_g W 1 2) → (fw_g W 1 2) ≤ 1200 → -2147483648 ≤ (fw_g W 1 6) - (fw_g W 1 2) ∧ (fw_g W 1 6) - (fw_g W 1 2) ≤ 2147483647 ∧ (((((fw_g W 1 6) - (fw_g W 1 2)) = (5 : Int) → jf fw_T (d + 1) 100 20 [(0, .inr (.inl 1)), (1, .inr (.inr 500)), (2, .inl (0 : Int))] [] W Post) ∧ (¬ ((fw_g W 1 6) - (fw_g W 1 2)) = (5 : Int) → 0 ≤ (0 : Int) ∧ (0 : Int) ≤ 1 ∧ Post (some (.inl (0 : Int))) W)))))) :
    jf fw_T (d + 1) 100 0 [(0, .inr (.inl 1)), (1, .inr (.inr 500))] [] W Post := fw_ok (n := 11) (ss := [(20, [0, 1, 2])]) (hv := []) fr_100_ok fv_tapeq_ok (fw_c0 _ _) hw_

theorem s_k_spells0_20 {Post : Option fw_V → fw_W → Prop} {d : Nat} {W : fw_W} {i : Int}
    (hw_ : (((5 : Int) ≤ i → 0 ≤ (1 : Int) ∧ (1 : Int) ≤ 1 ∧ Post (some (.inl (1 : Int))) W) ∧ (i < (5 : Int) → (0 ≤ (fw_g W 1 2) → (fw_g W 1 2) ≤ 1200 → -2147483648 ≤ (fw_g W 1 2) + i ∧ (fw_g W 1 2) + i ≤ 2147483647 ∧ (0 ≤ ((fw_g W 1 2) + i) ∧ ((fw_g W 1 2) + i) < 1200 ∧ (-128 ≤ (fw_g W 2 ((fw_g W 1 2) + i)) → (fw_g W 2 ((fw_g W 1 2) + i)) ≤ 127 → 0 ≤ i ∧ i < (5 : Int) ∧ (∀ v1 : Int, 0 ≤ v1 → v1 ≤ 255 → (((fw_g W 2 ((fw_g W 1 2) + i)) = v1 → -2147483648 ≤ i + (1 : Int) ∧ i + (1 : Int) ≤ 2147483647 ∧ (jf fw_T (d + 1) 100 20 [(0, .inr (.inl 1)), (1, .inr (.inr 500)), (2, .inl (i + (1 : Int)))] [] W Post)) ∧ (¬ (fw_g W 2 ((fw_g W 1 2) + i)) = v1 → 0 ≤ (0 : Int) ∧ (0 : Int) ≤ 1 ∧ Post (some (.inl (0 : Int))) W))))))))) :
    jf fw_T (d + 1) 100 20 [(0, .inr (.inl 1)), (1, .inr (.inr 500)), (2, .inl i)] [] W Post := fw_ok (n := 18) (ss := [(20, [0, 1, 2])]) (hv := []) fr_100_ok fv_tapeq_ok (fw_c0 _ _) hw_

theorem lm_k_spells0_20 {Post : Option fw_V → fw_W → Prop} {d : Nat} {W : fw_W} (hpre : True) (hP : ∀ (v : Int) , (0 ≤ v ∧ v ≤ 1 ∧ (True)) → Post (some (.inl v)) W)  : ∀ (m : Nat) (i : Int), (5 - i).toNat = m → 0 ≤ i ∧ (fw_g W 1 6) - (fw_g W 1 2) = 5 ∧ (fw_g W 1 6) ≤ 1200 → jf fw_T (d + 1) 100 20 [(0, .inr (.inl 1)), (1, .inr (.inr 500)), (2, .inl i)] [] W Post := by
  intro m
  induction m using Nat.strongRecOn with
  | ind m ih =>
    intro i hm hi
    refine jf_rng (fun hrg => ?_)
    have hrg : -2147483648 ≤ i ∧ i ≤ 2147483647 ∧ True := hrg
    refine s_k_spells0_20 ?_
    repeat' (first
      | (exact True.intro)
      | (exact hpre.1)
      | (refine And.intro ?_ ?_)
      | (refine (ih _ (by omega) _ rfl ?_); (first | omega | trivial))
      | (refine hP _ ?_; (refine ⟨by omega, by omega, ?_⟩; (first | trivial | omega)))
      | omega
      | (intro _))
def x_k_spells0 : fw_X := fun as W Q => match as with
  | [.inr (.inl s_), .inr (.inr l0_)] => fw_if (Nat.beq s_ 1) (fw_if (Nat.beq l0_ 500) ((True) ∧ (∀ (v : Int), (0 ≤ v ∧ v ≤ 1 ∧ (True)) → Q (some (.inl v)) W)))
  | _ => False
theorem x_k_spells0_ok (d : Nat) (as : List fw_V) (W : fw_W) (Q : Option fw_V → fw_W → Prop) (hx : x_k_spells0 as W Q) : jf fw_T (d + 1) 100 0 (fw_args 0 as) [] W Q := by
  unfold x_k_spells0 at hx
  split at hx
  · rename_i s_ l0_
    obtain ⟨e0_, hx0⟩ := fw_if_ok hx
    have e0_ := Nat.eq_of_beq_eq_true e0_
    clear hx
    subst e0_
    obtain ⟨e1_, hx1⟩ := fw_if_ok hx0
    have e1_ := Nat.eq_of_beq_eq_true e1_
    clear hx0
    subst e1_
    obtain ⟨hpre, hQ⟩ := hx1
    have hP := hQ
    refine s_k_spells0_0 ?_
    repeat' (first
      | (exact True.intro)
      | (exact hpre.1)
      | (refine And.intro ?_ ?_)
      | (refine (lm_k_spells0_20 hpre hP _ _ rfl ?_); (first | omega | trivial))
      | (refine hP _ ?_; (refine ⟨by omega, by omega, ?_⟩; (first | trivial | omega)))
      | omega
      | (intro _))
  · exact hx.elim

theorem s_k_spells1_0 {Post : Option fw_V → fw_W → Prop} {d : Nat} {W : fw_W}
    (hw_ : (0 ≤ (fw_g W 1 6) → (fw_g W 1 6) ≤ 1200 → (0 ≤ (fw_g W 1 2) → (fw_g W 1 2) ≤ 1200 → -2147483648 ≤ (fw_g W 1 6) - (fw_g W 1 2) ∧ (fw_g W 1 6) - (fw_g W 1 2) ≤ 2147483647 ∧ (((((fw_g W 1 6) - (fw_g W 1 2)) = (2 : Int) → jf fw_T (d + 1) 100 20 [(0, .inr (.inl 1)), (1, .inr (.inr 501)), (2, .inl (0 : Int))] [] W Post) ∧ (¬ ((fw_g W 1 6) - (fw_g W 1 2)) = (2 : Int) → 0 ≤ (0 : Int) ∧ (0 : Int) ≤ 1 ∧ Post (some (.inl (0 : Int))) W)))))) :
    jf fw_T (d + 1) 100 0 [(0, .inr (.inl 1)), (1, .inr (.inr 501))] [] W Post := fw_ok (n := 11) (ss := [(20, [0, 1, 2])]) (hv := []) fr_100_ok fv_tapeq_ok (fw_c0 _ _) hw_

theorem s_k_spells1_20 {Post : Option fw_V → fw_W → Prop} {d : Nat} {W : fw_W} {i : Int}
    (hw_ : (((2 : Int) ≤ i → 0 ≤ (1 : Int) ∧ (1 : Int) ≤ 1 ∧ Post (some (.inl (1 : Int))) W) ∧ (i < (2 : Int) → (0 ≤ (fw_g W 1 2) → (fw_g W 1 2) ≤ 1200 → -2147483648 ≤ (fw_g W 1 2) + i ∧ (fw_g W 1 2) + i ≤ 2147483647 ∧ (0 ≤ ((fw_g W 1 2) + i) ∧ ((fw_g W 1 2) + i) < 1200 ∧ (-128 ≤ (fw_g W 2 ((fw_g W 1 2) + i)) → (fw_g W 2 ((fw_g W 1 2) + i)) ≤ 127 → 0 ≤ i ∧ i < (2 : Int) ∧ (∀ v1 : Int, 0 ≤ v1 → v1 ≤ 255 → (((fw_g W 2 ((fw_g W 1 2) + i)) = v1 → -2147483648 ≤ i + (1 : Int) ∧ i + (1 : Int) ≤ 2147483647 ∧ (jf fw_T (d + 1) 100 20 [(0, .inr (.inl 1)), (1, .inr (.inr 501)), (2, .inl (i + (1 : Int)))] [] W Post)) ∧ (¬ (fw_g W 2 ((fw_g W 1 2) + i)) = v1 → 0 ≤ (0 : Int) ∧ (0 : Int) ≤ 1 ∧ Post (some (.inl (0 : Int))) W))))))))) :
    jf fw_T (d + 1) 100 20 [(0, .inr (.inl 1)), (1, .inr (.inr 501)), (2, .inl i)] [] W Post := fw_ok (n := 18) (ss := [(20, [0, 1, 2])]) (hv := []) fr_100_ok fv_tapeq_ok (fw_c0 _ _) hw_

theorem lm_k_spells1_20 {Post : Option fw_V → fw_W → Prop} {d : Nat} {W : fw_W} (hpre : True) (hP : ∀ (v : Int) , (0 ≤ v ∧ v ≤ 1 ∧ (True)) → Post (some (.inl v)) W)  : ∀ (m : Nat) (i : Int), (2 - i).toNat = m → 0 ≤ i ∧ (fw_g W 1 6) - (fw_g W 1 2) = 2 ∧ (fw_g W 1 6) ≤ 1200 → jf fw_T (d + 1) 100 20 [(0, .inr (.inl 1)), (1, .inr (.inr 501)), (2, .inl i)] [] W Post := by
  intro m
  induction m using Nat.strongRecOn with
  | ind m ih =>
    intro i hm hi
    refine jf_rng (fun hrg => ?_)
    have hrg : -2147483648 ≤ i ∧ i ≤ 2147483647 ∧ True := hrg
    refine s_k_spells1_20 ?_
    repeat' (first
      | (exact True.intro)
      | (exact hpre.1)
      | (refine And.intro ?_ ?_)
      | (refine (ih _ (by omega) _ rfl ?_); (first | omega | trivial))
      | (refine hP _ ?_; (refine ⟨by omega, by omega, ?_⟩; (first | trivial | omega)))
      | omega
      | (intro _))
def x_k_spells1 : fw_X := fun as W Q => match as with
  | [.inr (.inl s_), .inr (.inr l0_)] => fw_if (Nat.beq s_ 1) (fw_if (Nat.beq l0_ 501) ((True) ∧ (∀ (v : Int), (0 ≤ v ∧ v ≤ 1 ∧ (True)) → Q (some (.inl v)) W)))
  | _ => False
theorem x_k_spells1_ok (d : Nat) (as : List fw_V) (W : fw_W) (Q : Option fw_V → fw_W → Prop) (hx : x_k_spells1 as W Q) : jf fw_T (d + 1) 100 0 (fw_args 0 as) [] W Q := by
  unfold x_k_spells1 at hx
  split at hx
  · rename_i s_ l0_
    obtain ⟨e0_, hx0⟩ := fw_if_ok hx
    have e0_ := Nat.eq_of_beq_eq_true e0_
    clear hx
    subst e0_
    obtain ⟨e1_, hx1⟩ := fw_if_ok hx0
    have e1_ := Nat.eq_of_beq_eq_true e1_
    clear hx0
    subst e1_
    obtain ⟨hpre, hQ⟩ := hx1
    have hP := hQ
    refine s_k_spells1_0 ?_
    repeat' (first
      | (exact True.intro)
      | (exact hpre.1)
      | (refine And.intro ?_ ?_)
      | (refine (lm_k_spells1_20 hpre hP _ _ rfl ?_); (first | omega | trivial))
      | (refine hP _ ?_; (refine ⟨by omega, by omega, ?_⟩; (first | trivial | omega)))
      | omega
      | (intro _))
  · exact hx.elim

theorem s_k_spells2_0 {Post : Option fw_V → fw_W → Prop} {d : Nat} {W : fw_W}
    (hw_ : (0 ≤ (fw_g W 1 6) → (fw_g W 1 6) ≤ 1200 → (0 ≤ (fw_g W 1 2) → (fw_g W 1 2) ≤ 1200 → -2147483648 ≤ (fw_g W 1 6) - (fw_g W 1 2) ∧ (fw_g W 1 6) - (fw_g W 1 2) ≤ 2147483647 ∧ (((((fw_g W 1 6) - (fw_g W 1 2)) = (6 : Int) → jf fw_T (d + 1) 100 20 [(0, .inr (.inl 1)), (1, .inr (.inr 502)), (2, .inl (0 : Int))] [] W Post) ∧ (¬ ((fw_g W 1 6) - (fw_g W 1 2)) = (6 : Int) → 0 ≤ (0 : Int) ∧ (0 : Int) ≤ 1 ∧ Post (some (.inl (0 : Int))) W)))))) :
    jf fw_T (d + 1) 100 0 [(0, .inr (.inl 1)), (1, .inr (.inr 502))] [] W Post := fw_ok (n := 11) (ss := [(20, [0, 1, 2])]) (hv := []) fr_100_ok fv_tapeq_ok (fw_c0 _ _) hw_

theorem s_k_spells2_20 {Post : Option fw_V → fw_W → Prop} {d : Nat} {W : fw_W} {i : Int}
    (hw_ : (((6 : Int) ≤ i → 0 ≤ (1 : Int) ∧ (1 : Int) ≤ 1 ∧ Post (some (.inl (1 : Int))) W) ∧ (i < (6 : Int) → (0 ≤ (fw_g W 1 2) → (fw_g W 1 2) ≤ 1200 → -2147483648 ≤ (fw_g W 1 2) + i ∧ (fw_g W 1 2) + i ≤ 2147483647 ∧ (0 ≤ ((fw_g W 1 2) + i) ∧ ((fw_g W 1 2) + i) < 1200 ∧ (-128 ≤ (fw_g W 2 ((fw_g W 1 2) + i)) → (fw_g W 2 ((fw_g W 1 2) + i)) ≤ 127 → 0 ≤ i ∧ i < (6 : Int) ∧ (∀ v1 : Int, 0 ≤ v1 → v1 ≤ 255 → (((fw_g W 2 ((fw_g W 1 2) + i)) = v1 → -2147483648 ≤ i + (1 : Int) ∧ i + (1 : Int) ≤ 2147483647 ∧ (jf fw_T (d + 1) 100 20 [(0, .inr (.inl 1)), (1, .inr (.inr 502)), (2, .inl (i + (1 : Int)))] [] W Post)) ∧ (¬ (fw_g W 2 ((fw_g W 1 2) + i)) = v1 → 0 ≤ (0 : Int) ∧ (0 : Int) ≤ 1 ∧ Post (some (.inl (0 : Int))) W))))))))) :
    jf fw_T (d + 1) 100 20 [(0, .inr (.inl 1)), (1, .inr (.inr 502)), (2, .inl i)] [] W Post := fw_ok (n := 18) (ss := [(20, [0, 1, 2])]) (hv := []) fr_100_ok fv_tapeq_ok (fw_c0 _ _) hw_

theorem lm_k_spells2_20 {Post : Option fw_V → fw_W → Prop} {d : Nat} {W : fw_W} (hpre : True) (hP : ∀ (v : Int) , (0 ≤ v ∧ v ≤ 1 ∧ (True)) → Post (some (.inl v)) W)  : ∀ (m : Nat) (i : Int), (6 - i).toNat = m → 0 ≤ i ∧ (fw_g W 1 6) - (fw_g W 1 2) = 6 ∧ (fw_g W 1 6) ≤ 1200 → jf fw_T (d + 1) 100 20 [(0, .inr (.inl 1)), (1, .inr (.inr 502)), (2, .inl i)] [] W Post := by
  intro m
  induction m using Nat.strongRecOn with
  | ind m ih =>
    intro i hm hi
    refine jf_rng (fun hrg => ?_)
    have hrg : -2147483648 ≤ i ∧ i ≤ 2147483647 ∧ True := hrg
    refine s_k_spells2_20 ?_
    repeat' (first
      | (exact True.intro)
      | (exact hpre.1)
      | (refine And.intro ?_ ?_)
      | (refine (ih _ (by omega) _ rfl ?_); (first | omega | trivial))
      | (refine hP _ ?_; (refine ⟨by omega, by omega, ?_⟩; (first | trivial | omega)))
      | omega
      | (intro _))
def x_k_spells2 : fw_X := fun as W Q => match as with
  | [.inr (.inl s_), .inr (.inr l0_)] => fw_if (Nat.beq s_ 1) (fw_if (Nat.beq l0_ 502) ((True) ∧ (∀ (v : Int), (0 ≤ v ∧ v ≤ 1 ∧ (True)) → Q (some (.inl v)) W)))
  | _ => False
theorem x_k_spells2_ok (d : Nat) (as : List fw_V) (W : fw_W) (Q : Option fw_V → fw_W → Prop) (hx : x_k_spells2 as W Q) : jf fw_T (d + 1) 100 0 (fw_args 0 as) [] W Q := by
  unfold x_k_spells2 at hx
  split at hx
  · rename_i s_ l0_
    obtain ⟨e0_, hx0⟩ := fw_if_ok hx
    have e0_ := Nat.eq_of_beq_eq_true e0_
    clear hx
    subst e0_
    obtain ⟨e1_, hx1⟩ := fw_if_ok hx0
    have e1_ := Nat.eq_of_beq_eq_true e1_
    clear hx0
    subst e1_
    obtain ⟨hpre, hQ⟩ := hx1
    have hP := hQ
    refine s_k_spells2_0 ?_
    repeat' (first
      | (exact True.intro)
      | (exact hpre.1)
      | (refine And.intro ?_ ?_)
      | (refine (lm_k_spells2_20 hpre hP _ _ rfl ?_); (first | omega | trivial))
      | (refine hP _ ?_; (refine ⟨by omega, by omega, ?_⟩; (first | trivial | omega)))
      | omega
      | (intro _))
  · exact hx.elim

theorem s_k_spells3_0 {Post : Option fw_V → fw_W → Prop} {d : Nat} {W : fw_W}
    (hw_ : (0 ≤ (fw_g W 1 6) → (fw_g W 1 6) ≤ 1200 → (0 ≤ (fw_g W 1 2) → (fw_g W 1 2) ≤ 1200 → -2147483648 ≤ (fw_g W 1 6) - (fw_g W 1 2) ∧ (fw_g W 1 6) - (fw_g W 1 2) ≤ 2147483647 ∧ (((((fw_g W 1 6) - (fw_g W 1 2)) = (6 : Int) → jf fw_T (d + 1) 100 20 [(0, .inr (.inl 1)), (1, .inr (.inr 503)), (2, .inl (0 : Int))] [] W Post) ∧ (¬ ((fw_g W 1 6) - (fw_g W 1 2)) = (6 : Int) → 0 ≤ (0 : Int) ∧ (0 : Int) ≤ 1 ∧ Post (some (.inl (0 : Int))) W)))))) :
    jf fw_T (d + 1) 100 0 [(0, .inr (.inl 1)), (1, .inr (.inr 503))] [] W Post := fw_ok (n := 11) (ss := [(20, [0, 1, 2])]) (hv := []) fr_100_ok fv_tapeq_ok (fw_c0 _ _) hw_

theorem s_k_spells3_20 {Post : Option fw_V → fw_W → Prop} {d : Nat} {W : fw_W} {i : Int}
    (hw_ : (((6 : Int) ≤ i → 0 ≤ (1 : Int) ∧ (1 : Int) ≤ 1 ∧ Post (some (.inl (1 : Int))) W) ∧ (i < (6 : Int) → (0 ≤ (fw_g W 1 2) → (fw_g W 1 2) ≤ 1200 → -2147483648 ≤ (fw_g W 1 2) + i ∧ (fw_g W 1 2) + i ≤ 2147483647 ∧ (0 ≤ ((fw_g W 1 2) + i) ∧ ((fw_g W 1 2) + i) < 1200 ∧ (-128 ≤ (fw_g W 2 ((fw_g W 1 2) + i)) → (fw_g W 2 ((fw_g W 1 2) + i)) ≤ 127 → 0 ≤ i ∧ i < (6 : Int) ∧ (∀ v1 : Int, 0 ≤ v1 → v1 ≤ 255 → (((fw_g W 2 ((fw_g W 1 2) + i)) = v1 → -2147483648 ≤ i + (1 : Int) ∧ i + (1 : Int) ≤ 2147483647 ∧ (jf fw_T (d + 1) 100 20 [(0, .inr (.inl 1)), (1, .inr (.inr 503)), (2, .inl (i + (1 : Int)))] [] W Post)) ∧ (¬ (fw_g W 2 ((fw_g W 1 2) + i)) = v1 → 0 ≤ (0 : Int) ∧ (0 : Int) ≤ 1 ∧ Post (some (.inl (0 : Int))) W))))))))) :
    jf fw_T (d + 1) 100 20 [(0, .inr (.inl 1)), (1, .inr (.inr 503)), (2, .inl i)] [] W Post := fw_ok (n := 18) (ss := [(20, [0, 1, 2])]) (hv := []) fr_100_ok fv_tapeq_ok (fw_c0 _ _) hw_

theorem lm_k_spells3_20 {Post : Option fw_V → fw_W → Prop} {d : Nat} {W : fw_W} (hpre : True) (hP : ∀ (v : Int) , (0 ≤ v ∧ v ≤ 1 ∧ (True)) → Post (some (.inl v)) W)  : ∀ (m : Nat) (i : Int), (6 - i).toNat = m → 0 ≤ i ∧ (fw_g W 1 6) - (fw_g W 1 2) = 6 ∧ (fw_g W 1 6) ≤ 1200 → jf fw_T (d + 1) 100 20 [(0, .inr (.inl 1)), (1, .inr (.inr 503)), (2, .inl i)] [] W Post := by
  intro m
  induction m using Nat.strongRecOn with
  | ind m ih =>
    intro i hm hi
    refine jf_rng (fun hrg => ?_)
    have hrg : -2147483648 ≤ i ∧ i ≤ 2147483647 ∧ True := hrg
    refine s_k_spells3_20 ?_
    repeat' (first
      | (exact True.intro)
      | (exact hpre.1)
      | (refine And.intro ?_ ?_)
      | (refine (ih _ (by omega) _ rfl ?_); (first | omega | trivial))
      | (refine hP _ ?_; (refine ⟨by omega, by omega, ?_⟩; (first | trivial | omega)))
      | omega
      | (intro _))
def x_k_spells3 : fw_X := fun as W Q => match as with
  | [.inr (.inl s_), .inr (.inr l0_)] => fw_if (Nat.beq s_ 1) (fw_if (Nat.beq l0_ 503) ((True) ∧ (∀ (v : Int), (0 ≤ v ∧ v ≤ 1 ∧ (True)) → Q (some (.inl v)) W)))
  | _ => False
theorem x_k_spells3_ok (d : Nat) (as : List fw_V) (W : fw_W) (Q : Option fw_V → fw_W → Prop) (hx : x_k_spells3 as W Q) : jf fw_T (d + 1) 100 0 (fw_args 0 as) [] W Q := by
  unfold x_k_spells3 at hx
  split at hx
  · rename_i s_ l0_
    obtain ⟨e0_, hx0⟩ := fw_if_ok hx
    have e0_ := Nat.eq_of_beq_eq_true e0_
    clear hx
    subst e0_
    obtain ⟨e1_, hx1⟩ := fw_if_ok hx0
    have e1_ := Nat.eq_of_beq_eq_true e1_
    clear hx0
    subst e1_
    obtain ⟨hpre, hQ⟩ := hx1
    have hP := hQ
    refine s_k_spells3_0 ?_
    repeat' (first
      | (exact True.intro)
      | (exact hpre.1)
      | (refine And.intro ?_ ?_)
      | (refine (lm_k_spells3_20 hpre hP _ _ rfl ?_); (first | omega | trivial))
      | (refine hP _ ?_; (refine ⟨by omega, by omega, ?_⟩; (first | trivial | omega)))
      | omega
      | (intro _))
  · exact hx.elim

theorem s_k_spells4_0 {Post : Option fw_V → fw_W → Prop} {d : Nat} {W : fw_W}
    (hw_ : (0 ≤ (fw_g W 1 6) → (fw_g W 1 6) ≤ 1200 → (0 ≤ (fw_g W 1 2) → (fw_g W 1 2) ≤ 1200 → -2147483648 ≤ (fw_g W 1 6) - (fw_g W 1 2) ∧ (fw_g W 1 6) - (fw_g W 1 2) ≤ 2147483647 ∧ (((((fw_g W 1 6) - (fw_g W 1 2)) = (4 : Int) → jf fw_T (d + 1) 100 20 [(0, .inr (.inl 1)), (1, .inr (.inr 504)), (2, .inl (0 : Int))] [] W Post) ∧ (¬ ((fw_g W 1 6) - (fw_g W 1 2)) = (4 : Int) → 0 ≤ (0 : Int) ∧ (0 : Int) ≤ 1 ∧ Post (some (.inl (0 : Int))) W)))))) :
    jf fw_T (d + 1) 100 0 [(0, .inr (.inl 1)), (1, .inr (.inr 504))] [] W Post := fw_ok (n := 11) (ss := [(20, [0, 1, 2])]) (hv := []) fr_100_ok fv_tapeq_ok (fw_c0 _ _) hw_

theorem s_k_spells4_20 {Post : Option fw_V → fw_W → Prop} {d : Nat} {W : fw_W} {i : Int}
    (hw_ : (((4 : Int) ≤ i → 0 ≤ (1 : Int) ∧ (1 : Int) ≤ 1 ∧ Post (some (.inl (1 : Int))) W) ∧ (i < (4 : Int) → (0 ≤ (fw_g W 1 2) → (fw_g W 1 2) ≤ 1200 → -2147483648 ≤ (fw_g W 1 2) + i ∧ (fw_g W 1 2) + i ≤ 2147483647 ∧ (0 ≤ ((fw_g W 1 2) + i) ∧ ((fw_g W 1 2) + i) < 1200 ∧ (-128 ≤ (fw_g W 2 ((fw_g W 1 2) + i)) → (fw_g W 2 ((fw_g W 1 2) + i)) ≤ 127 → 0 ≤ i ∧ i < (4 : Int) ∧ (∀ v1 : Int, 0 ≤ v1 → v1 ≤ 255 → (((fw_g W 2 ((fw_g W 1 2) + i)) = v1 → -2147483648 ≤ i + (1 : Int) ∧ i + (1 : Int) ≤ 2147483647 ∧ (jf fw_T (d + 1) 100 20 [(0, .inr (.inl 1)), (1, .inr (.inr 504)), (2, .inl (i + (1 : Int)))] [] W Post)) ∧ (¬ (fw_g W 2 ((fw_g W 1 2) + i)) = v1 → 0 ≤ (0 : Int) ∧ (0 : Int) ≤ 1 ∧ Post (some (.inl (0 : Int))) W))))))))) :
    jf fw_T (d + 1) 100 20 [(0, .inr (.inl 1)), (1, .inr (.inr 504)), (2, .inl i)] [] W Post := fw_ok (n := 18) (ss := [(20, [0, 1, 2])]) (hv := []) fr_100_ok fv_tapeq_ok (fw_c0 _ _) hw_

theorem lm_k_spells4_20 {Post : Option fw_V → fw_W → Prop} {d : Nat} {W : fw_W} (hpre : True) (hP : ∀ (v : Int) , (0 ≤ v ∧ v ≤ 1 ∧ (True)) → Post (some (.inl v)) W)  : ∀ (m : Nat) (i : Int), (4 - i).toNat = m → 0 ≤ i ∧ (fw_g W 1 6) - (fw_g W 1 2) = 4 ∧ (fw_g W 1 6) ≤ 1200 → jf fw_T (d + 1) 100 20 [(0, .inr (.inl 1)), (1, .inr (.inr 504)), (2, .inl i)] [] W Post := by
  intro m
  induction m using Nat.strongRecOn with
  | ind m ih =>
    intro i hm hi
    refine jf_rng (fun hrg => ?_)
    have hrg : -2147483648 ≤ i ∧ i ≤ 2147483647 ∧ True := hrg
    refine s_k_spells4_20 ?_
    repeat' (first
      | (exact True.intro)
      | (exact hpre.1)
      | (refine And.intro ?_ ?_)
      | (refine (ih _ (by omega) _ rfl ?_); (first | omega | trivial))
      | (refine hP _ ?_; (refine ⟨by omega, by omega, ?_⟩; (first | trivial | omega)))
      | omega
      | (intro _))
def x_k_spells4 : fw_X := fun as W Q => match as with
  | [.inr (.inl s_), .inr (.inr l0_)] => fw_if (Nat.beq s_ 1) (fw_if (Nat.beq l0_ 504) ((True) ∧ (∀ (v : Int), (0 ≤ v ∧ v ≤ 1 ∧ (True)) → Q (some (.inl v)) W)))
  | _ => False
theorem x_k_spells4_ok (d : Nat) (as : List fw_V) (W : fw_W) (Q : Option fw_V → fw_W → Prop) (hx : x_k_spells4 as W Q) : jf fw_T (d + 1) 100 0 (fw_args 0 as) [] W Q := by
  unfold x_k_spells4 at hx
  split at hx
  · rename_i s_ l0_
    obtain ⟨e0_, hx0⟩ := fw_if_ok hx
    have e0_ := Nat.eq_of_beq_eq_true e0_
    clear hx
    subst e0_
    obtain ⟨e1_, hx1⟩ := fw_if_ok hx0
    have e1_ := Nat.eq_of_beq_eq_true e1_
    clear hx0
    subst e1_
    obtain ⟨hpre, hQ⟩ := hx1
    have hP := hQ
    refine s_k_spells4_0 ?_
    repeat' (first
      | (exact True.intro)
      | (exact hpre.1)
      | (refine And.intro ?_ ?_)
      | (refine (lm_k_spells4_20 hpre hP _ _ rfl ?_); (first | omega | trivial))
      | (refine hP _ ?_; (refine ⟨by omega, by omega, ?_⟩; (first | trivial | omega)))
      | omega
      | (intro _))
  · exact hx.elim

theorem s_k_spells5_0 {Post : Option fw_V → fw_W → Prop} {d : Nat} {W : fw_W}
    (hw_ : (0 ≤ (fw_g W 1 6) → (fw_g W 1 6) ≤ 1200 → (0 ≤ (fw_g W 1 2) → (fw_g W 1 2) ≤ 1200 → -2147483648 ≤ (fw_g W 1 6) - (fw_g W 1 2) ∧ (fw_g W 1 6) - (fw_g W 1 2) ≤ 2147483647 ∧ (((((fw_g W 1 6) - (fw_g W 1 2)) = (2 : Int) → jf fw_T (d + 1) 100 20 [(0, .inr (.inl 1)), (1, .inr (.inr 505)), (2, .inl (0 : Int))] [] W Post) ∧ (¬ ((fw_g W 1 6) - (fw_g W 1 2)) = (2 : Int) → 0 ≤ (0 : Int) ∧ (0 : Int) ≤ 1 ∧ Post (some (.inl (0 : Int))) W)))))) :
    jf fw_T (d + 1) 100 0 [(0, .inr (.inl 1)), (1, .inr (.inr 505))] [] W Post := fw_ok (n := 11) (ss := [(20, [0, 1, 2])]) (hv := []) fr_100_ok fv_tapeq_ok (fw_c0 _ _) hw_

theorem s_k_spells5_20 {Post : Option fw_V → fw_W → Prop} {d : Nat} {W : fw_W} {i : Int}
    (hw_ : (((2 : Int) ≤ i → 0 ≤ (1 : Int) ∧ (1 : Int) ≤ 1 ∧ Post (some (.inl (1 : Int))) W) ∧ (i < (2 : Int) → (0 ≤ (fw_g W 1 2) → (fw_g W 1 2) ≤ 1200 → -2147483648 ≤ (fw_g W 1 2) + i ∧ (fw_g W 1 2) + i ≤ 2147483647 ∧ (0 ≤ ((fw_g W 1 2) + i) ∧ ((fw_g W 1 2) + i) < 1200 ∧ (-128 ≤ (fw_g W 2 ((fw_g W 1 2) + i)) → (fw_g W 2 ((fw_g W 1 2) + i)) ≤ 127 → 0 ≤ i ∧ i < (2 : Int) ∧ (∀ v1 : Int, 0 ≤ v1 → v1 ≤ 255 → (((fw_g W 2 ((fw_g W 1 2) + i)) = v1 → -2147483648 ≤ i + (1 : Int) ∧ i + (1 : Int) ≤ 2147483647 ∧ (jf fw_T (d + 1) 100 20 [(0, .inr (.inl 1)), (1, .inr (.inr 505)), (2, .inl (i + (1 : Int)))] [] W Post)) ∧ (¬ (fw_g W 2 ((fw_g W 1 2) + i)) = v1 → 0 ≤ (0 : Int) ∧ (0 : Int) ≤ 1 ∧ Post (some (.inl (0 : Int))) W))))))))) :
    jf fw_T (d + 1) 100 20 [(0, .inr (.inl 1)), (1, .inr (.inr 505)), (2, .inl i)] [] W Post := fw_ok (n := 18) (ss := [(20, [0, 1, 2])]) (hv := []) fr_100_ok fv_tapeq_ok (fw_c0 _ _) hw_

theorem lm_k_spells5_20 {Post : Option fw_V → fw_W → Prop} {d : Nat} {W : fw_W} (hpre : True) (hP : ∀ (v : Int) , (0 ≤ v ∧ v ≤ 1 ∧ (True)) → Post (some (.inl v)) W)  : ∀ (m : Nat) (i : Int), (2 - i).toNat = m → 0 ≤ i ∧ (fw_g W 1 6) - (fw_g W 1 2) = 2 ∧ (fw_g W 1 6) ≤ 1200 → jf fw_T (d + 1) 100 20 [(0, .inr (.inl 1)), (1, .inr (.inr 505)), (2, .inl i)] [] W Post := by
  intro m
  induction m using Nat.strongRecOn with
  | ind m ih =>
    intro i hm hi
    refine jf_rng (fun hrg => ?_)
    have hrg : -2147483648 ≤ i ∧ i ≤ 2147483647 ∧ True := hrg
    refine s_k_spells5_20 ?_
    repeat' (first
      | (exact True.intro)
      | (exact hpre.1)
      | (refine And.intro ?_ ?_)
      | (refine (ih _ (by omega) _ rfl ?_); (first | omega | trivial))
      | (refine hP _ ?_; (refine ⟨by omega, by omega, ?_⟩; (first | trivial | omega)))
      | omega
      | (intro _))
def x_k_spells5 : fw_X := fun as W Q => match as with
  | [.inr (.inl s_), .inr (.inr l0_)] => fw_if (Nat.beq s_ 1) (fw_if (Nat.beq l0_ 505) ((True) ∧ (∀ (v : Int), (0 ≤ v ∧ v ≤ 1 ∧ (True)) → Q (some (.inl v)) W)))
  | _ => False
theorem x_k_spells5_ok (d : Nat) (as : List fw_V) (W : fw_W) (Q : Option fw_V → fw_W → Prop) (hx : x_k_spells5 as W Q) : jf fw_T (d + 1) 100 0 (fw_args 0 as) [] W Q := by
  unfold x_k_spells5 at hx
  split at hx
  · rename_i s_ l0_
    obtain ⟨e0_, hx0⟩ := fw_if_ok hx
    have e0_ := Nat.eq_of_beq_eq_true e0_
    clear hx
    subst e0_
    obtain ⟨e1_, hx1⟩ := fw_if_ok hx0
    have e1_ := Nat.eq_of_beq_eq_true e1_
    clear hx0
    subst e1_
    obtain ⟨hpre, hQ⟩ := hx1
    have hP := hQ
    refine s_k_spells5_0 ?_
    repeat' (first
      | (exact True.intro)
      | (exact hpre.1)
      | (refine And.intro ?_ ?_)
      | (refine (lm_k_spells5_20 hpre hP _ _ rfl ?_); (first | omega | trivial))
      | (refine hP _ ?_; (refine ⟨by omega, by omega, ?_⟩; (first | trivial | omega)))
      | omega
      | (intro _))
  · exact hx.elim

theorem s_k_spells6_0 {Post : Option fw_V → fw_W → Prop} {d : Nat} {W : fw_W}
    (hw_ : (0 ≤ (fw_g W 1 6) → (fw_g W 1 6) ≤ 1200 → (0 ≤ (fw_g W 1 2) → (fw_g W 1 2) ≤ 1200 → -2147483648 ≤ (fw_g W 1 6) - (fw_g W 1 2) ∧ (fw_g W 1 6) - (fw_g W 1 2) ≤ 2147483647 ∧ (((((fw_g W 1 6) - (fw_g W 1 2)) = (4 : Int) → jf fw_T (d + 1) 100 20 [(0, .inr (.inl 1)), (1, .inr (.inr 506)), (2, .inl (0 : Int))] [] W Post) ∧ (¬ ((fw_g W 1 6) - (fw_g W 1 2)) = (4 : Int) → 0 ≤ (0 : Int) ∧ (0 : Int) ≤ 1 ∧ Post (some (.inl (0 : Int))) W)))))) :
    jf fw_T (d + 1) 100 0 [(0, .inr (.inl 1)), (1, .inr (.inr 506))] [] W Post := fw_ok (n := 11) (ss := [(20, [0, 1, 2])]) (hv := []) fr_100_ok fv_tapeq_ok (fw_c0 _ _) hw_

theorem s_k_spells6_20 {Post : Option fw_V → fw_W → Prop} {d : Nat} {W : fw_W} {i : Int}
    (hw_ : (((4 : Int) ≤ i → 0 ≤ (1 : Int) ∧ (1 : Int) ≤ 1 ∧ Post (some (.inl (1 : Int))) W) ∧ (i < (4 : Int) → (0 ≤ (fw_g W 1 2) → (fw_g W 1 2) ≤ 1200 → -2147483648 ≤ (fw_g W 1 2) + i ∧ (fw_g W 1 2) + i ≤ 2147483647 ∧ (0 ≤ ((fw_g W 1 2) + i) ∧ ((fw_g W 1 2) + i) < 1200 ∧ (-128 ≤ (fw_g W 2 ((fw_g W 1 2) + i)) → (fw_g W 2 ((fw_g W 1 2) + i)) ≤ 127 → 0 ≤ i ∧ i < (4 : Int) ∧ (∀ v1 : Int, 0 ≤ v1 → v1 ≤ 255 → (((fw_g W 2 ((fw_g W 1 2) + i)) = v1 → -2147483648 ≤ i + (1 : Int) ∧ i + (1 : Int) ≤ 2147483647 ∧ (jf fw_T (d + 1) 100 20 [(0, .inr (.inl 1)), (1, .inr (.inr 506)), (2, .inl (i + (1 : Int)))] [] W Post)) ∧ (¬ (fw_g W 2 ((fw_g W 1 2) + i)) = v1 → 0 ≤ (0 : Int) ∧ (0 : Int) ≤ 1 ∧ Post (some (.inl (0 : Int))) W))))))))) :
    jf fw_T (d + 1) 100 20 [(0, .inr (.inl 1)), (1, .inr (.inr 506)), (2, .inl i)] [] W Post := fw_ok (n := 18) (ss := [(20, [0, 1, 2])]) (hv := []) fr_100_ok fv_tapeq_ok (fw_c0 _ _) hw_

theorem lm_k_spells6_20 {Post : Option fw_V → fw_W → Prop} {d : Nat} {W : fw_W} (hpre : True) (hP : ∀ (v : Int) , (0 ≤ v ∧ v ≤ 1 ∧ (True)) → Post (some (.inl v)) W)  : ∀ (m : Nat) (i : Int), (4 - i).toNat = m → 0 ≤ i ∧ (fw_g W 1 6) - (fw_g W 1 2) = 4 ∧ (fw_g W 1 6) ≤ 1200 → jf fw_T (d + 1) 100 20 [(0, .inr (.inl 1)), (1, .inr (.inr 506)), (2, .inl i)] [] W Post := by
  intro m
  induction m using Nat.strongRecOn with
  | ind m ih =>
    intro i hm hi
    refine jf_rng (fun hrg => ?_)
    have hrg : -2147483648 ≤ i ∧ i ≤ 2147483647 ∧ True := hrg
    refine s_k_spells6_20 ?_
    repeat' (first
      | (exact True.intro)
      | (exact hpre.1)
      | (refine And.intro ?_ ?_)
      | (refine (ih _ (by omega) _ rfl ?_); (first | omega | trivial))
      | (refine hP _ ?_; (refine ⟨by omega, by omega, ?_⟩; (first | trivial | omega)))
      | omega
      | (intro _))
def x_k_spells6 : fw_X := fun as W Q => match as with
  | [.inr (.inl s_), .inr (.inr l0_)] => fw_if (Nat.beq s_ 1) (fw_if (Nat.beq l0_ 506) ((True) ∧ (∀ (v : Int), (0 ≤ v ∧ v ≤ 1 ∧ (True)) → Q (some (.inl v)) W)))
  | _ => False
theorem x_k_spells6_ok (d : Nat) (as : List fw_V) (W : fw_W) (Q : Option fw_V → fw_W → Prop) (hx : x_k_spells6 as W Q) : jf fw_T (d + 1) 100 0 (fw_args 0 as) [] W Q := by
  unfold x_k_spells6 at hx
  split at hx
  · rename_i s_ l0_
    obtain ⟨e0_, hx0⟩ := fw_if_ok hx
    have e0_ := Nat.eq_of_beq_eq_true e0_
    clear hx
    subst e0_
    obtain ⟨e1_, hx1⟩ := fw_if_ok hx0
    have e1_ := Nat.eq_of_beq_eq_true e1_
    clear hx0
    subst e1_
    obtain ⟨hpre, hQ⟩ := hx1
    have hP := hQ
    refine s_k_spells6_0 ?_
    repeat' (first
      | (exact True.intro)
      | (exact hpre.1)
      | (refine And.intro ?_ ?_)
      | (refine (lm_k_spells6_20 hpre hP _ _ rfl ?_); (first | omega | trivial))
      | (refine hP _ ?_; (refine ⟨by omega, by omega, ?_⟩; (first | trivial | omega)))
      | omega
      | (intro _))
  · exact hx.elim

def x_k_spells : fw_X := fun as W Q => match as with
  | [.inr (.inl s_), .inr (.inr c_)] => fw_if (Nat.beq s_ 1 && (Nat.ble 500 c_ && Nat.ble c_ 506)) ((True) ∧ (∀ (v : Int), (0 ≤ v ∧ v ≤ 1 ∧ (True)) → Q (some (.inl v)) W))
  | _ => False
theorem x_k_spells_ok (d : Nat) (as : List fw_V) (W : fw_W) (Q : Option fw_V → fw_W → Prop) (hx : x_k_spells as W Q) : jf fw_T (d + 1) 100 0 (fw_args 0 as) [] W Q := by
  unfold x_k_spells at hx
  split at hx
  · rename_i s_ c_
    obtain ⟨e0, hy⟩ := fw_if_ok hx
    clear hx
    rw [Bool.and_eq_true, Bool.and_eq_true] at e0
    have e1 := Nat.eq_of_beq_eq_true e0.1
    have e2 := Nat.le_of_ble_eq_true e0.2.1
    have e3 := Nat.le_of_ble_eq_true e0.2.2
    subst e1
    have e4 : c_ = 500 ∨ c_ = 501 ∨ c_ = 502 ∨ c_ = 503 ∨ c_ = 504 ∨ c_ = 505 ∨ c_ = 506 := by omega
    rcases e4 with rfl | rfl | rfl | rfl | rfl | rfl | rfl
    · exact x_k_spells0_ok d _ W Q hy
    · exact x_k_spells1_ok d _ W Q hy
    · exact x_k_spells2_ok d _ W Q hy
    · exact x_k_spells3_ok d _ W Q hy
    · exact x_k_spells4_ok d _ W Q hy
    · exact x_k_spells5_ok d _ W Q hy
    · exact x_k_spells6_ok d _ W Q hy
  · exact hx.elim
def fr_99 : fw_P := [(0, 2, 0, 0, 0), (1, 96, 0, 0, 0), (3, 64, 100, 1, 307), (6, 20, 11, 0, 0), (9, 0, 0, 0, 5), (10, 70, 0, 0, 0), (11, 2, 0, 0, 0), (12, 96, 1, 0, 0), (14, 64, 100, 1, 307), (17, 20, 23, 0, 0), (20, 0, 0, 0, 6), (22, 70, 0, 0, 0), (23, 2, 0, 0, 0), (24, 96, 2, 0, 0), (26, 64, 100, 1, 307), (29, 20, 35, 0, 0), (32, 0, 0, 0, 7), (34, 70, 0, 0, 0), (35, 2, 0, 0, 0), (36, 96, 3, 0, 0), (38, 64, 100, 1, 307), (41, 20, 47, 0, 0), (44, 0, 0, 0, 8), (46, 70, 0, 0, 0), (47, 2, 0, 0, 0), (48, 96, 4, 0, 0), (50, 64, 100, 1, 307), (53, 20, 59, 0, 0), (56, 0, 0, 0, 9), (58, 70, 0, 0, 0), (59, 2, 0, 0, 0), (60, 96, 5, 0, 0), (62, 64, 100, 1, 307), (65, 20, 71, 0, 0), (68, 0, 0, 0, 10), (70, 70, 0, 0, 0), (71, 2, 0, 0, 0), (72, 96, 6, 0, 0), (74, 64, 100, 1, 307), (77, 20, 85, 0, 0), (80, 0, 0, 0, 11), (82, 6, 86, 0, 0), (85, 0, 0, 0, 4), (86, 70, 0, 0, 0)]
theorem fr_99_ok : fw_mk 99 1 7 (some .int) fr_99 = true := by decide +kernel
def ct_k_kindOfWord : List (Nat × fw_X) := [(100, x_k_spells)]
theorem ct_k_kindOfWord_ok (d : Nat) : fw_cok fw_T (d + 1) ct_k_kindOfWord := by
  intro q hq as W Q h
  simp only [ct_k_kindOfWord, List.mem_cons, List.not_mem_nil, or_false] at hq
  rcases hq with rfl
  · exact jc_of (x_k_spells_ok (d + 0) as W Q h)
theorem s_k_kindOfWord_0 {Post : Option fw_V → fw_W → Prop} {d : Nat} {W : fw_W}
    (hw_ : (True) ∧ (∀ (r1 : Int), ((0 ≤ r1 ∧ r1 ≤ 1 ∧ (True))) → ((r1 = 0 → (True) ∧ (∀ (r2 : Int), ((0 ≤ r2 ∧ r2 ≤ 1 ∧ (True))) → ((r2 = 0 → (True) ∧ (∀ (r3 : Int), ((0 ≤ r3 ∧ r3 ≤ 1 ∧ (True))) → ((r3 = 0 → (True) ∧ (∀ (r4 : Int), ((0 ≤ r4 ∧ r4 ≤ 1 ∧ (True))) → ((r4 = 0 → (True) ∧ (∀ (r5 : Int), ((0 ≤ r5 ∧ r5 ≤ 1 ∧ (True))) → ((r5 = 0 → (True) ∧ (∀ (r6 : Int), ((0 ≤ r6 ∧ r6 ≤ 1 ∧ (True))) → ((r6 = 0 → (True) ∧ (∀ (r7 : Int), ((0 ≤ r7 ∧ r7 ≤ 1 ∧ (True))) → ((r7 = 0 → (-2147483648 ≤ (4 : Int) → (4 : Int) ≤ 2147483647 → Post (some (.inl (4 : Int))) W)) ∧ (¬ r7 = 0 → (-2147483648 ≤ (11 : Int) → (11 : Int) ≤ 2147483647 → Post (some (.inl (11 : Int))) W))))) ∧ (¬ r6 = 0 → (-2147483648 ≤ (10 : Int) → (10 : Int) ≤ 2147483647 → Post (some (.inl (10 : Int))) W))))) ∧ (¬ r5 = 0 → (-2147483648 ≤ (9 : Int) → (9 : Int) ≤ 2147483647 → Post (some (.inl (9 : Int))) W))))) ∧ (¬ r4 = 0 → (-2147483648 ≤ (8 : Int) → (8 : Int) ≤ 2147483647 → Post (some (.inl (8 : Int))) W))))) ∧ (¬ r3 = 0 → (-2147483648 ≤ (7 : Int) → (7 : Int) ≤ 2147483647 → Post (some (.inl (7 : Int))) W))))) ∧ (¬ r2 = 0 → (-2147483648 ≤ (6 : Int) → (6 : Int) ≤ 2147483647 → Post (some (.inl (6 : Int))) W))))) ∧ (¬ r1 = 0 → (-2147483648 ≤ (5 : Int) → (5 : Int) ≤ 2147483647 → Post (some (.inl (5 : Int))) W))))) :
    jf fw_T (d + 2) 99 0 [(0, .inr (.inl 1))] [] W Post := fw_ok (n := 32) (ss := []) (hv := []) fr_99_ok fv_tapeq_ok (ct_k_kindOfWord_ok d) hw_

def x_k_kindOfWord : fw_X := fun as W Q => match as with
  | [.inr (.inl s_)] => fw_if (Nat.beq s_ 1) ((True) ∧ (∀ (v : Int), (-2147483648 ≤ v ∧ v ≤ 2147483647 ∧ (4 ≤ v ∧ v ≤ 11)) → Q (some (.inl v)) W))
  | _ => False
theorem x_k_kindOfWord_ok (d : Nat) (as : List fw_V) (W : fw_W) (Q : Option fw_V → fw_W → Prop) (hx : x_k_kindOfWord as W Q) : jf fw_T (d + 2) 99 0 (fw_args 0 as) [] W Q := by
  unfold x_k_kindOfWord at hx
  split at hx
  · rename_i s_
    obtain ⟨e_, hpre, hQ⟩ := fw_if_ok hx
    have e_ := Nat.eq_of_beq_eq_true e_
    subst e_
    have hP := hQ
    refine s_k_kindOfWord_0 ?_
    repeat' (first
      | (exact True.intro)
      | (exact hpre.1)
      | (refine And.intro ?_ ?_)
      | (refine hP _ ?_; (refine ⟨by omega, by omega, ?_⟩; (omega)))
      | omega
      | (intro _))
  · exact hx.elim

def fr_96 : fw_P := [(0, 2, 0, 0, 0), (1, 50, 7, 6, 0), (4, 2, 0, 0, 0), (5, 50, 7, 0, 0), (8, 13, 52, 0, 0), (11, 2, 0, 0, 0), (12, 50, 7, 5, 0), (15, 2, 0, 0, 0), (16, 50, 7, 6, 0), (19, 54, 0, 0, 0), (20, 0, 0, 0, 32), (22, 10, 39, 0, 0), (25, 2, 0, 0, 0), (26, 50, 7, 5, 0), (29, 2, 0, 0, 0), (30, 50, 7, 6, 0), (33, 54, 0, 0, 0), (34, 0, 0, 0, 10), (36, 11, 52, 0, 0), (39, 2, 0, 0, 0), (40, 43, 0, 0, 0), (41, 50, 7, 6, 0), (44, 0, 0, 0, 1), (45, 30, 0, 0, 0), (46, 51, 7, 6, 0), (49, 6, 0, 0, 0), (52, 2, 0, 0, 0), (53, 2, 0, 0, 0), (54, 50, 7, 6, 0), (57, 51, 7, 2, 0), (60, 2, 0, 0, 0), (61, 50, 7, 6, 0), (64, 2, 0, 0, 0), (65, 50, 7, 0, 0), (68, 12, 79, 0, 0), (71, 2, 0, 0, 0), (72, 0, 0, 0, 0), (73, 51, 7, 1, 0), (76, 6, 174, 0, 0), (79, 2, 0, 0, 0), (80, 2, 0, 0, 0), (81, 50, 7, 6, 0), (84, 64, 97, 1, 207), (87, 20, 123, 0, 0), (90, 2, 0, 0, 0), (91, 64, 98, 0, 107), (94, 2, 0, 0, 0), (95, 2, 0, 0, 0), (96, 50, 7, 6, 0), (99, 2, 0, 0, 0), (100, 50, 7, 2, 0), (103, 31, 0, 0, 0), (104, 0, 0, 0, 8), (106, 15, 113, 0, 0), (109, 0, 0, 0, 1), (110, 6, 117, 0, 0), (113, 2, 0, 0, 0), (114, 64, 99, 0, 107), (117, 51, 7, 1, 0), (120, 6, 174, 0, 0), (123, 2, 0, 0, 0), (124, 2, 0, 0, 0), (125, 50, 7, 6, 0), (128, 64, 101, 1, 207), (131, 20, 141, 0, 0), (134, 2, 0, 0, 0), (135, 64, 102, 0, 207), (138, 6, 174, 0, 0), (141, 2, 0, 0, 0), (142, 2, 0, 0, 0), (143, 50, 7, 5, 0), (146, 2, 0, 0, 0), (147, 50, 7, 6, 0), (150, 54, 0, 0, 0), (151, 0, 0, 0, 59), (153, 11, 160, 0, 0), (156, 0, 0, 0, 2), (157, 6, 161, 0, 0), (160, 0, 0, 0, 1), (161, 51, 7, 1, 0), (164, 2, 0, 0, 0), (165, 43, 0, 0, 0), (166, 50, 7, 6, 0), (169, 0, 0, 0, 1), (170, 30, 0, 0, 0), (171, 51, 7, 6, 0), (174, 72, 0, 0, 0)]
theorem fr_96_ok : fw_mk 96 1 7 none fr_96 = true := by decide +kernel
def ct_k_step : List (Nat × fw_X) := [(97, x_k_isLetter), (101, x_k_isDigit), (98, x_k_readWord), (102, x_k_readNumber), (99, x_k_kindOfWord)]
theorem ct_k_step_ok (d : Nat) : fw_cok fw_T (d + 2) ct_k_step := by
  intro q hq as W Q h
  simp only [ct_k_step, List.mem_cons, List.not_mem_nil, or_false] at hq
  rcases hq with rfl | rfl | rfl | rfl | rfl
  · exact jc_of (x_k_isLetter_ok (d + 1) as W Q h)
  · exact jc_of (x_k_isDigit_ok (d + 1) as W Q h)
  · exact jc_of (x_k_readWord_ok (d + 0) as W Q h)
  · exact jc_of (x_k_readNumber_ok (d + 0) as W Q h)
  · exact jc_of (x_k_kindOfWord_ok (d + 0) as W Q h)
theorem s_k_step_123 {Post : Option fw_V → fw_W → Prop} {d : Nat} {W : fw_W} {f : fw_W}
    (hw_ : (0 ≤ (fw_g f 1 6) → (fw_g f 1 6) ≤ 1200 → (0 ≤ (fw_g f 1 6) ∧ (fw_g W 1 0) ≤ 1200) ∧ (∀ (r1 : Int), ((0 ≤ r1 ∧ r1 ≤ 1 ∧ (True))) → ((r1 = 0 → (0 ≤ (fw_g f 1 6) → (fw_g f 1 6) ≤ 1200 → 0 ≤ (fw_g f 1 6) ∧ (fw_g f 1 6) < 1200 ∧ (-128 ≤ (fw_g W 2 (fw_g f 1 6)) → (fw_g W 2 (fw_g f 1 6)) ≤ 127 → ((¬ (fw_g W 2 (fw_g f 1 6)) = (59 : Int) → 0 ≤ (1 : Int) ∧ (1 : Int) ≤ 11 ∧ ((0 ≤ (fw_g f 1 6) → (fw_g f 1 6) ≤ 1200 → -2147483648 ≤ (fw_g f 1 6) + (1 : Int) ∧ (fw_g f 1 6) + (1 : Int) ≤ 2147483647 ∧ (0 ≤ ((fw_g f 1 6) + (1 : Int)) ∧ ((fw_g f 1 6) + (1 : Int)) ≤ 1200 ∧ (Post none (fw_up (fw_up (fw_put [] 0 [1001, 1002, 1003, 1006] W f) 1 1 (1 : Int)) 1 6 ((fw_g f 1 6) + (1 : Int)))))))) ∧ ((fw_g W 2 (fw_g f 1 6)) = (59 : Int) → 0 ≤ (2 : Int) ∧ (2 : Int) ≤ 11 ∧ ((0 ≤ (fw_g f 1 6) → (fw_g f 1 6) ≤ 1200 → -2147483648 ≤ (fw_g f 1 6) + (1 : Int) ∧ (fw_g f 1 6) + (1 : Int) ≤ 2147483647 ∧ (0 ≤ ((fw_g f 1 6) + (1 : Int)) ∧ ((fw_g f 1 6) + (1 : Int)) ≤ 1200 ∧ (Post none (fw_up (fw_up (fw_put [] 0 [1001, 1002, 1003, 1006] W f) 1 1 (2 : Int)) 1 6 ((fw_g f 1 6) + (1 : Int)))))))))))) ∧ (¬ r1 = 0 → (0 ≤ (fw_g f 1 6) ∧ (fw_g f 1 6) ≤ (fw_g W 1 0) ∧ (fw_g W 1 0) ≤ 1200) ∧ (∀ (f2 : fw_W), ((0 ≤ (fw_g f2 1 6) ∧ (fw_g f2 1 6) ≤ (fw_g W 1 0))) → Post none (fw_put [] 0 [1006, 1003, 1001] (fw_put [] 0 [1001, 1002, 1003, 1006] W f) f2))))))) :
    jf fw_T (d + 3) 96 123 [(0, .inr (.inl 1))] [] (fw_put [] 0 [1001, 1002, 1003, 1006] W f) Post := fw_ok (n := 24) (ss := [(0, [0]), (52, [0]), (79, [0]), (123, [0])]) (hv := []) fr_96_ok fv_tapeq_ok (ct_k_step_ok d) hw_

theorem s_k_step_79 {Post : Option fw_V → fw_W → Prop} {d : Nat} {W : fw_W} {f : fw_W}
    (hw_ : (0 ≤ (fw_g f 1 6) → (fw_g f 1 6) ≤ 1200 → (0 ≤ (fw_g f 1 6) ∧ (fw_g W 1 0) ≤ 1200) ∧ (∀ (r1 : Int), ((0 ≤ r1 ∧ r1 ≤ 1 ∧ (True))) → ((r1 = 0 → jf fw_T (d + 3) 96 123 [(0, .inr (.inl 1))] [] (fw_put [] 0 [1001, 1002, 1003, 1006] W f) Post) ∧ (¬ r1 = 0 → (0 ≤ (fw_g f 1 6) ∧ (fw_g f 1 6) ≤ (fw_g W 1 0) ∧ (fw_g W 1 0) ≤ 1200) ∧ (∀ (f2 : fw_W), ((0 ≤ (fw_g f2 1 6) ∧ (fw_g f2 1 6) ≤ (fw_g W 1 0))) → (0 ≤ (fw_g f2 1 6) → (fw_g f2 1 6) ≤ 1200 → (0 ≤ (fw_g f 1 2) → (fw_g f 1 2) ≤ 1200 → -2147483648 ≤ (fw_g f2 1 6) - (fw_g f 1 2) ∧ (fw_g f2 1 6) - (fw_g f 1 2) ≤ 2147483647 ∧ (((((fw_g f2 1 6) - (fw_g f 1 2)) ≤ (8 : Int) → (True) ∧ (∀ (r3 : Int), ((-2147483648 ≤ r3 ∧ r3 ≤ 2147483647 ∧ (4 ≤ r3 ∧ r3 ≤ 11))) → 0 ≤ r3 ∧ r3 ≤ 11 ∧ (Post none (fw_up (fw_put [] 0 [1006] (fw_put [] 0 [1001, 1002, 1003, 1006] W f) f2) 1 1 r3)))) ∧ ((8 : Int) < ((fw_g f2 1 6) - (fw_g f 1 2)) → 0 ≤ (1 : Int) ∧ (1 : Int) ≤ 11 ∧ (Post none (fw_up (fw_put [] 0 [1006] (fw_put [] 0 [1001, 1002, 1003, 1006] W f) f2) 1 1 (1 : Int)))))))))))))) :
    jf fw_T (d + 3) 96 79 [(0, .inr (.inl 1))] [] (fw_put [] 0 [1001, 1002, 1003, 1006] W f) Post := fw_ok (n := 21) (ss := [(0, [0]), (52, [0]), (79, [0]), (123, [0])]) (hv := []) fr_96_ok fv_tapeq_ok (ct_k_step_ok d) hw_

theorem s_k_step_52 {Post : Option fw_V → fw_W → Prop} {d : Nat} {W : fw_W} {f : fw_W}
    (hw_ : (0 ≤ (fw_g f 1 6) → (fw_g f 1 6) ≤ 1200 → 0 ≤ (fw_g f 1 6) ∧ (fw_g f 1 6) ≤ 1200 ∧ ((0 ≤ (fw_g f 1 6) → (fw_g f 1 6) ≤ 1200 → (0 ≤ (fw_g W 1 0) → (fw_g W 1 0) ≤ 1200 → (((fw_g f 1 6) < (fw_g W 1 0) → jf fw_T (d + 3) 96 79 [(0, .inr (.inl 1))] [] (fw_up (fw_put [] 0 [1001, 1002, 1003, 1006] W f) 1 2 (fw_g f 1 6)) Post) ∧ ((fw_g W 1 0) ≤ (fw_g f 1 6) → 0 ≤ (0 : Int) ∧ (0 : Int) ≤ 11 ∧ (Post none (fw_up (fw_up (fw_put [] 0 [1001, 1002, 1003, 1006] W f) 1 2 (fw_g f 1 6)) 1 1 (0 : Int)))))))))) :
    jf fw_T (d + 3) 96 52 [(0, .inr (.inl 1))] [] (fw_put [] 0 [1001, 1002, 1003, 1006] W f) Post := fw_ok (n := 15) (ss := [(0, [0]), (52, [0]), (79, [0]), (123, [0])]) (hv := []) fr_96_ok fv_tapeq_ok (ct_k_step_ok d) hw_

theorem s_k_step_0 {Post : Option fw_V → fw_W → Prop} {d : Nat} {W : fw_W} {f : fw_W}
    (hw_ : (0 ≤ (fw_g f 1 6) → (fw_g f 1 6) ≤ 1200 → (0 ≤ (fw_g W 1 0) → (fw_g W 1 0) ≤ 1200 → (((fw_g W 1 0) ≤ (fw_g f 1 6) → jf fw_T (d + 3) 96 52 [(0, .inr (.inl 1))] [] (fw_put [] 0 [1001, 1002, 1003, 1006] W f) Post) ∧ ((fw_g f 1 6) < (fw_g W 1 0) → (0 ≤ (fw_g f 1 6) → (fw_g f 1 6) ≤ 1200 → 0 ≤ (fw_g f 1 6) ∧ (fw_g f 1 6) < 1200 ∧ (-128 ≤ (fw_g W 2 (fw_g f 1 6)) → (fw_g W 2 (fw_g f 1 6)) ≤ 127 → (((fw_g W 2 (fw_g f 1 6)) = (32 : Int) → (0 ≤ (fw_g f 1 6) → (fw_g f 1 6) ≤ 1200 → -2147483648 ≤ (fw_g f 1 6) + (1 : Int) ∧ (fw_g f 1 6) + (1 : Int) ≤ 2147483647 ∧ (0 ≤ ((fw_g f 1 6) + (1 : Int)) ∧ ((fw_g f 1 6) + (1 : Int)) ≤ 1200 ∧ (jf fw_T (d + 3) 96 0 [(0, .inr (.inl 1))] [] (fw_up (fw_put [] 0 [1001, 1002, 1003, 1006] W f) 1 6 ((fw_g f 1 6) + (1 : Int))) Post)))) ∧ (¬ (fw_g W 2 (fw_g f 1 6)) = (32 : Int) → (0 ≤ (fw_g f 1 6) → (fw_g f 1 6) ≤ 1200 → 0 ≤ (fw_g f 1 6) ∧ (fw_g f 1 6) < 1200 ∧ (-128 ≤ (fw_g W 2 (fw_g f 1 6)) → (fw_g W 2 (fw_g f 1 6)) ≤ 127 → ((¬ (fw_g W 2 (fw_g f 1 6)) = (10 : Int) → jf fw_T (d + 3) 96 52 [(0, .inr (.inl 1))] [] (fw_put [] 0 [1001, 1002, 1003, 1006] W f) Post) ∧ ((fw_g W 2 (fw_g f 1 6)) = (10 : Int) → (0 ≤ (fw_g f 1 6) → (fw_g f 1 6) ≤ 1200 → -2147483648 ≤ (fw_g f 1 6) + (1 : Int) ∧ (fw_g f 1 6) + (1 : Int) ≤ 2147483647 ∧ (0 ≤ ((fw_g f 1 6) + (1 : Int)) ∧ ((fw_g f 1 6) + (1 : Int)) ≤ 1200 ∧ (jf fw_T (d + 3) 96 0 [(0, .inr (.inl 1))] [] (fw_up (fw_put [] 0 [1001, 1002, 1003, 1006] W f) 1 6 ((fw_g f 1 6) + (1 : Int))) Post)))))))))))))))) :
    jf fw_T (d + 3) 96 0 [(0, .inr (.inl 1))] [] (fw_put [] 0 [1001, 1002, 1003, 1006] W f) Post := fw_ok (n := 27) (ss := [(0, [0]), (52, [0]), (79, [0]), (123, [0])]) (hv := []) fr_96_ok fv_tapeq_ok (ct_k_step_ok d) hw_

theorem lm_k_step_123 {Post : Option fw_V → fw_W → Prop} {d : Nat} {W : fw_W} (hpre : True) (hP : ∀ (W2 : fw_W), fw_sm [] 0 [1001, 1002, 1003, 1006] W W2 → (True) → Post none W2)  : ∀ (f : fw_W), (fw_g f 1 6) < (fw_g W 1 0) ∧ (fw_g W 1 0) ≤ 1200 → jf fw_T (d + 3) 96 123 [(0, .inr (.inl 1))] [] (fw_put [] 0 [1001, 1002, 1003, 1006] W f) Post := by
  intro f hi
  refine s_k_step_123 ?_
  repeat' (first
    | (exact True.intro)
    | (exact hpre.1)
    | (refine And.intro ?_ ?_)
    | (refine hP _ (by repeat (first | exact fw_sm_refl | exact fw_sm_put0 | refine fw_sm_arr ?_ rfl | refine fw_sm_up ?_ rfl | refine fw_sm_put ?_ rfl | refine fw_sm_cp ?_ rfl)) ?_; (first | trivial | omega))
    | (simp (disch := first | decide | omega) only [fg_same, fg_lit, fg_in, fg_fin, fg_out, fg_fout, fg_up, true_and, and_true, true_or, or_true, true_implies]; omega)
    | omega
    | (intro _))
theorem lm_k_step_79 {Post : Option fw_V → fw_W → Prop} {d : Nat} {W : fw_W} (hpre : True) (hP : ∀ (W2 : fw_W), fw_sm [] 0 [1001, 1002, 1003, 1006] W W2 → (True) → Post none W2)  : ∀ (f : fw_W), (fw_g f 1 6) < (fw_g W 1 0) ∧ (fw_g W 1 0) ≤ 1200 → jf fw_T (d + 3) 96 79 [(0, .inr (.inl 1))] [] (fw_put [] 0 [1001, 1002, 1003, 1006] W f) Post := by
  intro f hi
  refine s_k_step_79 ?_
  repeat' (first
    | (exact True.intro)
    | (exact hpre.1)
    | (refine And.intro ?_ ?_)
    | (refine (lm_k_step_123 hpre hP _ ?_); (first | omega | (simp (disch := first | decide | omega) only [fg_same, fg_lit, fg_in, fg_fin, fg_out, fg_fout, fg_up, true_and, and_true, true_or, or_true, true_implies]; omega) | (simp (disch := first | decide | omega) only [fg_same, fg_lit, fg_in, fg_fin, fg_out, fg_fout, fg_up, true_and, and_true, true_or, or_true, true_implies]; first | done | omega)))
    | (refine jf_put (S := []) (o := 0) (F := [1001, 1002, 1003, 1006]) (W := W) (by repeat (first | exact fw_sm_refl | exact fw_sm_put0 | refine fw_sm_arr ?_ rfl | refine fw_sm_up ?_ rfl | refine fw_sm_put ?_ rfl | refine fw_sm_cp ?_ rfl)) (lm_k_step_123 hpre hP _ ?_); (first | omega | (simp (disch := first | decide | omega) only [fg_same, fg_lit, fg_in, fg_fin, fg_out, fg_fout, fg_up, true_and, and_true, true_or, or_true, true_implies]; omega) | (simp (disch := first | decide | omega) only [fg_same, fg_lit, fg_in, fg_fin, fg_out, fg_fout, fg_up, true_and, and_true, true_or, or_true, true_implies]; first | done | omega)))
    | (refine hP _ (by repeat (first | exact fw_sm_refl | exact fw_sm_put0 | refine fw_sm_arr ?_ rfl | refine fw_sm_up ?_ rfl | refine fw_sm_put ?_ rfl | refine fw_sm_cp ?_ rfl)) ?_; (first | trivial | omega))
    | (simp (disch := first | decide | omega) only [fg_same, fg_lit, fg_in, fg_fin, fg_out, fg_fout, fg_up, true_and, and_true, true_or, or_true, true_implies]; omega)
    | omega
    | (intro _))
theorem lm_k_step_52 {Post : Option fw_V → fw_W → Prop} {d : Nat} {W : fw_W} (hpre : True) (hP : ∀ (W2 : fw_W), fw_sm [] 0 [1001, 1002, 1003, 1006] W W2 → (True) → Post none W2)  : ∀ (f : fw_W), True → jf fw_T (d + 3) 96 52 [(0, .inr (.inl 1))] [] (fw_put [] 0 [1001, 1002, 1003, 1006] W f) Post := by
  intro f hi
  refine s_k_step_52 ?_
  repeat' (first
    | (exact True.intro)
    | (exact hpre.1)
    | (refine And.intro ?_ ?_)
    | (refine (lm_k_step_79 hpre hP _ ?_); (first | omega | (simp (disch := first | decide | omega) only [fg_same, fg_lit, fg_in, fg_fin, fg_out, fg_fout, fg_up, true_and, and_true, true_or, or_true, true_implies]; omega) | (simp (disch := first | decide | omega) only [fg_same, fg_lit, fg_in, fg_fin, fg_out, fg_fout, fg_up, true_and, and_true, true_or, or_true, true_implies]; first | done | omega)))
    | (refine jf_put (S := []) (o := 0) (F := [1001, 1002, 1003, 1006]) (W := W) (by repeat (first | exact fw_sm_refl | exact fw_sm_put0 | refine fw_sm_arr ?_ rfl | refine fw_sm_up ?_ rfl | refine fw_sm_put ?_ rfl | refine fw_sm_cp ?_ rfl)) (lm_k_step_79 hpre hP _ ?_); (first | omega | (simp (disch := first | decide | omega) only [fg_same, fg_lit, fg_in, fg_fin, fg_out, fg_fout, fg_up, true_and, and_true, true_or, or_true, true_implies]; omega) | (simp (disch := first | decide | omega) only [fg_same, fg_lit, fg_in, fg_fin, fg_out, fg_fout, fg_up, true_and, and_true, true_or, or_true, true_implies]; first | done | omega)))
    | (refine hP _ (by repeat (first | exact fw_sm_refl | exact fw_sm_put0 | refine fw_sm_arr ?_ rfl | refine fw_sm_up ?_ rfl | refine fw_sm_put ?_ rfl | refine fw_sm_cp ?_ rfl)) ?_; (first | trivial | omega))
    | (simp (disch := first | decide | omega) only [fg_same, fg_lit, fg_in, fg_fin, fg_out, fg_fout, fg_up, true_and, and_true, true_or, or_true, true_implies]; omega)
    | omega
    | (intro _))
theorem lm_k_step_0 {Post : Option fw_V → fw_W → Prop} {d : Nat} {W : fw_W} (hpre : True) (hP : ∀ (W2 : fw_W), fw_sm [] 0 [1001, 1002, 1003, 1006] W W2 → (True) → Post none W2)  : ∀ (m : Nat) (f : fw_W), ((fw_g W 1 0) - (fw_g f 1 6)).toNat = m → True → jf fw_T (d + 3) 96 0 [(0, .inr (.inl 1))] [] (fw_put [] 0 [1001, 1002, 1003, 1006] W f) Post := by
  intro m
  induction m using Nat.strongRecOn with
  | ind m ih =>
    intro f hm hi
    refine s_k_step_0 ?_
    repeat' (first
      | (exact True.intro)
      | (exact hpre.1)
      | (refine And.intro ?_ ?_)
      | (refine (ih _ (by first | omega | (simp (disch := first | decide | omega) only [fg_same, fg_lit, fg_in, fg_fin, fg_out, fg_fout, fg_up, true_and, and_true, true_or, or_true, true_implies]; omega)) _ rfl ?_); (trivial))
      | (refine jf_put (S := []) (o := 0) (F := [1001, 1002, 1003, 1006]) (W := W) (by repeat (first | exact fw_sm_refl | exact fw_sm_put0 | refine fw_sm_arr ?_ rfl | refine fw_sm_up ?_ rfl | refine fw_sm_put ?_ rfl | refine fw_sm_cp ?_ rfl)) (ih _ (by first | omega | (simp (disch := first | decide | omega) only [fg_same, fg_lit, fg_in, fg_fin, fg_out, fg_fout, fg_up, true_and, and_true, true_or, or_true, true_implies]; omega)) _ rfl ?_); (trivial))
      | (refine (lm_k_step_52 hpre hP _ ?_); (trivial))
      | (refine jf_put (S := []) (o := 0) (F := [1001, 1002, 1003, 1006]) (W := W) (by repeat (first | exact fw_sm_refl | exact fw_sm_put0 | refine fw_sm_arr ?_ rfl | refine fw_sm_up ?_ rfl | refine fw_sm_put ?_ rfl | refine fw_sm_cp ?_ rfl)) (lm_k_step_52 hpre hP _ ?_); (trivial))
      | (refine hP _ (by repeat (first | exact fw_sm_refl | exact fw_sm_put0 | refine fw_sm_arr ?_ rfl | refine fw_sm_up ?_ rfl | refine fw_sm_put ?_ rfl | refine fw_sm_cp ?_ rfl)) ?_; (first | trivial | omega))
      | (simp (disch := first | decide | omega) only [fg_same, fg_lit, fg_in, fg_fin, fg_out, fg_fout, fg_up, true_and, and_true, true_or, or_true, true_implies]; omega)
      | omega
      | (intro _))
def x_k_step : fw_X := fun as W Q => match as with
  | [.inr (.inl s_)] => fw_if (Nat.beq s_ 1) ((True) ∧ (∀ (f : fw_W), (True) → Q none (fw_put [] 0 [1001, 1002, 1003, 1006] W f)))
  | _ => False
theorem x_k_step_ok (d : Nat) (as : List fw_V) (W : fw_W) (Q : Option fw_V → fw_W → Prop) (hx : x_k_step as W Q) : jf fw_T (d + 3) 96 0 (fw_args 0 as) [] W Q := by
  unfold x_k_step at hx
  split at hx
  · rename_i s_
    obtain ⟨e_, hpre, hQ⟩ := fw_if_ok hx
    have e_ := Nat.eq_of_beq_eq_true e_
    subst e_
    have hP : ∀ (W2 : fw_W), fw_sm [] 0 [1001, 1002, 1003, 1006] W W2 → _ → Q none W2 := fun W2 hs hr => fw_sm_use (Q := fun Z => Q none Z) hs (hQ W2 hr)
    (refine jf_put (S := []) (o := 0) (F := [1001, 1002, 1003, 1006]) (W := W) (by repeat (first | exact fw_sm_refl | exact fw_sm_put0 | refine fw_sm_arr ?_ rfl | refine fw_sm_up ?_ rfl | refine fw_sm_put ?_ rfl | refine fw_sm_cp ?_ rfl)) (lm_k_step_0 hpre hP _ _ rfl ?_); (trivial))
  · exact hx.elim

def fr_95 : fw_P := [(0, 2, 0, 0, 0), (1, 0, 0, 0, 0), (2, 51, 7, 6, 0), (5, 2, 0, 0, 0), (6, 64, 96, 0, 107), (9, 72, 0, 0, 0)]
theorem fr_95_ok : fw_mk 95 1 7 none fr_95 = true := by decide +kernel
def ct_k_restart : List (Nat × fw_X) := [(96, x_k_step)]
theorem ct_k_restart_ok (d : Nat) : fw_cok fw_T (d + 3) ct_k_restart := by
  intro q hq as W Q h
  simp only [ct_k_restart, List.mem_cons, List.not_mem_nil, or_false] at hq
  rcases hq with rfl
  · exact jc_of (x_k_step_ok (d + 0) as W Q h)
theorem s_k_restart_0 {Post : Option fw_V → fw_W → Prop} {d : Nat} {W : fw_W}
    (hw_ : 0 ≤ (0 : Int) ∧ (0 : Int) ≤ 1200 ∧ ((True) ∧ (∀ (f1 : fw_W), ((True)) → Post none (fw_put [] 0 [1001, 1002, 1003, 1006] (fw_up W 1 6 (0 : Int)) f1)))) :
    jf fw_T (d + 4) 95 0 [(0, .inr (.inl 1))] [] W Post := fw_ok (n := 7) (ss := []) (hv := []) fr_95_ok fv_tapeq_ok (ct_k_restart_ok d) hw_

def x_k_restart : fw_X := fun as W Q => match as with
  | [.inr (.inl s_)] => fw_if (Nat.beq s_ 1) ((True) ∧ (∀ (f : fw_W), (True) → Q none (fw_put [] 0 [1001, 1002, 1003, 1006] W f)))
  | _ => False
theorem x_k_restart_ok (d : Nat) (as : List fw_V) (W : fw_W) (Q : Option fw_V → fw_W → Prop) (hx : x_k_restart as W Q) : jf fw_T (d + 4) 95 0 (fw_args 0 as) [] W Q := by
  unfold x_k_restart at hx
  split at hx
  · rename_i s_
    obtain ⟨e_, hpre, hQ⟩ := fw_if_ok hx
    have e_ := Nat.eq_of_beq_eq_true e_
    subst e_
    have hP : ∀ (W2 : fw_W), fw_sm [] 0 [1001, 1002, 1003, 1006] W W2 → _ → Q none W2 := fun W2 hs hr => fw_sm_use (Q := fun Z => Q none Z) hs (hQ W2 hr)
    refine s_k_restart_0 ?_
    repeat' (first
      | (exact True.intro)
      | (exact hpre.1)
      | (refine And.intro ?_ ?_)
      | (refine hP _ (by repeat (first | exact fw_sm_refl | exact fw_sm_put0 | refine fw_sm_arr ?_ rfl | refine fw_sm_up ?_ rfl | refine fw_sm_put ?_ rfl | refine fw_sm_cp ?_ rfl)) ?_; (first | trivial | omega))
      | omega
      | (intro _))
  · exact hx.elim

def fr_94 : fw_P := [(0, 0, 0, 0, 24), (2, 3, 2, 0, 0), (3, 1, 2, 0, 0), (4, 22, 46, 0, 0), (7, 2, 0, 0, 0), (8, 50, 7, 0, 0), (11, 0, 0, 0, 1200), (14, 13, 46, 0, 0), (17, 2, 0, 0, 0), (18, 50, 7, 5, 0), (21, 2, 0, 0, 0), (22, 50, 7, 0, 0), (25, 1, 1, 0, 0), (26, 1, 2, 0, 0), (27, 41, 0, 0, 0), (28, 46, 0, 0, 0), (29, 55, 0, 0, 0), (30, 2, 0, 0, 0), (31, 43, 0, 0, 0), (32, 50, 7, 0, 0), (35, 0, 0, 0, 1), (36, 30, 0, 0, 0), (37, 51, 7, 0, 0), (40, 5, 2, 0, -8), (43, 6, 3, 0, 0), (46, 72, 0, 0, 0)]
theorem fr_94_ok : fw_mk 94 3 7 none fr_94 = true := by decide +kernel
theorem s_k_tadd_0 {Post : Option fw_V → fw_W → Prop} {d : Nat} {W : fw_W} {fo : Int}
    (hw_ : jf fw_T (d + 1) 94 3 [(0, .inr (.inl 1)), (1, .inl fo), (2, .inl (24 : Int))] [] W Post) :
    jf fw_T (d + 1) 94 0 [(0, .inr (.inl 1)), (1, .inl fo)] [] W Post := fw_ok (n := 3) (ss := [(3, [0, 1, 2])]) (hv := []) fr_94_ok fv_tapeq_ok (fw_c0 _ _) hw_

theorem s_k_tadd_3 {Post : Option fw_V → fw_W → Prop} {d : Nat} {W : fw_W} {fo sh : Int} {f : fw_W}
    (hw_ : ((sh < 0 → Post none (fw_put [2] 0 [1000] W f)) ∧ (0 ≤ sh → (0 ≤ (fw_g f 1 0) → (fw_g f 1 0) ≤ 1200 → (((1200 : Int) ≤ (fw_g f 1 0) → Post none (fw_put [2] 0 [1000] W f)) ∧ ((fw_g f 1 0) < (1200 : Int) → (0 ≤ (fw_g f 1 0) → (fw_g f 1 0) ≤ 1200 → (-2147483648 ≤ (fw_ushr fo sh) → (fw_ushr fo sh) ≤ 2147483647 → (∀ v1 : Int, -128 ≤ v1 → v1 ≤ 127 → 0 ≤ (fw_g f 1 0) ∧ (fw_g f 1 0) < 1200 ∧ -128 ≤ v1 ∧ v1 ≤ 127 ∧ -128 ≤ v1 ∧ v1 ≤ 127 ∧ ((0 ≤ (fw_g f 1 0) → (fw_g f 1 0) ≤ 1200 → -2147483648 ≤ (fw_g f 1 0) + (1 : Int) ∧ (fw_g f 1 0) + (1 : Int) ≤ 2147483647 ∧ (0 ≤ ((fw_g f 1 0) + (1 : Int)) ∧ ((fw_g f 1 0) + (1 : Int)) ≤ 1200 ∧ (-2147483648 ≤ sh + (-8 : Int) ∧ sh + (-8 : Int) ≤ 2147483647 ∧ (jf fw_T (d + 1) 94 3 [(0, .inr (.inl 1)), (1, .inl fo), (2, .inl (sh + (-8 : Int)))] [] (fw_up (fw_up (fw_put [2] 0 [1000] W f) 2 (fw_g f 1 0) v1) 1 0 ((fw_g f 1 0) + (1 : Int))) Post)))))))))))))) :
    jf fw_T (d + 1) 94 3 [(0, .inr (.inl 1)), (1, .inl fo), (2, .inl sh)] [] (fw_put [2] 0 [1000] W f) Post := fw_ok (n := 24) (ss := [(3, [0, 1, 2])]) (hv := []) fr_94_ok fv_tapeq_ok (fw_c0 _ _) hw_

theorem lm_k_tadd_3 {Post : Option fw_V → fw_W → Prop} {d : Nat} {W : fw_W} {fo : Int} (hpre : True) (hP : ∀ (W2 : fw_W), fw_sm [2] 0 [1000] W W2 → (True) → Post none W2)  : ∀ (m : Nat) (sh : Int) (f : fw_W), (sh + 8).toNat = m → sh ≤ 24 → jf fw_T (d + 1) 94 3 [(0, .inr (.inl 1)), (1, .inl fo), (2, .inl sh)] [] (fw_put [2] 0 [1000] W f) Post := by
  intro m
  induction m using Nat.strongRecOn with
  | ind m ih =>
    intro sh f hm hi
    refine jf_rng (fun hrg => ?_)
    have hrg : -2147483648 ≤ fo ∧ fo ≤ 2147483647 ∧ -2147483648 ≤ sh ∧ sh ≤ 2147483647 ∧ True := hrg
    refine s_k_tadd_3 ?_
    repeat' (first
      | (exact True.intro)
      | (exact hpre.1)
      | (refine And.intro ?_ ?_)
      | (refine (ih _ (by omega) _ _ rfl ?_); (first | omega | trivial | (simp (config := { decide := true }) only [fg_in, fg_fin, fg_out, fg_fout, fg_up, fg_same, true_and, and_true] <;> omega)))
      | (refine jf_put (S := [2]) (o := 0) (F := [1000]) (W := W) (by repeat (first | exact fw_sm_refl | exact fw_sm_put0 | refine fw_sm_arr ?_ rfl | refine fw_sm_up ?_ rfl | refine fw_sm_put ?_ rfl | refine fw_sm_cp ?_ rfl)) (ih _ (by omega) _ _ rfl ?_); (first | omega | trivial | (simp (config := { decide := true }) only [fg_in, fg_fin, fg_out, fg_fout, fg_up, fg_same, true_and, and_true] <;> omega)))
      | (refine hP _ (by repeat (first | exact fw_sm_refl | exact fw_sm_put0 | refine fw_sm_arr ?_ rfl | refine fw_sm_up ?_ rfl | refine fw_sm_put ?_ rfl | refine fw_sm_cp ?_ rfl)) ?_; (first | trivial | omega))
      | omega
      | (intro _))
def x_k_tadd : fw_X := fun as W Q => match as with
  | [.inr (.inl s_), .inl fo] => fw_if (Nat.beq s_ 1) ((True) ∧ (∀ (f : fw_W), (True) → Q none (fw_put [2] 0 [1000] W f)))
  | _ => False
theorem x_k_tadd_ok (d : Nat) (as : List fw_V) (W : fw_W) (Q : Option fw_V → fw_W → Prop) (hx : x_k_tadd as W Q) : jf fw_T (d + 1) 94 0 (fw_args 0 as) [] W Q := by
  unfold x_k_tadd at hx
  split at hx
  · rename_i s_ fo
    obtain ⟨e_, hpre, hQ⟩ := fw_if_ok hx
    have e_ := Nat.eq_of_beq_eq_true e_
    subst e_
    have hP : ∀ (W2 : fw_W), fw_sm [2] 0 [1000] W W2 → _ → Q none W2 := fun W2 hs hr => fw_sm_use (Q := fun Z => Q none Z) hs (hQ W2 hr)
    refine s_k_tadd_0 ?_
    repeat' (first
      | (exact True.intro)
      | (exact hpre.1)
      | (refine And.intro ?_ ?_)
      | (refine jf_put (S := [2]) (o := 0) (F := [1000]) (W := W) (by repeat (first | exact fw_sm_refl | exact fw_sm_put0 | refine fw_sm_arr ?_ rfl | refine fw_sm_up ?_ rfl | refine fw_sm_put ?_ rfl | refine fw_sm_cp ?_ rfl)) (lm_k_tadd_3 (fo := fo) hpre hP _ _ _ rfl ?_); (first | omega | trivial | (simp (config := { decide := true }) only [fg_in, fg_fin, fg_out, fg_fout, fg_up, fg_same, true_and, and_true] <;> omega)))
      | (refine hP _ (by repeat (first | exact fw_sm_refl | exact fw_sm_put0 | refine fw_sm_arr ?_ rfl | refine fw_sm_up ?_ rfl | refine fw_sm_put ?_ rfl | refine fw_sm_cp ?_ rfl)) ?_; (first | trivial | omega))
      | omega
      | (intro _))
  · exact hx.elim

def fv_feedv : List (Nat × ai_C) := [(0, .inr (.inr (.inr (11, [.inr (.inl [1]), .inr (.inl [3]), .inr (.inl [12]), .inr (.inl [16]), .inr (.inl [37]), .inr (.inl [203]), .inr (.inl [223]), .inr (.inl [239]), .inr (.inl [266]), .inr (.inl [268]), .inr (.inl [324]), .inr (.inl [337]), .inr (.inl [338]), .inr (.inl [339]), .inl (0, 14, true)])))), (1, .inr (.inr (.inr (7, [.inl (0, 1200, true), .inl (0, 11, true), .inl (0, 1200, true), .inl (-2147483648, 2147483647, true), .inr (.inr ()), .inr (.inl [2]), .inl (0, 1200, true)])))), (2, .inl (.byte, 1200, -128, 127, true))]
def fg_feedv_G : fw_G := []
theorem fv_feedv_ok : fw_view fw_T fv_feedv fg_feedv_G := fw_vb_ok (by decide +kernel)
def fr_138 : fw_P := [(0, 2, 0, 0, 0), (1, 50, 11, 0, 0), (4, 50, 7, 0, 0), (7, 0, 0, 0, 20), (9, 30, 0, 0, 0), (10, 0, 0, 0, 1200), (13, 15, 18, 0, 0), (16, 0, 0, 0, -1), (17, 70, 0, 0, 0), (18, 2, 0, 0, 0), (19, 50, 11, 0, 0), (22, 1, 1, 0, 0), (23, 64, 94, 1, 307), (26, 2, 0, 0, 0), (27, 50, 11, 0, 0), (30, 1, 2, 0, 0), (31, 64, 94, 1, 307), (34, 2, 0, 0, 0), (35, 50, 11, 0, 0), (38, 1, 3, 0, 0), (39, 64, 94, 1, 307), (42, 2, 0, 0, 0), (43, 50, 11, 0, 0), (46, 1, 4, 0, 0), (48, 64, 94, 1, 307), (51, 2, 0, 0, 0), (52, 50, 11, 0, 0), (55, 1, 5, 0, 0), (57, 64, 94, 1, 307), (60, 2, 0, 0, 0), (61, 50, 11, 0, 0), (64, 50, 7, 0, 0), (67, 70, 0, 0, 0)]
theorem fr_138_ok : fw_mk 138 6 11 (some .int) fr_138 = true := by decide +kernel
def ct_k_feed : List (Nat × fw_X) := [(94, x_k_tadd)]
theorem ct_k_feed_ok (d : Nat) : fw_cok fw_T (d + 1) ct_k_feed := by
  intro q hq as W Q h
  simp only [ct_k_feed, List.mem_cons, List.not_mem_nil, or_false] at hq
  rcases hq with rfl
  · exact jc_of (x_k_tadd_ok (d + 0) as W Q h)
theorem s_k_feed_0 {Post : Option fw_V → fw_W → Prop} {d : Nat} {W : fw_W} {fa fb fc fd fe : Int}
    (hw_ : (0 ≤ (fw_g W 1 0) → (fw_g W 1 0) ≤ 1200 → -2147483648 ≤ (fw_g W 1 0) + (20 : Int) ∧ (fw_g W 1 0) + (20 : Int) ≤ 2147483647 ∧ (((((fw_g W 1 0) + (20 : Int)) ≤ (1200 : Int) → (True) ∧ (∀ (f1 : fw_W), ((True)) → (True) ∧ (∀ (f2 : fw_W), ((True)) → (True) ∧ (∀ (f3 : fw_W), ((True)) → (True) ∧ (∀ (f4 : fw_W), ((True)) → (True) ∧ (∀ (f5 : fw_W), ((True)) → (0 ≤ (fw_g f5 1 0) → (fw_g f5 1 0) ≤ 1200 → (-2147483648 ≤ (fw_g f5 1 0) → (fw_g f5 1 0) ≤ 2147483647 → Post (some (.inl (fw_g f5 1 0))) (fw_put [2] 0 [1000] (fw_put [2] 0 [1000] (fw_put [2] 0 [1000] (fw_put [2] 0 [1000] (fw_put [2] 0 [1000] W f1) f2) f3) f4) f5))))))))) ∧ ((1200 : Int) < ((fw_g W 1 0) + (20 : Int)) → (-2147483648 ≤ (-1 : Int) → (-1 : Int) ≤ 2147483647 → Post (some (.inl (-1 : Int))) W)))))) :
    jf fw_T (d + 2) 138 0 [(0, .inr (.inl 0)), (1, .inl fa), (2, .inl fb), (3, .inl fc), (4, .inl fd), (5, .inl fe)] [] W Post := fw_ok (n := 32) (ss := []) (hv := []) fr_138_ok fv_feedv_ok (ct_k_feed_ok d) hw_

def x_k_feed : fw_X := fun as W Q => match as with
  | [.inr (.inl s_), .inl fa, .inl fb, .inl fc, .inl fd, .inl fe] => fw_if (Nat.beq s_ 0) ((True) ∧ (∀ (v : Int) (f : fw_W), (-2147483648 ≤ v ∧ v ≤ 2147483647 ∧ (True)) → Q (some (.inl v)) (fw_put [2] 0 [1000] W f)))
  | _ => False
theorem x_k_feed_ok (d : Nat) (as : List fw_V) (W : fw_W) (Q : Option fw_V → fw_W → Prop) (hx : x_k_feed as W Q) : jf fw_T (d + 2) 138 0 (fw_args 0 as) [] W Q := by
  unfold x_k_feed at hx
  split at hx
  · rename_i s_ fa fb fc fd fe
    obtain ⟨e_, hpre, hQ⟩ := fw_if_ok hx
    have e_ := Nat.eq_of_beq_eq_true e_
    subst e_
    have hP : ∀ (v : Int) (W2 : fw_W), fw_sm [2] 0 [1000] W W2 → _ → Q (some (.inl v)) W2 := fun v W2 hs hr => fw_sm_use (Q := fun Z => Q (some (.inl v)) Z) hs (hQ v W2 hr)
    refine s_k_feed_0 ?_
    repeat' (first
      | (exact True.intro)
      | (exact hpre.1)
      | (refine And.intro ?_ ?_)
      | (refine hP _ _ (by repeat (first | exact fw_sm_refl | exact fw_sm_put0 | refine fw_sm_arr ?_ rfl | refine fw_sm_up ?_ rfl | refine fw_sm_put ?_ rfl | refine fw_sm_cp ?_ rfl)) ?_; (refine ⟨by omega, by omega, ?_⟩; (first | trivial | omega)))
      | omega
      | (intro _))
  · exact hx.elim

