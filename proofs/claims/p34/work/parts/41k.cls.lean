/-! the class, method by method -/
def fr_44 : fw_P := [(0, 0, 0, 0, 0), (1, 3, 4, 0, 0), (3, 1, 4, 0, 0), (5, 1, 1, 0, 0), (6, 0, 0, 0, 2), (7, 31, 0, 0, 0), (8, 13, 48, 0, 0), (11, 2, 0, 0, 0), (12, 50, 4, 0, 0), (15, 1, 4, 0, 0), (17, 81, 2, 0, 0), (18, 0, 0, 0, 4), (19, 1, 4, 0, 0), (21, 32, 0, 0, 0), (22, 89, 0, 0, 0), (23, 80, 1016, 0, 0), (26, 88, 0, 0, 0), (27, 92, 0, 0, 0), (28, 53, 0, 0, 0), (29, 2, 0, 0, 0), (30, 50, 4, 0, 0), (33, 1, 4, 0, 0), (35, 52, 0, 0, 0), (36, 1, 1, 0, 0), (37, 12, 42, 0, 0), (40, 0, 0, 0, 0), (41, 71, 0, 0, 0), (42, 5, 4, 0, 1), (45, 6, 3, 0, 0), (48, 0, 0, 0, 1), (49, 71, 0, 0, 0)]
theorem fr_44_ok : fw_mk 44 5 4 (some .boolean) fr_44 = true := by decide +kernel
theorem s_k_take_0 {Post : Option fw_V → fw_W → Prop} {d : Nat} {W : fw_W} {nn : Int}
    (hw_ : jf fw_T (d + 1) 44 3 [(0, .inr (.inl 268)), (1, .inl nn), (2, .inr (.inr 1000)), (4, .inl (0 : Int))] [] W Post) :
    jf fw_T (d + 1) 44 0 [(0, .inr (.inl 268)), (1, .inl nn), (2, .inr (.inr 1000))] [] W Post := fw_ok (n := 3) (ss := [(3, [0, 1, 2, 4])]) (hv := []) fr_44_ok fv_marksp_ok (fw_c0 _ _) hw_

theorem s_k_take_3 {Post : Option fw_V → fw_W → Prop} {d : Nat} {W : fw_W} {nn i : Int} {f : fw_W}
    (hw_ : -2147483648 ≤ nn - (2 : Int) ∧ nn - (2 : Int) ≤ 2147483647 ∧ ((((nn - (2 : Int)) ≤ i → 0 ≤ (1 : Int) ∧ (1 : Int) ≤ 1 ∧ Post (some (.inl (1 : Int))) (fw_put [269] 0 [] W f)) ∧ (i < (nn - (2 : Int)) → -2147483648 ≤ (4 : Int) * i ∧ (4 : Int) * i ≤ 2147483647 ∧ ((∀ v1 : Int, 0 ≤ v1 → v1 + 1001 ≤ 1016 → 0 ≤ i ∧ i < 14 ∧ 0 ≤ v1 ∧ v1 ≤ 15 ∧ (0 ≤ i ∧ i < 14 ∧ (0 ≤ (fw_g (fw_up (fw_put [269] 0 [] W f) 269 i v1) 269 i) → (fw_g (fw_up (fw_put [269] 0 [] W f) 269 i v1) 269 i) ≤ 15 → (((fw_g (fw_up (fw_put [269] 0 [] W f) 269 i v1) 269 i) < nn → -2147483648 ≤ i + (1 : Int) ∧ i + (1 : Int) ≤ 2147483647 ∧ (jf fw_T (d + 1) 44 3 [(0, .inr (.inl 268)), (1, .inl nn), (2, .inr (.inr 1000)), (4, .inl (i + (1 : Int)))] [] (fw_up (fw_put [269] 0 [] W f) 269 i v1) Post)) ∧ (nn ≤ (fw_g (fw_up (fw_put [269] 0 [] W f) 269 i v1) 269 i) → 0 ≤ (0 : Int) ∧ (0 : Int) ≤ 1 ∧ Post (some (.inl (0 : Int))) (fw_up (fw_put [269] 0 [] W f) 269 i v1))))))))))) :
    jf fw_T (d + 1) 44 3 [(0, .inr (.inl 268)), (1, .inl nn), (2, .inr (.inr 1000)), (4, .inl i)] [] (fw_put [269] 0 [] W f) Post := fw_ok (n := 26) (ss := [(3, [0, 1, 2, 4])]) (hv := []) fr_44_ok fv_marksp_ok (fw_c0 _ _) hw_

theorem lm_k_take_3 {Post : Option fw_V → fw_W → Prop} {d : Nat} {W : fw_W} {nn : Int} (hpre : 2 ≤ nn ∧ nn ≤ 14) (hP : ∀ (v : Int) (W2 : fw_W), fw_sm [269] 0 [] W W2 → (0 ≤ v ∧ v ≤ 1 ∧ (v = 1 → ∀ i_, 0 ≤ i_ → i_ < nn - 2 → 0 ≤ (fw_g W2 269 i_) ∧ (fw_g W2 269 i_) < nn)) → Post (some (.inl v)) W2)  : ∀ (m : Nat) (i : Int) (f : fw_W), (nn - i).toNat = m → ((0 ≤ i ∧ i ≤ nn - 2) ∧ ∀ i_, 0 ≤ i_ → i_ < i → 0 ≤ (fw_g f 269 i_) ∧ (fw_g f 269 i_) < nn) → jf fw_T (d + 1) 44 3 [(0, .inr (.inl 268)), (1, .inl nn), (2, .inr (.inr 1000)), (4, .inl i)] [] (fw_put [269] 0 [] W f) Post := by
  intro m
  induction m using Nat.strongRecOn with
  | ind m ih =>
    intro i f hm hi
    refine jf_rng (fun hrg => ?_)
    have hrg : -2147483648 ≤ nn ∧ nn ≤ 2147483647 ∧ -2147483648 ≤ i ∧ i ≤ 2147483647 ∧ True := hrg
    refine s_k_take_3 ?_
    have hi1 := hi.1
    have hwr : ∀ v1, 0 ≤ v1 → v1 ≤ 15 → fw_g (fw_up (fw_put [269] 0 [] W f) 269 i v1) 269 i = v1 := fun v1 a b => fg_same (by omega) (by omega)
    repeat' (first
      | (exact True.intro)
      | (exact hpre.1)
      | (refine And.intro ?_ ?_)
      | (refine (ih _ (by omega) _ _ rfl ?_); (
        rename_i v1 w1 w2 w3 w4 w5
        have w6 := hwr v1 (by omega) (by omega)
        refine ⟨by omega, fun x x1 x2 => ?_⟩
        rw [fg_if (by omega) (by omega) (by omega) (by omega)]
        by_cases e : i = x
        · rw [if_pos e]; omega
        · rw [if_neg e]; exact hi.2 x x1 (by omega)))
      | (refine jf_put (S := [269]) (o := 0) (F := []) (W := W) (by repeat (first | exact fw_sm_refl | exact fw_sm_put0 | refine fw_sm_arr ?_ rfl | refine fw_sm_up ?_ rfl | refine fw_sm_put ?_ rfl | refine fw_sm_cp ?_ rfl)) (ih _ (by omega) _ _ rfl ?_); (
        rename_i v1 w1 w2 w3 w4 w5
        have w6 := hwr v1 (by omega) (by omega)
        refine ⟨by omega, fun x x1 x2 => ?_⟩
        rw [fg_if (by omega) (by omega) (by omega) (by omega)]
        by_cases e : i = x
        · rw [if_pos e]; omega
        · rw [if_neg e]; exact hi.2 x x1 (by omega)))
      | (refine hP _ _ (by repeat (first | exact fw_sm_refl | exact fw_sm_put0 | refine fw_sm_arr ?_ rfl | refine fw_sm_up ?_ rfl | refine fw_sm_put ?_ rfl | refine fw_sm_cp ?_ rfl)) ?_; (refine ⟨by omega, by omega, ?_⟩; (first | (intro z; omega) | exact fun _ i i1 i2 => hi.2 i i1 (by omega))))
      | omega
      | (intro _))
def x_k_take : fw_X := fun as W Q => match as with
  | [.inr (.inl s_), .inl nn, .inr (.inr l1_)] => fw_if (Nat.beq s_ 268) (fw_if (Nat.beq l1_ 1000) ((2 ≤ nn ∧ nn ≤ 14) ∧ (∀ (v : Int) (f : fw_W), (0 ≤ v ∧ v ≤ 1 ∧ (v = 1 → ∀ i_, 0 ≤ i_ → i_ < nn - 2 → 0 ≤ (fw_g f 269 i_) ∧ (fw_g f 269 i_) < nn)) → Q (some (.inl v)) (fw_put [269] 0 [] W f))))
  | _ => False
theorem x_k_take_ok (d : Nat) (as : List fw_V) (W : fw_W) (Q : Option fw_V → fw_W → Prop) (hx : x_k_take as W Q) : jf fw_T (d + 1) 44 0 (fw_args 0 as) [] W Q := by
  unfold x_k_take at hx
  split at hx
  · rename_i s_ nn l1_
    obtain ⟨e0_, hx0⟩ := fw_if_ok hx
    have e0_ := Nat.eq_of_beq_eq_true e0_
    clear hx
    subst e0_
    obtain ⟨e1_, hx1⟩ := fw_if_ok hx0
    have e1_ := Nat.eq_of_beq_eq_true e1_
    clear hx0
    subst e1_
    obtain ⟨hpre, hQ⟩ := hx1
    have hP : ∀ (v : Int) (W2 : fw_W), fw_sm [269] 0 [] W W2 → _ → Q (some (.inl v)) W2 := fun v W2 hs hr => fw_sm_use (Q := fun Z => Q (some (.inl v)) Z) hs (hQ v W2 hr)
    refine s_k_take_0 ?_
    repeat' (first
      | (exact True.intro)
      | (exact hpre.1)
      | (refine And.intro ?_ ?_)
      | (refine jf_put (S := [269]) (o := 0) (F := []) (W := W) (by repeat (first | exact fw_sm_refl | exact fw_sm_put0 | refine fw_sm_arr ?_ rfl | refine fw_sm_up ?_ rfl | refine fw_sm_put ?_ rfl | refine fw_sm_cp ?_ rfl)) (lm_k_take_3 (nn := nn) hpre hP _ _ _ rfl ?_); (exact ⟨by omega, fun x x1 x2 => by omega⟩))
      | (refine hP _ _ (by repeat (first | exact fw_sm_refl | exact fw_sm_put0 | refine fw_sm_arr ?_ rfl | refine fw_sm_up ?_ rfl | refine fw_sm_put ?_ rfl | refine fw_sm_cp ?_ rfl)) ?_; (refine ⟨by omega, by omega, ?_⟩; (first | (intro z; omega) | exact fun _ i i1 i2 => hi.2 i i1 (by omega))))
      | omega
      | (intro _))
  · exact hx.elim

