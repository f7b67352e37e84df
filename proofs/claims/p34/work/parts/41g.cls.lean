/-! the class, method by method -/
def fr_109 : fw_P := [(0, 2, 0, 0, 0), (1, 50, 9, 0, 0), (4, 0, 0, 0, 14), (6, 12, 11, 0, 0), (9, 0, 0, 0, -1), (10, 70, 0, 0, 0), (11, 2, 0, 0, 0), (12, 50, 9, 2, 0), (15, 2, 0, 0, 0), (16, 50, 9, 0, 0), (19, 1, 1, 0, 0), (20, 53, 0, 0, 0), (21, 2, 0, 0, 0), (22, 50, 9, 3, 0), (25, 2, 0, 0, 0), (26, 50, 9, 0, 0), (29, 1, 2, 0, 0), (30, 53, 0, 0, 0), (31, 2, 0, 0, 0), (32, 50, 9, 4, 0), (35, 2, 0, 0, 0), (36, 50, 9, 0, 0), (39, 1, 3, 0, 0), (40, 53, 0, 0, 0), (41, 2, 0, 0, 0), (42, 43, 0, 0, 0), (43, 50, 9, 0, 0), (46, 0, 0, 0, 1), (47, 30, 0, 0, 0), (48, 51, 9, 0, 0), (51, 2, 0, 0, 0), (52, 50, 9, 0, 0), (55, 0, 0, 0, 1), (56, 31, 0, 0, 0), (57, 70, 0, 0, 0)]
theorem fr_109_ok : fw_mk 109 4 9 (some .int) fr_109 = true := by decide +kernel
theorem s_k_add_0 {Post : Option fw_V → fw_W → Prop} {d : Nat} {W : fw_W} {at_ le dw : Int}
    (hw_ : (0 ≤ (fw_g W 12 0) → (fw_g W 12 0) ≤ 14 → (((fw_g W 12 0) < (14 : Int) → (0 ≤ (fw_g W 12 0) → (fw_g W 12 0) ≤ 14 → 0 ≤ (fw_g W 12 0) ∧ (fw_g W 12 0) < 14 ∧ -1 ≤ at_ ∧ at_ ≤ 13 ∧ ((0 ≤ (fw_g W 12 0) → (fw_g W 12 0) ≤ 14 → 0 ≤ (fw_g W 12 0) ∧ (fw_g W 12 0) < 14 ∧ 0 ≤ le ∧ le ≤ 99 ∧ ((0 ≤ (fw_g W 12 0) → (fw_g W 12 0) ≤ 14 → 0 ≤ (fw_g W 12 0) ∧ (fw_g W 12 0) < 14 ∧ 0 ≤ dw ∧ dw ≤ 99 ∧ ((0 ≤ (fw_g W 12 0) → (fw_g W 12 0) ≤ 14 → -2147483648 ≤ (fw_g W 12 0) + (1 : Int) ∧ (fw_g W 12 0) + (1 : Int) ≤ 2147483647 ∧ (0 ≤ ((fw_g W 12 0) + (1 : Int)) ∧ ((fw_g W 12 0) + (1 : Int)) ≤ 14 ∧ ((0 ≤ (fw_g (fw_up (fw_up (fw_up (fw_up W 13 (fw_g W 12 0) at_) 14 (fw_g W 12 0) le) 15 (fw_g W 12 0) dw) 12 0 ((fw_g W 12 0) + (1 : Int))) 12 0) → (fw_g (fw_up (fw_up (fw_up (fw_up W 13 (fw_g W 12 0) at_) 14 (fw_g W 12 0) le) 15 (fw_g W 12 0) dw) 12 0 ((fw_g W 12 0) + (1 : Int))) 12 0) ≤ 14 → -2147483648 ≤ (fw_g (fw_up (fw_up (fw_up (fw_up W 13 (fw_g W 12 0) at_) 14 (fw_g W 12 0) le) 15 (fw_g W 12 0) dw) 12 0 ((fw_g W 12 0) + (1 : Int))) 12 0) - (1 : Int) ∧ (fw_g (fw_up (fw_up (fw_up (fw_up W 13 (fw_g W 12 0) at_) 14 (fw_g W 12 0) le) 15 (fw_g W 12 0) dw) 12 0 ((fw_g W 12 0) + (1 : Int))) 12 0) - (1 : Int) ≤ 2147483647 ∧ ((-2147483648 ≤ ((fw_g (fw_up (fw_up (fw_up (fw_up W 13 (fw_g W 12 0) at_) 14 (fw_g W 12 0) le) 15 (fw_g W 12 0) dw) 12 0 ((fw_g W 12 0) + (1 : Int))) 12 0) - (1 : Int)) → ((fw_g (fw_up (fw_up (fw_up (fw_up W 13 (fw_g W 12 0) at_) 14 (fw_g W 12 0) le) 15 (fw_g W 12 0) dw) 12 0 ((fw_g W 12 0) + (1 : Int))) 12 0) - (1 : Int)) ≤ 2147483647 → Post (some (.inl ((fw_g (fw_up (fw_up (fw_up (fw_up W 13 (fw_g W 12 0) at_) 14 (fw_g W 12 0) le) 15 (fw_g W 12 0) dw) 12 0 ((fw_g W 12 0) + (1 : Int))) 12 0) - (1 : Int)))) (fw_up (fw_up (fw_up (fw_up W 13 (fw_g W 12 0) at_) 14 (fw_g W 12 0) le) 15 (fw_g W 12 0) dw) 12 0 ((fw_g W 12 0) + (1 : Int)))))))))))))))) ∧ ((14 : Int) ≤ (fw_g W 12 0) → (-2147483648 ≤ (-1 : Int) → (-1 : Int) ≤ 2147483647 → Post (some (.inl (-1 : Int))) W))))) :
    jf fw_T (d + 1) 109 0 [(0, .inr (.inl 12)), (1, .inl at_), (2, .inl le), (3, .inl dw)] [] W Post := fw_ok (n := 34) (ss := []) (hv := []) fr_109_ok fv_townp_ok (fw_c0 _ _) hw_

def x_k_add : fw_X := fun as W Q => match as with
  | [.inr (.inl s_), .inl at_, .inl le, .inl dw] => fw_if (Nat.beq s_ 12) ((tr ((fw_g W 12 0)) (fun z_ => (fw_g W 13 z_)) ∧ 0 ≤ (fw_g W 12 0) ∧ (fw_g W 12 0) ≤ 14 ∧ -1 ≤ at_ ∧ at_ ≤ 13 ∧ 0 ≤ le ∧ le ≤ 99 ∧ 0 ≤ dw ∧ dw ≤ 99 ∧ (1 ≤ (fw_g W 12 0) → 0 ≤ at_ ∧ at_ < (fw_g W 12 0)) ∧ ((fw_g W 12 0) = 0 → at_ = -1)) ∧ (∀ (v : Int) (f : fw_W), (-2147483648 ≤ v ∧ v ≤ 2147483647 ∧ ((0 ≤ (fw_g f 12 0) ∧ (fw_g f 12 0) ≤ 14 ∧ tr ((fw_g f 12 0)) (fun z_ => (fw_g f 13 z_))))) → Q (some (.inl v)) (fw_put [13, 14, 15] 0 [12000] W f)))
  | _ => False
theorem x_k_add_ok (d : Nat) (as : List fw_V) (W : fw_W) (Q : Option fw_V → fw_W → Prop) (hx : x_k_add as W Q) : jf fw_T (d + 1) 109 0 (fw_args 0 as) [] W Q := by
  unfold x_k_add at hx
  split at hx
  · rename_i s_ at_ le dw
    obtain ⟨e_, hpre, hQ⟩ := fw_if_ok hx
    have e_ := Nat.eq_of_beq_eq_true e_
    subst e_
    have hP : ∀ (v : Int) (W2 : fw_W), fw_sm [13, 14, 15] 0 [12000] W W2 → _ → Q (some (.inl v)) W2 := fun v W2 hs hr => fw_sm_use (Q := fun Z => Q (some (.inl v)) Z) hs (hQ v W2 hr)
    refine s_k_add_0 ?_
    repeat' (first
      | (exact True.intro)
      | (exact hpre.1)
      | (refine And.intro ?_ ?_)
      | (refine hP _ _ (by repeat (first | exact fw_sm_refl | exact fw_sm_put0 | refine fw_sm_arr ?_ rfl | refine fw_sm_up ?_ rfl | refine fw_sm_put ?_ rfl | refine fw_sm_cp ?_ rfl)) ?_; (refine ⟨by omega, by omega, ?_⟩; (first
          | exact ⟨hpre.2.1, hpre.2.2.1, hpre.1⟩
          | (have e0 : ∀ X, fw_g (fw_up X 12 0 (fw_g W 12 0 + 1)) 12 0 = fw_g W 12 0 + 1 := fun X => fg_same (by omega) (by omega)
             rw [e0]
             refine ⟨by omega, by omega, tr_grow hpre.1 (by omega) (fun z => ?_) (fun z => ?_) (fun k k1 k2 => ?_)⟩
             · show fw_g _ 13 0 = -1
               rw [fg_up rfl, fg_up rfl, fg_up rfl, fg_if (by omega) (by omega) (by omega) (by omega), if_pos (by omega)]; omega
             · show 0 ≤ fw_g _ 13 (fw_g W 12 0) ∧ fw_g _ 13 (fw_g W 12 0) < fw_g W 12 0
               rw [fg_up rfl, fg_up rfl, fg_up rfl, fg_same (by omega) (by omega)]; omega
             · show fw_g _ 13 k = fw_g W 13 k
               rw [fg_up rfl, fg_up rfl, fg_up rfl, fg_if (by omega) (by omega) (by omega) (by omega), if_neg (by omega)]))))
      | (simp (disch := first | decide | omega) only [fg_same, fg_lit, fg_in, fg_fin, fg_out, fg_fout, fg_up, true_and, and_true, true_or, or_true, true_implies]; omega)
      | omega
      | (intro _))
  · exact hx.elim

