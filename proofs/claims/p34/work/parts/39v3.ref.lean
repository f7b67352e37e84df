/-! the reference, method by method -/
def fr_302 : fw_P := [(0, 1, 1, 0, 0), (1, 0, 0, 0, 0), (2, 0, 0, 0, 1000), (5, 65, 214, 3, 300), (8, 20, 23, 0, 0), (11, 2, 0, 0, 0), (12, 50, 12, 66, 0), (15, 1, 1, 0, 0), (16, 30, 0, 0, 0), (17, 0, 0, 0, 100000), (20, 15, 25, 0, 0), (23, 0, 0, 0, -1), (24, 70, 0, 0, 0), (25, 2, 0, 0, 0), (26, 43, 0, 0, 0), (27, 50, 12, 66, 0), (30, 1, 1, 0, 0), (31, 30, 0, 0, 0), (32, 51, 12, 66, 0), (35, 2, 0, 0, 0), (36, 50, 12, 66, 0), (39, 70, 0, 0, 0)]
theorem fr_302_ok : fw_mk 302 2 12 (some .int) fr_302 = true := by decide +kernel
def ct_later : List (Nat × fw_X) := [(214, x_isIn)]
theorem ct_later_ok (d : Nat) : fw_cok fw_T (d + 1) ct_later := by
  intro q hq as W Q h
  simp only [ct_later, List.mem_cons, List.not_mem_nil, or_false] at hq
  rcases hq with rfl
  · exact jc_of (x_isIn_ok (d + 0) as W Q h)
theorem s_later_0 {Post : Option fw_V → fw_W → Prop} {d : Nat} {W : fw_W} {by_ : Int}
    (hw_ : (True) ∧ (∀ (r1 : Int), ((0 ≤ r1 ∧ r1 ≤ 1 ∧ ((r1 = 1 ∧ (0 : Int) ≤ by_ ∧ by_ ≤ (1000 : Int)) ∨ (r1 = 0 ∧ (by_ < (0 : Int) ∨ (1000 : Int) < by_))))) → ((r1 = 0 → (-2147483648 ≤ (-1 : Int) → (-1 : Int) ≤ 2147483647 → Post (some (.inl (-1 : Int))) W)) ∧ (¬ r1 = 0 → (0 ≤ (fw_g W 352 66) → (fw_g W 352 66) ≤ 100000 → -2147483648 ≤ (fw_g W 352 66) + by_ ∧ (fw_g W 352 66) + by_ ≤ 2147483647 ∧ (((((fw_g W 352 66) + by_) ≤ (100000 : Int) → (0 ≤ (fw_g W 352 66) → (fw_g W 352 66) ≤ 100000 → -2147483648 ≤ (fw_g W 352 66) + by_ ∧ (fw_g W 352 66) + by_ ≤ 2147483647 ∧ (0 ≤ ((fw_g W 352 66) + by_) ∧ ((fw_g W 352 66) + by_) ≤ 100000 ∧ ((0 ≤ (fw_g (fw_up W 352 66 ((fw_g W 352 66) + by_)) 352 66) → (fw_g (fw_up W 352 66 ((fw_g W 352 66) + by_)) 352 66) ≤ 100000 → (-2147483648 ≤ (fw_g (fw_up W 352 66 ((fw_g W 352 66) + by_)) 352 66) → (fw_g (fw_up W 352 66 ((fw_g W 352 66) + by_)) 352 66) ≤ 2147483647 → Post (some (.inl (fw_g (fw_up W 352 66 ((fw_g W 352 66) + by_)) 352 66))) (fw_up W 352 66 ((fw_g W 352 66) + by_)))))))) ∧ ((100000 : Int) < ((fw_g W 352 66) + by_) → (-2147483648 ≤ (-1 : Int) → (-1 : Int) ≤ 2147483647 → Post (some (.inl (-1 : Int))) W))))))))) :
    jf fw_T (d + 2) 302 0 [(0, .inr (.inl 352)), (1, .inl by_)] [] W Post := fw_ok (n := 21) (ss := []) (hv := []) fr_302_ok fm_ok (ct_later_ok d) hw_

def x_later : fw_X := fun as W Q => match as with
  | [.inr (.inl s_), .inl by_] => fw_if (Nat.beq s_ 352) ((0 ≤ (fw_g W 352 66) ∧ (fw_g W 352 66) ≤ 100000) ∧ (∀ (v : Int) (f : fw_W), (-2147483648 ≤ v ∧ v ≤ 2147483647 ∧ (((0 ≤ by_ ∧ by_ ≤ 1000 ∧ (fw_g W 352 66) + by_ ≤ 100000) ∧ v = (fw_g W 352 66) + by_ ∧ (fw_g f 352 66) = (fw_g W 352 66) + by_) ∨ (¬ (0 ≤ by_ ∧ by_ ≤ 1000 ∧ (fw_g W 352 66) + by_ ≤ 100000) ∧ v = -1 ∧ (fw_g f 352 66) = (fw_g W 352 66)))) → Q (some (.inl v)) (fw_put [] 352 [66] W f)))
  | _ => False
theorem x_later_ok (d : Nat) (as : List fw_V) (W : fw_W) (Q : Option fw_V → fw_W → Prop) (hx : x_later as W Q) : jf fw_T (d + 2) 302 0 (fw_args 0 as) [] W Q := by
  unfold x_later at hx
  split at hx
  · rename_i s_ by_
    obtain ⟨e_, hpre, hQ⟩ := fw_if_ok hx
    have e_ := Nat.eq_of_beq_eq_true e_
    subst e_
    have hP : ∀ (v : Int) (W2 : fw_W), fw_sm [] 352 [66] W W2 → _ → Q (some (.inl v)) W2 := fun v W2 hs hr => fw_sm_use (Q := fun Z => Q (some (.inl v)) Z) hs (hQ v W2 hr)
    refine s_later_0 ?_
    repeat' (first
      | (exact True.intro)
      | (exact hpre.1)
      | (refine And.intro ?_ ?_)
      | (refine hP _ _ (by repeat (first | exact fw_sm_refl | exact fw_sm_put0 | refine fw_sm_arr ?_ rfl | refine fw_sm_up ?_ rfl | refine fw_sm_put ?_ rfl | refine fw_sm_cp ?_ rfl)) ?_; (refine ⟨by omega, by omega, ?_⟩; (first
          | (right; exact ⟨by omega, by omega, rfl⟩)
          | (left; rw [fg_same (by omega) (by omega)]; omega))))
      | (rw [fg_same (by omega) (by omega)]; omega)
      | omega
      | (intro _))
  · exact hx.elim

