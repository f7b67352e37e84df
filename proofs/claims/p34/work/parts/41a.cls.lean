/-! the class, method by method -/
def fv_doors : List (Nat × ai_C) := [(324, .inr (.inr (.inr (1, [.inl (0, 40, true), .inl (0, 100000, true), .inl (-2147483648, 2147483647, true), .inl (-2147483648, 2147483647, true), .inr (.inl [325]), .inr (.inl [326]), .inr (.inl [327]), .inr (.inl [328]), .inr (.inl [329]), .inr (.inl [330]), .inl (-2147483648, 2147483647, true), .inl (-2147483648, 2147483647, true)]))))]
def fg_doors_G : fw_G := []
theorem fv_doors_ok : fw_view fw_T fv_doors fg_doors_G := fw_vb_ok (by decide +kernel)
def fr_10 : fw_P := [(0, 1, 1, 0, 0), (1, 22, 22, 0, 0), (4, 1, 1, 0, 0), (5, 0, 0, 0, 1000), (8, 14, 22, 0, 0), (11, 2, 0, 0, 0), (12, 50, 1, 1, 0), (15, 1, 1, 0, 0), (16, 30, 0, 0, 0), (17, 0, 0, 0, 100000), (19, 15, 24, 0, 0), (22, 0, 0, 0, -1), (23, 70, 0, 0, 0), (24, 2, 0, 0, 0), (25, 43, 0, 0, 0), (26, 50, 1, 1, 0), (29, 1, 1, 0, 0), (30, 30, 0, 0, 0), (31, 51, 1, 1, 0), (34, 2, 0, 0, 0), (35, 50, 1, 1, 0), (38, 70, 0, 0, 0)]
theorem fr_10_ok : fw_mk 10 2 1 (some .int) fr_10 = true := by decide +kernel
theorem s_k_passTime_0 {Post : Option fw_V → fw_W → Prop} {d : Nat} {W : fw_W} {by_ : Int}
    (hw_ : ((by_ < 0 → (-2147483648 ≤ (-1 : Int) → (-1 : Int) ≤ 2147483647 → Post (some (.inl (-1 : Int))) W)) ∧ (0 ≤ by_ → (((1000 : Int) < by_ → (-2147483648 ≤ (-1 : Int) → (-1 : Int) ≤ 2147483647 → Post (some (.inl (-1 : Int))) W)) ∧ (by_ ≤ (1000 : Int) → (0 ≤ (fw_g W 324 1) → (fw_g W 324 1) ≤ 100000 → -2147483648 ≤ (fw_g W 324 1) + by_ ∧ (fw_g W 324 1) + by_ ≤ 2147483647 ∧ (((((fw_g W 324 1) + by_) ≤ (100000 : Int) → (0 ≤ (fw_g W 324 1) → (fw_g W 324 1) ≤ 100000 → -2147483648 ≤ (fw_g W 324 1) + by_ ∧ (fw_g W 324 1) + by_ ≤ 2147483647 ∧ (0 ≤ ((fw_g W 324 1) + by_) ∧ ((fw_g W 324 1) + by_) ≤ 100000 ∧ ((0 ≤ (fw_g (fw_up W 324 1 ((fw_g W 324 1) + by_)) 324 1) → (fw_g (fw_up W 324 1 ((fw_g W 324 1) + by_)) 324 1) ≤ 100000 → (-2147483648 ≤ (fw_g (fw_up W 324 1 ((fw_g W 324 1) + by_)) 324 1) → (fw_g (fw_up W 324 1 ((fw_g W 324 1) + by_)) 324 1) ≤ 2147483647 → Post (some (.inl (fw_g (fw_up W 324 1 ((fw_g W 324 1) + by_)) 324 1))) (fw_up W 324 1 ((fw_g W 324 1) + by_)))))))) ∧ ((100000 : Int) < ((fw_g W 324 1) + by_) → (-2147483648 ≤ (-1 : Int) → (-1 : Int) ≤ 2147483647 → Post (some (.inl (-1 : Int))) W)))))))))) :
    jf fw_T (d + 1) 10 0 [(0, .inr (.inl 324)), (1, .inl by_)] [] W Post := fw_ok (n := 21) (ss := []) (hv := []) fr_10_ok fv_doors_ok (fw_c0 _ _) hw_

def x_k_passTime : fw_X := fun as W Q => match as with
  | [.inr (.inl s_), .inl by_] => fw_if (Nat.beq s_ 324) ((0 ≤ (fw_g W 324 1) ∧ (fw_g W 324 1) ≤ 100000) ∧ (∀ (v : Int) (f : fw_W), (-2147483648 ≤ v ∧ v ≤ 2147483647 ∧ (((0 ≤ by_ ∧ by_ ≤ 1000 ∧ (fw_g W 324 1) + by_ ≤ 100000) ∧ v = (fw_g W 324 1) + by_ ∧ (fw_g f 324 1) = (fw_g W 324 1) + by_) ∨ (¬ (0 ≤ by_ ∧ by_ ≤ 1000 ∧ (fw_g W 324 1) + by_ ≤ 100000) ∧ v = -1 ∧ (fw_g f 324 1) = (fw_g W 324 1)))) → Q (some (.inl v)) (fw_put [] 0 [324001] W f)))
  | _ => False
theorem x_k_passTime_ok (d : Nat) (as : List fw_V) (W : fw_W) (Q : Option fw_V → fw_W → Prop) (hx : x_k_passTime as W Q) : jf fw_T (d + 1) 10 0 (fw_args 0 as) [] W Q := by
  unfold x_k_passTime at hx
  split at hx
  · rename_i s_ by_
    obtain ⟨e_, hpre, hQ⟩ := fw_if_ok hx
    have e_ := Nat.eq_of_beq_eq_true e_
    subst e_
    have hP : ∀ (v : Int) (W2 : fw_W), fw_sm [] 0 [324001] W W2 → _ → Q (some (.inl v)) W2 := fun v W2 hs hr => fw_sm_use (Q := fun Z => Q (some (.inl v)) Z) hs (hQ v W2 hr)
    refine s_k_passTime_0 ?_
    repeat' (first
      | (exact True.intro)
      | (exact hpre.1)
      | (refine And.intro ?_ ?_)
      | (refine hP _ _ (by repeat (first | exact fw_sm_refl | exact fw_sm_put0 | refine fw_sm_arr ?_ rfl | refine fw_sm_up ?_ rfl | refine fw_sm_put ?_ rfl | refine fw_sm_cp ?_ rfl)) ?_; (refine ⟨by omega, by omega, ?_⟩; (first | (right; exact ⟨by omega, by omega, rfl⟩) | (left; refine ⟨by omega, ?_, ?_⟩ <;> simp (disch := first | decide | omega) only [fg_same, fg_lit, fg_in, fg_fin, fg_out, fg_fout, fg_up, true_and, and_true, true_or, or_true, true_implies] <;> omega))))
      | (simp (disch := first | decide | omega) only [fg_same, fg_lit, fg_in, fg_fin, fg_out, fg_fout, fg_up, true_and, and_true, true_or, or_true, true_implies]; omega)
      | omega
      | (intro _))
  · exact hx.elim

def fv_owt : List (Nat × ai_C) := [(0, .inr (.inr (.inr (11, [.inr (.inl [1]), .inr (.inl [3]), .inr (.inl [12]), .inr (.inl [16]), .inr (.inl [37]), .inr (.inl [203]), .inr (.inl [223]), .inr (.inl [239]), .inr (.inl [266]), .inr (.inl [268]), .inr (.inl [324]), .inr (.inl [337]), .inr (.inl [338]), .inr (.inl [339]), .inl (0, 14, true)])))), (1, .inr (.inr (.inr (7, [.inl (0, 1200, true), .inl (0, 11, true), .inl (0, 1200, true), .inl (-2147483648, 2147483647, true), .inr (.inr ()), .inr (.inl [2]), .inl (0, 1200, true)])))), (3, .inr (.inr (.inr (5, [.inr (.inl [4]), .inr (.inl [8]), .inr (.inl [9]), .inl (0, 4, true), .inl (-2147483648, 2147483647, true), .inl (-2147483648, 2147483647, true), .inr (.inl [1]), .inr (.inl [10]), .inr (.inl [11]), .inl (0, 1, true)])))), (12, .inr (.inr (.inr (9, [.inl (0, 14, true), .inl (0, 999, true), .inr (.inl [13]), .inr (.inl [14]), .inr (.inl [15])])))), (16, .inr (.inr (.inr (2, [.inl (0, 4, true), .inr (.inl [12]), .inr (.inl [17]), .inr (.inl [18]), .inr (.inl [19]), .inr (.inl [34]), .inr (.inl [35]), .inr (.inl [36]), .inl (0, 20000, true), .inl (0, 65535, true), .inl (-2147483648, 2147483647, true)])))), (37, .inr (.inr (.inr (0, [.inl (0, 40, true), .inl (0, 40, true), .inr (.inl [38]), .inl (0, 40, true)])))), (203, .inr (.inr (.inr (10, [.inr (.inl [204]), .inr (.inl [205]), .inl (-2147483648, 2147483647, true), .inl (-2147483648, 2147483647, true), .inl (-2147483648, 2147483647, true), .inr (.inl [12]), .inr (.inl [220]), .inr (.inl [221]), .inr (.inl [222])])))), (223, .inr (.inr (.inr (8, [.inr (.inl [12]), .inr (.inl [224])])))), (239, .inr (.inr (.inr (6, [.inl (-2147483648, 2147483647, true), .inl (-2147483648, 2147483647, true), .inr (.inl [12]), .inr (.inl [203]), .inr (.inl [240]), .inr (.inl [241]), .inr (.inl [242]), .inr (.inl [243]), .inr (.inl [244]), .inr (.inl [245]), .inr (.inl [260])])))), (266, .inr (.inr (.inr (3, [.inr (.inl [12]), .inr (.inl [12, 340, 344, 348]), .inl (0, 1, true), .inr (.inl [267])])))), (268, .inr (.inr (.inr (4, [.inr (.inl [269]), .inr (.inl [270]), .inr (.inl [271]), .inr (.inl [272]), .inr (.inl [276]), .inr (.inl [296]), .inr (.inl [323])])))), (324, .inr (.inr (.inr (1, [.inl (0, 40, true), .inl (0, 100000, true), .inl (-2147483648, 2147483647, true), .inl (-2147483648, 2147483647, true), .inr (.inl [325]), .inr (.inl [326]), .inr (.inl [327]), .inr (.inl [328]), .inr (.inl [329]), .inr (.inl [330]), .inl (-2147483648, 2147483647, true), .inl (-2147483648, 2147483647, true)]))))]
def fg_owt_G : fw_G := []
theorem fv_owt_ok : fw_view fw_T fv_owt fg_owt_G := fw_vb_ok (by decide +kernel)
def fr_181 : fw_P := [(0, 2, 0, 0, 0), (1, 50, 11, 10, 0), (4, 1, 1, 0, 0), (5, 64, 10, 1, 201), (8, 70, 0, 0, 0)]
theorem fr_181_ok : fw_mk 181 2 11 (some .int) fr_181 = true := by decide +kernel
def ct_k_later : List (Nat × fw_X) := [(10, x_k_passTime)]
theorem ct_k_later_ok (d : Nat) : fw_cok fw_T (d + 1) ct_k_later := by
  intro q hq as W Q h
  simp only [ct_k_later, List.mem_cons, List.not_mem_nil, or_false] at hq
  rcases hq with rfl
  · exact jc_of (x_k_passTime_ok (d + 0) as W Q h)
theorem s_k_later_0 {Post : Option fw_V → fw_W → Prop} {d : Nat} {W : fw_W} {by_ : Int}
    (hw_ : (0 ≤ (fw_g W 324 1) ∧ (fw_g W 324 1) ≤ 100000) ∧ (∀ (r1 : Int) (f2 : fw_W), ((-2147483648 ≤ r1 ∧ r1 ≤ 2147483647 ∧ (((0 ≤ by_ ∧ by_ ≤ 1000 ∧ (fw_g W 324 1) + by_ ≤ 100000) ∧ r1 = (fw_g W 324 1) + by_ ∧ (fw_g f2 324 1) = (fw_g W 324 1) + by_) ∨ (¬ (0 ≤ by_ ∧ by_ ≤ 1000 ∧ (fw_g W 324 1) + by_ ≤ 100000) ∧ r1 = -1 ∧ (fw_g f2 324 1) = (fw_g W 324 1))))) → (-2147483648 ≤ r1 → r1 ≤ 2147483647 → Post (some (.inl r1)) (fw_put [] 0 [324001] W f2)))) :
    jf fw_T (d + 2) 181 0 [(0, .inr (.inl 0)), (1, .inl by_)] [] W Post := fw_ok (n := 6) (ss := []) (hv := []) fr_181_ok fv_owt_ok (ct_k_later_ok d) hw_

def x_k_later : fw_X := fun as W Q => match as with
  | [.inr (.inl s_), .inl by_] => fw_if (Nat.beq s_ 0) ((0 ≤ (fw_g W 324 1) ∧ (fw_g W 324 1) ≤ 100000) ∧ (∀ (v : Int) (f : fw_W), (-2147483648 ≤ v ∧ v ≤ 2147483647 ∧ (((0 ≤ by_ ∧ by_ ≤ 1000 ∧ (fw_g W 324 1) + by_ ≤ 100000) ∧ v = (fw_g W 324 1) + by_ ∧ (fw_g f 324 1) = (fw_g W 324 1) + by_) ∨ (¬ (0 ≤ by_ ∧ by_ ≤ 1000 ∧ (fw_g W 324 1) + by_ ≤ 100000) ∧ v = -1 ∧ (fw_g f 324 1) = (fw_g W 324 1)))) → Q (some (.inl v)) (fw_put [] 0 [324001] W f)))
  | _ => False
theorem x_k_later_ok (d : Nat) (as : List fw_V) (W : fw_W) (Q : Option fw_V → fw_W → Prop) (hx : x_k_later as W Q) : jf fw_T (d + 2) 181 0 (fw_args 0 as) [] W Q := by
  unfold x_k_later at hx
  split at hx
  · rename_i s_ by_
    obtain ⟨e_, hpre, hQ⟩ := fw_if_ok hx
    have e_ := Nat.eq_of_beq_eq_true e_
    subst e_
    have hP : ∀ (v : Int) (W2 : fw_W), fw_sm [] 0 [324001] W W2 → _ → Q (some (.inl v)) W2 := fun v W2 hs hr => fw_sm_use (Q := fun Z => Q (some (.inl v)) Z) hs (hQ v W2 hr)
    refine s_k_later_0 ?_
    repeat' (first
      | (exact True.intro)
      | (exact hpre.1)
      | (refine And.intro ?_ ?_)
      | (refine hP _ _ (by repeat (first | exact fw_sm_refl | exact fw_sm_put0 | refine fw_sm_arr ?_ rfl | refine fw_sm_up ?_ rfl | refine fw_sm_put ?_ rfl | refine fw_sm_cp ?_ rfl)) ?_; (refine ⟨by omega, by omega, ?_⟩; (first | assumption | omega | (rename_i r1 f1 h1 w1 w2; exact h1.2.2))))
      | omega
      | (intro _))
  · exact hx.elim

