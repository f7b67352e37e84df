/-! the class, method by method -/
def fv_town4 : List (Nat × ai_C) := [(4, .inr (.inr (.inr (9, [.inl (0, 14, true), .inl (0, 999, true), .inr (.inl [5]), .inr (.inl [6]), .inr (.inl [7])])))), (5, .inl (.int, 14, -1, 13, true)), (6, .inl (.int, 14, 0, 99, true)), (7, .inl (.int, 14, 0, 99, true))]
def fg_town4_G : fw_G := []
theorem fv_town4_ok : fw_view fw_T fv_town4 fg_town4_G := fw_vb_ok (by decide +kernel)
theorem s_k_add4_0 {Post : Option fw_V → fw_W → Prop} {d : Nat} {W : fw_W} {at_ le dw : Int}
    (hw_ : (0 ≤ (fw_g W 4 0) → (fw_g W 4 0) ≤ 14 → (((fw_g W 4 0) < (14 : Int) → (0 ≤ (fw_g W 4 0) → (fw_g W 4 0) ≤ 14 → 0 ≤ (fw_g W 4 0) ∧ (fw_g W 4 0) < 14 ∧ -1 ≤ at_ ∧ at_ ≤ 13 ∧ ((0 ≤ (fw_g W 4 0) → (fw_g W 4 0) ≤ 14 → 0 ≤ (fw_g W 4 0) ∧ (fw_g W 4 0) < 14 ∧ 0 ≤ le ∧ le ≤ 99 ∧ ((0 ≤ (fw_g W 4 0) → (fw_g W 4 0) ≤ 14 → 0 ≤ (fw_g W 4 0) ∧ (fw_g W 4 0) < 14 ∧ 0 ≤ dw ∧ dw ≤ 99 ∧ ((0 ≤ (fw_g W 4 0) → (fw_g W 4 0) ≤ 14 → -2147483648 ≤ (fw_g W 4 0) + (1 : Int) ∧ (fw_g W 4 0) + (1 : Int) ≤ 2147483647 ∧ (0 ≤ ((fw_g W 4 0) + (1 : Int)) ∧ ((fw_g W 4 0) + (1 : Int)) ≤ 14 ∧ ((0 ≤ (fw_g (fw_up (fw_up (fw_up (fw_up W 5 (fw_g W 4 0) at_) 6 (fw_g W 4 0) le) 7 (fw_g W 4 0) dw) 4 0 ((fw_g W 4 0) + (1 : Int))) 4 0) → (fw_g (fw_up (fw_up (fw_up (fw_up W 5 (fw_g W 4 0) at_) 6 (fw_g W 4 0) le) 7 (fw_g W 4 0) dw) 4 0 ((fw_g W 4 0) + (1 : Int))) 4 0) ≤ 14 → -2147483648 ≤ (fw_g (fw_up (fw_up (fw_up (fw_up W 5 (fw_g W 4 0) at_) 6 (fw_g W 4 0) le) 7 (fw_g W 4 0) dw) 4 0 ((fw_g W 4 0) + (1 : Int))) 4 0) - (1 : Int) ∧ (fw_g (fw_up (fw_up (fw_up (fw_up W 5 (fw_g W 4 0) at_) 6 (fw_g W 4 0) le) 7 (fw_g W 4 0) dw) 4 0 ((fw_g W 4 0) + (1 : Int))) 4 0) - (1 : Int) ≤ 2147483647 ∧ ((-2147483648 ≤ ((fw_g (fw_up (fw_up (fw_up (fw_up W 5 (fw_g W 4 0) at_) 6 (fw_g W 4 0) le) 7 (fw_g W 4 0) dw) 4 0 ((fw_g W 4 0) + (1 : Int))) 4 0) - (1 : Int)) → ((fw_g (fw_up (fw_up (fw_up (fw_up W 5 (fw_g W 4 0) at_) 6 (fw_g W 4 0) le) 7 (fw_g W 4 0) dw) 4 0 ((fw_g W 4 0) + (1 : Int))) 4 0) - (1 : Int)) ≤ 2147483647 → Post (some (.inl ((fw_g (fw_up (fw_up (fw_up (fw_up W 5 (fw_g W 4 0) at_) 6 (fw_g W 4 0) le) 7 (fw_g W 4 0) dw) 4 0 ((fw_g W 4 0) + (1 : Int))) 4 0) - (1 : Int)))) (fw_up (fw_up (fw_up (fw_up W 5 (fw_g W 4 0) at_) 6 (fw_g W 4 0) le) 7 (fw_g W 4 0) dw) 4 0 ((fw_g W 4 0) + (1 : Int)))))))))))))))) ∧ ((14 : Int) ≤ (fw_g W 4 0) → (-2147483648 ≤ (-1 : Int) → (-1 : Int) ≤ 2147483647 → Post (some (.inl (-1 : Int))) W))))) :
    jf fw_T (d + 1) 109 0 [(0, .inr (.inl 4)), (1, .inl at_), (2, .inl le), (3, .inl dw)] [] W Post := fw_ok (n := 34) (ss := []) (hv := []) fr_109_ok fv_town4_ok (fw_c0 _ _) hw_

def x_k_add4 : fw_X := fun as W Q => match as with
  | [.inr (.inl s_), .inl at_, .inl le, .inl dw] => fw_if (Nat.beq s_ 4) ((tr ((fw_g W 4 0)) (fun z_ => (fw_g W 5 z_)) ∧ 0 ≤ (fw_g W 4 0) ∧ (fw_g W 4 0) ≤ 14 ∧ -1 ≤ at_ ∧ at_ ≤ 13 ∧ 0 ≤ le ∧ le ≤ 99 ∧ 0 ≤ dw ∧ dw ≤ 99 ∧ (1 ≤ (fw_g W 4 0) → 0 ≤ at_ ∧ at_ < (fw_g W 4 0)) ∧ ((fw_g W 4 0) = 0 → at_ = -1)) ∧ (∀ (v : Int) (f : fw_W), (-2147483648 ≤ v ∧ v ≤ 2147483647 ∧ ((0 ≤ (fw_g f 4 0) ∧ (fw_g f 4 0) ≤ 14 ∧ tr ((fw_g f 4 0)) (fun z_ => (fw_g f 5 z_))))) → Q (some (.inl v)) (fw_put [5, 6, 7] 0 [4000] W f)))
  | _ => False
theorem x_k_add4_ok (d : Nat) (as : List fw_V) (W : fw_W) (Q : Option fw_V → fw_W → Prop) (hx : x_k_add4 as W Q) : jf fw_T (d + 1) 109 0 (fw_args 0 as) [] W Q := by
  unfold x_k_add4 at hx
  split at hx
  · rename_i s_ at_ le dw
    obtain ⟨e_, hpre, hQ⟩ := fw_if_ok hx
    have e_ := Nat.eq_of_beq_eq_true e_
    subst e_
    have hP : ∀ (v : Int) (W2 : fw_W), fw_sm [5, 6, 7] 0 [4000] W W2 → _ → Q (some (.inl v)) W2 := fun v W2 hs hr => fw_sm_use (Q := fun Z => Q (some (.inl v)) Z) hs (hQ v W2 hr)
    refine s_k_add4_0 ?_
    repeat' (first
      | (exact True.intro)
      | (exact hpre.1)
      | (refine And.intro ?_ ?_)
      | (refine hP _ _ (by repeat (first | exact fw_sm_refl | exact fw_sm_put0 | refine fw_sm_arr ?_ rfl | refine fw_sm_up ?_ rfl | refine fw_sm_put ?_ rfl | refine fw_sm_cp ?_ rfl)) ?_; (refine ⟨by omega, by omega, ?_⟩; (first
          | exact ⟨hpre.2.1, hpre.2.2.1, hpre.1⟩
          | (have e0 : ∀ X, fw_g (fw_up X 4 0 (fw_g W 4 0 + 1)) 4 0 = fw_g W 4 0 + 1 := fun X => fg_same (by omega) (by omega)
             rw [e0]
             refine ⟨by omega, by omega, tr_grow hpre.1 (by omega) (fun z => ?_) (fun z => ?_) (fun k k1 k2 => ?_)⟩
             · show fw_g _ 5 0 = -1
               rw [fg_up rfl, fg_up rfl, fg_up rfl, fg_if (by omega) (by omega) (by omega) (by omega), if_pos (by omega)]; omega
             · show 0 ≤ fw_g _ 5 (fw_g W 4 0) ∧ fw_g _ 5 (fw_g W 4 0) < fw_g W 4 0
               rw [fg_up rfl, fg_up rfl, fg_up rfl, fg_same (by omega) (by omega)]; omega
             · show fw_g _ 5 k = fw_g W 5 k
               rw [fg_up rfl, fg_up rfl, fg_up rfl, fg_if (by omega) (by omega) (by omega) (by omega), if_neg (by omega)]))))
      | (simp (disch := first | decide | omega) only [fg_same, fg_lit, fg_in, fg_fin, fg_out, fg_fout, fg_up, true_and, and_true, true_or, or_true, true_implies]; omega)
      | omega
      | (intro _))
  · exact hx.elim

def fr_108 : fw_P := [(0, 2, 0, 0, 0), (1, 0, 0, 0, 0), (2, 51, 9, 0, 0), (5, 2, 0, 0, 0), (6, 0, 0, 0, 0), (7, 51, 9, 1, 0), (10, 72, 0, 0, 0)]
theorem fr_108_ok : fw_mk 108 1 9 none fr_108 = true := by decide +kernel
theorem s_k_clear4_0 {Post : Option fw_V → fw_W → Prop} {d : Nat} {W : fw_W}
    (hw_ : 0 ≤ (0 : Int) ∧ (0 : Int) ≤ 14 ∧ (0 ≤ (0 : Int) ∧ (0 : Int) ≤ 999 ∧ (Post none (fw_up (fw_up W 4 0 (0 : Int)) 4 1 (0 : Int))))) :
    jf fw_T (d + 1) 108 0 [(0, .inr (.inl 4))] [] W Post := fw_ok (n := 8) (ss := []) (hv := []) fr_108_ok fv_town4_ok (fw_c0 _ _) hw_

def x_k_clear4 : fw_X := fun as W Q => match as with
  | [.inr (.inl s_)] => fw_if (Nat.beq s_ 4) ((True) ∧ (∀ (f : fw_W), ((fw_g f 4 0) = 0) → Q none (fw_put [] 0 [4000, 4001] W f)))
  | _ => False
theorem x_k_clear4_ok (d : Nat) (as : List fw_V) (W : fw_W) (Q : Option fw_V → fw_W → Prop) (hx : x_k_clear4 as W Q) : jf fw_T (d + 1) 108 0 (fw_args 0 as) [] W Q := by
  unfold x_k_clear4 at hx
  split at hx
  · rename_i s_
    obtain ⟨e_, hpre, hQ⟩ := fw_if_ok hx
    have e_ := Nat.eq_of_beq_eq_true e_
    subst e_
    have hP : ∀ (W2 : fw_W), fw_sm [] 0 [4000, 4001] W W2 → _ → Q none W2 := fun W2 hs hr => fw_sm_use (Q := fun Z => Q none Z) hs (hQ W2 hr)
    refine s_k_clear4_0 ?_
    repeat' (first
      | (exact True.intro)
      | (exact hpre.1)
      | (refine And.intro ?_ ?_)
      | (refine hP _ (by repeat (first | exact fw_sm_refl | exact fw_sm_put0 | refine fw_sm_arr ?_ rfl | refine fw_sm_up ?_ rfl | refine fw_sm_put ?_ rfl | refine fw_sm_cp ?_ rfl)) ?_; (first | omega | (simp (disch := first | decide | omega) only [fg_same, fg_lit, fg_in, fg_fin, fg_out, fg_fout, fg_up, true_and, and_true, true_or, or_true, true_implies]; omega) | (simp (disch := first | decide | omega) only [fg_same, fg_lit, fg_in, fg_fin, fg_out, fg_fout, fg_up, true_and, and_true, true_or, or_true, true_implies]; first | done | omega)))
      | omega
      | (intro _))
  · exact hx.elim

def fr_73 : fw_P := [(0, 2, 0, 0, 0), (1, 50, 5, 6, 0), (4, 64, 96, 0, 107), (7, 2, 0, 0, 0), (8, 0, 0, 0, 0), (9, 0, 0, 0, 999), (12, 64, 70, 2, 405), (15, 3, 1, 0, 0), (16, 1, 1, 0, 0), (17, 0, 0, 0, -1), (18, 10, 29, 0, 0), (21, 2, 0, 0, 0), (22, 0, 0, 0, 2), (23, 64, 67, 1, 205), (26, 21, 31, 0, 0), (29, 0, 0, 0, 0), (30, 71, 0, 0, 0), (31, 2, 0, 0, 0), (32, 50, 5, 0, 0), (35, 1, 1, 0, 0), (36, 51, 9, 1, 0), (39, 2, 0, 0, 0), (40, 0, 0, 0, 1), (41, 58, 5, 9, 0), (44, 0, 0, 0, 1), (45, 71, 0, 0, 0)]
theorem fr_73_ok : fw_mk 73 2 5 (some .boolean) fr_73 = true := by decide +kernel
def ct_k_readDraw : List (Nat × fw_X) := [(96, x_k_step), (70, x_k_takeNumber), (67, x_k_takeToken)]
theorem ct_k_readDraw_ok (d : Nat) : fw_cok fw_T (d + 4) ct_k_readDraw := by
  intro q hq as W Q h
  simp only [ct_k_readDraw, List.mem_cons, List.not_mem_nil, or_false] at hq
  rcases hq with rfl | rfl | rfl
  · exact jc_of (x_k_step_ok (d + 1) as W Q h)
  · exact jc_of (x_k_takeNumber_ok (d + 0) as W Q h)
  · exact jc_of (x_k_takeToken_ok (d + 0) as W Q h)
theorem s_k_readDraw_0 {Post : Option fw_V → fw_W → Prop} {d : Nat} {W : fw_W}
    (hw_ : (True) ∧ (∀ (f1 : fw_W), ((True)) → (True) ∧ (∀ (r2 : Int) (f3 : fw_W), ((-2147483648 ≤ r2 ∧ r2 ≤ 2147483647 ∧ (r2 = -1 ∨ ((0 : Int) ≤ r2 ∧ r2 ≤ (999 : Int))))) → ((r2 = (-1 : Int) → 0 ≤ (0 : Int) ∧ (0 : Int) ≤ 1 ∧ Post (some (.inl (0 : Int))) (fw_put [] 0 [1001, 1002, 1003, 1006, 3004, 3005] (fw_put [] 0 [1001, 1002, 1003, 1006] W f1) f3)) ∧ (¬ r2 = (-1 : Int) → (True) ∧ (∀ (r4 : Int) (f5 : fw_W), ((0 ≤ r4 ∧ r4 ≤ 1 ∧ (True))) → ((¬ r4 = 0 → 0 ≤ r2 ∧ r2 ≤ 999 ∧ (0 ≤ (1 : Int) ∧ (1 : Int) ≤ 1 ∧ 0 ≤ (1 : Int) ∧ (1 : Int) ≤ 1 ∧ (0 ≤ (1 : Int) ∧ (1 : Int) ≤ 1 ∧ Post (some (.inl (1 : Int))) (fw_up (fw_up (fw_put [] 0 [1001, 1002, 1003, 1006, 3004, 3005] (fw_put [] 0 [1001, 1002, 1003, 1006, 3004, 3005] (fw_put [] 0 [1001, 1002, 1003, 1006] W f1) f3) f5) 4 1 r2) 3 9 (1 : Int))))) ∧ (r4 = 0 → 0 ≤ (0 : Int) ∧ (0 : Int) ≤ 1 ∧ Post (some (.inl (0 : Int))) (fw_put [] 0 [1001, 1002, 1003, 1006, 3004, 3005] (fw_put [] 0 [1001, 1002, 1003, 1006, 3004, 3005] (fw_put [] 0 [1001, 1002, 1003, 1006] W f1) f3) f5))))))))) :
    jf fw_T (d + 5) 73 0 [(0, .inr (.inl 3))] [] W Post := fw_ok (n := 25) (ss := []) (hv := []) fr_73_ok fv_reader_ok (ct_k_readDraw_ok d) hw_

def x_k_readDraw : fw_X := fun as W Q => match as with
  | [.inr (.inl s_)] => fw_if (Nat.beq s_ 3) ((ta W 4) ∧ (∀ (v : Int) (f : fw_W), (0 ≤ v ∧ v ≤ 1 ∧ (rk W f)) → Q (some (.inl v)) f))
  | _ => False
theorem x_k_readDraw_ok (d : Nat) (as : List fw_V) (W : fw_W) (Q : Option fw_V → fw_W → Prop) (hx : x_k_readDraw as W Q) : jf fw_T (d + 5) 73 0 (fw_args 0 as) [] W Q := by
  unfold x_k_readDraw at hx
  split at hx
  · rename_i s_
    obtain ⟨e_, hpre, hQ⟩ := fw_if_ok hx
    have e_ := Nat.eq_of_beq_eq_true e_
    subst e_
    have hP := hQ
    refine s_k_readDraw_0 ?_
    repeat' (first
      | (exact True.intro)
      | (exact hpre.1)
      | (refine And.intro ?_ ?_)
      | (refine hP _ _ ?_; (refine ⟨by omega, by omega, ?_⟩; ((repeat (first | exact ⟨sc_refl, hpre⟩ | refine rk_put ?_ rfl rfl | refine rk_up ?_ (by omega) | refine rk_seed ?_)))))
      | (simp (disch := first | decide | omega) only [fg_same, fg_lit, fg_in, fg_fin, fg_out, fg_fout, fg_up, true_and, and_true, true_or, or_true, true_implies]; omega)
      | omega
      | (intro _))
  · exact hx.elim

def fr_71 : fw_P := [(0, 2, 0, 0, 0), (1, 50, 5, 6, 0), (4, 64, 96, 0, 107), (7, 2, 0, 0, 0), (8, 50, 5, 6, 0), (11, 50, 7, 4, 0), (14, 82, 1, 0, 0), (15, 2, 0, 0, 0), (16, 2, 0, 0, 0), (17, 50, 5, 8, 0), (20, 2, 0, 0, 0), (21, 50, 5, 3, 0), (24, 64, 63, 2, 305), (27, 20, 39, 0, 0), (30, 2, 0, 0, 0), (31, 0, 0, 0, 6), (33, 64, 67, 1, 205), (36, 21, 41, 0, 0), (39, 0, 0, 0, 0), (40, 71, 0, 0, 0), (41, 2, 0, 0, 0), (42, 2, 0, 0, 0), (43, 50, 5, 1, 0), (46, 0, 0, 0, -1), (47, 64, 72, 2, 605), (50, 3, 3, 0, 0), (51, 1, 3, 0, 0), (52, 0, 0, 0, -1), (53, 10, 65, 0, 0), (56, 2, 0, 0, 0), (57, 0, 0, 0, 10), (59, 64, 67, 1, 205), (62, 21, 67, 0, 0), (65, 0, 0, 0, 0), (66, 71, 0, 0, 0), (67, 2, 0, 0, 0), (68, 2, 0, 0, 0), (69, 50, 5, 2, 0), (72, 1, 3, 0, 0), (73, 64, 72, 2, 605), (76, 3, 4, 0, 0), (78, 1, 4, 0, 0), (80, 0, 0, 0, -1), (81, 10, 92, 0, 0), (84, 2, 0, 0, 0), (85, 0, 0, 0, 2), (86, 64, 67, 1, 205), (89, 21, 94, 0, 0), (92, 0, 0, 0, 0), (93, 71, 0, 0, 0), (94, 2, 0, 0, 0), (95, 50, 5, 8, 0), (98, 2, 0, 0, 0), (99, 50, 5, 3, 0), (102, 81, 1, 0, 0), (103, 86, 0, 0, 0), (104, 2, 0, 0, 0), (105, 50, 5, 1, 0), (108, 2, 0, 0, 0), (109, 50, 5, 3, 0), (112, 1, 3, 0, 0), (113, 53, 0, 0, 0), (114, 2, 0, 0, 0), (115, 50, 5, 2, 0), (118, 2, 0, 0, 0), (119, 50, 5, 3, 0), (122, 1, 4, 0, 0), (124, 53, 0, 0, 0), (125, 2, 0, 0, 0), (126, 43, 0, 0, 0), (127, 50, 5, 3, 0), (130, 0, 0, 0, 1), (131, 30, 0, 0, 0), (132, 51, 5, 3, 0), (135, 0, 0, 0, 1), (136, 71, 0, 0, 0)]
theorem fr_71_ok : fw_mk 71 5 5 (some .boolean) fr_71 = true := by decide +kernel
def ct_k_readCart : List (Nat × fw_X) := [(96, x_k_step), (63, x_k_isNewC), (67, x_k_takeToken), (72, x_k_takeFree)]
theorem ct_k_readCart_ok (d : Nat) : fw_cok fw_T (d + 4) ct_k_readCart := by
  intro q hq as W Q h
  simp only [ct_k_readCart, List.mem_cons, List.not_mem_nil, or_false] at hq
  rcases hq with rfl | rfl | rfl | rfl
  · exact jc_of (x_k_step_ok (d + 1) as W Q h)
  · exact jc_of (x_k_isNewC_ok (d + 0) as W Q h)
  · exact jc_of (x_k_takeToken_ok (d + 0) as W Q h)
  · exact jc_of (x_k_takeFree_ok (d + 0) as W Q h)
set_option maxRecDepth 10000 in
theorem s_k_readCart_0 {Post : Option fw_V → fw_W → Prop} {d : Nat} {W : fw_W}
    (hw_ : (True) ∧ (∀ (f1 : fw_W), ((True)) → (0 ≤ (fw_g W 3 3) → (fw_g W 3 3) ≤ 4 → (True) ∧ (∀ (r2 : Int) (f3 : fw_W), ((0 ≤ r2 ∧ r2 ≤ 1 ∧ (True))) → ((r2 = 0 → 0 ≤ (0 : Int) ∧ (0 : Int) ≤ 1 ∧ Post (some (.inl (0 : Int))) (fw_put [] 0 [1001, 1002, 1003, 1006, 3004, 3005] (fw_put [] 0 [1001, 1002, 1003, 1006] W f1) f3)) ∧ (¬ r2 = 0 → (True) ∧ (∀ (r4 : Int) (f5 : fw_W), ((0 ≤ r4 ∧ r4 ≤ 1 ∧ (True))) → ((¬ r4 = 0 → (True) ∧ (∀ (r6 : Int) (f7 : fw_W), ((-2147483648 ≤ r6 ∧ r6 ≤ 2147483647 ∧ (r6 = -1 ∨ (0 ≤ r6 ∧ r6 < (fw_g W 4 0))))) → ((r6 = (-1 : Int) → 0 ≤ (0 : Int) ∧ (0 : Int) ≤ 1 ∧ Post (some (.inl (0 : Int))) (fw_put [] 0 [1001, 1002, 1003, 1006, 3004, 3005] (fw_put [] 0 [1001, 1002, 1003, 1006, 3004, 3005] (fw_put [] 0 [1001, 1002, 1003, 1006, 3004, 3005] (fw_put [] 0 [1001, 1002, 1003, 1006] W f1) f3) f5) f7)) ∧ (¬ r6 = (-1 : Int) → (True) ∧ (∀ (r8 : Int) (f9 : fw_W), ((0 ≤ r8 ∧ r8 ≤ 1 ∧ (True))) → ((¬ r8 = 0 → (True) ∧ (∀ (r10 : Int) (f11 : fw_W), ((-2147483648 ≤ r10 ∧ r10 ≤ 2147483647 ∧ (r10 = -1 ∨ (0 ≤ r10 ∧ r10 < (fw_g W 4 0))))) → ((r10 = (-1 : Int) → 0 ≤ (0 : Int) ∧ (0 : Int) ≤ 1 ∧ Post (some (.inl (0 : Int))) (fw_put [] 0 [1001, 1002, 1003, 1006, 3004, 3005] (fw_put [] 0 [1001, 1002, 1003, 1006, 3004, 3005] (fw_put [] 0 [1001, 1002, 1003, 1006, 3004, 3005] (fw_put [] 0 [1001, 1002, 1003, 1006, 3004, 3005] (fw_put [] 0 [1001, 1002, 1003, 1006, 3004, 3005] (fw_put [] 0 [1001, 1002, 1003, 1006] W f1) f3) f5) f7) f9) f11)) ∧ (¬ r10 = (-1 : Int) → (True) ∧ (∀ (r12 : Int) (f13 : fw_W), ((0 ≤ r12 ∧ r12 ≤ 1 ∧ (True))) → ((¬ r12 = 0 → (0 ≤ (fw_g W 3 3) → (fw_g W 3 3) ≤ 4 → 0 ≤ (fw_g W 3 3) ∧ (fw_g W 3 3) < 4 ∧ ((0 ≤ (fw_g W 3 3) → (fw_g W 3 3) ≤ 4 → 0 ≤ (fw_g W 3 3) ∧ (fw_g W 3 3) < 4 ∧ 0 ≤ r6 ∧ r6 ≤ 13 ∧ ((0 ≤ (fw_g W 3 3) → (fw_g W 3 3) ≤ 4 → 0 ≤ (fw_g W 3 3) ∧ (fw_g W 3 3) < 4 ∧ 0 ≤ r10 ∧ r10 ≤ 13 ∧ ((0 ≤ (fw_g W 3 3) → (fw_g W 3 3) ≤ 4 → -2147483648 ≤ (fw_g W 3 3) + (1 : Int) ∧ (fw_g W 3 3) + (1 : Int) ≤ 2147483647 ∧ (0 ≤ ((fw_g W 3 3) + (1 : Int)) ∧ ((fw_g W 3 3) + (1 : Int)) ≤ 4 ∧ (0 ≤ (1 : Int) ∧ (1 : Int) ≤ 1 ∧ Post (some (.inl (1 : Int))) (fw_up (fw_up (fw_up (fw_put [] 0 [1001, 1002, 1003, 1006, 3004, 3005] (fw_put [] 0 [1001, 1002, 1003, 1006, 3004, 3005] (fw_put [] 0 [1001, 1002, 1003, 1006, 3004, 3005] (fw_put [] 0 [1001, 1002, 1003, 1006, 3004, 3005] (fw_put [] 0 [1001, 1002, 1003, 1006, 3004, 3005] (fw_put [] 0 [1001, 1002, 1003, 1006, 3004, 3005] (fw_put [] 0 [1001, 1002, 1003, 1006] W f1) f3) f5) f7) f9) f11) f13) 8 (fw_g W 3 3) r6) 9 (fw_g W 3 3) r10) 3 3 ((fw_g W 3 3) + (1 : Int))))))))))))) ∧ (r12 = 0 → 0 ≤ (0 : Int) ∧ (0 : Int) ≤ 1 ∧ Post (some (.inl (0 : Int))) (fw_put [] 0 [1001, 1002, 1003, 1006, 3004, 3005] (fw_put [] 0 [1001, 1002, 1003, 1006, 3004, 3005] (fw_put [] 0 [1001, 1002, 1003, 1006, 3004, 3005] (fw_put [] 0 [1001, 1002, 1003, 1006, 3004, 3005] (fw_put [] 0 [1001, 1002, 1003, 1006, 3004, 3005] (fw_put [] 0 [1001, 1002, 1003, 1006, 3004, 3005] (fw_put [] 0 [1001, 1002, 1003, 1006] W f1) f3) f5) f7) f9) f11) f13)))))))) ∧ (r8 = 0 → 0 ≤ (0 : Int) ∧ (0 : Int) ≤ 1 ∧ Post (some (.inl (0 : Int))) (fw_put [] 0 [1001, 1002, 1003, 1006, 3004, 3005] (fw_put [] 0 [1001, 1002, 1003, 1006, 3004, 3005] (fw_put [] 0 [1001, 1002, 1003, 1006, 3004, 3005] (fw_put [] 0 [1001, 1002, 1003, 1006, 3004, 3005] (fw_put [] 0 [1001, 1002, 1003, 1006] W f1) f3) f5) f7) f9)))))))) ∧ (r4 = 0 → 0 ≤ (0 : Int) ∧ (0 : Int) ≤ 1 ∧ Post (some (.inl (0 : Int))) (fw_put [] 0 [1001, 1002, 1003, 1006, 3004, 3005] (fw_put [] 0 [1001, 1002, 1003, 1006, 3004, 3005] (fw_put [] 0 [1001, 1002, 1003, 1006] W f1) f3) f5)))))))))) :
    jf fw_T (d + 5) 71 0 [(0, .inr (.inl 3))] [] W Post := fw_ok (n := 71) (ss := []) (hv := []) fr_71_ok fv_reader_ok (ct_k_readCart_ok d) hw_

def x_k_readCart : fw_X := fun as W Q => match as with
  | [.inr (.inl s_)] => fw_if (Nat.beq s_ 3) ((ta W 4 ∧ (fw_g W 3 3) < 4) ∧ (∀ (v : Int) (f : fw_W), (0 ≤ v ∧ v ≤ 1 ∧ (rk W f)) → Q (some (.inl v)) f))
  | _ => False
theorem x_k_readCart_ok (d : Nat) (as : List fw_V) (W : fw_W) (Q : Option fw_V → fw_W → Prop) (hx : x_k_readCart as W Q) : jf fw_T (d + 5) 71 0 (fw_args 0 as) [] W Q := by
  unfold x_k_readCart at hx
  split at hx
  · rename_i s_
    obtain ⟨e_, hpre, hQ⟩ := fw_if_ok hx
    have e_ := Nat.eq_of_beq_eq_true e_
    subst e_
    have hP := hQ
    refine s_k_readCart_0 ?_
    have hp4 := ta_p4 hpre.1
    repeat' (first
      | (exact True.intro)
      | (exact hpre.1)
      | (refine And.intro ?_ ?_)
      | (refine hP _ _ ?_; (refine ⟨by omega, by omega, ?_⟩; ((repeat (first | exact ⟨sc_refl, hpre.1⟩ | refine rk_put ?_ rfl rfl | refine rk_up ?_ (by omega) | refine rk_seed ?_)))))
      | (simp (disch := first | decide | omega) only [fg_same, fg_lit, fg_in, fg_fin, fg_out, fg_fout, fg_up, true_and, and_true, true_or, or_true, true_implies]; omega)
      | omega
      | (intro _))
  · exact hx.elim

def fr_62 : fw_P := [(0, 2, 0, 0, 0), (1, 50, 5, 6, 0), (4, 64, 96, 0, 107), (7, 2, 0, 0, 0), (8, 50, 5, 6, 0), (11, 50, 7, 4, 0), (14, 82, 1, 0, 0), (15, 2, 0, 0, 0), (16, 2, 0, 0, 0), (17, 50, 5, 7, 0), (20, 2, 0, 0, 0), (21, 50, 5, 0, 0), (24, 50, 9, 0, 0), (27, 64, 63, 2, 305), (30, 21, 35, 0, 0), (33, 0, 0, 0, 0), (34, 71, 0, 0, 0), (35, 0, 0, 0, -1), (36, 3, 3, 0, 0), (37, 0, 0, 0, 0), (38, 3, 4, 0, 0), (40, 2, 0, 0, 0), (41, 50, 5, 0, 0), (44, 50, 9, 0, 0), (47, 25, 103, 0, 0), (50, 2, 0, 0, 0), (51, 0, 0, 0, 6), (53, 64, 67, 1, 205), (56, 20, 66, 0, 0), (59, 2, 0, 0, 0), (60, 64, 68, 0, 205), (63, 6, 67, 0, 0), (66, 0, 0, 0, -1), (67, 3, 3, 0, 0), (68, 1, 3, 0, 0), (69, 0, 0, 0, -1), (70, 10, 92, 0, 0), (73, 2, 0, 0, 0), (74, 0, 0, 0, 7), (76, 64, 67, 1, 205), (79, 20, 92, 0, 0), (82, 2, 0, 0, 0), (83, 0, 0, 0, 1), (84, 0, 0, 0, 99), (86, 64, 70, 2, 405), (89, 6, 93, 0, 0), (92, 0, 0, 0, -1), (93, 3, 4, 0, 0), (95, 1, 4, 0, 0), (97, 0, 0, 0, -1), (98, 11, 103, 0, 0), (101, 0, 0, 0, 0), (102, 71, 0, 0, 0), (103, 0, 0, 0, 1), (104, 3, 5, 0, 0), (106, 2, 0, 0, 0), (107, 50, 5, 6, 0), (110, 50, 7, 1, 0), (113, 0, 0, 0, 8), (115, 11, 134, 0, 0), (118, 2, 0, 0, 0), (119, 50, 5, 6, 0), (122, 64, 96, 0, 107), (125, 2, 0, 0, 0), (126, 0, 0, 0, 0), (127, 0, 0, 0, 99), (129, 64, 70, 2, 405), (132, 3, 5, 0, 0), (134, 1, 5, 0, 0), (136, 0, 0, 0, -1), (137, 10, 148, 0, 0), (140, 2, 0, 0, 0), (141, 0, 0, 0, 2), (142, 64, 67, 1, 205), (145, 21, 150, 0, 0), (148, 0, 0, 0, 0), (149, 71, 0, 0, 0), (150, 2, 0, 0, 0), (151, 50, 5, 7, 0), (154, 2, 0, 0, 0), (155, 50, 5, 0, 0), (158, 50, 9, 0, 0), (161, 81, 1, 0, 0), (162, 86, 0, 0, 0), (163, 2, 0, 0, 0), (164, 50, 5, 0, 0), (167, 1, 3, 0, 0), (168, 1, 4, 0, 0), (170, 1, 5, 0, 0), (172, 64, 109, 3, 409), (175, 45, 0, 0, 0), (176, 0, 0, 0, 1), (177, 71, 0, 0, 0)]
theorem fr_62_ok : fw_mk 62 6 5 (some .boolean) fr_62 = true := by decide +kernel
def ct_k_readHouse : List (Nat × fw_X) := [(96, x_k_step), (63, x_k_isNewH), (67, x_k_takeToken), (68, x_k_takeHouse), (70, x_k_takeNumber), (109, x_k_add4)]
theorem ct_k_readHouse_ok (d : Nat) : fw_cok fw_T (d + 4) ct_k_readHouse := by
  intro q hq as W Q h
  simp only [ct_k_readHouse, List.mem_cons, List.not_mem_nil, or_false] at hq
  rcases hq with rfl | rfl | rfl | rfl | rfl | rfl
  · exact jc_of (x_k_step_ok (d + 1) as W Q h)
  · exact jc_of (x_k_isNewH_ok (d + 0) as W Q h)
  · exact jc_of (x_k_takeToken_ok (d + 0) as W Q h)
  · exact jc_of (x_k_takeHouse_ok (d + 0) as W Q h)
  · exact jc_of (x_k_takeNumber_ok (d + 0) as W Q h)
  · exact jc_of (x_k_add4_ok (d + 3) as W Q h)
theorem s_k_readHouse_0 {Post : Option fw_V → fw_W → Prop} {d : Nat} {W : fw_W}
    (hw_ : (True) ∧ (∀ (f1 : fw_W), ((True)) → (0 ≤ (fw_g W 4 0) → (fw_g W 4 0) ≤ 14 → (True) ∧ (∀ (r2 : Int) (f3 : fw_W), ((0 ≤ r2 ∧ r2 ≤ 1 ∧ (True))) → ((¬ r2 = 0 → (0 ≤ (fw_g W 4 0) → (fw_g W 4 0) ≤ 14 → (((fw_g W 4 0) ≤ 0 → jf fw_T (d + 5) 62 103 [(0, .inr (.inl 3)), (1, .inr (.inr 1000)), (3, .inl (-1 : Int)), (4, .inl (0 : Int))] [] (fw_put [] 0 [1001, 1002, 1003, 1006, 3004, 3005] (fw_put [] 0 [1001, 1002, 1003, 1006] W f1) f3) Post) ∧ (0 < (fw_g W 4 0) → (True) ∧ (∀ (r4 : Int) (f5 : fw_W), ((0 ≤ r4 ∧ r4 ≤ 1 ∧ (True))) → ((r4 = 0 → (((-1 : Int) = (-1 : Int) → ((¬ (-1 : Int) = (-1 : Int) → jf fw_T (d + 5) 62 103 [(0, .inr (.inl 3)), (1, .inr (.inr 1000)), (3, .inl (-1 : Int)), (4, .inl (-1 : Int))] [] (fw_put [] 0 [1001, 1002, 1003, 1006, 3004, 3005] (fw_put [] 0 [1001, 1002, 1003, 1006, 3004, 3005] (fw_put [] 0 [1001, 1002, 1003, 1006] W f1) f3) f5) Post) ∧ ((-1 : Int) = (-1 : Int) → 0 ≤ (0 : Int) ∧ (0 : Int) ≤ 1 ∧ Post (some (.inl (0 : Int))) (fw_put [] 0 [1001, 1002, 1003, 1006, 3004, 3005] (fw_put [] 0 [1001, 1002, 1003, 1006, 3004, 3005] (fw_put [] 0 [1001, 1002, 1003, 1006] W f1) f3) f5)))) ∧ (¬ (-1 : Int) = (-1 : Int) → (True) ∧ (∀ (r6 : Int) (f7 : fw_W), ((0 ≤ r6 ∧ r6 ≤ 1 ∧ (True))) → ((r6 = 0 → ((¬ (-1 : Int) = (-1 : Int) → jf fw_T (d + 5) 62 103 [(0, .inr (.inl 3)), (1, .inr (.inr 1000)), (3, .inl (-1 : Int)), (4, .inl (-1 : Int))] [] (fw_put [] 0 [1001, 1002, 1003, 1006, 3004, 3005] (fw_put [] 0 [1001, 1002, 1003, 1006, 3004, 3005] (fw_put [] 0 [1001, 1002, 1003, 1006, 3004, 3005] (fw_put [] 0 [1001, 1002, 1003, 1006] W f1) f3) f5) f7) Post) ∧ ((-1 : Int) = (-1 : Int) → 0 ≤ (0 : Int) ∧ (0 : Int) ≤ 1 ∧ Post (some (.inl (0 : Int))) (fw_put [] 0 [1001, 1002, 1003, 1006, 3004, 3005] (fw_put [] 0 [1001, 1002, 1003, 1006, 3004, 3005] (fw_put [] 0 [1001, 1002, 1003, 1006, 3004, 3005] (fw_put [] 0 [1001, 1002, 1003, 1006] W f1) f3) f5) f7)))) ∧ (¬ r6 = 0 → (True) ∧ (∀ (r8 : Int) (f9 : fw_W), ((-2147483648 ≤ r8 ∧ r8 ≤ 2147483647 ∧ (r8 = -1 ∨ ((1 : Int) ≤ r8 ∧ r8 ≤ (99 : Int))))) → ((¬ r8 = (-1 : Int) → jf fw_T (d + 5) 62 103 [(0, .inr (.inl 3)), (1, .inr (.inr 1000)), (3, .inl (-1 : Int)), (4, .inl r8)] [] (fw_put [] 0 [1001, 1002, 1003, 1006, 3004, 3005] (fw_put [] 0 [1001, 1002, 1003, 1006, 3004, 3005] (fw_put [] 0 [1001, 1002, 1003, 1006, 3004, 3005] (fw_put [] 0 [1001, 1002, 1003, 1006, 3004, 3005] (fw_put [] 0 [1001, 1002, 1003, 1006] W f1) f3) f5) f7) f9) Post) ∧ (r8 = (-1 : Int) → 0 ≤ (0 : Int) ∧ (0 : Int) ≤ 1 ∧ Post (some (.inl (0 : Int))) (fw_put [] 0 [1001, 1002, 1003, 1006, 3004, 3005] (fw_put [] 0 [1001, 1002, 1003, 1006, 3004, 3005] (fw_put [] 0 [1001, 1002, 1003, 1006, 3004, 3005] (fw_put [] 0 [1001, 1002, 1003, 1006, 3004, 3005] (fw_put [] 0 [1001, 1002, 1003, 1006] W f1) f3) f5) f7) f9)))))))))) ∧ (¬ r4 = 0 → (True) ∧ (∀ (r10 : Int) (f11 : fw_W), ((-2147483648 ≤ r10 ∧ r10 ≤ 2147483647 ∧ (r10 = -1 ∨ (0 ≤ r10 ∧ r10 < (fw_g W 4 0))))) → ((r10 = (-1 : Int) → ((¬ (-1 : Int) = (-1 : Int) → jf fw_T (d + 5) 62 103 [(0, .inr (.inl 3)), (1, .inr (.inr 1000)), (3, .inl r10), (4, .inl (-1 : Int))] [] (fw_put [] 0 [1001, 1002, 1003, 1006, 3004, 3005] (fw_put [] 0 [1001, 1002, 1003, 1006, 3004, 3005] (fw_put [] 0 [1001, 1002, 1003, 1006, 3004, 3005] (fw_put [] 0 [1001, 1002, 1003, 1006] W f1) f3) f5) f11) Post) ∧ ((-1 : Int) = (-1 : Int) → 0 ≤ (0 : Int) ∧ (0 : Int) ≤ 1 ∧ Post (some (.inl (0 : Int))) (fw_put [] 0 [1001, 1002, 1003, 1006, 3004, 3005] (fw_put [] 0 [1001, 1002, 1003, 1006, 3004, 3005] (fw_put [] 0 [1001, 1002, 1003, 1006, 3004, 3005] (fw_put [] 0 [1001, 1002, 1003, 1006] W f1) f3) f5) f11)))) ∧ (¬ r10 = (-1 : Int) → (True) ∧ (∀ (r12 : Int) (f13 : fw_W), ((0 ≤ r12 ∧ r12 ≤ 1 ∧ (True))) → ((r12 = 0 → ((¬ (-1 : Int) = (-1 : Int) → jf fw_T (d + 5) 62 103 [(0, .inr (.inl 3)), (1, .inr (.inr 1000)), (3, .inl r10), (4, .inl (-1 : Int))] [] (fw_put [] 0 [1001, 1002, 1003, 1006, 3004, 3005] (fw_put [] 0 [1001, 1002, 1003, 1006, 3004, 3005] (fw_put [] 0 [1001, 1002, 1003, 1006, 3004, 3005] (fw_put [] 0 [1001, 1002, 1003, 1006, 3004, 3005] (fw_put [] 0 [1001, 1002, 1003, 1006] W f1) f3) f5) f11) f13) Post) ∧ ((-1 : Int) = (-1 : Int) → 0 ≤ (0 : Int) ∧ (0 : Int) ≤ 1 ∧ Post (some (.inl (0 : Int))) (fw_put [] 0 [1001, 1002, 1003, 1006, 3004, 3005] (fw_put [] 0 [1001, 1002, 1003, 1006, 3004, 3005] (fw_put [] 0 [1001, 1002, 1003, 1006, 3004, 3005] (fw_put [] 0 [1001, 1002, 1003, 1006, 3004, 3005] (fw_put [] 0 [1001, 1002, 1003, 1006] W f1) f3) f5) f11) f13)))) ∧ (¬ r12 = 0 → (True) ∧ (∀ (r14 : Int) (f15 : fw_W), ((-2147483648 ≤ r14 ∧ r14 ≤ 2147483647 ∧ (r14 = -1 ∨ ((1 : Int) ≤ r14 ∧ r14 ≤ (99 : Int))))) → ((¬ r14 = (-1 : Int) → jf fw_T (d + 5) 62 103 [(0, .inr (.inl 3)), (1, .inr (.inr 1000)), (3, .inl r10), (4, .inl r14)] [] (fw_put [] 0 [1001, 1002, 1003, 1006, 3004, 3005] (fw_put [] 0 [1001, 1002, 1003, 1006, 3004, 3005] (fw_put [] 0 [1001, 1002, 1003, 1006, 3004, 3005] (fw_put [] 0 [1001, 1002, 1003, 1006, 3004, 3005] (fw_put [] 0 [1001, 1002, 1003, 1006, 3004, 3005] (fw_put [] 0 [1001, 1002, 1003, 1006] W f1) f3) f5) f11) f13) f15) Post) ∧ (r14 = (-1 : Int) → 0 ≤ (0 : Int) ∧ (0 : Int) ≤ 1 ∧ Post (some (.inl (0 : Int))) (fw_put [] 0 [1001, 1002, 1003, 1006, 3004, 3005] (fw_put [] 0 [1001, 1002, 1003, 1006, 3004, 3005] (fw_put [] 0 [1001, 1002, 1003, 1006, 3004, 3005] (fw_put [] 0 [1001, 1002, 1003, 1006, 3004, 3005] (fw_put [] 0 [1001, 1002, 1003, 1006, 3004, 3005] (fw_put [] 0 [1001, 1002, 1003, 1006] W f1) f3) f5) f11) f13) f15))))))))))))))))) ∧ (r2 = 0 → 0 ≤ (0 : Int) ∧ (0 : Int) ≤ 1 ∧ Post (some (.inl (0 : Int))) (fw_put [] 0 [1001, 1002, 1003, 1006, 3004, 3005] (fw_put [] 0 [1001, 1002, 1003, 1006] W f1) f3))))))) :
    jf fw_T (d + 5) 62 0 [(0, .inr (.inl 3))] [] W Post := fw_ok (n := 50) (ss := [(103, [0, 1, 3, 4]), (134, [0, 1, 3, 4, 5])]) (hv := []) fr_62_ok fv_reader_ok (ct_k_readHouse_ok d) hw_

theorem s_k_readHouse_134 {Post : Option fw_V → fw_W → Prop} {d : Nat} {W : fw_W} {at_ st pe : Int} {f : fw_W}
    (hw_ : ((pe = (-1 : Int) → 0 ≤ (0 : Int) ∧ (0 : Int) ≤ 1 ∧ Post (some (.inl (0 : Int))) f) ∧ (¬ pe = (-1 : Int) → (True) ∧ (∀ (r1 : Int) (f2 : fw_W), ((0 ≤ r1 ∧ r1 ≤ 1 ∧ (True))) → ((¬ r1 = 0 → (0 ≤ (fw_g f 4 0) → (fw_g f 4 0) ≤ 14 → 0 ≤ (fw_g f 4 0) ∧ (fw_g f 4 0) < 14 ∧ ((tr ((fw_g f 4 0)) (fun z_ => (fw_g f 5 z_)) ∧ 0 ≤ (fw_g f 4 0) ∧ (fw_g f 4 0) ≤ 14 ∧ -1 ≤ at_ ∧ at_ ≤ 13 ∧ 0 ≤ st ∧ st ≤ 99 ∧ 0 ≤ pe ∧ pe ≤ 99 ∧ (1 ≤ (fw_g f 4 0) → 0 ≤ at_ ∧ at_ < (fw_g f 4 0)) ∧ ((fw_g f 4 0) = 0 → at_ = -1)) ∧ (∀ (r3 : Int) (f4 : fw_W), ((-2147483648 ≤ r3 ∧ r3 ≤ 2147483647 ∧ ((0 ≤ (fw_g f4 4 0) ∧ (fw_g f4 4 0) ≤ 14 ∧ tr ((fw_g f4 4 0)) (fun z_ => (fw_g f4 5 z_)))))) → 0 ≤ (1 : Int) ∧ (1 : Int) ≤ 1 ∧ Post (some (.inl (1 : Int))) (fw_put [5, 6, 7] 0 [4000] (fw_put [] 0 [1001, 1002, 1003, 1006, 3004, 3005] f f2) f4))))) ∧ (r1 = 0 → 0 ≤ (0 : Int) ∧ (0 : Int) ≤ 1 ∧ Post (some (.inl (0 : Int))) (fw_put [] 0 [1001, 1002, 1003, 1006, 3004, 3005] f f2))))))) :
    jf fw_T (d + 5) 62 134 [(0, .inr (.inl 3)), (1, .inr (.inr 1000)), (3, .inl at_), (4, .inl st), (5, .inl pe)] [] f Post := fw_ok (n := 24) (ss := [(103, [0, 1, 3, 4]), (134, [0, 1, 3, 4, 5])]) (hv := []) fr_62_ok fv_reader_ok (ct_k_readHouse_ok d) hw_

theorem s_k_readHouse_103 {Post : Option fw_V → fw_W → Prop} {d : Nat} {W : fw_W} {at_ st : Int} {f : fw_W}
    (hw_ : (0 ≤ (fw_g f 1 1) → (fw_g f 1 1) ≤ 11 → ((¬ (fw_g f 1 1) = (8 : Int) → jf fw_T (d + 5) 62 134 [(0, .inr (.inl 3)), (1, .inr (.inr 1000)), (3, .inl at_), (4, .inl st), (5, .inl (1 : Int))] [] f Post) ∧ ((fw_g f 1 1) = (8 : Int) → (True) ∧ (∀ (f1 : fw_W), ((True)) → (True) ∧ (∀ (r2 : Int) (f3 : fw_W), ((-2147483648 ≤ r2 ∧ r2 ≤ 2147483647 ∧ (r2 = -1 ∨ ((0 : Int) ≤ r2 ∧ r2 ≤ (99 : Int))))) → jf fw_T (d + 5) 62 134 [(0, .inr (.inl 3)), (1, .inr (.inr 1000)), (3, .inl at_), (4, .inl st), (5, .inl r2)] [] (fw_put [] 0 [1001, 1002, 1003, 1006, 3004, 3005] (fw_put [] 0 [1001, 1002, 1003, 1006] f f1) f3) Post)))))) :
    jf fw_T (d + 5) 62 103 [(0, .inr (.inl 3)), (1, .inr (.inr 1000)), (3, .inl at_), (4, .inl st)] [] f Post := fw_ok (n := 16) (ss := [(103, [0, 1, 3, 4]), (134, [0, 1, 3, 4, 5])]) (hv := []) fr_62_ok fv_reader_ok (ct_k_readHouse_ok d) hw_

theorem lm_k_readHouse_134 {Post : Option fw_V → fw_W → Prop} {d : Nat} {W : fw_W} (hpre : ta W 4 ∧ (fw_g W 4 0) < 14) (hP : ∀ (v : Int) (W2 : fw_W), (0 ≤ v ∧ v ≤ 1 ∧ (rk W W2)) → Post (some (.inl v)) W2)  : ∀ (at_ st pe : Int) (f : fw_W), (-1 ≤ at_ ∧ at_ ≤ 13 ∧ 0 ≤ st ∧ st ≤ 99 ∧ (1 ≤ fw_g W 4 0 → 0 ≤ at_ ∧ at_ < fw_g W 4 0) ∧ (fw_g W 4 0 = 0 → at_ = -1)) ∧ rk W f ∧ (fw_g f 4 0) = fw_g W 4 0 ∧ -1 ≤ pe ∧ pe ≤ 99 → jf fw_T (d + 5) 62 134 [(0, .inr (.inl 3)), (1, .inr (.inr 1000)), (3, .inl at_), (4, .inl st), (5, .inl pe)] [] f Post := by
  intro at_ st pe f hi
  refine jf_rng (fun hrg => ?_)
  have hrg : -2147483648 ≤ at_ ∧ at_ ≤ 2147483647 ∧ -2147483648 ≤ st ∧ st ≤ 2147483647 ∧ -2147483648 ≤ pe ∧ pe ≤ 2147483647 ∧ True := hrg
  refine s_k_readHouse_134 (W := W) ?_
  have hi1 := hi.1
  have hi2 := hi.2.2.1
  have hi3 := hi.2.2.2
  have ht4 := ta_p4 hi.2.1.2
  repeat' (first
    | (exact ht4.1)
    | (exact ht4.2.1)
    | (exact ht4.2.2)
    | (exact True.intro)
    | (exact hpre.1)
    | (refine And.intro ?_ ?_)
    | (refine hP _ _ ?_; (refine ⟨by omega, by omega, ?_⟩; (first | ((repeat (first | exact ⟨sc_refl, hpre.1⟩ | refine rk_put ?_ rfl rfl | refine rk_up ?_ (by omega) | refine rk_seed ?_)); done) | ((repeat (first | exact hi.2.1 | refine rk_put ?_ rfl rfl | refine rk_up ?_ (by omega) | refine rk_seed ?_)); done) | (rename_i r9 f9 h9; refine rk_add ?_ rfl rfl rfl h9.2.2; ((repeat (first | exact hi.2.1 | refine rk_put ?_ rfl rfl | refine rk_up ?_ (by omega) | refine rk_seed ?_)); done)))))
    | omega
    | (intro _))
theorem lm_k_readHouse_103 {Post : Option fw_V → fw_W → Prop} {d : Nat} {W : fw_W} (hpre : ta W 4 ∧ (fw_g W 4 0) < 14) (hP : ∀ (v : Int) (W2 : fw_W), (0 ≤ v ∧ v ≤ 1 ∧ (rk W W2)) → Post (some (.inl v)) W2)  : ∀ (at_ st : Int) (f : fw_W), (-1 ≤ at_ ∧ at_ ≤ 13 ∧ 0 ≤ st ∧ st ≤ 99 ∧ (1 ≤ fw_g W 4 0 → 0 ≤ at_ ∧ at_ < fw_g W 4 0) ∧ (fw_g W 4 0 = 0 → at_ = -1)) ∧ rk W f ∧ (fw_g f 4 0) = fw_g W 4 0 → jf fw_T (d + 5) 62 103 [(0, .inr (.inl 3)), (1, .inr (.inr 1000)), (3, .inl at_), (4, .inl st)] [] f Post := by
  intro at_ st f hi
  refine jf_rng (fun hrg => ?_)
  have hrg : -2147483648 ≤ at_ ∧ at_ ≤ 2147483647 ∧ -2147483648 ≤ st ∧ st ≤ 2147483647 ∧ True := hrg
  refine s_k_readHouse_103 (W := W) ?_
  have hi1 := hi.1
  have hi2 := hi.2.2
  repeat' (first
    | (exact True.intro)
    | (exact hpre.1)
    | (refine And.intro ?_ ?_)
    | (refine (lm_k_readHouse_134 hpre hP _ _ _ _ ?_); (refine ⟨by omega, (by (repeat (first | exact hi.2.1 | refine rk_put ?_ rfl rfl | refine rk_up ?_ (by omega) | refine rk_seed ?_))), by first | omega | (simp (disch := first | decide | omega) only [fg_same, fg_lit, fg_in, fg_fin, fg_out, fg_fout, fg_up, true_and, and_true, true_or, or_true, true_implies]; omega) | (simp (disch := first | decide | omega) only [fg_same, fg_lit, fg_in, fg_fin, fg_out, fg_fout, fg_up, true_and, and_true, true_or, or_true, true_implies]; first | done | omega), by omega, by omega⟩))
    | (refine hP _ _ ?_; (refine ⟨by omega, by omega, ?_⟩; (first | ((repeat (first | exact ⟨sc_refl, hpre.1⟩ | refine rk_put ?_ rfl rfl | refine rk_up ?_ (by omega) | refine rk_seed ?_)); done) | ((repeat (first | exact hi.2.1 | refine rk_put ?_ rfl rfl | refine rk_up ?_ (by omega) | refine rk_seed ?_)); done) | (rename_i r9 f9 h9; refine rk_add ?_ rfl rfl rfl h9.2.2; ((repeat (first | exact hi.2.1 | refine rk_put ?_ rfl rfl | refine rk_up ?_ (by omega) | refine rk_seed ?_)); done)))))
    | omega
    | (intro _))
def x_k_readHouse : fw_X := fun as W Q => match as with
  | [.inr (.inl s_)] => fw_if (Nat.beq s_ 3) ((ta W 4 ∧ (fw_g W 4 0) < 14) ∧ (∀ (v : Int) (f : fw_W), (0 ≤ v ∧ v ≤ 1 ∧ (rk W f)) → Q (some (.inl v)) f))
  | _ => False
theorem x_k_readHouse_ok (d : Nat) (as : List fw_V) (W : fw_W) (Q : Option fw_V → fw_W → Prop) (hx : x_k_readHouse as W Q) : jf fw_T (d + 5) 62 0 (fw_args 0 as) [] W Q := by
  unfold x_k_readHouse at hx
  split at hx
  · rename_i s_
    obtain ⟨e_, hpre, hQ⟩ := fw_if_ok hx
    have e_ := Nat.eq_of_beq_eq_true e_
    subst e_
    have hP := hQ
    refine s_k_readHouse_0 ?_
    have hp4 := ta_p4 hpre.1
    repeat' (first
      | (exact True.intro)
      | (exact hpre.1)
      | (refine And.intro ?_ ?_)
      | (refine (lm_k_readHouse_103 hpre hP _ _ _ ?_); (refine ⟨by omega, (by (repeat (first | exact ⟨sc_refl, hpre.1⟩ | refine rk_put ?_ rfl rfl | refine rk_up ?_ (by omega) | refine rk_seed ?_))), by first | omega | (simp (disch := first | decide | omega) only [fg_same, fg_lit, fg_in, fg_fin, fg_out, fg_fout, fg_up, true_and, and_true, true_or, or_true, true_implies]; omega) | (simp (disch := first | decide | omega) only [fg_same, fg_lit, fg_in, fg_fin, fg_out, fg_fout, fg_up, true_and, and_true, true_or, or_true, true_implies]; first | done | omega)⟩))
      | (refine (lm_k_readHouse_134 hpre hP _ _ _ _ ?_); (first | omega | trivial | (simp (config := { decide := true }) only [fg_in, fg_fin, fg_out, fg_fout, fg_up, fg_same, true_and, and_true] <;> omega)))
      | (refine hP _ _ ?_; (refine ⟨by omega, by omega, ?_⟩; (first | ((repeat (first | exact ⟨sc_refl, hpre.1⟩ | refine rk_put ?_ rfl rfl | refine rk_up ?_ (by omega) | refine rk_seed ?_)); done) | ((repeat (first | exact hi.2.1 | refine rk_put ?_ rfl rfl | refine rk_up ?_ (by omega) | refine rk_seed ?_)); done) | (rename_i r9 f9 h9; refine rk_add ?_ rfl rfl rfl h9.2.2; ((repeat (first | exact hi.2.1 | refine rk_put ?_ rfl rfl | refine rk_up ?_ (by omega) | refine rk_seed ?_)); done)))))
      | omega
      | (intro _))
  · exact hx.elim

def fr_61 : fw_P := [(0, 2, 0, 0, 0), (1, 50, 5, 0, 0), (4, 64, 108, 0, 109), (7, 2, 0, 0, 0), (8, 0, 0, 0, 0), (9, 51, 5, 3, 0), (12, 2, 0, 0, 0), (13, 0, 0, 0, 0), (14, 58, 5, 9, 0), (17, 2, 0, 0, 0), (18, 0, 0, 0, 0), (19, 51, 5, 4, 0), (22, 2, 0, 0, 0), (23, 0, 0, 0, -1), (24, 51, 5, 5, 0), (27, 2, 0, 0, 0), (28, 50, 5, 6, 0), (31, 64, 95, 0, 107), (34, 0, 0, 0, 1), (35, 3, 1, 0, 0), (36, 0, 0, 0, 0), (37, 3, 2, 0, 0), (38, 1, 2, 0, 0), (39, 0, 0, 0, 1200), (42, 13, 183, 0, 0), (45, 1, 1, 0, 0), (46, 20, 183, 0, 0), (49, 2, 0, 0, 0), (50, 50, 5, 6, 0), (53, 50, 7, 1, 0), (56, 20, 183, 0, 0), (59, 2, 0, 0, 0), (60, 50, 5, 6, 0), (63, 50, 7, 1, 0), (66, 95, 42221791973998764, 4, 0), (100, 2, 0, 0, 0), (101, 50, 5, 0, 0), (104, 50, 9, 0, 0), (107, 0, 0, 0, 14), (109, 13, 119, 0, 0), (112, 2, 0, 0, 0), (113, 64, 62, 0, 605), (116, 6, 123, 0, 0), (119, 2, 0, 0, 0), (120, 64, 64, 0, 105), (123, 3, 1, 0, 0), (124, 6, 177, 0, 0), (127, 2, 0, 0, 0), (128, 50, 5, 3, 0), (131, 0, 0, 0, 4), (132, 13, 142, 0, 0), (135, 2, 0, 0, 0), (136, 64, 71, 0, 505), (139, 6, 146, 0, 0), (142, 2, 0, 0, 0), (143, 64, 64, 0, 105), (146, 3, 1, 0, 0), (147, 6, 177, 0, 0), (150, 2, 0, 0, 0), (151, 50, 5, 9, 0), (154, 20, 164, 0, 0), (157, 2, 0, 0, 0), (158, 64, 64, 0, 105), (161, 6, 168, 0, 0), (164, 2, 0, 0, 0), (165, 64, 73, 0, 205), (168, 3, 1, 0, 0), (169, 6, 177, 0, 0), (172, 2, 0, 0, 0), (173, 64, 64, 0, 105), (176, 3, 1, 0, 0), (177, 5, 2, 0, 1), (180, 6, 38, 0, 0), (183, 1, 1, 0, 0), (184, 71, 0, 0, 0)]
theorem fr_61_ok : fw_mk 61 3 5 (some .boolean) fr_61 = true := by decide +kernel
def ct_k_read : List (Nat × fw_X) := [(108, x_k_clear4), (95, x_k_restart), (62, x_k_readHouse), (71, x_k_readCart), (73, x_k_readDraw), (64, x_k_misplaced)]
theorem ct_k_read_ok (d : Nat) : fw_cok fw_T (d + 5) ct_k_read := by
  intro q hq as W Q h
  simp only [ct_k_read, List.mem_cons, List.not_mem_nil, or_false] at hq
  rcases hq with rfl | rfl | rfl | rfl | rfl | rfl
  · exact jc_of (x_k_clear4_ok (d + 4) as W Q h)
  · exact jc_of (x_k_restart_ok (d + 1) as W Q h)
  · exact jc_of (x_k_readHouse_ok (d + 0) as W Q h)
  · exact jc_of (x_k_readCart_ok (d + 0) as W Q h)
  · exact jc_of (x_k_readDraw_ok (d + 0) as W Q h)
  · exact jc_of (x_k_misplaced_ok (d + 3) as W Q h)
theorem s_k_read_0 {Post : Option fw_V → fw_W → Prop} {d : Nat} {W : fw_W}
    (hw_ : (True) ∧ (∀ (f1 : fw_W), (((fw_g f1 4 0) = 0)) → 0 ≤ (0 : Int) ∧ (0 : Int) ≤ 4 ∧ (0 ≤ (0 : Int) ∧ (0 : Int) ≤ 1 ∧ 0 ≤ (0 : Int) ∧ (0 : Int) ≤ 1 ∧ (-2147483648 ≤ (0 : Int) ∧ (0 : Int) ≤ 2147483647 ∧ (-2147483648 ≤ (-1 : Int) ∧ (-1 : Int) ≤ 2147483647 ∧ ((True) ∧ (∀ (f2 : fw_W), ((True)) → jf fw_T (d + 6) 61 38 [(0, .inr (.inl 3)), (1, .inl (1 : Int)), (2, .inl (0 : Int))] [] (fw_put [] 0 [1001, 1002, 1003, 1006] (fw_up (fw_up (fw_up (fw_up (fw_put [] 0 [4000, 4001] W f1) 3 3 (0 : Int)) 3 9 (0 : Int)) 3 4 (0 : Int)) 3 5 (-1 : Int)) f2) Post))))))) :
    jf fw_T (d + 6) 61 0 [(0, .inr (.inl 3))] [] W Post := fw_ok (n := 23) (ss := [(38, [0, 1, 2])]) (hv := []) fr_61_ok fv_reader_ok (ct_k_read_ok d) hw_

theorem s_k_read_38 {Post : Option fw_V → fw_W → Prop} {d : Nat} {W : fw_W} {go li : Int} {f : fw_W}
    (hw_ : (((1200 : Int) ≤ li → 0 ≤ go ∧ go ≤ 1 ∧ Post (some (.inl go)) f) ∧ (li < (1200 : Int) → ((go = 0 → 0 ≤ go ∧ go ≤ 1 ∧ Post (some (.inl go)) f) ∧ (¬ go = 0 → (0 ≤ (fw_g f 1 1) → (fw_g f 1 1) ≤ 11 → (((fw_g f 1 1) = 0 → 0 ≤ go ∧ go ≤ 1 ∧ Post (some (.inl go)) f) ∧ (¬ (fw_g f 1 1) = 0 → (0 ≤ (fw_g f 1 1) → (fw_g f 1 1) ≤ 11 → (((True) ∧ (∀ (r13 : Int) (f14 : fw_W), ((0 ≤ r13 ∧ r13 ≤ 1 ∧ (True))) → -2147483648 ≤ li + (1 : Int) ∧ li + (1 : Int) ≤ 2147483647 ∧ (jf fw_T (d + 6) 61 38 [(0, .inr (.inl 3)), (1, .inl r13), (2, .inl (li + (1 : Int)))] [] (fw_put [] 0 [3004, 3005] f f14) Post))) ∧ (((0 ≤ (fw_g f 4 0) → (fw_g f 4 0) ≤ 14 → (((14 : Int) ≤ (fw_g f 4 0) → (True) ∧ (∀ (r9 : Int) (f10 : fw_W), ((0 ≤ r9 ∧ r9 ≤ 1 ∧ (True))) → -2147483648 ≤ li + (1 : Int) ∧ li + (1 : Int) ≤ 2147483647 ∧ (jf fw_T (d + 6) 61 38 [(0, .inr (.inl 3)), (1, .inl r9), (2, .inl (li + (1 : Int)))] [] (fw_put [] 0 [3004, 3005] f f10) Post))) ∧ ((fw_g f 4 0) < (14 : Int) → (ta f 4 ∧ (fw_g f 4 0) < 14) ∧ (∀ (r11 : Int) (f12 : fw_W), ((0 ≤ r11 ∧ r11 ≤ 1 ∧ (rk f f12))) → -2147483648 ≤ li + (1 : Int) ∧ li + (1 : Int) ≤ 2147483647 ∧ (jf fw_T (d + 6) 61 38 [(0, .inr (.inl 3)), (1, .inl r11), (2, .inl (li + (1 : Int)))] [] f12 Post)))))) ∧ (((0 ≤ (fw_g f 3 3) → (fw_g f 3 3) ≤ 4 → (((4 : Int) ≤ (fw_g f 3 3) → (True) ∧ (∀ (r5 : Int) (f6 : fw_W), ((0 ≤ r5 ∧ r5 ≤ 1 ∧ (True))) → -2147483648 ≤ li + (1 : Int) ∧ li + (1 : Int) ≤ 2147483647 ∧ (jf fw_T (d + 6) 61 38 [(0, .inr (.inl 3)), (1, .inl r5), (2, .inl (li + (1 : Int)))] [] (fw_put [] 0 [3004, 3005] f f6) Post))) ∧ ((fw_g f 3 3) < (4 : Int) → (ta f 4 ∧ (fw_g f 3 3) < 4) ∧ (∀ (r7 : Int) (f8 : fw_W), ((0 ≤ r7 ∧ r7 ≤ 1 ∧ (rk f f8))) → -2147483648 ≤ li + (1 : Int) ∧ li + (1 : Int) ≤ 2147483647 ∧ (jf fw_T (d + 6) 61 38 [(0, .inr (.inl 3)), (1, .inl r7), (2, .inl (li + (1 : Int)))] [] f8 Post)))))) ∧ (((0 ≤ (fw_g f 3 9) → (fw_g f 3 9) ≤ 1 → (((fw_g f 3 9) = 0 → (ta f 4) ∧ (∀ (r1 : Int) (f2 : fw_W), ((0 ≤ r1 ∧ r1 ≤ 1 ∧ (rk f f2))) → -2147483648 ≤ li + (1 : Int) ∧ li + (1 : Int) ≤ 2147483647 ∧ (jf fw_T (d + 6) 61 38 [(0, .inr (.inl 3)), (1, .inl r1), (2, .inl (li + (1 : Int)))] [] f2 Post))) ∧ (¬ (fw_g f 3 9) = 0 → (True) ∧ (∀ (r3 : Int) (f4 : fw_W), ((0 ≤ r3 ∧ r3 ≤ 1 ∧ (True))) → -2147483648 ≤ li + (1 : Int) ∧ li + (1 : Int) ≤ 2147483647 ∧ (jf fw_T (d + 6) 61 38 [(0, .inr (.inl 3)), (1, .inl r3), (2, .inl (li + (1 : Int)))] [] (fw_put [] 0 [3004, 3005] f f4) Post)))))) ∧ True))))))))))))) :
    jf fw_T (d + 6) 61 38 [(0, .inr (.inl 3)), (1, .inl go), (2, .inl li)] [] f Post := fw_ok (n := 26) (ss := [(38, [0, 1, 2])]) (hv := []) fr_61_ok fv_reader_ok (ct_k_read_ok d) hw_

theorem lm_k_read_38 {Post : Option fw_V → fw_W → Prop} {d : Nat} {W : fw_W} (hpre : True) (hP : ∀ (v : Int) (W2 : fw_W), (0 ≤ v ∧ v ≤ 1 ∧ (rk W W2)) → Post (some (.inl v)) W2)  : ∀ (m : Nat) (go li : Int) (f : fw_W), (1200 - li).toNat = m → (0 ≤ li ∧ 0 ≤ go ∧ go ≤ 1) ∧ rk W f → jf fw_T (d + 6) 61 38 [(0, .inr (.inl 3)), (1, .inl go), (2, .inl li)] [] f Post := by
  intro m
  induction m using Nat.strongRecOn with
  | ind m ih =>
    intro go li f hm hi
    refine jf_rng (fun hrg => ?_)
    have hrg : -2147483648 ≤ go ∧ go ≤ 2147483647 ∧ -2147483648 ≤ li ∧ li ≤ 2147483647 ∧ True := hrg
    refine s_k_read_38 (W := W) ?_
    have hi1 := hi.1
    have ht4 := ta_p4 hi.2.2
    repeat' (first
      | (exact hi.2.2)
      | (exact True.intro)
      | (exact hpre.1)
      | (refine And.intro ?_ ?_)
      | (refine (ih _ (by omega) _ _ _ rfl ?_); (first | (rename_i r8 f8 h8; exact ⟨by omega, sc_tr hi.2.1 h8.2.2.1, h8.2.2.2⟩) | exact ⟨by omega, rk_put hi.2 rfl rfl⟩))
      | (refine hP _ _ ?_; (refine ⟨by omega, by omega, ?_⟩; (exact hi.2)))
      | omega
      | (intro _))
def x_k_read : fw_X := fun as W Q => match as with
  | [.inr (.inl s_)] => fw_if (Nat.beq s_ 3) ((True) ∧ (∀ (v : Int) (f : fw_W), (0 ≤ v ∧ v ≤ 1 ∧ (rk W f)) → Q (some (.inl v)) f))
  | _ => False
theorem x_k_read_ok (d : Nat) (as : List fw_V) (W : fw_W) (Q : Option fw_V → fw_W → Prop) (hx : x_k_read as W Q) : jf fw_T (d + 6) 61 0 (fw_args 0 as) [] W Q := by
  unfold x_k_read at hx
  split at hx
  · rename_i s_
    obtain ⟨e_, hpre, hQ⟩ := fw_if_ok hx
    have e_ := Nat.eq_of_beq_eq_true e_
    subst e_
    have hP := hQ
    refine s_k_read_0 ?_
    repeat' (first
      | (exact True.intro)
      | (exact hpre.1)
      | (refine And.intro ?_ ?_)
      | (refine (lm_k_read_38 hpre hP _ _ _ _ rfl ?_); (refine ⟨by omega, sc_tr (sc_tr (sc_put rfl) (sc_tr (sc_up (by omega)) (sc_tr (sc_up (by omega)) (sc_tr (sc_up (by omega)) (sc_up (by omega)))))) (sc_put rfl), ta_0 ?_⟩; first | omega | (simp (disch := first | decide | omega) only [fg_same, fg_lit, fg_in, fg_fin, fg_out, fg_fout, fg_up, true_and, and_true, true_or, or_true, true_implies]; omega) | (simp (disch := first | decide | omega) only [fg_same, fg_lit, fg_in, fg_fin, fg_out, fg_fout, fg_up, true_and, and_true, true_or, or_true, true_implies]; first | done | omega)))
      | (refine hP _ _ ?_; (refine ⟨by omega, by omega, ?_⟩; (exact hi.2)))
      | (simp (disch := first | decide | omega) only [fg_same, fg_lit, fg_in, fg_fin, fg_out, fg_fout, fg_up, true_and, and_true, true_or, or_true, true_implies]; omega)
      | omega
      | (intro _))
  · exact hx.elim

