/-! the reference, method by method -/
def fr_280 : fw_P := [(0, 1, 1, 0, 0), (1, 3, 4, 0, 0), (3, 1, 4, 0, 0), (5, 1, 2, 0, 0), (6, 10, 27, 0, 0), (9, 1, 4, 0, 0), (11, 1, 3, 0, 0), (12, 10, 27, 0, 0), (15, 2, 0, 0, 0), (16, 50, 12, 34, 0), (19, 1, 4, 0, 0), (21, 52, 0, 0, 0), (22, 3, 4, 0, 0), (24, 6, 3, 0, 0), (27, 1, 3, 0, 0), (28, 22, 41, 0, 0), (31, 1, 4, 0, 0), (33, 1, 3, 0, 0), (34, 11, 41, 0, 0), (37, 0, 0, 0, 1), (38, 6, 42, 0, 0), (41, 0, 0, 0, 0), (42, 71, 0, 0, 0)]
theorem fr_280_ok : fw_mk 280 5 12 (some .boolean) fr_280 = true := by decide +kernel
theorem s_isCutOff_0 {Post : Option fw_V → fw_W → Prop} {d : Nat} {W : fw_W} {h frm but : Int}
    (hw_ : jf fw_T (d + 1) 280 3 [(0, .inr (.inl 352)), (2, .inl frm), (3, .inl but), (4, .inl h)] [] W Post) :
    jf fw_T (d + 1) 280 0 [(0, .inr (.inl 352)), (1, .inl h), (2, .inl frm), (3, .inl but)] [] W Post := fw_ok (n := 3) (ss := [(3, [0, 2, 3, 4])]) (hv := []) fr_280_ok fm_ok (fw_c0 _ _) hw_

theorem s_isCutOff_3 {Post : Option fw_V → fw_W → Prop} {d : Nat} {W : fw_W} {frm but k : Int}
    (hw_ : ((k = frm → ((but < 0 → 0 ≤ (0 : Int) ∧ (0 : Int) ≤ 1 ∧ Post (some (.inl (0 : Int))) W) ∧ (0 ≤ but → ((¬ k = but → 0 ≤ (0 : Int) ∧ (0 : Int) ≤ 1 ∧ Post (some (.inl (0 : Int))) W) ∧ (k = but → 0 ≤ (1 : Int) ∧ (1 : Int) ≤ 1 ∧ Post (some (.inl (1 : Int))) W))))) ∧ (¬ k = frm → ((k = but → ((but < 0 → 0 ≤ (0 : Int) ∧ (0 : Int) ≤ 1 ∧ Post (some (.inl (0 : Int))) W) ∧ (0 ≤ but → ((¬ k = but → 0 ≤ (0 : Int) ∧ (0 : Int) ≤ 1 ∧ Post (some (.inl (0 : Int))) W) ∧ (k = but → 0 ≤ (1 : Int) ∧ (1 : Int) ≤ 1 ∧ Post (some (.inl (1 : Int))) W))))) ∧ (¬ k = but → 0 ≤ k ∧ k < 14 ∧ (-1 ≤ (fw_g W 373 k) → (fw_g W 373 k) ≤ 13 → jf fw_T (d + 1) 280 3 [(0, .inr (.inl 352)), (2, .inl frm), (3, .inl but), (4, .inl (fw_g W 373 k))] [] W Post)))))) :
    jf fw_T (d + 1) 280 3 [(0, .inr (.inl 352)), (2, .inl frm), (3, .inl but), (4, .inl k)] [] W Post := fw_ok (n := 15) (ss := [(3, [0, 2, 3, 4])]) (hv := []) fr_280_ok fm_ok (fw_c0 _ _) hw_

theorem lm_isCutOff_3 {Post : Option fw_V → fw_W → Prop} {d : Nat} {W : fw_W} {h frm but : Int} (η : Int → Int) (hη : ∀ x_, 0 ≤ x_ → x_ < (fw_g W 366 0) → 0 ≤ η x_ ∧ (x_ ≠ frm → 0 ≤ (fw_g W 373 x_) ∧ (fw_g W 373 x_) < (fw_g W 366 0) ∧ η x_ = η ((fw_g W 373 x_)) + 1)) (hpre : 0 ≤ (fw_g W 366 0) ∧ (fw_g W 366 0) ≤ 14 ∧ 0 ≤ h ∧ h < (fw_g W 366 0) ∧ (∃ η : Int → Int, ∀ x_, 0 ≤ x_ → x_ < (fw_g W 366 0) → 0 ≤ η x_ ∧ (x_ ≠ frm → 0 ≤ (fw_g W 373 x_) ∧ (fw_g W 373 x_) < (fw_g W 366 0) ∧ η x_ = η ((fw_g W 373 x_)) + 1))) (hP : ∀ (v : Int) , (0 ≤ v ∧ v ≤ 1 ∧ (True)) → Post (some (.inl v)) W)  : ∀ (m : Nat) (k : Int), (η k).toNat = m → 0 ≤ k ∧ k < (fw_g W 366 0) → jf fw_T (d + 1) 280 3 [(0, .inr (.inl 352)), (2, .inl frm), (3, .inl but), (4, .inl k)] [] W Post := by
  intro m
  induction m using Nat.strongRecOn with
  | ind m ih =>
    intro k hm hi
    refine jf_rng (fun hrg => ?_)
    have hrg : -2147483648 ≤ frm ∧ frm ≤ 2147483647 ∧ -2147483648 ≤ but ∧ but ≤ 2147483647 ∧ -2147483648 ≤ k ∧ k ≤ 2147483647 ∧ True := hrg
    refine s_isCutOff_3 ?_
    have e1 := hη k hi.1 hi.2
    have e2 : ¬ k = frm → 0 ≤ (fw_g W 373 k) ∧ (fw_g W 373 k) < (fw_g W 366 0) ∧ η k = η ((fw_g W 373 k)) + 1 ∧ 0 ≤ η ((fw_g W 373 k)) := fun z => by
      have a := e1.2 z
      exact ⟨a.1, a.2.1, a.2.2, (hη _ a.1 a.2.1).1⟩
    clear e1
    repeat' (first
      | (exact True.intro)
      | (exact hpre.1)
      | (refine And.intro ?_ ?_)
      | (refine (ih _ (by omega) _ rfl ?_); (first | omega | trivial))
      | (refine hP _ ?_; (refine ⟨by omega, by omega, ?_⟩; (first | trivial | omega)))
      | omega
      | (intro _))
def x_isCutOff : fw_X := fun as W Q => match as with
  | [.inr (.inl s_), .inl h, .inl frm, .inl but] => fw_if (Nat.beq s_ 352) ((0 ≤ (fw_g W 366 0) ∧ (fw_g W 366 0) ≤ 14 ∧ 0 ≤ h ∧ h < (fw_g W 366 0) ∧ (∃ η : Int → Int, ∀ x_, 0 ≤ x_ → x_ < (fw_g W 366 0) → 0 ≤ η x_ ∧ (x_ ≠ frm → 0 ≤ (fw_g W 373 x_) ∧ (fw_g W 373 x_) < (fw_g W 366 0) ∧ η x_ = η ((fw_g W 373 x_)) + 1))) ∧ (∀ (v : Int), (0 ≤ v ∧ v ≤ 1 ∧ (True)) → Q (some (.inl v)) W))
  | _ => False
theorem x_isCutOff_ok (d : Nat) (as : List fw_V) (W : fw_W) (Q : Option fw_V → fw_W → Prop) (hx : x_isCutOff as W Q) : jf fw_T (d + 1) 280 0 (fw_args 0 as) [] W Q := by
  unfold x_isCutOff at hx
  split at hx
  · rename_i s_ h frm but
    obtain ⟨e_, hpre, hQ⟩ := fw_if_ok hx
    have e_ := Nat.eq_of_beq_eq_true e_
    subst e_
    have hP := hQ
    obtain ⟨η, hη⟩ := hpre.2.2.2.2
    refine s_isCutOff_0 ?_
    repeat' (first
      | (exact True.intro)
      | (exact hpre.1)
      | (refine And.intro ?_ ?_)
      | (refine (lm_isCutOff_3 (h := h) (frm := frm) (but := but) η hη hpre hP _ _ rfl ?_); (first | omega | trivial))
      | (refine hP _ ?_; (refine ⟨by omega, by omega, ?_⟩; (first | trivial | omega)))
      | omega
      | (intro _))
  · exact hx.elim

def fr_282 : fw_P := [(0, 0, 0, 0, 0), (1, 3, 2, 0, 0), (2, 1, 2, 0, 0), (3, 2, 0, 0, 0), (4, 50, 12, 48, 0), (7, 13, 87, 0, 0), (10, 2, 0, 0, 0), (11, 50, 12, 42, 0), (14, 1, 2, 0, 0), (15, 52, 0, 0, 0), (16, 1, 1, 0, 0), (17, 11, 24, 0, 0), (20, 0, 0, 0, 1), (21, 6, 25, 0, 0), (24, 0, 0, 0, 0), (25, 3, 3, 0, 0), (26, 0, 0, 0, 0), (27, 3, 4, 0, 0), (29, 1, 4, 0, 0), (31, 1, 1, 0, 0), (32, 13, 75, 0, 0), (35, 1, 3, 0, 0), (36, 20, 75, 0, 0), (39, 2, 0, 0, 0), (40, 50, 12, 43, 0), (43, 2, 0, 0, 0), (44, 50, 12, 41, 0), (47, 1, 2, 0, 0), (48, 52, 0, 0, 0), (49, 1, 4, 0, 0), (51, 30, 0, 0, 0), (52, 52, 0, 0, 0), (53, 2, 0, 0, 0), (54, 50, 12, 47, 0), (57, 1, 4, 0, 0), (59, 52, 0, 0, 0), (60, 11, 67, 0, 0), (63, 0, 0, 0, 1), (64, 6, 68, 0, 0), (67, 0, 0, 0, 0), (68, 3, 3, 0, 0), (69, 5, 4, 0, 1), (72, 6, 29, 0, 0), (75, 1, 3, 0, 0), (76, 20, 81, 0, 0), (79, 1, 2, 0, 0), (80, 70, 0, 0, 0), (81, 5, 2, 0, 1), (84, 6, 2, 0, 0), (87, 2, 0, 0, 0), (88, 50, 12, 41, 0), (91, 2, 0, 0, 0), (92, 50, 12, 48, 0), (95, 2, 0, 0, 0), (96, 50, 12, 49, 0), (99, 53, 0, 0, 0), (100, 2, 0, 0, 0), (101, 50, 12, 42, 0), (104, 2, 0, 0, 0), (105, 50, 12, 48, 0), (108, 1, 1, 0, 0), (109, 53, 0, 0, 0), (110, 0, 0, 0, 0), (111, 3, 2, 0, 0), (112, 1, 2, 0, 0), (113, 1, 1, 0, 0), (114, 13, 140, 0, 0), (117, 2, 0, 0, 0), (118, 50, 12, 43, 0), (121, 2, 0, 0, 0), (122, 50, 12, 49, 0), (125, 1, 2, 0, 0), (126, 30, 0, 0, 0), (127, 2, 0, 0, 0), (128, 50, 12, 47, 0), (131, 1, 2, 0, 0), (132, 52, 0, 0, 0), (133, 53, 0, 0, 0), (134, 5, 2, 0, 1), (137, 6, 112, 0, 0), (140, 2, 0, 0, 0), (141, 43, 0, 0, 0), (142, 50, 12, 49, 0), (145, 1, 1, 0, 0), (146, 30, 0, 0, 0), (147, 51, 12, 49, 0), (150, 2, 0, 0, 0), (151, 43, 0, 0, 0), (152, 50, 12, 48, 0), (155, 0, 0, 0, 1), (156, 30, 0, 0, 0), (157, 51, 12, 48, 0), (160, 2, 0, 0, 0), (161, 50, 12, 48, 0), (164, 0, 0, 0, 1), (165, 31, 0, 0, 0), (166, 70, 0, 0, 0)]
theorem fr_282_ok : fw_mk 282 5 12 (some .int) fr_282 = true := by decide +kernel
theorem s_partNumber_0 {Post : Option fw_V → fw_W → Prop} {d : Nat} {W : fw_W} {n : Int}
    (hw_ : jf fw_T (d + 1) 282 2 [(0, .inr (.inl 352)), (1, .inl n), (2, .inl (0 : Int))] [] W Post) :
    jf fw_T (d + 1) 282 0 [(0, .inr (.inl 352)), (1, .inl n)] [] W Post := fw_ok (n := 3) (ss := [(2, [0, 1, 2]), (29, [0, 1, 2, 3, 4]), (112, [0, 1, 2])]) (hv := []) fr_282_ok fm_ok (fw_c0 _ _) hw_

theorem s_partNumber_29 {Post : Option fw_V → fw_W → Prop} {d : Nat} {W : fw_W} {n p is k : Int} {f : fw_W}
    (hw_ : ((n ≤ k → ((is = 0 → -2147483648 ≤ p + (1 : Int) ∧ p + (1 : Int) ≤ 2147483647 ∧ (jf fw_T (d + 1) 282 2 [(0, .inr (.inl 352)), (1, .inl n), (2, .inl (p + (1 : Int)))] [] (fw_put [378, 379, 380] 352 [48, 49] W f) Post)) ∧ (¬ is = 0 → (-2147483648 ≤ p → p ≤ 2147483647 → Post (some (.inl p)) (fw_put [378, 379, 380] 352 [48, 49] W f))))) ∧ (k < n → ((is = 0 → ((is = 0 → -2147483648 ≤ p + (1 : Int) ∧ p + (1 : Int) ≤ 2147483647 ∧ (jf fw_T (d + 1) 282 2 [(0, .inr (.inl 352)), (1, .inl n), (2, .inl (p + (1 : Int)))] [] (fw_put [378, 379, 380] 352 [48, 49] W f) Post)) ∧ (¬ is = 0 → (-2147483648 ≤ p → p ≤ 2147483647 → Post (some (.inl p)) (fw_put [378, 379, 380] 352 [48, 49] W f))))) ∧ (¬ is = 0 → 0 ≤ p ∧ p < 64 ∧ (0 ≤ (fw_g f 378 p) → (fw_g f 378 p) ≤ 512 → -2147483648 ≤ (fw_g f 378 p) + k ∧ (fw_g f 378 p) + k ≤ 2147483647 ∧ (0 ≤ ((fw_g f 378 p) + k) ∧ ((fw_g f 378 p) + k) < 512 ∧ (-2147483648 ≤ (fw_g f 380 ((fw_g f 378 p) + k)) → (fw_g f 380 ((fw_g f 378 p) + k)) ≤ 2147483647 → 0 ≤ k ∧ k < 14 ∧ (-2147483648 ≤ (fw_g W 384 k) → (fw_g W 384 k) ≤ 2147483647 → ((¬ (fw_g f 380 ((fw_g f 378 p) + k)) = (fw_g W 384 k) → -2147483648 ≤ k + (1 : Int) ∧ k + (1 : Int) ≤ 2147483647 ∧ (jf fw_T (d + 1) 282 29 [(0, .inr (.inl 352)), (1, .inl n), (2, .inl p), (3, .inl (0 : Int)), (4, .inl (k + (1 : Int)))] [] (fw_put [378, 379, 380] 352 [48, 49] W f) Post)) ∧ ((fw_g f 380 ((fw_g f 378 p) + k)) = (fw_g W 384 k) → -2147483648 ≤ k + (1 : Int) ∧ k + (1 : Int) ≤ 2147483647 ∧ (jf fw_T (d + 1) 282 29 [(0, .inr (.inl 352)), (1, .inl n), (2, .inl p), (3, .inl (1 : Int)), (4, .inl (k + (1 : Int)))] [] (fw_put [378, 379, 380] 352 [48, 49] W f) Post)))))))))))) :
    jf fw_T (d + 1) 282 29 [(0, .inr (.inl 352)), (1, .inl n), (2, .inl p), (3, .inl is), (4, .inl k)] [] (fw_put [378, 379, 380] 352 [48, 49] W f) Post := fw_ok (n := 25) (ss := [(2, [0, 1, 2]), (29, [0, 1, 2, 3, 4]), (112, [0, 1, 2])]) (hv := []) fr_282_ok fm_ok (fw_c0 _ _) hw_

theorem s_partNumber_112 {Post : Option fw_V → fw_W → Prop} {d : Nat} {W : fw_W} {n p : Int} {f : fw_W}
    (hw_ : ((n ≤ p → (0 ≤ (fw_g f 352 49) → (fw_g f 352 49) ≤ 512 → -2147483648 ≤ (fw_g f 352 49) + n ∧ (fw_g f 352 49) + n ≤ 2147483647 ∧ (0 ≤ ((fw_g f 352 49) + n) ∧ ((fw_g f 352 49) + n) ≤ 512 ∧ ((0 ≤ (fw_g f 352 48) → (fw_g f 352 48) ≤ 64 → -2147483648 ≤ (fw_g f 352 48) + (1 : Int) ∧ (fw_g f 352 48) + (1 : Int) ≤ 2147483647 ∧ (0 ≤ ((fw_g f 352 48) + (1 : Int)) ∧ ((fw_g f 352 48) + (1 : Int)) ≤ 64 ∧ ((0 ≤ (fw_g (fw_up (fw_up (fw_put [378, 379, 380] 352 [48, 49] W f) 352 49 ((fw_g f 352 49) + n)) 352 48 ((fw_g f 352 48) + (1 : Int))) 352 48) → (fw_g (fw_up (fw_up (fw_put [378, 379, 380] 352 [48, 49] W f) 352 49 ((fw_g f 352 49) + n)) 352 48 ((fw_g f 352 48) + (1 : Int))) 352 48) ≤ 64 → -2147483648 ≤ (fw_g (fw_up (fw_up (fw_put [378, 379, 380] 352 [48, 49] W f) 352 49 ((fw_g f 352 49) + n)) 352 48 ((fw_g f 352 48) + (1 : Int))) 352 48) - (1 : Int) ∧ (fw_g (fw_up (fw_up (fw_put [378, 379, 380] 352 [48, 49] W f) 352 49 ((fw_g f 352 49) + n)) 352 48 ((fw_g f 352 48) + (1 : Int))) 352 48) - (1 : Int) ≤ 2147483647 ∧ ((-2147483648 ≤ ((fw_g (fw_up (fw_up (fw_put [378, 379, 380] 352 [48, 49] W f) 352 49 ((fw_g f 352 49) + n)) 352 48 ((fw_g f 352 48) + (1 : Int))) 352 48) - (1 : Int)) → ((fw_g (fw_up (fw_up (fw_put [378, 379, 380] 352 [48, 49] W f) 352 49 ((fw_g f 352 49) + n)) 352 48 ((fw_g f 352 48) + (1 : Int))) 352 48) - (1 : Int)) ≤ 2147483647 → Post (some (.inl ((fw_g (fw_up (fw_up (fw_put [378, 379, 380] 352 [48, 49] W f) 352 49 ((fw_g f 352 49) + n)) 352 48 ((fw_g f 352 48) + (1 : Int))) 352 48) - (1 : Int)))) (fw_up (fw_up (fw_put [378, 379, 380] 352 [48, 49] W f) 352 49 ((fw_g f 352 49) + n)) 352 48 ((fw_g f 352 48) + (1 : Int))))))))))))) ∧ (p < n → (0 ≤ (fw_g f 352 49) → (fw_g f 352 49) ≤ 512 → -2147483648 ≤ (fw_g f 352 49) + p ∧ (fw_g f 352 49) + p ≤ 2147483647 ∧ (0 ≤ p ∧ p < 14 ∧ (-2147483648 ≤ (fw_g W 384 p) → (fw_g W 384 p) ≤ 2147483647 → 0 ≤ ((fw_g f 352 49) + p) ∧ ((fw_g f 352 49) + p) < 512 ∧ -2147483648 ≤ (fw_g W 384 p) ∧ (fw_g W 384 p) ≤ 2147483647 ∧ (-2147483648 ≤ p + (1 : Int) ∧ p + (1 : Int) ≤ 2147483647 ∧ (jf fw_T (d + 1) 282 112 [(0, .inr (.inl 352)), (1, .inl n), (2, .inl (p + (1 : Int)))] [] (fw_up (fw_put [378, 379, 380] 352 [48, 49] W f) 380 ((fw_g f 352 49) + p) (fw_g W 384 p)) Post)))))))) :
    jf fw_T (d + 1) 282 112 [(0, .inr (.inl 352)), (1, .inl n), (2, .inl p)] [] (fw_put [378, 379, 380] 352 [48, 49] W f) Post := fw_ok (n := 21) (ss := [(2, [0, 1, 2]), (29, [0, 1, 2, 3, 4]), (112, [0, 1, 2])]) (hv := []) fr_282_ok fm_ok (fw_c0 _ _) hw_

theorem s_partNumber_2 {Post : Option fw_V → fw_W → Prop} {d : Nat} {W : fw_W} {n p : Int} {f : fw_W}
    (hw_ : (0 ≤ (fw_g f 352 48) → (fw_g f 352 48) ≤ 64 → (((fw_g f 352 48) ≤ p → (0 ≤ (fw_g f 352 48) → (fw_g f 352 48) ≤ 64 → (0 ≤ (fw_g f 352 49) → (fw_g f 352 49) ≤ 512 → 0 ≤ (fw_g f 352 48) ∧ (fw_g f 352 48) < 64 ∧ 0 ≤ (fw_g f 352 49) ∧ (fw_g f 352 49) ≤ 512 ∧ ((0 ≤ (fw_g f 352 48) → (fw_g f 352 48) ≤ 64 → 0 ≤ (fw_g f 352 48) ∧ (fw_g f 352 48) < 64 ∧ -2147483648 ≤ n ∧ n ≤ 2147483647 ∧ (jf fw_T (d + 1) 282 112 [(0, .inr (.inl 352)), (1, .inl n), (2, .inl (0 : Int))] [] (fw_up (fw_up (fw_put [378, 379, 380] 352 [48, 49] W f) 378 (fw_g f 352 48) (fw_g f 352 49)) 379 (fw_g f 352 48) n) Post)))))) ∧ (p < (fw_g f 352 48) → 0 ≤ p ∧ p < 64 ∧ (-2147483648 ≤ (fw_g f 379 p) → (fw_g f 379 p) ≤ 2147483647 → ((¬ (fw_g f 379 p) = n → jf fw_T (d + 1) 282 29 [(0, .inr (.inl 352)), (1, .inl n), (2, .inl p), (3, .inl (0 : Int)), (4, .inl (0 : Int))] [] (fw_put [378, 379, 380] 352 [48, 49] W f) Post) ∧ ((fw_g f 379 p) = n → jf fw_T (d + 1) 282 29 [(0, .inr (.inl 352)), (1, .inl n), (2, .inl p), (3, .inl (1 : Int)), (4, .inl (0 : Int))] [] (fw_put [378, 379, 380] 352 [48, 49] W f) Post))))))) :
    jf fw_T (d + 1) 282 2 [(0, .inr (.inl 352)), (1, .inl n), (2, .inl p)] [] (fw_put [378, 379, 380] 352 [48, 49] W f) Post := fw_ok (n := 20) (ss := [(2, [0, 1, 2]), (29, [0, 1, 2, 3, 4]), (112, [0, 1, 2])]) (hv := []) fr_282_ok fm_ok (fw_c0 _ _) hw_

theorem lm_partNumber_29 {Post : Option fw_V → fw_W → Prop} {d : Nat} {W : fw_W} {n : Int} (hpre : 0 ≤ n ∧ n ≤ 14 ∧ 0 ≤ (fw_g W 352 48) ∧ (fw_g W 352 48) ≤ 63 ∧ 0 ≤ (fw_g W 352 49) ∧ (fw_g W 352 49) + n ≤ 512 ∧ (∀ q, 0 ≤ q → q < (fw_g W 352 48) → 0 ≤ (fw_g W 378 q) ∧ 0 ≤ (fw_g W 379 q) ∧ (fw_g W 378 q) + (fw_g W 379 q) ≤ (fw_g W 352 49))) (hP : ∀ (v : Int) (W2 : fw_W), fw_sm [378, 379, 380] 352 [48, 49] W W2 → (-2147483648 ≤ v ∧ v ≤ 2147483647 ∧ (0 ≤ v ∧ v ≤ 63 ∧ ((fw_g W2 352 48) = (fw_g W 352 48) ∨ (fw_g W2 352 48) = (fw_g W 352 48) + 1) ∧ (fw_g W 352 49) ≤ (fw_g W2 352 49) ∧ (fw_g W2 352 49) ≤ (fw_g W 352 49) + n ∧ (∀ q, 0 ≤ q → q < (fw_g W2 352 48) → 0 ≤ (fw_g W2 378 q) ∧ 0 ≤ (fw_g W2 379 q) ∧ (fw_g W2 378 q) + (fw_g W2 379 q) ≤ (fw_g W2 352 49)))) → Post (some (.inl v)) W2) (M2 : Int) (h2 : ∀ (p : Int) (f : fw_W), (0 ≤ p ∧ (fw_g f 352 48) = fw_g W 352 48 ∧ (fw_g f 352 49) = fw_g W 352 49 ∧ True ∧ (∀ q, 0 ≤ q → q < (fw_g f 352 48) → 0 ≤ (fw_g f 378 q) ∧ 0 ≤ (fw_g f 379 q) ∧ (fw_g f 378 q) + (fw_g f 379 q) ≤ (fw_g f 352 49))) → ((fw_g f 352 48) - p) < M2 → jf fw_T (d + 1) 282 2 [(0, .inr (.inl 352)), (1, .inl n), (2, .inl p)] [] (fw_put [378, 379, 380] 352 [48, 49] W f) Post) : ∀ (m : Nat) (p is k : Int) (f : fw_W), (n - k).toNat = m → (0 ≤ k ∧ (fw_g f 352 48) = fw_g W 352 48 ∧ (fw_g f 352 49) = fw_g W 352 49 ∧ (0 ≤ p ∧ p < (fw_g f 352 48) ∧ (is = 0 ∨ (fw_g f 379 p) = n)) ∧ (∀ q, 0 ≤ q → q < (fw_g f 352 48) → 0 ≤ (fw_g f 378 q) ∧ 0 ≤ (fw_g f 379 q) ∧ (fw_g f 378 q) + (fw_g f 379 q) ≤ (fw_g f 352 49))) → ((fw_g f 352 48) - p) ≤ M2 → jf fw_T (d + 1) 282 29 [(0, .inr (.inl 352)), (1, .inl n), (2, .inl p), (3, .inl is), (4, .inl k)] [] (fw_put [378, 379, 380] 352 [48, 49] W f) Post := by
  intro m
  induction m using Nat.strongRecOn with
  | ind m ih =>
    intro p is k f hm hi e2
    refine jf_rng (fun hrg => ?_)
    have hrg : -2147483648 ≤ n ∧ n ≤ 2147483647 ∧ -2147483648 ≤ p ∧ p ≤ 2147483647 ∧ -2147483648 ≤ is ∧ is ≤ 2147483647 ∧ -2147483648 ≤ k ∧ k ≤ 2147483647 ∧ True := hrg
    refine s_partNumber_29 ?_
    have hq : 0 ≤ n ∧ n ≤ 14 ∧ 0 ≤ fw_g W 352 48 ∧ fw_g W 352 48 ≤ 63 ∧ 0 ≤ fw_g W 352 49 ∧ fw_g W 352 49 + n ≤ 512 := ⟨hpre.1, hpre.2.1, hpre.2.2.1, hpre.2.2.2.1, hpre.2.2.2.2.1, hpre.2.2.2.2.2.1⟩
    have hi1 := hi.1
    have hi2 := hi.2.1
    have hi3 := hi.2.2.1
    have hi4 := hi.2.2.2.1
    have hi5 := hi.2.2.2.2 p hi4.1 hi4.2.1
    repeat' (first
      | (exact True.intro)
      | (exact hpre.1)
      | (refine And.intro ?_ ?_)
      | (refine (h2 _ _ ?_ (by omega)); (exact ⟨by omega, hi.2.1, hi.2.2.1, trivial, hi.2.2.2.2⟩))
      | (refine jf_put (S := [378, 379, 380]) (o := 352) (F := [48, 49]) (W := W) (by repeat (first | exact fw_sm_refl | exact fw_sm_put0 | refine fw_sm_arr ?_ rfl | refine fw_sm_up ?_ rfl | refine fw_sm_put ?_ rfl | refine fw_sm_cp ?_ rfl)) (h2 _ _ ?_ (by omega)); (exact ⟨by omega, hi.2.1, hi.2.2.1, trivial, hi.2.2.2.2⟩))
      | (refine (ih _ (by omega) _ _ _ _ rfl ?_ (by omega)); (exact ⟨by omega, hi.2.1, hi.2.2.1, by omega, hi.2.2.2.2⟩))
      | (refine jf_put (S := [378, 379, 380]) (o := 352) (F := [48, 49]) (W := W) (by repeat (first | exact fw_sm_refl | exact fw_sm_put0 | refine fw_sm_arr ?_ rfl | refine fw_sm_up ?_ rfl | refine fw_sm_put ?_ rfl | refine fw_sm_cp ?_ rfl)) (ih _ (by omega) _ _ _ _ rfl ?_ (by omega)); (exact ⟨by omega, hi.2.1, hi.2.2.1, by omega, hi.2.2.2.2⟩))
      | (refine hP _ _ (by repeat (first | exact fw_sm_refl | exact fw_sm_put0 | refine fw_sm_arr ?_ rfl | refine fw_sm_up ?_ rfl | refine fw_sm_put ?_ rfl | refine fw_sm_cp ?_ rfl)) ?_; (refine ⟨by omega, by omega, ?_⟩; (first
          | (obtain ⟨i1, i2, i3, i4, i5⟩ := hi
             exact ⟨by omega, by omega, Or.inl i2, Int.le_of_eq i3.symm, (by show fw_g f 352 49 ≤ fw_g W 352 49 + n; omega), i5⟩)
          | (obtain ⟨i1, i2, i3, i4, i5⟩ := hi
             refine ⟨?_, ?_, ?_, ?_, ?_, fun q q1 q2 => ?_⟩
             · rw [fg_same (by omega) (by omega)]; omega
             · rw [fg_same (by omega) (by omega)]; omega
             · rw [fg_same (by omega) (by omega)]; omega
             · rw [fg_lit rfl, fg_same (by omega) (by omega)]; omega
             · rw [fg_lit rfl, fg_same (by omega) (by omega)]; omega
             · rw [fg_same (by omega) (by omega)] at q2
               rw [fg_up rfl, fg_up rfl, fg_up rfl, fg_up rfl, fg_lit rfl, fg_same (by omega) (by omega)]
               show 0 ≤ fw_g f 378 q ∧ 0 ≤ fw_g f 379 q ∧ fw_g f 378 q + fw_g f 379 q ≤ fw_g f 352 49 + n
               by_cases e : q = fw_g f 352 48
               · rw [e]; omega
               · have := i5 q q1 (by omega)
                 omega))))
      | omega
      | (intro _))
theorem lm_partNumber_112 {Post : Option fw_V → fw_W → Prop} {d : Nat} {W : fw_W} {n : Int} (hpre : 0 ≤ n ∧ n ≤ 14 ∧ 0 ≤ (fw_g W 352 48) ∧ (fw_g W 352 48) ≤ 63 ∧ 0 ≤ (fw_g W 352 49) ∧ (fw_g W 352 49) + n ≤ 512 ∧ (∀ q, 0 ≤ q → q < (fw_g W 352 48) → 0 ≤ (fw_g W 378 q) ∧ 0 ≤ (fw_g W 379 q) ∧ (fw_g W 378 q) + (fw_g W 379 q) ≤ (fw_g W 352 49))) (hP : ∀ (v : Int) (W2 : fw_W), fw_sm [378, 379, 380] 352 [48, 49] W W2 → (-2147483648 ≤ v ∧ v ≤ 2147483647 ∧ (0 ≤ v ∧ v ≤ 63 ∧ ((fw_g W2 352 48) = (fw_g W 352 48) ∨ (fw_g W2 352 48) = (fw_g W 352 48) + 1) ∧ (fw_g W 352 49) ≤ (fw_g W2 352 49) ∧ (fw_g W2 352 49) ≤ (fw_g W 352 49) + n ∧ (∀ q, 0 ≤ q → q < (fw_g W2 352 48) → 0 ≤ (fw_g W2 378 q) ∧ 0 ≤ (fw_g W2 379 q) ∧ (fw_g W2 378 q) + (fw_g W2 379 q) ≤ (fw_g W2 352 49)))) → Post (some (.inl v)) W2)  : ∀ (m : Nat) (p : Int) (f : fw_W), (n - p).toNat = m → (0 ≤ p ∧ (fw_g f 352 48) = fw_g W 352 48 ∧ (fw_g f 352 49) = fw_g W 352 49 ∧ ((fw_g f 378 (fw_g f 352 48)) = (fw_g f 352 49) ∧ (fw_g f 379 (fw_g f 352 48)) = n) ∧ (∀ q, 0 ≤ q → q < (fw_g f 352 48) → 0 ≤ (fw_g f 378 q) ∧ 0 ≤ (fw_g f 379 q) ∧ (fw_g f 378 q) + (fw_g f 379 q) ≤ (fw_g f 352 49))) → jf fw_T (d + 1) 282 112 [(0, .inr (.inl 352)), (1, .inl n), (2, .inl p)] [] (fw_put [378, 379, 380] 352 [48, 49] W f) Post := by
  intro m
  induction m using Nat.strongRecOn with
  | ind m ih =>
    intro p f hm hi
    refine jf_rng (fun hrg => ?_)
    have hrg : -2147483648 ≤ n ∧ n ≤ 2147483647 ∧ -2147483648 ≤ p ∧ p ≤ 2147483647 ∧ True := hrg
    refine s_partNumber_112 ?_
    have hq : 0 ≤ n ∧ n ≤ 14 ∧ 0 ≤ fw_g W 352 48 ∧ fw_g W 352 48 ≤ 63 ∧ 0 ≤ fw_g W 352 49 ∧ fw_g W 352 49 + n ≤ 512 := ⟨hpre.1, hpre.2.1, hpre.2.2.1, hpre.2.2.2.1, hpre.2.2.2.2.1, hpre.2.2.2.2.2.1⟩
    have hi1 := hi.1
    have hi2 := hi.2.1
    have hi3 := hi.2.2.1
    have hi4 := hi.2.2.2.1
    repeat' (first
      | (exact True.intro)
      | (exact hpre.1)
      | (refine And.intro ?_ ?_)
      | (refine (ih _ (by omega) _ _ rfl ?_); (
        refine ⟨by omega, ?_, ?_, ?_, fun q q1 q2 => ?_⟩
        · rw [fg_up rfl]; exact hi.2.1
        · rw [fg_up rfl]; exact hi.2.2.1
        · simp (config := { decide := true }) only [fg_up]; exact hi.2.2.2.1
        · simp (config := { decide := true }) only [fg_up] at q2 ⊢
          exact hi.2.2.2.2 q q1 q2))
      | (refine jf_put (S := [378, 379, 380]) (o := 352) (F := [48, 49]) (W := W) (by repeat (first | exact fw_sm_refl | exact fw_sm_put0 | refine fw_sm_arr ?_ rfl | refine fw_sm_up ?_ rfl | refine fw_sm_put ?_ rfl | refine fw_sm_cp ?_ rfl)) (ih _ (by omega) _ _ rfl ?_); (
        refine ⟨by omega, ?_, ?_, ?_, fun q q1 q2 => ?_⟩
        · rw [fg_up rfl]; exact hi.2.1
        · rw [fg_up rfl]; exact hi.2.2.1
        · simp (config := { decide := true }) only [fg_up]; exact hi.2.2.2.1
        · simp (config := { decide := true }) only [fg_up] at q2 ⊢
          exact hi.2.2.2.2 q q1 q2))
      | (refine hP _ _ (by repeat (first | exact fw_sm_refl | exact fw_sm_put0 | refine fw_sm_arr ?_ rfl | refine fw_sm_up ?_ rfl | refine fw_sm_put ?_ rfl | refine fw_sm_cp ?_ rfl)) ?_; (refine ⟨by omega, by omega, ?_⟩; (first
          | (obtain ⟨i1, i2, i3, i4, i5⟩ := hi
             exact ⟨by omega, by omega, Or.inl i2, Int.le_of_eq i3.symm, (by show fw_g f 352 49 ≤ fw_g W 352 49 + n; omega), i5⟩)
          | (obtain ⟨i1, i2, i3, i4, i5⟩ := hi
             refine ⟨?_, ?_, ?_, ?_, ?_, fun q q1 q2 => ?_⟩
             · rw [fg_same (by omega) (by omega)]; omega
             · rw [fg_same (by omega) (by omega)]; omega
             · rw [fg_same (by omega) (by omega)]; omega
             · rw [fg_lit rfl, fg_same (by omega) (by omega)]; omega
             · rw [fg_lit rfl, fg_same (by omega) (by omega)]; omega
             · rw [fg_same (by omega) (by omega)] at q2
               rw [fg_up rfl, fg_up rfl, fg_up rfl, fg_up rfl, fg_lit rfl, fg_same (by omega) (by omega)]
               show 0 ≤ fw_g f 378 q ∧ 0 ≤ fw_g f 379 q ∧ fw_g f 378 q + fw_g f 379 q ≤ fw_g f 352 49 + n
               by_cases e : q = fw_g f 352 48
               · rw [e]; omega
               · have := i5 q q1 (by omega)
                 omega))))
      | omega
      | (intro _))
theorem lm_partNumber_2 {Post : Option fw_V → fw_W → Prop} {d : Nat} {W : fw_W} {n : Int} (hpre : 0 ≤ n ∧ n ≤ 14 ∧ 0 ≤ (fw_g W 352 48) ∧ (fw_g W 352 48) ≤ 63 ∧ 0 ≤ (fw_g W 352 49) ∧ (fw_g W 352 49) + n ≤ 512 ∧ (∀ q, 0 ≤ q → q < (fw_g W 352 48) → 0 ≤ (fw_g W 378 q) ∧ 0 ≤ (fw_g W 379 q) ∧ (fw_g W 378 q) + (fw_g W 379 q) ≤ (fw_g W 352 49))) (hP : ∀ (v : Int) (W2 : fw_W), fw_sm [378, 379, 380] 352 [48, 49] W W2 → (-2147483648 ≤ v ∧ v ≤ 2147483647 ∧ (0 ≤ v ∧ v ≤ 63 ∧ ((fw_g W2 352 48) = (fw_g W 352 48) ∨ (fw_g W2 352 48) = (fw_g W 352 48) + 1) ∧ (fw_g W 352 49) ≤ (fw_g W2 352 49) ∧ (fw_g W2 352 49) ≤ (fw_g W 352 49) + n ∧ (∀ q, 0 ≤ q → q < (fw_g W2 352 48) → 0 ≤ (fw_g W2 378 q) ∧ 0 ≤ (fw_g W2 379 q) ∧ (fw_g W2 378 q) + (fw_g W2 379 q) ≤ (fw_g W2 352 49)))) → Post (some (.inl v)) W2)  : ∀ (m : Nat) (p : Int) (f : fw_W), ((fw_g f 352 48) - p).toNat = m → (0 ≤ p ∧ (fw_g f 352 48) = fw_g W 352 48 ∧ (fw_g f 352 49) = fw_g W 352 49 ∧ True ∧ (∀ q, 0 ≤ q → q < (fw_g f 352 48) → 0 ≤ (fw_g f 378 q) ∧ 0 ≤ (fw_g f 379 q) ∧ (fw_g f 378 q) + (fw_g f 379 q) ≤ (fw_g f 352 49))) → jf fw_T (d + 1) 282 2 [(0, .inr (.inl 352)), (1, .inl n), (2, .inl p)] [] (fw_put [378, 379, 380] 352 [48, 49] W f) Post := by
  intro m
  induction m using Nat.strongRecOn with
  | ind m ih =>
    intro p f hm hi
    refine jf_rng (fun hrg => ?_)
    have hrg : -2147483648 ≤ n ∧ n ≤ 2147483647 ∧ -2147483648 ≤ p ∧ p ≤ 2147483647 ∧ True := hrg
    refine s_partNumber_2 ?_
    have hq : 0 ≤ n ∧ n ≤ 14 ∧ 0 ≤ fw_g W 352 48 ∧ fw_g W 352 48 ≤ 63 ∧ 0 ≤ fw_g W 352 49 ∧ fw_g W 352 49 + n ≤ 512 := ⟨hpre.1, hpre.2.1, hpre.2.2.1, hpre.2.2.2.1, hpre.2.2.2.2.1, hpre.2.2.2.2.2.1⟩
    have hi1 := hi.1
    have hi2 := hi.2.1
    have hi3 := hi.2.2.1
    repeat' (first
      | (exact True.intro)
      | (exact hpre.1)
      | (refine And.intro ?_ ?_)
      | (refine (ih _ (by omega) _ _ rfl ?_); (first | omega | trivial | (simp (config := { decide := true }) only [fg_in, fg_fin, fg_out, fg_fout, fg_up, fg_same, true_and, and_true] <;> omega)))
      | (refine jf_put (S := [378, 379, 380]) (o := 352) (F := [48, 49]) (W := W) (by repeat (first | exact fw_sm_refl | exact fw_sm_put0 | refine fw_sm_arr ?_ rfl | refine fw_sm_up ?_ rfl | refine fw_sm_put ?_ rfl | refine fw_sm_cp ?_ rfl)) (ih _ (by omega) _ _ rfl ?_); (first | omega | trivial | (simp (config := { decide := true }) only [fg_in, fg_fin, fg_out, fg_fout, fg_up, fg_same, true_and, and_true] <;> omega)))
      | (refine (lm_partNumber_29 (n := n) hpre hP ((fw_g f 352 48) - p) (fun a0 af hi hl => ih _ (by omega) a0 af rfl hi) _ _ _ _ _ rfl ?_ (by omega)); (exact ⟨by omega, hi.2.1, hi.2.2.1, by omega, hi.2.2.2.2⟩))
      | (refine jf_put (S := [378, 379, 380]) (o := 352) (F := [48, 49]) (W := W) (by repeat (first | exact fw_sm_refl | exact fw_sm_put0 | refine fw_sm_arr ?_ rfl | refine fw_sm_up ?_ rfl | refine fw_sm_put ?_ rfl | refine fw_sm_cp ?_ rfl)) (lm_partNumber_29 (n := n) hpre hP ((fw_g f 352 48) - p) (fun a0 af hi hl => ih _ (by omega) a0 af rfl hi) _ _ _ _ _ rfl ?_ (by omega)); (exact ⟨by omega, hi.2.1, hi.2.2.1, by omega, hi.2.2.2.2⟩))
      | (refine (lm_partNumber_112 (n := n) hpre hP _ _ _ rfl ?_); (
        refine ⟨by omega, ?_, ?_, ⟨?_, ?_⟩, fun q q1 q2 => ?_⟩
        · rw [fg_up rfl, fg_up rfl]; exact hi.2.1
        · rw [fg_up rfl, fg_up rfl]; exact hi.2.2.1
        · rw [show ∀ X : fw_W, fw_g (fw_up (fw_up X 378 (fw_g f 352 48) (fw_g f 352 49)) 379 (fw_g f 352 48) n) 352 48 = fw_g X 352 48 from fun X => by rw [fg_up rfl, fg_up rfl]]
          rw [fg_up rfl]
          show fw_g (fw_up _ 378 (fw_g f 352 48) _) 378 (fw_g f 352 48) = _
          rw [fg_same (by omega) (by omega), fg_up rfl, fg_up rfl]; rfl
        · rw [show ∀ X : fw_W, fw_g (fw_up (fw_up X 378 (fw_g f 352 48) (fw_g f 352 49)) 379 (fw_g f 352 48) n) 352 48 = fw_g X 352 48 from fun X => by rw [fg_up rfl, fg_up rfl]]
          show fw_g (fw_up _ 379 (fw_g f 352 48) _) 379 (fw_g f 352 48) = _
          rw [fg_same (by omega) (by omega)]
        · rw [fg_up rfl, fg_up rfl] at q2
          have q3 : q < fw_g f 352 48 := q2
          have h9 := hi.2.2.2.2 q q1 q3
          rw [fg_up (c' := 378) rfl, fg_if (c := 378) (by omega) (by omega) (by omega) (by omega), if_neg (by omega), fg_if (c := 379) (by omega) (by omega) (by omega) (by omega), if_neg (by omega), fg_up (c' := 379) rfl, fg_up (c' := 352) rfl, fg_up (c' := 352) rfl]
          exact h9))
      | (refine jf_put (S := [378, 379, 380]) (o := 352) (F := [48, 49]) (W := W) (by repeat (first | exact fw_sm_refl | exact fw_sm_put0 | refine fw_sm_arr ?_ rfl | refine fw_sm_up ?_ rfl | refine fw_sm_put ?_ rfl | refine fw_sm_cp ?_ rfl)) (lm_partNumber_112 (n := n) hpre hP _ _ _ rfl ?_); (
        refine ⟨by omega, ?_, ?_, ⟨?_, ?_⟩, fun q q1 q2 => ?_⟩
        · rw [fg_up rfl, fg_up rfl]; exact hi.2.1
        · rw [fg_up rfl, fg_up rfl]; exact hi.2.2.1
        · rw [show ∀ X : fw_W, fw_g (fw_up (fw_up X 378 (fw_g f 352 48) (fw_g f 352 49)) 379 (fw_g f 352 48) n) 352 48 = fw_g X 352 48 from fun X => by rw [fg_up rfl, fg_up rfl]]
          rw [fg_up rfl]
          show fw_g (fw_up _ 378 (fw_g f 352 48) _) 378 (fw_g f 352 48) = _
          rw [fg_same (by omega) (by omega), fg_up rfl, fg_up rfl]; rfl
        · rw [show ∀ X : fw_W, fw_g (fw_up (fw_up X 378 (fw_g f 352 48) (fw_g f 352 49)) 379 (fw_g f 352 48) n) 352 48 = fw_g X 352 48 from fun X => by rw [fg_up rfl, fg_up rfl]]
          show fw_g (fw_up _ 379 (fw_g f 352 48) _) 379 (fw_g f 352 48) = _
          rw [fg_same (by omega) (by omega)]
        · rw [fg_up rfl, fg_up rfl] at q2
          have q3 : q < fw_g f 352 48 := q2
          have h9 := hi.2.2.2.2 q q1 q3
          rw [fg_up (c' := 378) rfl, fg_if (c := 378) (by omega) (by omega) (by omega) (by omega), if_neg (by omega), fg_if (c := 379) (by omega) (by omega) (by omega) (by omega), if_neg (by omega), fg_up (c' := 379) rfl, fg_up (c' := 352) rfl, fg_up (c' := 352) rfl]
          exact h9))
      | (refine hP _ _ (by repeat (first | exact fw_sm_refl | exact fw_sm_put0 | refine fw_sm_arr ?_ rfl | refine fw_sm_up ?_ rfl | refine fw_sm_put ?_ rfl | refine fw_sm_cp ?_ rfl)) ?_; (refine ⟨by omega, by omega, ?_⟩; (first
          | (obtain ⟨i1, i2, i3, i4, i5⟩ := hi
             exact ⟨by omega, by omega, Or.inl i2, Int.le_of_eq i3.symm, (by show fw_g f 352 49 ≤ fw_g W 352 49 + n; omega), i5⟩)
          | (obtain ⟨i1, i2, i3, i4, i5⟩ := hi
             refine ⟨?_, ?_, ?_, ?_, ?_, fun q q1 q2 => ?_⟩
             · rw [fg_same (by omega) (by omega)]; omega
             · rw [fg_same (by omega) (by omega)]; omega
             · rw [fg_same (by omega) (by omega)]; omega
             · rw [fg_lit rfl, fg_same (by omega) (by omega)]; omega
             · rw [fg_lit rfl, fg_same (by omega) (by omega)]; omega
             · rw [fg_same (by omega) (by omega)] at q2
               rw [fg_up rfl, fg_up rfl, fg_up rfl, fg_up rfl, fg_lit rfl, fg_same (by omega) (by omega)]
               show 0 ≤ fw_g f 378 q ∧ 0 ≤ fw_g f 379 q ∧ fw_g f 378 q + fw_g f 379 q ≤ fw_g f 352 49 + n
               by_cases e : q = fw_g f 352 48
               · rw [e]; omega
               · have := i5 q q1 (by omega)
                 omega))))
      | omega
      | (intro _))
def x_partNumber : fw_X := fun as W Q => match as with
  | [.inr (.inl s_), .inl n] => fw_if (Nat.beq s_ 352) ((0 ≤ n ∧ n ≤ 14 ∧ 0 ≤ (fw_g W 352 48) ∧ (fw_g W 352 48) ≤ 63 ∧ 0 ≤ (fw_g W 352 49) ∧ (fw_g W 352 49) + n ≤ 512 ∧ (∀ q, 0 ≤ q → q < (fw_g W 352 48) → 0 ≤ (fw_g W 378 q) ∧ 0 ≤ (fw_g W 379 q) ∧ (fw_g W 378 q) + (fw_g W 379 q) ≤ (fw_g W 352 49))) ∧ (∀ (v : Int) (f : fw_W), (-2147483648 ≤ v ∧ v ≤ 2147483647 ∧ (0 ≤ v ∧ v ≤ 63 ∧ ((fw_g f 352 48) = (fw_g W 352 48) ∨ (fw_g f 352 48) = (fw_g W 352 48) + 1) ∧ (fw_g W 352 49) ≤ (fw_g f 352 49) ∧ (fw_g f 352 49) ≤ (fw_g W 352 49) + n ∧ (∀ q, 0 ≤ q → q < (fw_g f 352 48) → 0 ≤ (fw_g f 378 q) ∧ 0 ≤ (fw_g f 379 q) ∧ (fw_g f 378 q) + (fw_g f 379 q) ≤ (fw_g f 352 49)))) → Q (some (.inl v)) (fw_put [378, 379, 380] 352 [48, 49] W f)))
  | _ => False
theorem x_partNumber_ok (d : Nat) (as : List fw_V) (W : fw_W) (Q : Option fw_V → fw_W → Prop) (hx : x_partNumber as W Q) : jf fw_T (d + 1) 282 0 (fw_args 0 as) [] W Q := by
  unfold x_partNumber at hx
  split at hx
  · rename_i s_ n
    obtain ⟨e_, hpre, hQ⟩ := fw_if_ok hx
    have e_ := Nat.eq_of_beq_eq_true e_
    subst e_
    have hP : ∀ (v : Int) (W2 : fw_W), fw_sm [378, 379, 380] 352 [48, 49] W W2 → _ → Q (some (.inl v)) W2 := fun v W2 hs hr => fw_sm_use (Q := fun Z => Q (some (.inl v)) Z) hs (hQ v W2 hr)
    refine s_partNumber_0 ?_
    have hq : 0 ≤ n ∧ n ≤ 14 ∧ 0 ≤ fw_g W 352 48 ∧ fw_g W 352 48 ≤ 63 ∧ 0 ≤ fw_g W 352 49 ∧ fw_g W 352 49 + n ≤ 512 := ⟨hpre.1, hpre.2.1, hpre.2.2.1, hpre.2.2.2.1, hpre.2.2.2.2.1, hpre.2.2.2.2.2.1⟩
    repeat' (first
      | (exact True.intro)
      | (exact hpre.1)
      | (refine And.intro ?_ ?_)
      | (refine jf_put (S := [378, 379, 380]) (o := 352) (F := [48, 49]) (W := W) (by repeat (first | exact fw_sm_refl | exact fw_sm_put0 | refine fw_sm_arr ?_ rfl | refine fw_sm_up ?_ rfl | refine fw_sm_put ?_ rfl | refine fw_sm_cp ?_ rfl)) (lm_partNumber_2 (n := n) hpre hP _ _ _ rfl ?_); (exact ⟨by omega, rfl, rfl, trivial, hpre.2.2.2.2.2.2⟩))
      | (refine jf_put (S := [378, 379, 380]) (o := 352) (F := [48, 49]) (W := W) (by repeat (first | exact fw_sm_refl | exact fw_sm_put0 | refine fw_sm_arr ?_ rfl | refine fw_sm_up ?_ rfl | refine fw_sm_put ?_ rfl | refine fw_sm_cp ?_ rfl)) (lm_partNumber_29 (n := n) hpre hP M2 h2 _ _ _ _ _ rfl ?_ (by omega)); (first | omega | trivial | (simp (config := { decide := true }) only [fg_in, fg_fin, fg_out, fg_fout, fg_up, fg_same, true_and, and_true] <;> omega)))
      | (refine jf_put (S := [378, 379, 380]) (o := 352) (F := [48, 49]) (W := W) (by repeat (first | exact fw_sm_refl | exact fw_sm_put0 | refine fw_sm_arr ?_ rfl | refine fw_sm_up ?_ rfl | refine fw_sm_put ?_ rfl | refine fw_sm_cp ?_ rfl)) (lm_partNumber_112 (n := n) hpre hP _ _ _ rfl ?_); (first | omega | trivial | (simp (config := { decide := true }) only [fg_in, fg_fin, fg_out, fg_fout, fg_up, fg_same, true_and, and_true] <;> omega)))
      | (refine hP _ _ (by repeat (first | exact fw_sm_refl | exact fw_sm_put0 | refine fw_sm_arr ?_ rfl | refine fw_sm_up ?_ rfl | refine fw_sm_put ?_ rfl | refine fw_sm_cp ?_ rfl)) ?_; (refine ⟨by omega, by omega, ?_⟩; (first
          | (obtain ⟨i1, i2, i3, i4, i5⟩ := hi
             exact ⟨by omega, by omega, Or.inl i2, Int.le_of_eq i3.symm, (by show fw_g f 352 49 ≤ fw_g W 352 49 + n; omega), i5⟩)
          | (obtain ⟨i1, i2, i3, i4, i5⟩ := hi
             refine ⟨?_, ?_, ?_, ?_, ?_, fun q q1 q2 => ?_⟩
             · rw [fg_same (by omega) (by omega)]; omega
             · rw [fg_same (by omega) (by omega)]; omega
             · rw [fg_same (by omega) (by omega)]; omega
             · rw [fg_lit rfl, fg_same (by omega) (by omega)]; omega
             · rw [fg_lit rfl, fg_same (by omega) (by omega)]; omega
             · rw [fg_same (by omega) (by omega)] at q2
               rw [fg_up rfl, fg_up rfl, fg_up rfl, fg_up rfl, fg_lit rfl, fg_same (by omega) (by omega)]
               show 0 ≤ fw_g f 378 q ∧ 0 ≤ fw_g f 379 q ∧ fw_g f 378 q + fw_g f 379 q ≤ fw_g f 352 49 + n
               by_cases e : q = fw_g f 352 48
               · rw [e]; omega
               · have := i5 q q1 (by omega)
                 omega))))
      | (rw [fg_same (by omega) (by omega)]; omega)
      | omega
      | (intro _))
  · exact hx.elim

