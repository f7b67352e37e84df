/-! the reference, method by method -/
def fr_290 : fw_P := [(0, 2, 0, 0, 0), (1, 50, 12, 57, 0), (4, 0, 0, 0, 14), (6, 1, 1, 0, 0), (7, 32, 0, 0, 0), (8, 1, 2, 0, 0), (9, 30, 0, 0, 0), (10, 0, 0, 0, 1), (11, 53, 0, 0, 0), (12, 2, 0, 0, 0), (13, 50, 12, 57, 0), (16, 0, 0, 0, 14), (18, 1, 2, 0, 0), (19, 32, 0, 0, 0), (20, 1, 1, 0, 0), (21, 30, 0, 0, 0), (22, 0, 0, 0, 1), (23, 53, 0, 0, 0), (24, 2, 0, 0, 0), (25, 50, 12, 56, 0), (28, 1, 1, 0, 0), (29, 44, 0, 0, 0), (30, 52, 0, 0, 0), (31, 0, 0, 0, 1), (32, 31, 0, 0, 0), (33, 53, 0, 0, 0), (34, 2, 0, 0, 0), (35, 50, 12, 56, 0), (38, 1, 2, 0, 0), (39, 44, 0, 0, 0), (40, 52, 0, 0, 0), (41, 0, 0, 0, 1), (42, 31, 0, 0, 0), (43, 53, 0, 0, 0), (44, 72, 0, 0, 0)]
theorem fr_290_ok : fw_mk 290 3 12 none fr_290 = true := by decide +kernel
theorem s_joins_0 {Post : Option fw_V → fw_W → Prop} {d : Nat} {W : fw_W} {a b : Int}
    (hw_ : -2147483648 ≤ (14 : Int) * a ∧ (14 : Int) * a ≤ 2147483647 ∧ (-2147483648 ≤ ((14 : Int) * a) + b ∧ ((14 : Int) * a) + b ≤ 2147483647 ∧ (0 ≤ (((14 : Int) * a) + b) ∧ (((14 : Int) * a) + b) < 196 ∧ -2147483648 ≤ (1 : Int) ∧ (1 : Int) ≤ 2147483647 ∧ (-2147483648 ≤ (14 : Int) * b ∧ (14 : Int) * b ≤ 2147483647 ∧ (-2147483648 ≤ ((14 : Int) * b) + a ∧ ((14 : Int) * b) + a ≤ 2147483647 ∧ (0 ≤ (((14 : Int) * b) + a) ∧ (((14 : Int) * b) + a) < 196 ∧ -2147483648 ≤ (1 : Int) ∧ (1 : Int) ≤ 2147483647 ∧ (0 ≤ a ∧ a < 14 ∧ (-2147483648 ≤ (fw_g W 388 a) → (fw_g W 388 a) ≤ 2147483647 → -2147483648 ≤ (fw_g W 388 a) - (1 : Int) ∧ (fw_g W 388 a) - (1 : Int) ≤ 2147483647 ∧ (0 ≤ a ∧ a < 14 ∧ -2147483648 ≤ ((fw_g W 388 a) - (1 : Int)) ∧ ((fw_g W 388 a) - (1 : Int)) ≤ 2147483647 ∧ (0 ≤ b ∧ b < 14 ∧ (-2147483648 ≤ (fw_g (fw_up (fw_up (fw_up W 389 (((14 : Int) * a) + b) (1 : Int)) 389 (((14 : Int) * b) + a) (1 : Int)) 388 a ((fw_g W 388 a) - (1 : Int))) 388 b) → (fw_g (fw_up (fw_up (fw_up W 389 (((14 : Int) * a) + b) (1 : Int)) 389 (((14 : Int) * b) + a) (1 : Int)) 388 a ((fw_g W 388 a) - (1 : Int))) 388 b) ≤ 2147483647 → -2147483648 ≤ (fw_g (fw_up (fw_up (fw_up W 389 (((14 : Int) * a) + b) (1 : Int)) 389 (((14 : Int) * b) + a) (1 : Int)) 388 a ((fw_g W 388 a) - (1 : Int))) 388 b) - (1 : Int) ∧ (fw_g (fw_up (fw_up (fw_up W 389 (((14 : Int) * a) + b) (1 : Int)) 389 (((14 : Int) * b) + a) (1 : Int)) 388 a ((fw_g W 388 a) - (1 : Int))) 388 b) - (1 : Int) ≤ 2147483647 ∧ (0 ≤ b ∧ b < 14 ∧ -2147483648 ≤ ((fw_g (fw_up (fw_up (fw_up W 389 (((14 : Int) * a) + b) (1 : Int)) 389 (((14 : Int) * b) + a) (1 : Int)) 388 a ((fw_g W 388 a) - (1 : Int))) 388 b) - (1 : Int)) ∧ ((fw_g (fw_up (fw_up (fw_up W 389 (((14 : Int) * a) + b) (1 : Int)) 389 (((14 : Int) * b) + a) (1 : Int)) 388 a ((fw_g W 388 a) - (1 : Int))) 388 b) - (1 : Int)) ≤ 2147483647 ∧ (Post none (fw_up (fw_up (fw_up (fw_up W 389 (((14 : Int) * a) + b) (1 : Int)) 389 (((14 : Int) * b) + a) (1 : Int)) 388 a ((fw_g W 388 a) - (1 : Int))) 388 b ((fw_g (fw_up (fw_up (fw_up W 389 (((14 : Int) * a) + b) (1 : Int)) 389 (((14 : Int) * b) + a) (1 : Int)) 388 a ((fw_g W 388 a) - (1 : Int))) 388 b) - (1 : Int)))))))))))))))) :
    jf fw_T (d + 1) 290 0 [(0, .inr (.inl 352)), (1, .inl a), (2, .inl b)] [] W Post := fw_ok (n := 36) (ss := []) (hv := []) fr_290_ok fm_ok (fw_c0 _ _) hw_

def x_joins : fw_X := fun as W Q => match as with
  | [.inr (.inl s_), .inl a, .inl b] => fw_if (Nat.beq s_ 352) (((0 ≤ a ∧ a < 14 ∧ 0 ≤ b ∧ b < 14 ∧ a ≠ b) ∧ (-100 ≤ (fw_g W 388 a) ∧ (fw_g W 388 a) ≤ 100) ∧ (-100 ≤ (fw_g W 388 b) ∧ (fw_g W 388 b) ≤ 100)) ∧ (∀ (f : fw_W), ((∀ x_, 0 ≤ x_ → (fw_g f 388 x_) = if b = x_ then (fw_g W 388 b) - 1 else if a = x_ then (fw_g W 388 a) - 1 else (fw_g W 388 x_)) ∧ (∀ x_, 0 ≤ x_ → (fw_g f 389 x_) = if 14 * b + a = x_ then 1 else if 14 * a + b = x_ then 1 else (fw_g W 389 x_))) → Q none (fw_put [389, 388] 352 [] W f)))
  | _ => False
theorem x_joins_ok (d : Nat) (as : List fw_V) (W : fw_W) (Q : Option fw_V → fw_W → Prop) (hx : x_joins as W Q) : jf fw_T (d + 1) 290 0 (fw_args 0 as) [] W Q := by
  unfold x_joins at hx
  split at hx
  · rename_i s_ a b
    obtain ⟨e_, hpre, hQ⟩ := fw_if_ok hx
    have e_ := Nat.eq_of_beq_eq_true e_
    subst e_
    have hP : ∀ (W2 : fw_W), fw_sm [389, 388] 352 [] W W2 → _ → Q none W2 := fun W2 hs hr => fw_sm_use (Q := fun Z => Q none Z) hs (hQ W2 hr)
    refine s_joins_0 ?_
    have hne := hpre.1.2.2.2.2
    have hq := hpre.1
    have e0 : ∀ X z, fw_g (fw_up X 388 a z) 388 b = fw_g X 388 b := fun X z => fw_g_un hne (by omega) (by omega)
    have e1 : ∀ X j z, fw_g (fw_up X 389 j z) 388 b = fw_g X 388 b := fun X j z => fg_up rfl
    repeat' (first
      | (exact True.intro)
      | (exact hpre.1)
      | (refine And.intro ?_ ?_)
      | (refine hP _ (by repeat (first | exact fw_sm_refl | exact fw_sm_put0 | refine fw_sm_arr ?_ rfl | refine fw_sm_up ?_ rfl | refine fw_sm_put ?_ rfl | refine fw_sm_cp ?_ rfl)) ?_; (
        refine ⟨fun x x1 => ?_, fun x x1 => ?_⟩
        · rw [fg_if (by omega) (by omega) (by simp only [e0, e1]; omega) (by simp only [e0, e1]; omega)]
          by_cases c : b = x
          · rw [if_pos c, if_pos c, e0, e1, e1]
          · rw [if_neg c, if_neg c, fg_if (by omega) (by omega) (by omega) (by omega), fg_up rfl, fg_up rfl]
        · rw [fg_up rfl, fg_up rfl, fg_if (by omega) (by omega) (by omega) (by omega), fg_if (by omega) (by omega) (by omega) (by omega)]))
      | (simp only [e0, e1]; omega)
      | omega
      | (intro _))
  · exact hx.elim

def fr_291 : fw_P := [(0, 2, 0, 0, 0), (1, 50, 12, 24, 0), (4, 0, 0, 0, 0), (5, 1, 1, 0, 0), (6, 53, 0, 0, 0), (7, 0, 0, 0, 0), (8, 3, 2, 0, 0), (9, 1, 2, 0, 0), (10, 0, 0, 0, 14), (12, 13, 73, 0, 0), (15, 2, 0, 0, 0), (16, 1, 2, 0, 0), (17, 1, 2, 0, 0), (18, 1, 1, 0, 0), (19, 13, 31, 0, 0), (22, 1, 2, 0, 0), (23, 25, 31, 0, 0), (26, 0, 0, 0, -2), (28, 6, 40, 0, 0), (31, 1, 2, 0, 0), (32, 21, 39, 0, 0), (35, 0, 0, 0, -1), (36, 6, 40, 0, 0), (39, 0, 0, 0, 0), (40, 1, 2, 0, 0), (41, 1, 1, 0, 0), (42, 13, 53, 0, 0), (45, 1, 2, 0, 0), (46, 25, 53, 0, 0), (49, 0, 0, 0, 1), (50, 6, 54, 0, 0), (53, 0, 0, 0, 0), (54, 1, 2, 0, 0), (55, 1, 1, 0, 0), (56, 13, 63, 0, 0), (59, 0, 0, 0, 1), (60, 6, 64, 0, 0), (63, 0, 0, 0, 0), (64, 64, 189, 4, 512), (67, 5, 2, 0, 1), (70, 6, 9, 0, 0), (73, 2, 0, 0, 0), (74, 50, 12, 32, 0), (77, 0, 0, 0, 0), (78, 0, 0, 0, 0), (79, 53, 0, 0, 0), (80, 0, 0, 0, 1), (81, 3, 2, 0, 0), (82, 0, 0, 0, 0), (83, 3, 3, 0, 0), (84, 1, 3, 0, 0), (85, 1, 2, 0, 0), (86, 13, 172, 0, 0), (89, 0, 0, 0, 1), (90, 3, 4, 0, 0), (92, 1, 4, 0, 0), (94, 1, 1, 0, 0), (95, 13, 166, 0, 0), (98, 2, 0, 0, 0), (99, 50, 12, 57, 0), (102, 0, 0, 0, 14), (104, 2, 0, 0, 0), (105, 50, 12, 32, 0), (108, 1, 3, 0, 0), (109, 52, 0, 0, 0), (110, 32, 0, 0, 0), (111, 1, 4, 0, 0), (113, 30, 0, 0, 0), (114, 52, 0, 0, 0), (115, 20, 160, 0, 0), (118, 2, 0, 0, 0), (119, 1, 4, 0, 0), (121, 64, 215, 1, 212), (124, 0, 0, 0, -2), (126, 10, 132, 0, 0), (129, 6, 160, 0, 0), (132, 2, 0, 0, 0), (133, 50, 12, 24, 0), (136, 0, 0, 0, 2), (137, 0, 0, 0, 3), (138, 1, 4, 0, 0), (140, 32, 0, 0, 0), (141, 30, 0, 0, 0), (142, 2, 0, 0, 0), (143, 50, 12, 32, 0), (146, 1, 3, 0, 0), (147, 52, 0, 0, 0), (148, 53, 0, 0, 0), (149, 2, 0, 0, 0), (150, 50, 12, 32, 0), (153, 1, 2, 0, 0), (154, 1, 4, 0, 0), (156, 53, 0, 0, 0), (157, 5, 2, 0, 1), (160, 5, 4, 0, 1), (163, 6, 92, 0, 0), (166, 5, 3, 0, 1), (169, 6, 84, 0, 0), (172, 72, 0, 0, 0)]
theorem fr_291_ok : fw_mk 291 5 12 none fr_291 = true := by decide +kernel
def ct_hangAll : List (Nat × fw_X) := [(215, x_hangsAt), (189, x_lay)]
theorem ct_hangAll_ok (d : Nat) : fw_cok fw_T (d + 1) ct_hangAll := by
  intro q hq as W Q h
  simp only [ct_hangAll, List.mem_cons, List.not_mem_nil, or_false] at hq
  rcases hq with rfl | rfl
  · exact jc_of (x_hangsAt_ok (d + 0) as W Q h)
  · exact jc_of (x_lay_ok (d + 0) as W Q h)
theorem s_hangAll_0 {Post : Option fw_V → fw_W → Prop} {d : Nat} {W : fw_W} {n : Int}
    (hw_ : 0 ≤ (0 : Int) ∧ (0 : Int) < 44 ∧ -2147483648 ≤ n ∧ n ≤ 2147483647 ∧ (jf fw_T (d + 2) 291 9 [(0, .inr (.inl 352)), (1, .inl n), (2, .inl (0 : Int))] [] (fw_up W 366 (0 : Int) n) Post)) :
    jf fw_T (d + 2) 291 0 [(0, .inr (.inl 352)), (1, .inl n)] [] W Post := fw_ok (n := 8) (ss := [(9, [0, 1, 2]), (84, [0, 1, 2, 3]), (92, [0, 1, 2, 3, 4])]) (hv := []) fr_291_ok fm_ok (ct_hangAll_ok d) hw_

theorem s_hangAll_92 {Post : Option fw_V → fw_W → Prop} {d : Nat} {W : fw_W} {n met i k : Int} {f : fw_W}
    (hw_ : ((n ≤ k → -2147483648 ≤ i + (1 : Int) ∧ i + (1 : Int) ≤ 2147483647 ∧ (jf fw_T (d + 2) 291 84 [(0, .inr (.inl 352)), (1, .inl n), (2, .inl met), (3, .inl (i + (1 : Int)))] [] (fw_put [366, 371] 352 [] W f) Post)) ∧ (k < n → 0 ≤ i ∧ i < 14 ∧ (0 ≤ (fw_g f 371 i) → (fw_g f 371 i) ≤ 13 → -2147483648 ≤ (14 : Int) * (fw_g f 371 i) ∧ (14 : Int) * (fw_g f 371 i) ≤ 2147483647 ∧ (-2147483648 ≤ ((14 : Int) * (fw_g f 371 i)) + k ∧ ((14 : Int) * (fw_g f 371 i)) + k ≤ 2147483647 ∧ (0 ≤ (((14 : Int) * (fw_g f 371 i)) + k) ∧ (((14 : Int) * (fw_g f 371 i)) + k) < 196 ∧ (-2147483648 ≤ (fw_g W 389 (((14 : Int) * (fw_g f 371 i)) + k)) → (fw_g W 389 (((14 : Int) * (fw_g f 371 i)) + k)) ≤ 2147483647 → (((fw_g W 389 (((14 : Int) * (fw_g f 371 i)) + k)) = 0 → -2147483648 ≤ k + (1 : Int) ∧ k + (1 : Int) ≤ 2147483647 ∧ (jf fw_T (d + 2) 291 92 [(0, .inr (.inl 352)), (1, .inl n), (2, .inl met), (3, .inl i), (4, .inl (k + (1 : Int)))] [] (fw_put [366, 371] 352 [] W f) Post)) ∧ (¬ (fw_g W 389 (((14 : Int) * (fw_g f 371 i)) + k)) = 0 → (0 ≤ k ∧ k < 14) ∧ ((((fw_g f 366 (2 + 3 * k)) = (-2 : Int) → -2147483648 ≤ (3 : Int) * k ∧ (3 : Int) * k ≤ 2147483647 ∧ (-2147483648 ≤ (2 : Int) + ((3 : Int) * k) ∧ (2 : Int) + ((3 : Int) * k) ≤ 2147483647 ∧ (0 ≤ i ∧ i < 14 ∧ (0 ≤ (fw_g f 371 i) → (fw_g f 371 i) ≤ 13 → 0 ≤ ((2 : Int) + ((3 : Int) * k)) ∧ ((2 : Int) + ((3 : Int) * k)) < 44 ∧ -2147483648 ≤ (fw_g f 371 i) ∧ (fw_g f 371 i) ≤ 2147483647 ∧ (0 ≤ met ∧ met < 14 ∧ 0 ≤ k ∧ k ≤ 13 ∧ (-2147483648 ≤ met + (1 : Int) ∧ met + (1 : Int) ≤ 2147483647 ∧ (-2147483648 ≤ k + (1 : Int) ∧ k + (1 : Int) ≤ 2147483647 ∧ (jf fw_T (d + 2) 291 92 [(0, .inr (.inl 352)), (1, .inl n), (2, .inl (met + (1 : Int))), (3, .inl i), (4, .inl (k + (1 : Int)))] [] (fw_up (fw_up (fw_put [366, 371] 352 [] W f) 366 ((2 : Int) + ((3 : Int) * k)) (fw_g f 371 i)) 371 met k) Post)))))))) ∧ (¬ (fw_g f 366 (2 + 3 * k)) = (-2 : Int) → -2147483648 ≤ k + (1 : Int) ∧ k + (1 : Int) ≤ 2147483647 ∧ (jf fw_T (d + 2) 291 92 [(0, .inr (.inl 352)), (1, .inl n), (2, .inl met), (3, .inl i), (4, .inl (k + (1 : Int)))] [] (fw_put [366, 371] 352 [] W f) Post))))))))))))) :
    jf fw_T (d + 2) 291 92 [(0, .inr (.inl 352)), (1, .inl n), (2, .inl met), (3, .inl i), (4, .inl k)] [] (fw_put [366, 371] 352 [] W f) Post := fw_ok (n := 41) (ss := [(9, [0, 1, 2]), (84, [0, 1, 2, 3]), (92, [0, 1, 2, 3, 4])]) (hv := []) fr_291_ok fm_ok (ct_hangAll_ok d) hw_

theorem s_hangAll_84 {Post : Option fw_V → fw_W → Prop} {d : Nat} {W : fw_W} {n met i : Int} {f : fw_W}
    (hw_ : ((met ≤ i → Post none (fw_put [366, 371] 352 [] W f)) ∧ (i < met → jf fw_T (d + 2) 291 92 [(0, .inr (.inl 352)), (1, .inl n), (2, .inl met), (3, .inl i), (4, .inl (1 : Int))] [] (fw_put [366, 371] 352 [] W f) Post))) :
    jf fw_T (d + 2) 291 84 [(0, .inr (.inl 352)), (1, .inl n), (2, .inl met), (3, .inl i)] [] (fw_put [366, 371] 352 [] W f) Post := fw_ok (n := 6) (ss := [(9, [0, 1, 2]), (84, [0, 1, 2, 3]), (92, [0, 1, 2, 3, 4])]) (hv := []) fr_291_ok fm_ok (ct_hangAll_ok d) hw_

theorem s_hangAll_9 {Post : Option fw_V → fw_W → Prop} {d : Nat} {W : fw_W} {n met : Int} {f : fw_W}
    (hw_ : (((14 : Int) ≤ met → 0 ≤ (0 : Int) ∧ (0 : Int) < 14 ∧ 0 ≤ (0 : Int) ∧ (0 : Int) ≤ 13 ∧ (jf fw_T (d + 2) 291 84 [(0, .inr (.inl 352)), (1, .inl n), (2, .inl (1 : Int)), (3, .inl (0 : Int))] [] (fw_up (fw_put [366, 371] 352 [] W f) 371 (0 : Int) (0 : Int)) Post)) ∧ (met < (14 : Int) → ((n ≤ met → ((¬ met = 0 → ((n ≤ met → ((n ≤ met → (0 ≤ met ∧ met < 14) ∧ (∀ (f1 : fw_W), (((fw_g f1 366 (2 + 3 * met)) = (0 : Int) ∧ (fw_g f1 366 (3 + 3 * met)) = (0 : Int) ∧ (fw_g f1 366 (4 + 3 * met)) = (0 : Int) ∧ ∀ i, 0 ≤ i → i ≠ 2 + 3 * met → i ≠ 3 + 3 * met → i ≠ 4 + 3 * met → (fw_g f1 366 i) = (fw_g f 366 i))) → -2147483648 ≤ met + (1 : Int) ∧ met + (1 : Int) ≤ 2147483647 ∧ (jf fw_T (d + 2) 291 9 [(0, .inr (.inl 352)), (1, .inl n), (2, .inl (met + (1 : Int)))] [] (fw_put [366] 352 [] (fw_put [366, 371] 352 [] W f) f1) Post))) ∧ (met < n → (0 ≤ met ∧ met < 14) ∧ (∀ (f2 : fw_W), (((fw_g f2 366 (2 + 3 * met)) = (0 : Int) ∧ (fw_g f2 366 (3 + 3 * met)) = (0 : Int) ∧ (fw_g f2 366 (4 + 3 * met)) = (1 : Int) ∧ ∀ i, 0 ≤ i → i ≠ 2 + 3 * met → i ≠ 3 + 3 * met → i ≠ 4 + 3 * met → (fw_g f2 366 i) = (fw_g f 366 i))) → -2147483648 ≤ met + (1 : Int) ∧ met + (1 : Int) ≤ 2147483647 ∧ (jf fw_T (d + 2) 291 9 [(0, .inr (.inl 352)), (1, .inl n), (2, .inl (met + (1 : Int)))] [] (fw_put [366] 352 [] (fw_put [366, 371] 352 [] W f) f2) Post))))) ∧ (met < n → ((met ≤ 0 → ((n ≤ met → (0 ≤ met ∧ met < 14) ∧ (∀ (f3 : fw_W), (((fw_g f3 366 (2 + 3 * met)) = (0 : Int) ∧ (fw_g f3 366 (3 + 3 * met)) = (0 : Int) ∧ (fw_g f3 366 (4 + 3 * met)) = (0 : Int) ∧ ∀ i, 0 ≤ i → i ≠ 2 + 3 * met → i ≠ 3 + 3 * met → i ≠ 4 + 3 * met → (fw_g f3 366 i) = (fw_g f 366 i))) → -2147483648 ≤ met + (1 : Int) ∧ met + (1 : Int) ≤ 2147483647 ∧ (jf fw_T (d + 2) 291 9 [(0, .inr (.inl 352)), (1, .inl n), (2, .inl (met + (1 : Int)))] [] (fw_put [366] 352 [] (fw_put [366, 371] 352 [] W f) f3) Post))) ∧ (met < n → (0 ≤ met ∧ met < 14) ∧ (∀ (f4 : fw_W), (((fw_g f4 366 (2 + 3 * met)) = (0 : Int) ∧ (fw_g f4 366 (3 + 3 * met)) = (0 : Int) ∧ (fw_g f4 366 (4 + 3 * met)) = (1 : Int) ∧ ∀ i, 0 ≤ i → i ≠ 2 + 3 * met → i ≠ 3 + 3 * met → i ≠ 4 + 3 * met → (fw_g f4 366 i) = (fw_g f 366 i))) → -2147483648 ≤ met + (1 : Int) ∧ met + (1 : Int) ≤ 2147483647 ∧ (jf fw_T (d + 2) 291 9 [(0, .inr (.inl 352)), (1, .inl n), (2, .inl (met + (1 : Int)))] [] (fw_put [366] 352 [] (fw_put [366, 371] 352 [] W f) f4) Post))))) ∧ (0 < met → ((n ≤ met → (0 ≤ met ∧ met < 14) ∧ (∀ (f5 : fw_W), (((fw_g f5 366 (2 + 3 * met)) = (0 : Int) ∧ (fw_g f5 366 (3 + 3 * met)) = (1 : Int) ∧ (fw_g f5 366 (4 + 3 * met)) = (0 : Int) ∧ ∀ i, 0 ≤ i → i ≠ 2 + 3 * met → i ≠ 3 + 3 * met → i ≠ 4 + 3 * met → (fw_g f5 366 i) = (fw_g f 366 i))) → -2147483648 ≤ met + (1 : Int) ∧ met + (1 : Int) ≤ 2147483647 ∧ (jf fw_T (d + 2) 291 9 [(0, .inr (.inl 352)), (1, .inl n), (2, .inl (met + (1 : Int)))] [] (fw_put [366] 352 [] (fw_put [366, 371] 352 [] W f) f5) Post))) ∧ (met < n → (0 ≤ met ∧ met < 14) ∧ (∀ (f6 : fw_W), (((fw_g f6 366 (2 + 3 * met)) = (0 : Int) ∧ (fw_g f6 366 (3 + 3 * met)) = (1 : Int) ∧ (fw_g f6 366 (4 + 3 * met)) = (1 : Int) ∧ ∀ i, 0 ≤ i → i ≠ 2 + 3 * met → i ≠ 3 + 3 * met → i ≠ 4 + 3 * met → (fw_g f6 366 i) = (fw_g f 366 i))) → -2147483648 ≤ met + (1 : Int) ∧ met + (1 : Int) ≤ 2147483647 ∧ (jf fw_T (d + 2) 291 9 [(0, .inr (.inl 352)), (1, .inl n), (2, .inl (met + (1 : Int)))] [] (fw_put [366] 352 [] (fw_put [366, 371] 352 [] W f) f6) Post))))))))) ∧ (met = 0 → ((n ≤ met → ((n ≤ met → (0 ≤ met ∧ met < 14) ∧ (∀ (f7 : fw_W), (((fw_g f7 366 (2 + 3 * met)) = (-1 : Int) ∧ (fw_g f7 366 (3 + 3 * met)) = (0 : Int) ∧ (fw_g f7 366 (4 + 3 * met)) = (0 : Int) ∧ ∀ i, 0 ≤ i → i ≠ 2 + 3 * met → i ≠ 3 + 3 * met → i ≠ 4 + 3 * met → (fw_g f7 366 i) = (fw_g f 366 i))) → -2147483648 ≤ met + (1 : Int) ∧ met + (1 : Int) ≤ 2147483647 ∧ (jf fw_T (d + 2) 291 9 [(0, .inr (.inl 352)), (1, .inl n), (2, .inl (met + (1 : Int)))] [] (fw_put [366] 352 [] (fw_put [366, 371] 352 [] W f) f7) Post))) ∧ (met < n → (0 ≤ met ∧ met < 14) ∧ (∀ (f8 : fw_W), (((fw_g f8 366 (2 + 3 * met)) = (-1 : Int) ∧ (fw_g f8 366 (3 + 3 * met)) = (0 : Int) ∧ (fw_g f8 366 (4 + 3 * met)) = (1 : Int) ∧ ∀ i, 0 ≤ i → i ≠ 2 + 3 * met → i ≠ 3 + 3 * met → i ≠ 4 + 3 * met → (fw_g f8 366 i) = (fw_g f 366 i))) → -2147483648 ≤ met + (1 : Int) ∧ met + (1 : Int) ≤ 2147483647 ∧ (jf fw_T (d + 2) 291 9 [(0, .inr (.inl 352)), (1, .inl n), (2, .inl (met + (1 : Int)))] [] (fw_put [366] 352 [] (fw_put [366, 371] 352 [] W f) f8) Post))))) ∧ (met < n → ((met ≤ 0 → ((n ≤ met → (0 ≤ met ∧ met < 14) ∧ (∀ (f9 : fw_W), (((fw_g f9 366 (2 + 3 * met)) = (-1 : Int) ∧ (fw_g f9 366 (3 + 3 * met)) = (0 : Int) ∧ (fw_g f9 366 (4 + 3 * met)) = (0 : Int) ∧ ∀ i, 0 ≤ i → i ≠ 2 + 3 * met → i ≠ 3 + 3 * met → i ≠ 4 + 3 * met → (fw_g f9 366 i) = (fw_g f 366 i))) → -2147483648 ≤ met + (1 : Int) ∧ met + (1 : Int) ≤ 2147483647 ∧ (jf fw_T (d + 2) 291 9 [(0, .inr (.inl 352)), (1, .inl n), (2, .inl (met + (1 : Int)))] [] (fw_put [366] 352 [] (fw_put [366, 371] 352 [] W f) f9) Post))) ∧ (met < n → (0 ≤ met ∧ met < 14) ∧ (∀ (f10 : fw_W), (((fw_g f10 366 (2 + 3 * met)) = (-1 : Int) ∧ (fw_g f10 366 (3 + 3 * met)) = (0 : Int) ∧ (fw_g f10 366 (4 + 3 * met)) = (1 : Int) ∧ ∀ i, 0 ≤ i → i ≠ 2 + 3 * met → i ≠ 3 + 3 * met → i ≠ 4 + 3 * met → (fw_g f10 366 i) = (fw_g f 366 i))) → -2147483648 ≤ met + (1 : Int) ∧ met + (1 : Int) ≤ 2147483647 ∧ (jf fw_T (d + 2) 291 9 [(0, .inr (.inl 352)), (1, .inl n), (2, .inl (met + (1 : Int)))] [] (fw_put [366] 352 [] (fw_put [366, 371] 352 [] W f) f10) Post))))) ∧ (0 < met → ((n ≤ met → (0 ≤ met ∧ met < 14) ∧ (∀ (f11 : fw_W), (((fw_g f11 366 (2 + 3 * met)) = (-1 : Int) ∧ (fw_g f11 366 (3 + 3 * met)) = (1 : Int) ∧ (fw_g f11 366 (4 + 3 * met)) = (0 : Int) ∧ ∀ i, 0 ≤ i → i ≠ 2 + 3 * met → i ≠ 3 + 3 * met → i ≠ 4 + 3 * met → (fw_g f11 366 i) = (fw_g f 366 i))) → -2147483648 ≤ met + (1 : Int) ∧ met + (1 : Int) ≤ 2147483647 ∧ (jf fw_T (d + 2) 291 9 [(0, .inr (.inl 352)), (1, .inl n), (2, .inl (met + (1 : Int)))] [] (fw_put [366] 352 [] (fw_put [366, 371] 352 [] W f) f11) Post))) ∧ (met < n → (0 ≤ met ∧ met < 14) ∧ (∀ (f12 : fw_W), (((fw_g f12 366 (2 + 3 * met)) = (-1 : Int) ∧ (fw_g f12 366 (3 + 3 * met)) = (1 : Int) ∧ (fw_g f12 366 (4 + 3 * met)) = (1 : Int) ∧ ∀ i, 0 ≤ i → i ≠ 2 + 3 * met → i ≠ 3 + 3 * met → i ≠ 4 + 3 * met → (fw_g f12 366 i) = (fw_g f 366 i))) → -2147483648 ≤ met + (1 : Int) ∧ met + (1 : Int) ≤ 2147483647 ∧ (jf fw_T (d + 2) 291 9 [(0, .inr (.inl 352)), (1, .inl n), (2, .inl (met + (1 : Int)))] [] (fw_put [366] 352 [] (fw_put [366, 371] 352 [] W f) f12) Post))))))))))) ∧ (met < n → ((met ≤ 0 → ((¬ met = 0 → ((n ≤ met → ((n ≤ met → (0 ≤ met ∧ met < 14) ∧ (∀ (f13 : fw_W), (((fw_g f13 366 (2 + 3 * met)) = (0 : Int) ∧ (fw_g f13 366 (3 + 3 * met)) = (0 : Int) ∧ (fw_g f13 366 (4 + 3 * met)) = (0 : Int) ∧ ∀ i, 0 ≤ i → i ≠ 2 + 3 * met → i ≠ 3 + 3 * met → i ≠ 4 + 3 * met → (fw_g f13 366 i) = (fw_g f 366 i))) → -2147483648 ≤ met + (1 : Int) ∧ met + (1 : Int) ≤ 2147483647 ∧ (jf fw_T (d + 2) 291 9 [(0, .inr (.inl 352)), (1, .inl n), (2, .inl (met + (1 : Int)))] [] (fw_put [366] 352 [] (fw_put [366, 371] 352 [] W f) f13) Post))) ∧ (met < n → (0 ≤ met ∧ met < 14) ∧ (∀ (f14 : fw_W), (((fw_g f14 366 (2 + 3 * met)) = (0 : Int) ∧ (fw_g f14 366 (3 + 3 * met)) = (0 : Int) ∧ (fw_g f14 366 (4 + 3 * met)) = (1 : Int) ∧ ∀ i, 0 ≤ i → i ≠ 2 + 3 * met → i ≠ 3 + 3 * met → i ≠ 4 + 3 * met → (fw_g f14 366 i) = (fw_g f 366 i))) → -2147483648 ≤ met + (1 : Int) ∧ met + (1 : Int) ≤ 2147483647 ∧ (jf fw_T (d + 2) 291 9 [(0, .inr (.inl 352)), (1, .inl n), (2, .inl (met + (1 : Int)))] [] (fw_put [366] 352 [] (fw_put [366, 371] 352 [] W f) f14) Post))))) ∧ (met < n → ((met ≤ 0 → ((n ≤ met → (0 ≤ met ∧ met < 14) ∧ (∀ (f15 : fw_W), (((fw_g f15 366 (2 + 3 * met)) = (0 : Int) ∧ (fw_g f15 366 (3 + 3 * met)) = (0 : Int) ∧ (fw_g f15 366 (4 + 3 * met)) = (0 : Int) ∧ ∀ i, 0 ≤ i → i ≠ 2 + 3 * met → i ≠ 3 + 3 * met → i ≠ 4 + 3 * met → (fw_g f15 366 i) = (fw_g f 366 i))) → -2147483648 ≤ met + (1 : Int) ∧ met + (1 : Int) ≤ 2147483647 ∧ (jf fw_T (d + 2) 291 9 [(0, .inr (.inl 352)), (1, .inl n), (2, .inl (met + (1 : Int)))] [] (fw_put [366] 352 [] (fw_put [366, 371] 352 [] W f) f15) Post))) ∧ (met < n → (0 ≤ met ∧ met < 14) ∧ (∀ (f16 : fw_W), (((fw_g f16 366 (2 + 3 * met)) = (0 : Int) ∧ (fw_g f16 366 (3 + 3 * met)) = (0 : Int) ∧ (fw_g f16 366 (4 + 3 * met)) = (1 : Int) ∧ ∀ i, 0 ≤ i → i ≠ 2 + 3 * met → i ≠ 3 + 3 * met → i ≠ 4 + 3 * met → (fw_g f16 366 i) = (fw_g f 366 i))) → -2147483648 ≤ met + (1 : Int) ∧ met + (1 : Int) ≤ 2147483647 ∧ (jf fw_T (d + 2) 291 9 [(0, .inr (.inl 352)), (1, .inl n), (2, .inl (met + (1 : Int)))] [] (fw_put [366] 352 [] (fw_put [366, 371] 352 [] W f) f16) Post))))) ∧ (0 < met → ((n ≤ met → (0 ≤ met ∧ met < 14) ∧ (∀ (f17 : fw_W), (((fw_g f17 366 (2 + 3 * met)) = (0 : Int) ∧ (fw_g f17 366 (3 + 3 * met)) = (1 : Int) ∧ (fw_g f17 366 (4 + 3 * met)) = (0 : Int) ∧ ∀ i, 0 ≤ i → i ≠ 2 + 3 * met → i ≠ 3 + 3 * met → i ≠ 4 + 3 * met → (fw_g f17 366 i) = (fw_g f 366 i))) → -2147483648 ≤ met + (1 : Int) ∧ met + (1 : Int) ≤ 2147483647 ∧ (jf fw_T (d + 2) 291 9 [(0, .inr (.inl 352)), (1, .inl n), (2, .inl (met + (1 : Int)))] [] (fw_put [366] 352 [] (fw_put [366, 371] 352 [] W f) f17) Post))) ∧ (met < n → (0 ≤ met ∧ met < 14) ∧ (∀ (f18 : fw_W), (((fw_g f18 366 (2 + 3 * met)) = (0 : Int) ∧ (fw_g f18 366 (3 + 3 * met)) = (1 : Int) ∧ (fw_g f18 366 (4 + 3 * met)) = (1 : Int) ∧ ∀ i, 0 ≤ i → i ≠ 2 + 3 * met → i ≠ 3 + 3 * met → i ≠ 4 + 3 * met → (fw_g f18 366 i) = (fw_g f 366 i))) → -2147483648 ≤ met + (1 : Int) ∧ met + (1 : Int) ≤ 2147483647 ∧ (jf fw_T (d + 2) 291 9 [(0, .inr (.inl 352)), (1, .inl n), (2, .inl (met + (1 : Int)))] [] (fw_put [366] 352 [] (fw_put [366, 371] 352 [] W f) f18) Post))))))))) ∧ (met = 0 → ((n ≤ met → ((n ≤ met → (0 ≤ met ∧ met < 14) ∧ (∀ (f19 : fw_W), (((fw_g f19 366 (2 + 3 * met)) = (-1 : Int) ∧ (fw_g f19 366 (3 + 3 * met)) = (0 : Int) ∧ (fw_g f19 366 (4 + 3 * met)) = (0 : Int) ∧ ∀ i, 0 ≤ i → i ≠ 2 + 3 * met → i ≠ 3 + 3 * met → i ≠ 4 + 3 * met → (fw_g f19 366 i) = (fw_g f 366 i))) → -2147483648 ≤ met + (1 : Int) ∧ met + (1 : Int) ≤ 2147483647 ∧ (jf fw_T (d + 2) 291 9 [(0, .inr (.inl 352)), (1, .inl n), (2, .inl (met + (1 : Int)))] [] (fw_put [366] 352 [] (fw_put [366, 371] 352 [] W f) f19) Post))) ∧ (met < n → (0 ≤ met ∧ met < 14) ∧ (∀ (f20 : fw_W), (((fw_g f20 366 (2 + 3 * met)) = (-1 : Int) ∧ (fw_g f20 366 (3 + 3 * met)) = (0 : Int) ∧ (fw_g f20 366 (4 + 3 * met)) = (1 : Int) ∧ ∀ i, 0 ≤ i → i ≠ 2 + 3 * met → i ≠ 3 + 3 * met → i ≠ 4 + 3 * met → (fw_g f20 366 i) = (fw_g f 366 i))) → -2147483648 ≤ met + (1 : Int) ∧ met + (1 : Int) ≤ 2147483647 ∧ (jf fw_T (d + 2) 291 9 [(0, .inr (.inl 352)), (1, .inl n), (2, .inl (met + (1 : Int)))] [] (fw_put [366] 352 [] (fw_put [366, 371] 352 [] W f) f20) Post))))) ∧ (met < n → ((met ≤ 0 → ((n ≤ met → (0 ≤ met ∧ met < 14) ∧ (∀ (f21 : fw_W), (((fw_g f21 366 (2 + 3 * met)) = (-1 : Int) ∧ (fw_g f21 366 (3 + 3 * met)) = (0 : Int) ∧ (fw_g f21 366 (4 + 3 * met)) = (0 : Int) ∧ ∀ i, 0 ≤ i → i ≠ 2 + 3 * met → i ≠ 3 + 3 * met → i ≠ 4 + 3 * met → (fw_g f21 366 i) = (fw_g f 366 i))) → -2147483648 ≤ met + (1 : Int) ∧ met + (1 : Int) ≤ 2147483647 ∧ (jf fw_T (d + 2) 291 9 [(0, .inr (.inl 352)), (1, .inl n), (2, .inl (met + (1 : Int)))] [] (fw_put [366] 352 [] (fw_put [366, 371] 352 [] W f) f21) Post))) ∧ (met < n → (0 ≤ met ∧ met < 14) ∧ (∀ (f22 : fw_W), (((fw_g f22 366 (2 + 3 * met)) = (-1 : Int) ∧ (fw_g f22 366 (3 + 3 * met)) = (0 : Int) ∧ (fw_g f22 366 (4 + 3 * met)) = (1 : Int) ∧ ∀ i, 0 ≤ i → i ≠ 2 + 3 * met → i ≠ 3 + 3 * met → i ≠ 4 + 3 * met → (fw_g f22 366 i) = (fw_g f 366 i))) → -2147483648 ≤ met + (1 : Int) ∧ met + (1 : Int) ≤ 2147483647 ∧ (jf fw_T (d + 2) 291 9 [(0, .inr (.inl 352)), (1, .inl n), (2, .inl (met + (1 : Int)))] [] (fw_put [366] 352 [] (fw_put [366, 371] 352 [] W f) f22) Post))))) ∧ (0 < met → ((n ≤ met → (0 ≤ met ∧ met < 14) ∧ (∀ (f23 : fw_W), (((fw_g f23 366 (2 + 3 * met)) = (-1 : Int) ∧ (fw_g f23 366 (3 + 3 * met)) = (1 : Int) ∧ (fw_g f23 366 (4 + 3 * met)) = (0 : Int) ∧ ∀ i, 0 ≤ i → i ≠ 2 + 3 * met → i ≠ 3 + 3 * met → i ≠ 4 + 3 * met → (fw_g f23 366 i) = (fw_g f 366 i))) → -2147483648 ≤ met + (1 : Int) ∧ met + (1 : Int) ≤ 2147483647 ∧ (jf fw_T (d + 2) 291 9 [(0, .inr (.inl 352)), (1, .inl n), (2, .inl (met + (1 : Int)))] [] (fw_put [366] 352 [] (fw_put [366, 371] 352 [] W f) f23) Post))) ∧ (met < n → (0 ≤ met ∧ met < 14) ∧ (∀ (f24 : fw_W), (((fw_g f24 366 (2 + 3 * met)) = (-1 : Int) ∧ (fw_g f24 366 (3 + 3 * met)) = (1 : Int) ∧ (fw_g f24 366 (4 + 3 * met)) = (1 : Int) ∧ ∀ i, 0 ≤ i → i ≠ 2 + 3 * met → i ≠ 3 + 3 * met → i ≠ 4 + 3 * met → (fw_g f24 366 i) = (fw_g f 366 i))) → -2147483648 ≤ met + (1 : Int) ∧ met + (1 : Int) ≤ 2147483647 ∧ (jf fw_T (d + 2) 291 9 [(0, .inr (.inl 352)), (1, .inl n), (2, .inl (met + (1 : Int)))] [] (fw_put [366] 352 [] (fw_put [366, 371] 352 [] W f) f24) Post))))))))))) ∧ (0 < met → ((n ≤ met → ((n ≤ met → (0 ≤ met ∧ met < 14) ∧ (∀ (f25 : fw_W), (((fw_g f25 366 (2 + 3 * met)) = (-2 : Int) ∧ (fw_g f25 366 (3 + 3 * met)) = (0 : Int) ∧ (fw_g f25 366 (4 + 3 * met)) = (0 : Int) ∧ ∀ i, 0 ≤ i → i ≠ 2 + 3 * met → i ≠ 3 + 3 * met → i ≠ 4 + 3 * met → (fw_g f25 366 i) = (fw_g f 366 i))) → -2147483648 ≤ met + (1 : Int) ∧ met + (1 : Int) ≤ 2147483647 ∧ (jf fw_T (d + 2) 291 9 [(0, .inr (.inl 352)), (1, .inl n), (2, .inl (met + (1 : Int)))] [] (fw_put [366] 352 [] (fw_put [366, 371] 352 [] W f) f25) Post))) ∧ (met < n → (0 ≤ met ∧ met < 14) ∧ (∀ (f26 : fw_W), (((fw_g f26 366 (2 + 3 * met)) = (-2 : Int) ∧ (fw_g f26 366 (3 + 3 * met)) = (0 : Int) ∧ (fw_g f26 366 (4 + 3 * met)) = (1 : Int) ∧ ∀ i, 0 ≤ i → i ≠ 2 + 3 * met → i ≠ 3 + 3 * met → i ≠ 4 + 3 * met → (fw_g f26 366 i) = (fw_g f 366 i))) → -2147483648 ≤ met + (1 : Int) ∧ met + (1 : Int) ≤ 2147483647 ∧ (jf fw_T (d + 2) 291 9 [(0, .inr (.inl 352)), (1, .inl n), (2, .inl (met + (1 : Int)))] [] (fw_put [366] 352 [] (fw_put [366, 371] 352 [] W f) f26) Post))))) ∧ (met < n → ((met ≤ 0 → ((n ≤ met → (0 ≤ met ∧ met < 14) ∧ (∀ (f27 : fw_W), (((fw_g f27 366 (2 + 3 * met)) = (-2 : Int) ∧ (fw_g f27 366 (3 + 3 * met)) = (0 : Int) ∧ (fw_g f27 366 (4 + 3 * met)) = (0 : Int) ∧ ∀ i, 0 ≤ i → i ≠ 2 + 3 * met → i ≠ 3 + 3 * met → i ≠ 4 + 3 * met → (fw_g f27 366 i) = (fw_g f 366 i))) → -2147483648 ≤ met + (1 : Int) ∧ met + (1 : Int) ≤ 2147483647 ∧ (jf fw_T (d + 2) 291 9 [(0, .inr (.inl 352)), (1, .inl n), (2, .inl (met + (1 : Int)))] [] (fw_put [366] 352 [] (fw_put [366, 371] 352 [] W f) f27) Post))) ∧ (met < n → (0 ≤ met ∧ met < 14) ∧ (∀ (f28 : fw_W), (((fw_g f28 366 (2 + 3 * met)) = (-2 : Int) ∧ (fw_g f28 366 (3 + 3 * met)) = (0 : Int) ∧ (fw_g f28 366 (4 + 3 * met)) = (1 : Int) ∧ ∀ i, 0 ≤ i → i ≠ 2 + 3 * met → i ≠ 3 + 3 * met → i ≠ 4 + 3 * met → (fw_g f28 366 i) = (fw_g f 366 i))) → -2147483648 ≤ met + (1 : Int) ∧ met + (1 : Int) ≤ 2147483647 ∧ (jf fw_T (d + 2) 291 9 [(0, .inr (.inl 352)), (1, .inl n), (2, .inl (met + (1 : Int)))] [] (fw_put [366] 352 [] (fw_put [366, 371] 352 [] W f) f28) Post))))) ∧ (0 < met → ((n ≤ met → (0 ≤ met ∧ met < 14) ∧ (∀ (f29 : fw_W), (((fw_g f29 366 (2 + 3 * met)) = (-2 : Int) ∧ (fw_g f29 366 (3 + 3 * met)) = (1 : Int) ∧ (fw_g f29 366 (4 + 3 * met)) = (0 : Int) ∧ ∀ i, 0 ≤ i → i ≠ 2 + 3 * met → i ≠ 3 + 3 * met → i ≠ 4 + 3 * met → (fw_g f29 366 i) = (fw_g f 366 i))) → -2147483648 ≤ met + (1 : Int) ∧ met + (1 : Int) ≤ 2147483647 ∧ (jf fw_T (d + 2) 291 9 [(0, .inr (.inl 352)), (1, .inl n), (2, .inl (met + (1 : Int)))] [] (fw_put [366] 352 [] (fw_put [366, 371] 352 [] W f) f29) Post))) ∧ (met < n → (0 ≤ met ∧ met < 14) ∧ (∀ (f30 : fw_W), (((fw_g f30 366 (2 + 3 * met)) = (-2 : Int) ∧ (fw_g f30 366 (3 + 3 * met)) = (1 : Int) ∧ (fw_g f30 366 (4 + 3 * met)) = (1 : Int) ∧ ∀ i, 0 ≤ i → i ≠ 2 + 3 * met → i ≠ 3 + 3 * met → i ≠ 4 + 3 * met → (fw_g f30 366 i) = (fw_g f 366 i))) → -2147483648 ≤ met + (1 : Int) ∧ met + (1 : Int) ≤ 2147483647 ∧ (jf fw_T (d + 2) 291 9 [(0, .inr (.inl 352)), (1, .inl n), (2, .inl (met + (1 : Int)))] [] (fw_put [366] 352 [] (fw_put [366, 371] 352 [] W f) f30) Post))))))))))))))) :
    jf fw_T (d + 2) 291 9 [(0, .inr (.inl 352)), (1, .inl n), (2, .inl met)] [] (fw_put [366, 371] 352 [] W f) Post := fw_ok (n := 30) (ss := [(9, [0, 1, 2]), (84, [0, 1, 2, 3]), (92, [0, 1, 2, 3, 4])]) (hv := []) fr_291_ok fm_ok (ct_hangAll_ok d) hw_

theorem lm_hangAll_92 {Post : Option fw_V → fw_W → Prop} {d : Nat} {W : fw_W} {n : Int} (hpre : 2 ≤ n ∧ n ≤ 14 ∧ gc_ok n (fun a_ b_ => (fw_g W 389 (14 * a_ + b_)))) (hP : ∀ (W2 : fw_W), fw_sm [366, 371] 352 [] W W2 → ((fw_g W2 366 0) = n ∧ (fw_g W2 366 1) = (fw_g W 366 1) ∧ tr n (fun z_ => (fw_g W2 366 (2 + 3 * z_))) ∧ ∀ x_, 1 ≤ x_ → x_ < n → (fw_g W2 366 (3 + 3 * x_)) = 1) → Post none W2) (M84 : Int) (h84 : ∀ (met i : Int) (f : fw_W), ((0 ≤ i ∧ i ≤ met ∧ (fw_g f 366 0) = n ∧ (fw_g f 366 1) = fw_g W 366 1) ∧ (∀ x_, 1 ≤ x_ → x_ < n → (fw_g f 366 (3 + 3 * x_)) = 1) ∧ hb_ok n (fun a_ b_ => (fw_g W 389 (14 * a_ + b_))) (fun z_ => (fw_g f 366 (2 + 3 * z_))) (fun z_ => (fw_g f 371 z_)) met i 1) → (n - i) < M84 → jf fw_T (d + 2) 291 84 [(0, .inr (.inl 352)), (1, .inl n), (2, .inl met), (3, .inl i)] [] (fw_put [366, 371] 352 [] W f) Post) : ∀ (m : Nat) (met i k : Int) (f : fw_W), (n - k).toNat = m → ((1 ≤ k ∧ k ≤ n ∧ 0 ≤ i ∧ i < met ∧ (fw_g f 366 0) = n ∧ (fw_g f 366 1) = fw_g W 366 1) ∧ (∀ x_, 1 ≤ x_ → x_ < n → (fw_g f 366 (3 + 3 * x_)) = 1) ∧ hb_ok n (fun a_ b_ => (fw_g W 389 (14 * a_ + b_))) (fun z_ => (fw_g f 366 (2 + 3 * z_))) (fun z_ => (fw_g f 371 z_)) met i k) → (n - i) ≤ M84 → jf fw_T (d + 2) 291 92 [(0, .inr (.inl 352)), (1, .inl n), (2, .inl met), (3, .inl i), (4, .inl k)] [] (fw_put [366, 371] 352 [] W f) Post := by
  intro m
  induction m using Nat.strongRecOn with
  | ind m ih =>
    intro met i k f hm hi e84
    refine jf_rng (fun hrg => ?_)
    have hrg : -2147483648 ≤ n ∧ n ≤ 2147483647 ∧ -2147483648 ≤ met ∧ met ≤ 2147483647 ∧ -2147483648 ≤ i ∧ i ≤ 2147483647 ∧ -2147483648 ≤ k ∧ k ≤ 2147483647 ∧ True := hrg
    refine s_hangAll_92 ?_
    have hi1 := hi.1
    have hm := hb_le hi.2.2
    have hod : 0 ≤ (fw_g f 371 i) ∧ (fw_g f 371 i) < n := ⟨(hi.2.2.2.2.2.2.1 i (by omega) (by omega)).1, (hi.2.2.2.2.2.2.1 i (by omega) (by omega)).2.1⟩
    have hrm : k < n → (fw_g f 366 (2 + 3 * k)) = -2 → met < n := fun z z2 => hb_room hi.2.2 (by omega) z z2
    repeat' (first
      | (exact True.intro)
      | (exact hpre.1)
      | (refine And.intro ?_ ?_)
      | (refine (h84 _ _ _ ?_ (by omega)); (exact ⟨by omega, hi.2.1, hb_next hi.2.2 (by omega)⟩))
      | (refine jf_put (S := [366, 371]) (o := 352) (F := []) (W := W) (by repeat (first | exact fw_sm_refl | exact fw_sm_put0 | refine fw_sm_arr ?_ rfl | refine fw_sm_up ?_ rfl | refine fw_sm_put ?_ rfl | refine fw_sm_cp ?_ rfl)) (h84 _ _ _ ?_ (by omega)); (exact ⟨by omega, hi.2.1, hb_next hi.2.2 (by omega)⟩))
      | (refine (ih _ (by omega) _ _ _ _ rfl ?_ (by omega)); (
        first
          | exact ⟨by omega, hi.2.1, hb_skip hi.2.2 (by show ¬ ((fw_g W 389 (14 * (fw_g f 371 i) + k)) ≠ 0 ∧ (fw_g f 366 (2 + 3 * k)) = -2); omega)⟩
          | (refine ⟨⟨by omega, by omega, by omega, by omega, ?_, ?_⟩, fun x x1 x2 => ?_, hb_take hi.2.2 (by omega) (by omega) (by omega) (by omega) (by show (fw_g f 366 (2 + 3 * k)) = -2; omega) (fun x x1 x2 => ?_) (fun x x1 x2 => ?_)⟩
             · rw [fg_up rfl, fg_if (by omega) (by omega) (by omega) (by omega), if_neg (by omega)]; exact hi1.2.2.2.2.1
             · rw [fg_up rfl, fg_if (by omega) (by omega) (by omega) (by omega), if_neg (by omega)]; exact hi1.2.2.2.2.2
             · rw [fg_up rfl, fg_if (by omega) (by omega) (by omega) (by omega), if_neg (by omega)]; exact hi.2.1 x x1 x2
             · show fw_g _ 366 (2 + 3 * x) = if k = x then (fw_g f 371 i) else (fw_g f 366 (2 + 3 * x))
               rw [fg_up rfl, fg_if (by omega) (by omega) (by omega) (by omega)]
               by_cases c : k = x
               · rw [if_pos c, if_pos (by omega)]
               · rw [if_neg c, if_neg (by omega)]; rfl
             · show fw_g _ 371 x = if met = x then k else (fw_g f 371 x)
               rw [fg_if (by omega) (by omega) (by omega) (by omega), fg_up rfl]; rfl)))
      | (refine jf_put (S := [366, 371]) (o := 352) (F := []) (W := W) (by repeat (first | exact fw_sm_refl | exact fw_sm_put0 | refine fw_sm_arr ?_ rfl | refine fw_sm_up ?_ rfl | refine fw_sm_put ?_ rfl | refine fw_sm_cp ?_ rfl)) (ih _ (by omega) _ _ _ _ rfl ?_ (by omega)); (
        first
          | exact ⟨by omega, hi.2.1, hb_skip hi.2.2 (by show ¬ ((fw_g W 389 (14 * (fw_g f 371 i) + k)) ≠ 0 ∧ (fw_g f 366 (2 + 3 * k)) = -2); omega)⟩
          | (refine ⟨⟨by omega, by omega, by omega, by omega, ?_, ?_⟩, fun x x1 x2 => ?_, hb_take hi.2.2 (by omega) (by omega) (by omega) (by omega) (by show (fw_g f 366 (2 + 3 * k)) = -2; omega) (fun x x1 x2 => ?_) (fun x x1 x2 => ?_)⟩
             · rw [fg_up rfl, fg_if (by omega) (by omega) (by omega) (by omega), if_neg (by omega)]; exact hi1.2.2.2.2.1
             · rw [fg_up rfl, fg_if (by omega) (by omega) (by omega) (by omega), if_neg (by omega)]; exact hi1.2.2.2.2.2
             · rw [fg_up rfl, fg_if (by omega) (by omega) (by omega) (by omega), if_neg (by omega)]; exact hi.2.1 x x1 x2
             · show fw_g _ 366 (2 + 3 * x) = if k = x then (fw_g f 371 i) else (fw_g f 366 (2 + 3 * x))
               rw [fg_up rfl, fg_if (by omega) (by omega) (by omega) (by omega)]
               by_cases c : k = x
               · rw [if_pos c, if_pos (by omega)]
               · rw [if_neg c, if_neg (by omega)]; rfl
             · show fw_g _ 371 x = if met = x then k else (fw_g f 371 x)
               rw [fg_if (by omega) (by omega) (by omega) (by omega), fg_up rfl]; rfl)))
      | (refine hP _ (by repeat (first | exact fw_sm_refl | exact fw_sm_put0 | refine fw_sm_arr ?_ rfl | refine fw_sm_up ?_ rfl | refine fw_sm_put ?_ rfl | refine fw_sm_cp ?_ rfl)) ?_; (
        exact ⟨hi1.2.2.1, hi1.2.2.2, hb_end hi.2.2 (by omega) hpre.2.2 (by omega), hi.2.1⟩))
      | omega
      | (intro _))
theorem lm_hangAll_84 {Post : Option fw_V → fw_W → Prop} {d : Nat} {W : fw_W} {n : Int} (hpre : 2 ≤ n ∧ n ≤ 14 ∧ gc_ok n (fun a_ b_ => (fw_g W 389 (14 * a_ + b_)))) (hP : ∀ (W2 : fw_W), fw_sm [366, 371] 352 [] W W2 → ((fw_g W2 366 0) = n ∧ (fw_g W2 366 1) = (fw_g W 366 1) ∧ tr n (fun z_ => (fw_g W2 366 (2 + 3 * z_))) ∧ ∀ x_, 1 ≤ x_ → x_ < n → (fw_g W2 366 (3 + 3 * x_)) = 1) → Post none W2)  : ∀ (m : Nat) (met i : Int) (f : fw_W), (n - i).toNat = m → ((0 ≤ i ∧ i ≤ met ∧ (fw_g f 366 0) = n ∧ (fw_g f 366 1) = fw_g W 366 1) ∧ (∀ x_, 1 ≤ x_ → x_ < n → (fw_g f 366 (3 + 3 * x_)) = 1) ∧ hb_ok n (fun a_ b_ => (fw_g W 389 (14 * a_ + b_))) (fun z_ => (fw_g f 366 (2 + 3 * z_))) (fun z_ => (fw_g f 371 z_)) met i 1) → jf fw_T (d + 2) 291 84 [(0, .inr (.inl 352)), (1, .inl n), (2, .inl met), (3, .inl i)] [] (fw_put [366, 371] 352 [] W f) Post := by
  intro m
  induction m using Nat.strongRecOn with
  | ind m ih =>
    intro met i f hm hi
    refine jf_rng (fun hrg => ?_)
    have hrg : -2147483648 ≤ n ∧ n ≤ 2147483647 ∧ -2147483648 ≤ met ∧ met ≤ 2147483647 ∧ -2147483648 ≤ i ∧ i ≤ 2147483647 ∧ True := hrg
    refine s_hangAll_84 ?_
    have hi1 := hi.1
    have hm := hb_le hi.2.2
    repeat' (first
      | (exact True.intro)
      | (exact hpre.1)
      | (refine And.intro ?_ ?_)
      | (refine (ih _ (by omega) _ _ _ rfl ?_); (first | omega | trivial | (simp (config := { decide := true }) only [fg_in, fg_fin, fg_out, fg_fout, fg_up, fg_same, true_and, and_true] <;> omega)))
      | (refine jf_put (S := [366, 371]) (o := 352) (F := []) (W := W) (by repeat (first | exact fw_sm_refl | exact fw_sm_put0 | refine fw_sm_arr ?_ rfl | refine fw_sm_up ?_ rfl | refine fw_sm_put ?_ rfl | refine fw_sm_cp ?_ rfl)) (ih _ (by omega) _ _ _ rfl ?_); (first | omega | trivial | (simp (config := { decide := true }) only [fg_in, fg_fin, fg_out, fg_fout, fg_up, fg_same, true_and, and_true] <;> omega)))
      | (refine (lm_hangAll_92 (n := n) hpre hP (n - i) (fun a0 a1 af hi hl => ih _ (by omega) a0 a1 af rfl hi) _ _ _ _ _ rfl ?_ (by omega)); (exact ⟨by omega, hi.2.1, hi.2.2⟩))
      | (refine jf_put (S := [366, 371]) (o := 352) (F := []) (W := W) (by repeat (first | exact fw_sm_refl | exact fw_sm_put0 | refine fw_sm_arr ?_ rfl | refine fw_sm_up ?_ rfl | refine fw_sm_put ?_ rfl | refine fw_sm_cp ?_ rfl)) (lm_hangAll_92 (n := n) hpre hP (n - i) (fun a0 a1 af hi hl => ih _ (by omega) a0 a1 af rfl hi) _ _ _ _ _ rfl ?_ (by omega)); (exact ⟨by omega, hi.2.1, hi.2.2⟩))
      | (refine hP _ (by repeat (first | exact fw_sm_refl | exact fw_sm_put0 | refine fw_sm_arr ?_ rfl | refine fw_sm_up ?_ rfl | refine fw_sm_put ?_ rfl | refine fw_sm_cp ?_ rfl)) ?_; (
        exact ⟨hi1.2.2.1, hi1.2.2.2, hb_end hi.2.2 (by omega) hpre.2.2 (by omega), hi.2.1⟩))
      | omega
      | (intro _))
theorem lm_hangAll_9 {Post : Option fw_V → fw_W → Prop} {d : Nat} {W : fw_W} {n : Int} (hpre : 2 ≤ n ∧ n ≤ 14 ∧ gc_ok n (fun a_ b_ => (fw_g W 389 (14 * a_ + b_)))) (hP : ∀ (W2 : fw_W), fw_sm [366, 371] 352 [] W W2 → ((fw_g W2 366 0) = n ∧ (fw_g W2 366 1) = (fw_g W 366 1) ∧ tr n (fun z_ => (fw_g W2 366 (2 + 3 * z_))) ∧ ∀ x_, 1 ≤ x_ → x_ < n → (fw_g W2 366 (3 + 3 * x_)) = 1) → Post none W2)  : ∀ (m : Nat) (met : Int) (f : fw_W), (14 - met).toNat = m → ((0 ≤ met ∧ (fw_g f 366 0) = n ∧ (fw_g f 366 1) = fw_g W 366 1) ∧ (∀ x_, 0 ≤ x_ → x_ < met → x_ < n → (x_ = 0 → (fw_g f 366 (2 + 3 * x_)) = -1) ∧ (1 ≤ x_ → (fw_g f 366 (2 + 3 * x_)) = -2 ∧ (fw_g f 366 (3 + 3 * x_)) = 1))) → jf fw_T (d + 2) 291 9 [(0, .inr (.inl 352)), (1, .inl n), (2, .inl met)] [] (fw_put [366, 371] 352 [] W f) Post := by
  intro m
  induction m using Nat.strongRecOn with
  | ind m ih =>
    intro met f hm hi
    refine jf_rng (fun hrg => ?_)
    have hrg : -2147483648 ≤ n ∧ n ≤ 2147483647 ∧ -2147483648 ≤ met ∧ met ≤ 2147483647 ∧ True := hrg
    refine s_hangAll_9 ?_
    have hi1 := hi.1
    repeat' (first
      | (exact True.intro)
      | (exact hpre.1)
      | (refine And.intro ?_ ?_)
      | (refine (ih _ (by omega) _ _ rfl ?_); (
        rename_i f2 hf2
        obtain ⟨q1, q2, q3, q4⟩ := hf2
        refine ⟨⟨by omega, ?_, ?_⟩, fun x x1 x2 x3 => ?_⟩
        · exact (q4 0 (by omega) (by omega) (by omega) (by omega)).trans hi1.2.1
        · exact (q4 1 (by omega) (by omega) (by omega) (by omega)).trans hi1.2.2
        · by_cases e : x = met
          · subst e
            exact ⟨fun z => (by first | omega | exact q1), fun z => (by first | omega | exact ⟨q1, q2⟩)⟩
          · have r1 := q4 (2 + 3 * x) (by omega) (by omega) (by omega) (by omega)
            have r2 := q4 (3 + 3 * x) (by omega) (by omega) (by omega) (by omega)
            have r3 := hi.2 x x1 (by omega) x3
            exact ⟨fun z => r1.trans (r3.1 z), fun z => ⟨r1.trans (r3.2 z).1, r2.trans (r3.2 z).2⟩⟩))
      | (refine jf_put (S := [366, 371]) (o := 352) (F := []) (W := W) (by repeat (first | exact fw_sm_refl | exact fw_sm_put0 | refine fw_sm_arr ?_ rfl | refine fw_sm_up ?_ rfl | refine fw_sm_put ?_ rfl | refine fw_sm_cp ?_ rfl)) (ih _ (by omega) _ _ rfl ?_); (
        rename_i f2 hf2
        obtain ⟨q1, q2, q3, q4⟩ := hf2
        refine ⟨⟨by omega, ?_, ?_⟩, fun x x1 x2 x3 => ?_⟩
        · exact (q4 0 (by omega) (by omega) (by omega) (by omega)).trans hi1.2.1
        · exact (q4 1 (by omega) (by omega) (by omega) (by omega)).trans hi1.2.2
        · by_cases e : x = met
          · subst e
            exact ⟨fun z => (by first | omega | exact q1), fun z => (by first | omega | exact ⟨q1, q2⟩)⟩
          · have r1 := q4 (2 + 3 * x) (by omega) (by omega) (by omega) (by omega)
            have r2 := q4 (3 + 3 * x) (by omega) (by omega) (by omega) (by omega)
            have r3 := hi.2 x x1 (by omega) x3
            exact ⟨fun z => r1.trans (r3.1 z), fun z => ⟨r1.trans (r3.2 z).1, r2.trans (r3.2 z).2⟩⟩))
      | (refine (lm_hangAll_84 (n := n) hpre hP _ _ _ _ rfl ?_); (
        refine ⟨⟨by omega, by omega, ?_, ?_⟩, fun x x1 x2 => ?_, hb_init (by omega) ?_ (fun x x1 x2 => ?_) ?_⟩
        · rw [fg_up rfl]; exact hi1.2.1
        · rw [fg_up rfl]; exact hi1.2.2
        · rw [fg_up rfl]; exact ((hi.2 x (by omega) (by omega) x2).2 x1).2
        · show fw_g _ 366 (2 + 3 * 0) = -1
          rw [fg_up rfl]; exact (hi.2 0 (by omega) (by omega) (by omega)).1 rfl
        · show fw_g _ 366 (2 + 3 * x) = -2
          rw [fg_up rfl]; exact ((hi.2 x (by omega) (by omega) x2).2 x1).1
        · exact fg_same (by omega) (by omega)))
      | (refine jf_put (S := [366, 371]) (o := 352) (F := []) (W := W) (by repeat (first | exact fw_sm_refl | exact fw_sm_put0 | refine fw_sm_arr ?_ rfl | refine fw_sm_up ?_ rfl | refine fw_sm_put ?_ rfl | refine fw_sm_cp ?_ rfl)) (lm_hangAll_84 (n := n) hpre hP _ _ _ _ rfl ?_); (
        refine ⟨⟨by omega, by omega, ?_, ?_⟩, fun x x1 x2 => ?_, hb_init (by omega) ?_ (fun x x1 x2 => ?_) ?_⟩
        · rw [fg_up rfl]; exact hi1.2.1
        · rw [fg_up rfl]; exact hi1.2.2
        · rw [fg_up rfl]; exact ((hi.2 x (by omega) (by omega) x2).2 x1).2
        · show fw_g _ 366 (2 + 3 * 0) = -1
          rw [fg_up rfl]; exact (hi.2 0 (by omega) (by omega) (by omega)).1 rfl
        · show fw_g _ 366 (2 + 3 * x) = -2
          rw [fg_up rfl]; exact ((hi.2 x (by omega) (by omega) x2).2 x1).1
        · exact fg_same (by omega) (by omega)))
      | (refine hP _ (by repeat (first | exact fw_sm_refl | exact fw_sm_put0 | refine fw_sm_arr ?_ rfl | refine fw_sm_up ?_ rfl | refine fw_sm_put ?_ rfl | refine fw_sm_cp ?_ rfl)) ?_; (
        exact ⟨hi1.2.2.1, hi1.2.2.2, hb_end hi.2.2 (by omega) hpre.2.2 (by omega), hi.2.1⟩))
      | omega
      | (intro _))
def x_hangAll : fw_X := fun as W Q => match as with
  | [.inr (.inl s_), .inl n] => fw_if (Nat.beq s_ 352) ((2 ≤ n ∧ n ≤ 14 ∧ gc_ok n (fun a_ b_ => (fw_g W 389 (14 * a_ + b_)))) ∧ (∀ (f : fw_W), ((fw_g f 366 0) = n ∧ (fw_g f 366 1) = (fw_g W 366 1) ∧ tr n (fun z_ => (fw_g f 366 (2 + 3 * z_))) ∧ ∀ x_, 1 ≤ x_ → x_ < n → (fw_g f 366 (3 + 3 * x_)) = 1) → Q none (fw_put [366, 371] 352 [] W f)))
  | _ => False
theorem x_hangAll_ok (d : Nat) (as : List fw_V) (W : fw_W) (Q : Option fw_V → fw_W → Prop) (hx : x_hangAll as W Q) : jf fw_T (d + 2) 291 0 (fw_args 0 as) [] W Q := by
  unfold x_hangAll at hx
  split at hx
  · rename_i s_ n
    obtain ⟨e_, hpre, hQ⟩ := fw_if_ok hx
    have e_ := Nat.eq_of_beq_eq_true e_
    subst e_
    have hP : ∀ (W2 : fw_W), fw_sm [366, 371] 352 [] W W2 → _ → Q none W2 := fun W2 hs hr => fw_sm_use (Q := fun Z => Q none Z) hs (hQ W2 hr)
    refine s_hangAll_0 ?_
    repeat' (first
      | (exact True.intro)
      | (exact hpre.1)
      | (refine And.intro ?_ ?_)
      | (refine jf_put (S := [366, 371]) (o := 352) (F := []) (W := W) (by repeat (first | exact fw_sm_refl | exact fw_sm_put0 | refine fw_sm_arr ?_ rfl | refine fw_sm_up ?_ rfl | refine fw_sm_put ?_ rfl | refine fw_sm_cp ?_ rfl)) (lm_hangAll_9 (n := n) hpre hP _ _ _ rfl ?_); (
        refine ⟨⟨by omega, ?_, ?_⟩, fun x x1 x2 => by omega⟩
        · exact fg_same (by omega) (by omega)
        · exact fg_lit rfl))
      | (refine jf_put (S := [366, 371]) (o := 352) (F := []) (W := W) (by repeat (first | exact fw_sm_refl | exact fw_sm_put0 | refine fw_sm_arr ?_ rfl | refine fw_sm_up ?_ rfl | refine fw_sm_put ?_ rfl | refine fw_sm_cp ?_ rfl)) (lm_hangAll_84 (n := n) hpre hP _ _ _ _ rfl ?_); (first | omega | trivial | (simp (config := { decide := true }) only [fg_in, fg_fin, fg_out, fg_fout, fg_up, fg_same, true_and, and_true] <;> omega)))
      | (refine jf_put (S := [366, 371]) (o := 352) (F := []) (W := W) (by repeat (first | exact fw_sm_refl | exact fw_sm_put0 | refine fw_sm_arr ?_ rfl | refine fw_sm_up ?_ rfl | refine fw_sm_put ?_ rfl | refine fw_sm_cp ?_ rfl)) (lm_hangAll_92 (n := n) hpre hP M84 h84 _ _ _ _ _ rfl ?_ (by omega)); (first | omega | trivial | (simp (config := { decide := true }) only [fg_in, fg_fin, fg_out, fg_fout, fg_up, fg_same, true_and, and_true] <;> omega)))
      | (refine hP _ (by repeat (first | exact fw_sm_refl | exact fw_sm_put0 | refine fw_sm_arr ?_ rfl | refine fw_sm_up ?_ rfl | refine fw_sm_put ?_ rfl | refine fw_sm_cp ?_ rfl)) ?_; (
        exact ⟨hi1.2.2.1, hi1.2.2.2, hb_end hi.2.2 (by omega) hpre.2.2 (by omega), hi.2.1⟩))
      | omega
      | (intro _))
  · exact hx.elim

