/-! the reference, method by method -/
def fr_265 : fw_P := [(0, 2, 0, 0, 0), (1, 1, 1, 0, 0), (2, 64, 266, 1, 512), (5, 2, 0, 0, 0), (6, 64, 188, 0, 112), (9, 0, 0, 0, 1), (10, 31, 0, 0, 0), (11, 3, 3, 0, 0), (12, 1, 3, 0, 0), (13, 22, 220, 0, 0), (16, 2, 0, 0, 0), (17, 50, 12, 32, 0), (20, 1, 3, 0, 0), (21, 52, 0, 0, 0), (22, 3, 4, 0, 0), (24, 0, 0, 0, 0), (25, 3, 5, 0, 0), (27, 0, 0, 0, 0), (28, 3, 6, 0, 0), (30, 1, 6, 0, 0), (32, 2, 0, 0, 0), (33, 64, 188, 0, 112), (36, 13, 143, 0, 0), (39, 2, 0, 0, 0), (40, 50, 12, 34, 0), (43, 1, 6, 0, 0), (45, 52, 0, 0, 0), (46, 1, 4, 0, 0), (48, 10, 54, 0, 0), (51, 6, 137, 0, 0), (54, 2, 0, 0, 0), (55, 50, 12, 33, 0), (58, 1, 6, 0, 0), (60, 52, 0, 0, 0), (61, 1, 2, 0, 0), (62, 20, 76, 0, 0), (65, 2, 0, 0, 0), (66, 1, 4, 0, 0), (68, 1, 6, 0, 0), (70, 64, 267, 2, 312), (73, 6, 77, 0, 0), (76, 0, 0, 0, 1), (77, 30, 0, 0, 0), (78, 3, 7, 0, 0), (80, 1, 5, 0, 0), (82, 3, 8, 0, 0), (84, 1, 8, 0, 0), (86, 25, 125, 0, 0), (89, 2, 0, 0, 0), (90, 50, 12, 35, 0), (93, 1, 8, 0, 0), (95, 0, 0, 0, 1), (96, 31, 0, 0, 0), (97, 52, 0, 0, 0), (98, 1, 7, 0, 0), (100, 13, 125, 0, 0), (103, 2, 0, 0, 0), (104, 50, 12, 35, 0), (107, 1, 8, 0, 0), (109, 2, 0, 0, 0), (110, 50, 12, 35, 0), (113, 1, 8, 0, 0), (115, 0, 0, 0, 1), (116, 31, 0, 0, 0), (117, 52, 0, 0, 0), (118, 53, 0, 0, 0), (119, 5, 8, 0, -1), (122, 6, 84, 0, 0), (125, 2, 0, 0, 0), (126, 50, 12, 35, 0), (129, 1, 8, 0, 0), (131, 1, 7, 0, 0), (133, 53, 0, 0, 0), (134, 5, 5, 0, 1), (137, 5, 6, 0, 1), (140, 6, 30, 0, 0), (143, 2, 0, 0, 0), (144, 50, 12, 33, 0), (147, 1, 4, 0, 0), (149, 0, 0, 0, 0), (150, 53, 0, 0, 0), (151, 0, 0, 0, 0), (152, 3, 6, 0, 0), (154, 1, 6, 0, 0), (156, 1, 5, 0, 0), (158, 13, 214, 0, 0), (161, 2, 0, 0, 0), (162, 50, 12, 33, 0), (165, 1, 4, 0, 0), (167, 2, 0, 0, 0), (168, 50, 12, 35, 0), (171, 1, 6, 0, 0), (173, 52, 0, 0, 0), (174, 1, 6, 0, 0), (176, 30, 0, 0, 0), (177, 2, 0, 0, 0), (178, 50, 12, 33, 0), (181, 1, 4, 0, 0), (183, 52, 0, 0, 0), (184, 15, 200, 0, 0), (187, 2, 0, 0, 0), (188, 50, 12, 35, 0), (191, 1, 6, 0, 0), (193, 52, 0, 0, 0), (194, 1, 6, 0, 0), (196, 30, 0, 0, 0), (197, 6, 207, 0, 0), (200, 2, 0, 0, 0), (201, 50, 12, 33, 0), (204, 1, 4, 0, 0), (206, 52, 0, 0, 0), (207, 53, 0, 0, 0), (208, 5, 6, 0, 1), (211, 6, 154, 0, 0), (214, 5, 3, 0, -1), (217, 6, 12, 0, 0), (220, 2, 0, 0, 0), (221, 50, 12, 33, 0), (224, 1, 1, 0, 0), (225, 52, 0, 0, 0), (226, 70, 0, 0, 0)]
theorem fr_265_ok : fw_mk 265 9 12 (some .int) fr_265 = true := by decide +kernel
def ct_newsFrom : List (Nat × fw_X) := [(266, x_layOrder), (267, x_lengthOf), (188, x_many)]
theorem ct_newsFrom_ok (d : Nat) : fw_cok fw_T (d + 3) ct_newsFrom := by
  intro q hq as W Q h
  simp only [ct_newsFrom, List.mem_cons, List.not_mem_nil, or_false] at hq
  rcases hq with rfl | rfl | rfl
  · exact jc_of (x_layOrder_ok (d + 0) as W Q h)
  · exact jc_of (x_lengthOf_ok (d + 1) as W Q h)
  · exact jc_of (x_many_ok (d + 2) as W Q h)
theorem s_newsFrom_0 {Post : Option fw_V → fw_W → Prop} {d : Nat} {W : fw_W} {frm by_ : Int}
    (hw_ : (mt W ∧ 0 ≤ (fw_g W 366 0) ∧ (fw_g W 366 0) ≤ 14 ∧ 0 ≤ frm ∧ frm < (fw_g W 366 0)) ∧ (∀ (f1 : fw_W), (((∃ η : Int → Int, ∀ x, 0 ≤ x → x < (fw_g W 366 0) → 0 ≤ η x ∧ (x ≠ frm → 0 ≤ (fw_g f1 373 x) ∧ (fw_g f1 373 x) < (fw_g W 366 0) ∧ η x = η ((fw_g f1 373 x)) + 1)) ∧ (fw_g f1 373 frm) = -1 ∧ (∀ i, 0 ≤ i → i < (fw_g W 366 0) → 0 ≤ (fw_g f1 371 i) ∧ (fw_g f1 371 i) < (fw_g W 366 0)) ∧ (∀ i j, 0 ≤ i → i < j → j < (fw_g W 366 0) → (fw_g f1 371 i) ≠ (fw_g f1 371 j)))) → (True) ∧ (-2147483648 ≤ (fw_g W 366 0) - (1 : Int) ∧ (fw_g W 366 0) - (1 : Int) ≤ 2147483647 ∧ (jf fw_T (d + 4) 265 12 [(0, .inr (.inl 352)), (1, .inl frm), (2, .inl by_), (3, .inl ((fw_g W 366 0) - (1 : Int)))] [] (fw_put [371, 373] 352 [] W f1) Post)))) :
    jf fw_T (d + 4) 265 0 [(0, .inr (.inl 352)), (1, .inl frm), (2, .inl by_)] [] W Post := fw_ok (n := 9) (ss := [(12, [0, 1, 2, 3]), (30, [0, 1, 2, 3, 4, 5, 6]), (84, [0, 1, 2, 3, 4, 5, 6, 7, 8]), (154, [0, 1, 2, 3, 4, 5, 6])]) (hv := [77, 176, 196]) fr_265_ok fm_ok (ct_newsFrom_ok d) hw_

theorem s_newsFrom_84 {Post : Option fw_V → fw_W → Prop} {d : Nat} {W : fw_W} {frm by_ i h n k its j : Int} {f : fw_W}
    (hw_ : ((j ≤ 0 → 0 ≤ j ∧ j < 14 ∧ -2147483648 ≤ its ∧ its ≤ 2147483647 ∧ (-2147483648 ≤ n + (1 : Int) ∧ n + (1 : Int) ≤ 2147483647 ∧ (-2147483648 ≤ k + (1 : Int) ∧ k + (1 : Int) ≤ 2147483647 ∧ (jf fw_T (d + 4) 265 30 [(0, .inr (.inl 352)), (1, .inl frm), (2, .inl by_), (3, .inl i), (4, .inl h), (5, .inl (n + (1 : Int))), (6, .inl (k + (1 : Int)))] [] (fw_up (fw_put [371, 373, 372, 374] 352 [] W f) 374 j its) Post)))) ∧ (0 < j → -2147483648 ≤ j - (1 : Int) ∧ j - (1 : Int) ≤ 2147483647 ∧ (0 ≤ (j - (1 : Int)) ∧ (j - (1 : Int)) < 14 ∧ (-2147483648 ≤ (fw_g f 374 (j - (1 : Int))) → (fw_g f 374 (j - (1 : Int))) ≤ 2147483647 → ((its ≤ (fw_g f 374 (j - (1 : Int))) → 0 ≤ j ∧ j < 14 ∧ -2147483648 ≤ its ∧ its ≤ 2147483647 ∧ (-2147483648 ≤ n + (1 : Int) ∧ n + (1 : Int) ≤ 2147483647 ∧ (-2147483648 ≤ k + (1 : Int) ∧ k + (1 : Int) ≤ 2147483647 ∧ (jf fw_T (d + 4) 265 30 [(0, .inr (.inl 352)), (1, .inl frm), (2, .inl by_), (3, .inl i), (4, .inl h), (5, .inl (n + (1 : Int))), (6, .inl (k + (1 : Int)))] [] (fw_up (fw_put [371, 373, 372, 374] 352 [] W f) 374 j its) Post)))) ∧ ((fw_g f 374 (j - (1 : Int))) < its → -2147483648 ≤ j - (1 : Int) ∧ j - (1 : Int) ≤ 2147483647 ∧ (0 ≤ (j - (1 : Int)) ∧ (j - (1 : Int)) < 14 ∧ (-2147483648 ≤ (fw_g f 374 (j - (1 : Int))) → (fw_g f 374 (j - (1 : Int))) ≤ 2147483647 → 0 ≤ j ∧ j < 14 ∧ -2147483648 ≤ (fw_g f 374 (j - (1 : Int))) ∧ (fw_g f 374 (j - (1 : Int))) ≤ 2147483647 ∧ (-2147483648 ≤ j + (-1 : Int) ∧ j + (-1 : Int) ≤ 2147483647 ∧ (jf fw_T (d + 4) 265 84 [(0, .inr (.inl 352)), (1, .inl frm), (2, .inl by_), (3, .inl i), (4, .inl h), (5, .inl n), (6, .inl k), (7, .inl its), (8, .inl (j + (-1 : Int)))] [] (fw_up (fw_put [371, 373, 372, 374] 352 [] W f) 374 j (fw_g f 374 (j - (1 : Int)))) Post))))))))))) :
    jf fw_T (d + 4) 265 84 [(0, .inr (.inl 352)), (1, .inl frm), (2, .inl by_), (3, .inl i), (4, .inl h), (5, .inl n), (6, .inl k), (7, .inl its), (8, .inl j)] [] (fw_put [371, 373, 372, 374] 352 [] W f) Post := fw_ok (n := 23) (ss := [(12, [0, 1, 2, 3]), (30, [0, 1, 2, 3, 4, 5, 6]), (84, [0, 1, 2, 3, 4, 5, 6, 7, 8]), (154, [0, 1, 2, 3, 4, 5, 6])]) (hv := [77, 176, 196]) fr_265_ok fm_ok (ct_newsFrom_ok d) hw_

theorem s_newsFrom_154 {Post : Option fw_V → fw_W → Prop} {d : Nat} {W : fw_W} {frm by_ i h n k : Int} {f : fw_W}
    (hw_ : ((n ≤ k → -2147483648 ≤ i + (-1 : Int) ∧ i + (-1 : Int) ≤ 2147483647 ∧ (jf fw_T (d + 4) 265 12 [(0, .inr (.inl 352)), (1, .inl frm), (2, .inl by_), (3, .inl (i + (-1 : Int)))] [] (fw_put [371, 373, 372, 374] 352 [] W f) Post)) ∧ (k < n → 0 ≤ k ∧ k < 14 ∧ (-2147483648 ≤ (fw_g f 374 k) → (fw_g f 374 k) ≤ 2147483647 → ∀ v1 : Int, -2147483648 ≤ v1 → v1 ≤ 2147483647 → 0 ≤ h ∧ h < 14 ∧ (-2147483648 ≤ (fw_g f 372 h) → (fw_g f 372 h) ≤ 2147483647 → ((v1 ≤ (fw_g f 372 h) → 0 ≤ h ∧ h < 14 ∧ (-2147483648 ≤ (fw_g f 372 h) → (fw_g f 372 h) ≤ 2147483647 → 0 ≤ h ∧ h < 14 ∧ -2147483648 ≤ (fw_g f 372 h) ∧ (fw_g f 372 h) ≤ 2147483647 ∧ (-2147483648 ≤ k + (1 : Int) ∧ k + (1 : Int) ≤ 2147483647 ∧ (jf fw_T (d + 4) 265 154 [(0, .inr (.inl 352)), (1, .inl frm), (2, .inl by_), (3, .inl i), (4, .inl h), (5, .inl n), (6, .inl (k + (1 : Int)))] [] (fw_up (fw_put [371, 373, 372, 374] 352 [] W f) 372 h (fw_g f 372 h)) Post)))) ∧ ((fw_g f 372 h) < v1 → 0 ≤ k ∧ k < 14 ∧ (-2147483648 ≤ (fw_g f 374 k) → (fw_g f 374 k) ≤ 2147483647 → ∀ v2 : Int, -2147483648 ≤ v2 → v2 ≤ 2147483647 → 0 ≤ h ∧ h < 14 ∧ -2147483648 ≤ v2 ∧ v2 ≤ 2147483647 ∧ (-2147483648 ≤ k + (1 : Int) ∧ k + (1 : Int) ≤ 2147483647 ∧ (jf fw_T (d + 4) 265 154 [(0, .inr (.inl 352)), (1, .inl frm), (2, .inl by_), (3, .inl i), (4, .inl h), (5, .inl n), (6, .inl (k + (1 : Int)))] [] (fw_up (fw_put [371, 373, 372, 374] 352 [] W f) 372 h v2) Post)))))))))) :
    jf fw_T (d + 4) 265 154 [(0, .inr (.inl 352)), (1, .inl frm), (2, .inl by_), (3, .inl i), (4, .inl h), (5, .inl n), (6, .inl k)] [] (fw_put [371, 373, 372, 374] 352 [] W f) Post := fw_ok (n := 28) (ss := [(12, [0, 1, 2, 3]), (30, [0, 1, 2, 3, 4, 5, 6]), (84, [0, 1, 2, 3, 4, 5, 6, 7, 8]), (154, [0, 1, 2, 3, 4, 5, 6])]) (hv := [77, 176, 196]) fr_265_ok fm_ok (ct_newsFrom_ok d) hw_

theorem s_newsFrom_30 {Post : Option fw_V → fw_W → Prop} {d : Nat} {W : fw_W} {frm by_ i h n k : Int} {f : fw_W}
    (hw_ : (True) ∧ ((((fw_g W 366 0) ≤ k → 0 ≤ h ∧ h < 14 ∧ -2147483648 ≤ (0 : Int) ∧ (0 : Int) ≤ 2147483647 ∧ (jf fw_T (d + 4) 265 154 [(0, .inr (.inl 352)), (1, .inl frm), (2, .inl by_), (3, .inl i), (4, .inl h), (5, .inl n), (6, .inl (0 : Int))] [] (fw_up (fw_put [371, 373, 372, 374] 352 [] W f) 372 h (0 : Int)) Post)) ∧ (k < (fw_g W 366 0) → 0 ≤ k ∧ k < 14 ∧ (-1 ≤ (fw_g f 373 k) → (fw_g f 373 k) ≤ 13 → (((fw_g f 373 k) = h → 0 ≤ k ∧ k < 14 ∧ (-2147483648 ≤ (fw_g f 372 k) → (fw_g f 372 k) ≤ 2147483647 → ((by_ = 0 → ∀ v1 : Int, -2147483648 ≤ v1 → v1 ≤ 2147483647 → jf fw_T (d + 4) 265 84 [(0, .inr (.inl 352)), (1, .inl frm), (2, .inl by_), (3, .inl i), (4, .inl h), (5, .inl n), (6, .inl k), (7, .inl v1), (8, .inl n)] [] (fw_put [371, 373, 372, 374] 352 [] W f) Post) ∧ (¬ by_ = 0 → (0 ≤ h ∧ h < 14 ∧ 0 ≤ k ∧ k < 14) ∧ (∀ (r2 : Int), ((-2147483648 ≤ r2 ∧ r2 ≤ 2147483647 ∧ (True))) → ∀ v3 : Int, -2147483648 ≤ v3 → v3 ≤ 2147483647 → jf fw_T (d + 4) 265 84 [(0, .inr (.inl 352)), (1, .inl frm), (2, .inl by_), (3, .inl i), (4, .inl h), (5, .inl n), (6, .inl k), (7, .inl v3), (8, .inl n)] [] (fw_put [371, 373, 372, 374] 352 [] W f) Post))))) ∧ (¬ (fw_g f 373 k) = h → -2147483648 ≤ k + (1 : Int) ∧ k + (1 : Int) ≤ 2147483647 ∧ (jf fw_T (d + 4) 265 30 [(0, .inr (.inl 352)), (1, .inl frm), (2, .inl by_), (3, .inl i), (4, .inl h), (5, .inl n), (6, .inl (k + (1 : Int)))] [] (fw_put [371, 373, 372, 374] 352 [] W f) Post)))))))) :
    jf fw_T (d + 4) 265 30 [(0, .inr (.inl 352)), (1, .inl frm), (2, .inl by_), (3, .inl i), (4, .inl h), (5, .inl n), (6, .inl k)] [] (fw_put [371, 373, 372, 374] 352 [] W f) Post := fw_ok (n := 26) (ss := [(12, [0, 1, 2, 3]), (30, [0, 1, 2, 3, 4, 5, 6]), (84, [0, 1, 2, 3, 4, 5, 6, 7, 8]), (154, [0, 1, 2, 3, 4, 5, 6])]) (hv := [77, 176, 196]) fr_265_ok fm_ok (ct_newsFrom_ok d) hw_

theorem s_newsFrom_12 {Post : Option fw_V → fw_W → Prop} {d : Nat} {W : fw_W} {frm by_ i : Int} {f : fw_W}
    (hw_ : ((i < 0 → 0 ≤ frm ∧ frm < 14 ∧ (-2147483648 ≤ (fw_g f 372 frm) → (fw_g f 372 frm) ≤ 2147483647 → (-2147483648 ≤ (fw_g f 372 frm) → (fw_g f 372 frm) ≤ 2147483647 → Post (some (.inl (fw_g f 372 frm))) (fw_put [371, 373, 372, 374] 352 [] W f)))) ∧ (0 ≤ i → 0 ≤ i ∧ i < 14 ∧ (0 ≤ (fw_g f 371 i) → (fw_g f 371 i) ≤ 13 → jf fw_T (d + 4) 265 30 [(0, .inr (.inl 352)), (1, .inl frm), (2, .inl by_), (3, .inl i), (4, .inl (fw_g f 371 i)), (5, .inl (0 : Int)), (6, .inl (0 : Int))] [] (fw_put [371, 373, 372, 374] 352 [] W f) Post)))) :
    jf fw_T (d + 4) 265 12 [(0, .inr (.inl 352)), (1, .inl frm), (2, .inl by_), (3, .inl i)] [] (fw_put [371, 373, 372, 374] 352 [] W f) Post := fw_ok (n := 12) (ss := [(12, [0, 1, 2, 3]), (30, [0, 1, 2, 3, 4, 5, 6]), (84, [0, 1, 2, 3, 4, 5, 6, 7, 8]), (154, [0, 1, 2, 3, 4, 5, 6])]) (hv := [77, 176, 196]) fr_265_ok fm_ok (ct_newsFrom_ok d) hw_

theorem lm_newsFrom_84 {Post : Option fw_V → fw_W → Prop} {d : Nat} {W : fw_W} {frm by_ : Int} (hpre : mt W ∧ 0 ≤ (fw_g W 366 0) ∧ (fw_g W 366 0) ≤ 14 ∧ 0 ≤ frm ∧ frm < (fw_g W 366 0)) (hP : ∀ (v : Int) (W2 : fw_W), fw_sm [371, 373, 372, 374] 352 [] W W2 → (-2147483648 ≤ v ∧ v ≤ 2147483647 ∧ (True)) → Post (some (.inl v)) W2) (M12 : Int) (h12 : ∀ (i : Int) (f : fw_W), -1 ≤ i ∧ i < (fw_g W 366 0) → (i - 0 + 1) < M12 → jf fw_T (d + 4) 265 12 [(0, .inr (.inl 352)), (1, .inl frm), (2, .inl by_), (3, .inl i)] [] (fw_put [371, 373, 372, 374] 352 [] W f) Post) (M30 : Int) (h30 : ∀ (i h n k : Int) (f : fw_W), 0 ≤ k ∧ 0 ≤ i ∧ i < (fw_g W 366 0) ∧ 0 ≤ h ∧ h ≤ 13 ∧ 0 ≤ n ∧ n ≤ k ∧ k ≤ (fw_g W 366 0) → ((fw_g W 366 0) - k) < M30 → (i - 0 + 1) ≤ M12 → jf fw_T (d + 4) 265 30 [(0, .inr (.inl 352)), (1, .inl frm), (2, .inl by_), (3, .inl i), (4, .inl h), (5, .inl n), (6, .inl k)] [] (fw_put [371, 373, 372, 374] 352 [] W f) Post) : ∀ (m : Nat) (i h n k its j : Int) (f : fw_W), (j).toNat = m → 0 ≤ i ∧ i < (fw_g W 366 0) ∧ 0 ≤ h ∧ h ≤ 13 ∧ 0 ≤ n ∧ n ≤ k ∧ 0 ≤ k ∧ k < (fw_g W 366 0) ∧ 0 ≤ j ∧ j ≤ n → ((fw_g W 366 0) - k) ≤ M30 → (i - 0 + 1) ≤ M12 → jf fw_T (d + 4) 265 84 [(0, .inr (.inl 352)), (1, .inl frm), (2, .inl by_), (3, .inl i), (4, .inl h), (5, .inl n), (6, .inl k), (7, .inl its), (8, .inl j)] [] (fw_put [371, 373, 372, 374] 352 [] W f) Post := by
  intro m
  induction m using Nat.strongRecOn with
  | ind m ih =>
    intro i h n k its j f hm hi e30 e12
    refine jf_rng (fun hrg => ?_)
    have hrg : -2147483648 ≤ frm ∧ frm ≤ 2147483647 ∧ -2147483648 ≤ by_ ∧ by_ ≤ 2147483647 ∧ -2147483648 ≤ i ∧ i ≤ 2147483647 ∧ -2147483648 ≤ h ∧ h ≤ 2147483647 ∧ -2147483648 ≤ n ∧ n ≤ 2147483647 ∧ -2147483648 ≤ k ∧ k ≤ 2147483647 ∧ -2147483648 ≤ its ∧ its ≤ 2147483647 ∧ -2147483648 ≤ j ∧ j ≤ 2147483647 ∧ True := hrg
    refine s_newsFrom_84 ?_
    repeat' (first
      | (exact True.intro)
      | (exact hpre.1)
      | (refine And.intro ?_ ?_)
      | (refine jf_put (S := [371, 373, 372, 374]) (o := 352) (F := []) (W := W) (by repeat (first | exact fw_sm_refl | exact fw_sm_put0 | refine fw_sm_arr ?_ rfl | refine fw_sm_up ?_ rfl | refine fw_sm_put ?_ rfl | refine fw_sm_cp ?_ rfl)) (h12 _ _ ?_ (by omega)); (first | omega | trivial | (simp (config := { decide := true }) only [fg_in, fg_fin, fg_out, fg_fout, fg_up, fg_same, true_and, and_true] <;> omega)))
      | (refine jf_put (S := [371, 373, 372, 374]) (o := 352) (F := []) (W := W) (by repeat (first | exact fw_sm_refl | exact fw_sm_put0 | refine fw_sm_arr ?_ rfl | refine fw_sm_up ?_ rfl | refine fw_sm_put ?_ rfl | refine fw_sm_cp ?_ rfl)) (h30 _ _ _ _ _ ?_ (by omega) (by omega)); (first | omega | trivial | (simp (config := { decide := true }) only [fg_in, fg_fin, fg_out, fg_fout, fg_up, fg_same, true_and, and_true] <;> omega)))
      | (refine jf_put (S := [371, 373, 372, 374]) (o := 352) (F := []) (W := W) (by repeat (first | exact fw_sm_refl | exact fw_sm_put0 | refine fw_sm_arr ?_ rfl | refine fw_sm_up ?_ rfl | refine fw_sm_put ?_ rfl | refine fw_sm_cp ?_ rfl)) (ih _ (by omega) _ _ _ _ _ _ _ rfl ?_ (by omega) (by omega)); (first | omega | trivial | (simp (config := { decide := true }) only [fg_in, fg_fin, fg_out, fg_fout, fg_up, fg_same, true_and, and_true] <;> omega)))
      | (refine hP _ _ (by repeat (first | exact fw_sm_refl | exact fw_sm_put0 | refine fw_sm_arr ?_ rfl | refine fw_sm_up ?_ rfl | refine fw_sm_put ?_ rfl | refine fw_sm_cp ?_ rfl)) ?_; (refine ⟨by omega, by omega, ?_⟩; (first | trivial | omega)))
      | omega
      | (intro _))
theorem lm_newsFrom_154 {Post : Option fw_V → fw_W → Prop} {d : Nat} {W : fw_W} {frm by_ : Int} (hpre : mt W ∧ 0 ≤ (fw_g W 366 0) ∧ (fw_g W 366 0) ≤ 14 ∧ 0 ≤ frm ∧ frm < (fw_g W 366 0)) (hP : ∀ (v : Int) (W2 : fw_W), fw_sm [371, 373, 372, 374] 352 [] W W2 → (-2147483648 ≤ v ∧ v ≤ 2147483647 ∧ (True)) → Post (some (.inl v)) W2) (M12 : Int) (h12 : ∀ (i : Int) (f : fw_W), -1 ≤ i ∧ i < (fw_g W 366 0) → (i - 0 + 1) < M12 → jf fw_T (d + 4) 265 12 [(0, .inr (.inl 352)), (1, .inl frm), (2, .inl by_), (3, .inl i)] [] (fw_put [371, 373, 372, 374] 352 [] W f) Post) : ∀ (m : Nat) (i h n k : Int) (f : fw_W), (n - k).toNat = m → 0 ≤ k ∧ 0 ≤ i ∧ i < (fw_g W 366 0) ∧ 0 ≤ h ∧ h ≤ 13 ∧ 0 ≤ n ∧ n ≤ 14 → (i - 0 + 1) ≤ M12 → jf fw_T (d + 4) 265 154 [(0, .inr (.inl 352)), (1, .inl frm), (2, .inl by_), (3, .inl i), (4, .inl h), (5, .inl n), (6, .inl k)] [] (fw_put [371, 373, 372, 374] 352 [] W f) Post := by
  intro m
  induction m using Nat.strongRecOn with
  | ind m ih =>
    intro i h n k f hm hi e12
    refine jf_rng (fun hrg => ?_)
    have hrg : -2147483648 ≤ frm ∧ frm ≤ 2147483647 ∧ -2147483648 ≤ by_ ∧ by_ ≤ 2147483647 ∧ -2147483648 ≤ i ∧ i ≤ 2147483647 ∧ -2147483648 ≤ h ∧ h ≤ 2147483647 ∧ -2147483648 ≤ n ∧ n ≤ 2147483647 ∧ -2147483648 ≤ k ∧ k ≤ 2147483647 ∧ True := hrg
    refine s_newsFrom_154 ?_
    repeat' (first
      | (exact True.intro)
      | (exact hpre.1)
      | (refine And.intro ?_ ?_)
      | (refine jf_put (S := [371, 373, 372, 374]) (o := 352) (F := []) (W := W) (by repeat (first | exact fw_sm_refl | exact fw_sm_put0 | refine fw_sm_arr ?_ rfl | refine fw_sm_up ?_ rfl | refine fw_sm_put ?_ rfl | refine fw_sm_cp ?_ rfl)) (h12 _ _ ?_ (by omega)); (first | omega | trivial | (simp (config := { decide := true }) only [fg_in, fg_fin, fg_out, fg_fout, fg_up, fg_same, true_and, and_true] <;> omega)))
      | (refine jf_put (S := [371, 373, 372, 374]) (o := 352) (F := []) (W := W) (by repeat (first | exact fw_sm_refl | exact fw_sm_put0 | refine fw_sm_arr ?_ rfl | refine fw_sm_up ?_ rfl | refine fw_sm_put ?_ rfl | refine fw_sm_cp ?_ rfl)) (ih _ (by omega) _ _ _ _ _ rfl ?_ (by omega)); (first | omega | trivial | (simp (config := { decide := true }) only [fg_in, fg_fin, fg_out, fg_fout, fg_up, fg_same, true_and, and_true] <;> omega)))
      | (refine hP _ _ (by repeat (first | exact fw_sm_refl | exact fw_sm_put0 | refine fw_sm_arr ?_ rfl | refine fw_sm_up ?_ rfl | refine fw_sm_put ?_ rfl | refine fw_sm_cp ?_ rfl)) ?_; (refine ⟨by omega, by omega, ?_⟩; (first | trivial | omega)))
      | omega
      | (intro _))
theorem lm_newsFrom_30 {Post : Option fw_V → fw_W → Prop} {d : Nat} {W : fw_W} {frm by_ : Int} (hpre : mt W ∧ 0 ≤ (fw_g W 366 0) ∧ (fw_g W 366 0) ≤ 14 ∧ 0 ≤ frm ∧ frm < (fw_g W 366 0)) (hP : ∀ (v : Int) (W2 : fw_W), fw_sm [371, 373, 372, 374] 352 [] W W2 → (-2147483648 ≤ v ∧ v ≤ 2147483647 ∧ (True)) → Post (some (.inl v)) W2) (M12 : Int) (h12 : ∀ (i : Int) (f : fw_W), -1 ≤ i ∧ i < (fw_g W 366 0) → (i - 0 + 1) < M12 → jf fw_T (d + 4) 265 12 [(0, .inr (.inl 352)), (1, .inl frm), (2, .inl by_), (3, .inl i)] [] (fw_put [371, 373, 372, 374] 352 [] W f) Post) : ∀ (m : Nat) (i h n k : Int) (f : fw_W), ((fw_g W 366 0) - k).toNat = m → 0 ≤ k ∧ 0 ≤ i ∧ i < (fw_g W 366 0) ∧ 0 ≤ h ∧ h ≤ 13 ∧ 0 ≤ n ∧ n ≤ k ∧ k ≤ (fw_g W 366 0) → (i - 0 + 1) ≤ M12 → jf fw_T (d + 4) 265 30 [(0, .inr (.inl 352)), (1, .inl frm), (2, .inl by_), (3, .inl i), (4, .inl h), (5, .inl n), (6, .inl k)] [] (fw_put [371, 373, 372, 374] 352 [] W f) Post := by
  intro m
  induction m using Nat.strongRecOn with
  | ind m ih =>
    intro i h n k f hm hi e12
    refine jf_rng (fun hrg => ?_)
    have hrg : -2147483648 ≤ frm ∧ frm ≤ 2147483647 ∧ -2147483648 ≤ by_ ∧ by_ ≤ 2147483647 ∧ -2147483648 ≤ i ∧ i ≤ 2147483647 ∧ -2147483648 ≤ h ∧ h ≤ 2147483647 ∧ -2147483648 ≤ n ∧ n ≤ 2147483647 ∧ -2147483648 ≤ k ∧ k ≤ 2147483647 ∧ True := hrg
    refine s_newsFrom_30 ?_
    repeat' (first
      | (exact True.intro)
      | (exact hpre.1)
      | (refine And.intro ?_ ?_)
      | (refine jf_put (S := [371, 373, 372, 374]) (o := 352) (F := []) (W := W) (by repeat (first | exact fw_sm_refl | exact fw_sm_put0 | refine fw_sm_arr ?_ rfl | refine fw_sm_up ?_ rfl | refine fw_sm_put ?_ rfl | refine fw_sm_cp ?_ rfl)) (h12 _ _ ?_ (by omega)); (first | omega | trivial | (simp (config := { decide := true }) only [fg_in, fg_fin, fg_out, fg_fout, fg_up, fg_same, true_and, and_true] <;> omega)))
      | (refine jf_put (S := [371, 373, 372, 374]) (o := 352) (F := []) (W := W) (by repeat (first | exact fw_sm_refl | exact fw_sm_put0 | refine fw_sm_arr ?_ rfl | refine fw_sm_up ?_ rfl | refine fw_sm_put ?_ rfl | refine fw_sm_cp ?_ rfl)) (ih _ (by omega) _ _ _ _ _ rfl ?_ (by omega)); (first | omega | trivial | (simp (config := { decide := true }) only [fg_in, fg_fin, fg_out, fg_fout, fg_up, fg_same, true_and, and_true] <;> omega)))
      | (refine jf_put (S := [371, 373, 372, 374]) (o := 352) (F := []) (W := W) (by repeat (first | exact fw_sm_refl | exact fw_sm_put0 | refine fw_sm_arr ?_ rfl | refine fw_sm_up ?_ rfl | refine fw_sm_put ?_ rfl | refine fw_sm_cp ?_ rfl)) (lm_newsFrom_84 (frm := frm) (by_ := by_) hpre hP M12 h12 ((fw_g W 366 0) - k) (fun a0 a1 a2 a3 af hi hl e12 => ih _ (by omega) a0 a1 a2 a3 af rfl hi e12) _ _ _ _ _ _ _ _ rfl ?_ (by omega) (by omega)); (first | omega | trivial | (simp (config := { decide := true }) only [fg_in, fg_fin, fg_out, fg_fout, fg_up, fg_same, true_and, and_true] <;> omega)))
      | (refine jf_put (S := [371, 373, 372, 374]) (o := 352) (F := []) (W := W) (by repeat (first | exact fw_sm_refl | exact fw_sm_put0 | refine fw_sm_arr ?_ rfl | refine fw_sm_up ?_ rfl | refine fw_sm_put ?_ rfl | refine fw_sm_cp ?_ rfl)) (lm_newsFrom_154 (frm := frm) (by_ := by_) hpre hP M12 h12 _ _ _ _ _ _ rfl ?_ (by omega)); (first | omega | trivial | (simp (config := { decide := true }) only [fg_in, fg_fin, fg_out, fg_fout, fg_up, fg_same, true_and, and_true] <;> omega)))
      | (refine hP _ _ (by repeat (first | exact fw_sm_refl | exact fw_sm_put0 | refine fw_sm_arr ?_ rfl | refine fw_sm_up ?_ rfl | refine fw_sm_put ?_ rfl | refine fw_sm_cp ?_ rfl)) ?_; (refine ⟨by omega, by omega, ?_⟩; (first | trivial | omega)))
      | omega
      | (intro _))
theorem lm_newsFrom_12 {Post : Option fw_V → fw_W → Prop} {d : Nat} {W : fw_W} {frm by_ : Int} (hpre : mt W ∧ 0 ≤ (fw_g W 366 0) ∧ (fw_g W 366 0) ≤ 14 ∧ 0 ≤ frm ∧ frm < (fw_g W 366 0)) (hP : ∀ (v : Int) (W2 : fw_W), fw_sm [371, 373, 372, 374] 352 [] W W2 → (-2147483648 ≤ v ∧ v ≤ 2147483647 ∧ (True)) → Post (some (.inl v)) W2)  : ∀ (m : Nat) (i : Int) (f : fw_W), (i - 0 + 1).toNat = m → -1 ≤ i ∧ i < (fw_g W 366 0) → jf fw_T (d + 4) 265 12 [(0, .inr (.inl 352)), (1, .inl frm), (2, .inl by_), (3, .inl i)] [] (fw_put [371, 373, 372, 374] 352 [] W f) Post := by
  intro m
  induction m using Nat.strongRecOn with
  | ind m ih =>
    intro i f hm hi
    refine jf_rng (fun hrg => ?_)
    have hrg : -2147483648 ≤ frm ∧ frm ≤ 2147483647 ∧ -2147483648 ≤ by_ ∧ by_ ≤ 2147483647 ∧ -2147483648 ≤ i ∧ i ≤ 2147483647 ∧ True := hrg
    refine s_newsFrom_12 ?_
    repeat' (first
      | (exact True.intro)
      | (exact hpre.1)
      | (refine And.intro ?_ ?_)
      | (refine jf_put (S := [371, 373, 372, 374]) (o := 352) (F := []) (W := W) (by repeat (first | exact fw_sm_refl | exact fw_sm_put0 | refine fw_sm_arr ?_ rfl | refine fw_sm_up ?_ rfl | refine fw_sm_put ?_ rfl | refine fw_sm_cp ?_ rfl)) (ih _ (by omega) _ _ rfl ?_); (first | omega | trivial | (simp (config := { decide := true }) only [fg_in, fg_fin, fg_out, fg_fout, fg_up, fg_same, true_and, and_true] <;> omega)))
      | (refine jf_put (S := [371, 373, 372, 374]) (o := 352) (F := []) (W := W) (by repeat (first | exact fw_sm_refl | exact fw_sm_put0 | refine fw_sm_arr ?_ rfl | refine fw_sm_up ?_ rfl | refine fw_sm_put ?_ rfl | refine fw_sm_cp ?_ rfl)) (lm_newsFrom_30 (frm := frm) (by_ := by_) hpre hP (i - 0 + 1) (fun a0 af hi hl => ih _ (by omega) a0 af rfl hi) _ _ _ _ _ _ rfl ?_ (by omega)); (first | omega | trivial | (simp (config := { decide := true }) only [fg_in, fg_fin, fg_out, fg_fout, fg_up, fg_same, true_and, and_true] <;> omega)))
      | (refine hP _ _ (by repeat (first | exact fw_sm_refl | exact fw_sm_put0 | refine fw_sm_arr ?_ rfl | refine fw_sm_up ?_ rfl | refine fw_sm_put ?_ rfl | refine fw_sm_cp ?_ rfl)) ?_; (refine ⟨by omega, by omega, ?_⟩; (first | trivial | omega)))
      | omega
      | (intro _))
def x_newsFrom : fw_X := fun as W Q => match as with
  | [.inr (.inl s_), .inl frm, .inl by_] => fw_if (Nat.beq s_ 352) ((mt W ∧ 0 ≤ (fw_g W 366 0) ∧ (fw_g W 366 0) ≤ 14 ∧ 0 ≤ frm ∧ frm < (fw_g W 366 0)) ∧ (∀ (v : Int) (f : fw_W), (-2147483648 ≤ v ∧ v ≤ 2147483647 ∧ (True)) → Q (some (.inl v)) (fw_put [371, 373, 372, 374] 352 [] W f)))
  | _ => False
theorem x_newsFrom_ok (d : Nat) (as : List fw_V) (W : fw_W) (Q : Option fw_V → fw_W → Prop) (hx : x_newsFrom as W Q) : jf fw_T (d + 4) 265 0 (fw_args 0 as) [] W Q := by
  unfold x_newsFrom at hx
  split at hx
  · rename_i s_ frm by_
    obtain ⟨e_, hpre, hQ⟩ := fw_if_ok hx
    have e_ := Nat.eq_of_beq_eq_true e_
    subst e_
    have hP : ∀ (v : Int) (W2 : fw_W), fw_sm [371, 373, 372, 374] 352 [] W W2 → _ → Q (some (.inl v)) W2 := fun v W2 hs hr => fw_sm_use (Q := fun Z => Q (some (.inl v)) Z) hs (hQ v W2 hr)
    refine s_newsFrom_0 ?_
    repeat' (first
      | (exact True.intro)
      | (exact hpre.1)
      | (refine And.intro ?_ ?_)
      | (refine jf_put (S := [371, 373, 372, 374]) (o := 352) (F := []) (W := W) (by repeat (first | exact fw_sm_refl | exact fw_sm_put0 | refine fw_sm_arr ?_ rfl | refine fw_sm_up ?_ rfl | refine fw_sm_put ?_ rfl | refine fw_sm_cp ?_ rfl)) (lm_newsFrom_12 (frm := frm) (by_ := by_) hpre hP _ _ _ rfl ?_); (first | omega | trivial | (simp (config := { decide := true }) only [fg_in, fg_fin, fg_out, fg_fout, fg_up, fg_same, true_and, and_true] <;> omega)))
      | (refine jf_put (S := [371, 373, 372, 374]) (o := 352) (F := []) (W := W) (by repeat (first | exact fw_sm_refl | exact fw_sm_put0 | refine fw_sm_arr ?_ rfl | refine fw_sm_up ?_ rfl | refine fw_sm_put ?_ rfl | refine fw_sm_cp ?_ rfl)) (lm_newsFrom_30 (frm := frm) (by_ := by_) hpre hP M12 h12 _ _ _ _ _ _ rfl ?_ (by omega)); (first | omega | trivial | (simp (config := { decide := true }) only [fg_in, fg_fin, fg_out, fg_fout, fg_up, fg_same, true_and, and_true] <;> omega)))
      | (refine jf_put (S := [371, 373, 372, 374]) (o := 352) (F := []) (W := W) (by repeat (first | exact fw_sm_refl | exact fw_sm_put0 | refine fw_sm_arr ?_ rfl | refine fw_sm_up ?_ rfl | refine fw_sm_put ?_ rfl | refine fw_sm_cp ?_ rfl)) (lm_newsFrom_84 (frm := frm) (by_ := by_) hpre hP M12 h12 M30 h30 _ _ _ _ _ _ _ _ rfl ?_ (by omega) (by omega)); (first | omega | trivial | (simp (config := { decide := true }) only [fg_in, fg_fin, fg_out, fg_fout, fg_up, fg_same, true_and, and_true] <;> omega)))
      | (refine jf_put (S := [371, 373, 372, 374]) (o := 352) (F := []) (W := W) (by repeat (first | exact fw_sm_refl | exact fw_sm_put0 | refine fw_sm_arr ?_ rfl | refine fw_sm_up ?_ rfl | refine fw_sm_put ?_ rfl | refine fw_sm_cp ?_ rfl)) (lm_newsFrom_154 (frm := frm) (by_ := by_) hpre hP M12 h12 _ _ _ _ _ _ rfl ?_ (by omega)); (first | omega | trivial | (simp (config := { decide := true }) only [fg_in, fg_fin, fg_out, fg_fout, fg_up, fg_same, true_and, and_true] <;> omega)))
      | (refine hP _ _ (by repeat (first | exact fw_sm_refl | exact fw_sm_put0 | refine fw_sm_arr ?_ rfl | refine fw_sm_up ?_ rfl | refine fw_sm_put ?_ rfl | refine fw_sm_cp ?_ rfl)) ?_; (refine ⟨by omega, by omega, ?_⟩; (first | trivial | omega)))
      | omega
      | (intro _))
  · exact hx.elim

def fr_264 : fw_P := [(0, 2, 0, 0, 0), (1, 1, 1, 0, 0), (2, 64, 213, 1, 212), (5, 20, 17, 0, 0), (8, 2, 0, 0, 0), (9, 1, 1, 0, 0), (10, 0, 0, 0, 0), (11, 64, 265, 2, 912), (14, 6, 18, 0, 0), (17, 0, 0, 0, -1), (18, 70, 0, 0, 0)]
theorem fr_264_ok : fw_mk 264 2 12 (some .int) fr_264 = true := by decide +kernel
def ct_news : List (Nat × fw_X) := [(213, x_isHouse), (265, x_newsFrom)]
theorem ct_news_ok (d : Nat) : fw_cok fw_T (d + 4) ct_news := by
  intro q hq as W Q h
  simp only [ct_news, List.mem_cons, List.not_mem_nil, or_false] at hq
  rcases hq with rfl | rfl
  · exact jc_of (x_isHouse_ok (d + 2) as W Q h)
  · exact jc_of (x_newsFrom_ok (d + 0) as W Q h)
theorem s_news_0 {Post : Option fw_V → fw_W → Prop} {d : Nat} {W : fw_W} {h : Int}
    (hw_ : (mt W ∧ 0 ≤ (fw_g W 366 0) ∧ (fw_g W 366 0) ≤ 14) ∧ (∀ (r1 : Int), ((0 ≤ r1 ∧ r1 ≤ 1 ∧ ((r1 = 1 ∧ 0 ≤ h ∧ h < (fw_g W 366 0)) ∨ (r1 = 0 ∧ (h < 0 ∨ (fw_g W 366 0) ≤ h))))) → ((r1 = 0 → (-2147483648 ≤ (-1 : Int) → (-1 : Int) ≤ 2147483647 → Post (some (.inl (-1 : Int))) W)) ∧ (¬ r1 = 0 → (mt W ∧ 0 ≤ (fw_g W 366 0) ∧ (fw_g W 366 0) ≤ 14 ∧ 0 ≤ h ∧ h < (fw_g W 366 0)) ∧ (∀ (r2 : Int) (f3 : fw_W), ((-2147483648 ≤ r2 ∧ r2 ≤ 2147483647 ∧ (True))) → (-2147483648 ≤ r2 → r2 ≤ 2147483647 → Post (some (.inl r2)) (fw_put [371, 373, 372, 374] 352 [] W f3))))))) :
    jf fw_T (d + 5) 264 0 [(0, .inr (.inl 352)), (1, .inl h)] [] W Post := fw_ok (n := 11) (ss := []) (hv := []) fr_264_ok fm_ok (ct_news_ok d) hw_

def x_news : fw_X := fun as W Q => match as with
  | [.inr (.inl s_), .inl h] => fw_if (Nat.beq s_ 352) ((mt W ∧ 0 ≤ (fw_g W 366 0) ∧ (fw_g W 366 0) ≤ 14) ∧ (∀ (v : Int) (f : fw_W), (-2147483648 ≤ v ∧ v ≤ 2147483647 ∧ (True)) → Q (some (.inl v)) (fw_put [371, 373, 372, 374] 352 [] W f)))
  | _ => False
theorem x_news_ok (d : Nat) (as : List fw_V) (W : fw_W) (Q : Option fw_V → fw_W → Prop) (hx : x_news as W Q) : jf fw_T (d + 5) 264 0 (fw_args 0 as) [] W Q := by
  unfold x_news at hx
  split at hx
  · rename_i s_ h
    obtain ⟨e_, hpre, hQ⟩ := fw_if_ok hx
    have e_ := Nat.eq_of_beq_eq_true e_
    subst e_
    have hP : ∀ (v : Int) (W2 : fw_W), fw_sm [371, 373, 372, 374] 352 [] W W2 → _ → Q (some (.inl v)) W2 := fun v W2 hs hr => fw_sm_use (Q := fun Z => Q (some (.inl v)) Z) hs (hQ v W2 hr)
    refine s_news_0 ?_
    repeat' (first
      | (exact True.intro)
      | (exact hpre.1)
      | (refine And.intro ?_ ?_)
      | (refine hP _ _ (by repeat (first | exact fw_sm_refl | exact fw_sm_put0 | refine fw_sm_arr ?_ rfl | refine fw_sm_up ?_ rfl | refine fw_sm_put ?_ rfl | refine fw_sm_cp ?_ rfl)) ?_; (refine ⟨by omega, by omega, ?_⟩; (first | trivial | omega)))
      | omega
      | (intro _))
  · exact hx.elim

def fr_268 : fw_P := [(0, 2, 0, 0, 0), (1, 1, 1, 0, 0), (2, 64, 213, 1, 212), (5, 20, 17, 0, 0), (8, 2, 0, 0, 0), (9, 1, 1, 0, 0), (10, 0, 0, 0, 1), (11, 64, 265, 2, 912), (14, 6, 18, 0, 0), (17, 0, 0, 0, -1), (18, 70, 0, 0, 0)]
theorem fr_268_ok : fw_mk 268 2 12 (some .int) fr_268 = true := by decide +kernel
def ct_tidings : List (Nat × fw_X) := [(213, x_isHouse), (265, x_newsFrom)]
theorem ct_tidings_ok (d : Nat) : fw_cok fw_T (d + 4) ct_tidings := by
  intro q hq as W Q h
  simp only [ct_tidings, List.mem_cons, List.not_mem_nil, or_false] at hq
  rcases hq with rfl | rfl
  · exact jc_of (x_isHouse_ok (d + 2) as W Q h)
  · exact jc_of (x_newsFrom_ok (d + 0) as W Q h)
theorem s_tidings_0 {Post : Option fw_V → fw_W → Prop} {d : Nat} {W : fw_W} {h : Int}
    (hw_ : (mt W ∧ 0 ≤ (fw_g W 366 0) ∧ (fw_g W 366 0) ≤ 14) ∧ (∀ (r1 : Int), ((0 ≤ r1 ∧ r1 ≤ 1 ∧ ((r1 = 1 ∧ 0 ≤ h ∧ h < (fw_g W 366 0)) ∨ (r1 = 0 ∧ (h < 0 ∨ (fw_g W 366 0) ≤ h))))) → ((r1 = 0 → (-2147483648 ≤ (-1 : Int) → (-1 : Int) ≤ 2147483647 → Post (some (.inl (-1 : Int))) W)) ∧ (¬ r1 = 0 → (mt W ∧ 0 ≤ (fw_g W 366 0) ∧ (fw_g W 366 0) ≤ 14 ∧ 0 ≤ h ∧ h < (fw_g W 366 0)) ∧ (∀ (r2 : Int) (f3 : fw_W), ((-2147483648 ≤ r2 ∧ r2 ≤ 2147483647 ∧ (True))) → (-2147483648 ≤ r2 → r2 ≤ 2147483647 → Post (some (.inl r2)) (fw_put [371, 373, 372, 374] 352 [] W f3))))))) :
    jf fw_T (d + 5) 268 0 [(0, .inr (.inl 352)), (1, .inl h)] [] W Post := fw_ok (n := 11) (ss := []) (hv := []) fr_268_ok fm_ok (ct_tidings_ok d) hw_

def x_tidings : fw_X := fun as W Q => match as with
  | [.inr (.inl s_), .inl h] => fw_if (Nat.beq s_ 352) ((mt W ∧ 0 ≤ (fw_g W 366 0) ∧ (fw_g W 366 0) ≤ 14) ∧ (∀ (v : Int) (f : fw_W), (-2147483648 ≤ v ∧ v ≤ 2147483647 ∧ (True)) → Q (some (.inl v)) (fw_put [371, 373, 372, 374] 352 [] W f)))
  | _ => False
theorem x_tidings_ok (d : Nat) (as : List fw_V) (W : fw_W) (Q : Option fw_V → fw_W → Prop) (hx : x_tidings as W Q) : jf fw_T (d + 5) 268 0 (fw_args 0 as) [] W Q := by
  unfold x_tidings at hx
  split at hx
  · rename_i s_ h
    obtain ⟨e_, hpre, hQ⟩ := fw_if_ok hx
    have e_ := Nat.eq_of_beq_eq_true e_
    subst e_
    have hP : ∀ (v : Int) (W2 : fw_W), fw_sm [371, 373, 372, 374] 352 [] W W2 → _ → Q (some (.inl v)) W2 := fun v W2 hs hr => fw_sm_use (Q := fun Z => Q (some (.inl v)) Z) hs (hQ v W2 hr)
    refine s_tidings_0 ?_
    repeat' (first
      | (exact True.intro)
      | (exact hpre.1)
      | (refine And.intro ?_ ?_)
      | (refine hP _ _ (by repeat (first | exact fw_sm_refl | exact fw_sm_put0 | refine fw_sm_arr ?_ rfl | refine fw_sm_up ?_ rfl | refine fw_sm_put ?_ rfl | refine fw_sm_cp ?_ rfl)) ?_; (refine ⟨by omega, by omega, ?_⟩; (first | trivial | omega)))
      | omega
      | (intro _))
  · exact hx.elim

def fr_269 : fw_P := [(0, 0, 0, 0, -1), (1, 3, 1, 0, 0), (2, 0, 0, 0, 0), (3, 3, 2, 0, 0), (4, 0, 0, 0, 0), (5, 3, 3, 0, 0), (6, 1, 3, 0, 0), (7, 2, 0, 0, 0), (8, 64, 188, 0, 112), (11, 13, 46, 0, 0), (14, 2, 0, 0, 0), (15, 1, 3, 0, 0), (16, 0, 0, 0, 0), (17, 64, 265, 2, 912), (20, 3, 4, 0, 0), (22, 1, 1, 0, 0), (23, 22, 35, 0, 0), (26, 1, 4, 0, 0), (28, 1, 2, 0, 0), (29, 12, 35, 0, 0), (32, 6, 40, 0, 0), (35, 1, 3, 0, 0), (36, 3, 1, 0, 0), (37, 1, 4, 0, 0), (39, 3, 2, 0, 0), (40, 5, 3, 0, 1), (43, 6, 6, 0, 0), (46, 1, 1, 0, 0), (47, 70, 0, 0, 0)]
theorem fr_269_ok : fw_mk 269 5 12 (some .int) fr_269 = true := by decide +kernel
def ct_bestNews : List (Nat × fw_X) := [(188, x_many), (265, x_newsFrom)]
theorem ct_bestNews_ok (d : Nat) : fw_cok fw_T (d + 4) ct_bestNews := by
  intro q hq as W Q h
  simp only [ct_bestNews, List.mem_cons, List.not_mem_nil, or_false] at hq
  rcases hq with rfl | rfl
  · exact jc_of (x_many_ok (d + 3) as W Q h)
  · exact jc_of (x_newsFrom_ok (d + 0) as W Q h)
theorem s_bestNews_0 {Post : Option fw_V → fw_W → Prop} {d : Nat} {W : fw_W}
    (hw_ : jf fw_T (d + 5) 269 6 [(0, .inr (.inl 352)), (1, .inl (-1 : Int)), (2, .inl (0 : Int)), (3, .inl (0 : Int))] [] W Post) :
    jf fw_T (d + 5) 269 0 [(0, .inr (.inl 352))] [] W Post := fw_ok (n := 7) (ss := [(6, [0, 1, 2, 3])]) (hv := []) fr_269_ok fm_ok (ct_bestNews_ok d) hw_

theorem s_bestNews_6 {Post : Option fw_V → fw_W → Prop} {d : Nat} {W : fw_W} {best least h : Int} {f : fw_W}
    (hw_ : (True) ∧ ((((fw_g W 366 0) ≤ h → (-2147483648 ≤ best → best ≤ 2147483647 → Post (some (.inl best)) (fw_put [371, 373, 372, 374] 352 [] W f))) ∧ (h < (fw_g W 366 0) → (mt (fw_put [371, 373, 372, 374] 352 [] W f) ∧ 0 ≤ (fw_g W 366 0) ∧ (fw_g W 366 0) ≤ 14 ∧ 0 ≤ h ∧ h < (fw_g W 366 0)) ∧ (∀ (r1 : Int) (f2 : fw_W), ((-2147483648 ≤ r1 ∧ r1 ≤ 2147483647 ∧ (True))) → ((best < 0 → -2147483648 ≤ h + (1 : Int) ∧ h + (1 : Int) ≤ 2147483647 ∧ (jf fw_T (d + 5) 269 6 [(0, .inr (.inl 352)), (1, .inl h), (2, .inl r1), (3, .inl (h + (1 : Int)))] [] (fw_put [371, 373, 372, 374] 352 [] (fw_put [371, 373, 372, 374] 352 [] W f) f2) Post)) ∧ (0 ≤ best → ((r1 < least → -2147483648 ≤ h + (1 : Int) ∧ h + (1 : Int) ≤ 2147483647 ∧ (jf fw_T (d + 5) 269 6 [(0, .inr (.inl 352)), (1, .inl h), (2, .inl r1), (3, .inl (h + (1 : Int)))] [] (fw_put [371, 373, 372, 374] 352 [] (fw_put [371, 373, 372, 374] 352 [] W f) f2) Post)) ∧ (least ≤ r1 → -2147483648 ≤ h + (1 : Int) ∧ h + (1 : Int) ≤ 2147483647 ∧ (jf fw_T (d + 5) 269 6 [(0, .inr (.inl 352)), (1, .inl best), (2, .inl least), (3, .inl (h + (1 : Int)))] [] (fw_put [371, 373, 372, 374] 352 [] (fw_put [371, 373, 372, 374] 352 [] W f) f2) Post)))))))))) :
    jf fw_T (d + 5) 269 6 [(0, .inr (.inl 352)), (1, .inl best), (2, .inl least), (3, .inl h)] [] (fw_put [371, 373, 372, 374] 352 [] W f) Post := fw_ok (n := 21) (ss := [(6, [0, 1, 2, 3])]) (hv := []) fr_269_ok fm_ok (ct_bestNews_ok d) hw_

theorem lm_bestNews_6 {Post : Option fw_V → fw_W → Prop} {d : Nat} {W : fw_W} (hpre : mt W ∧ 0 ≤ (fw_g W 366 0) ∧ (fw_g W 366 0) ≤ 14) (hP : ∀ (v : Int) (W2 : fw_W), fw_sm [371, 373, 372, 374] 352 [] W W2 → (-2147483648 ≤ v ∧ v ≤ 2147483647 ∧ (True)) → Post (some (.inl v)) W2)  : ∀ (m : Nat) (best least h : Int) (f : fw_W), ((fw_g W 366 0) - h).toNat = m → 0 ≤ h → jf fw_T (d + 5) 269 6 [(0, .inr (.inl 352)), (1, .inl best), (2, .inl least), (3, .inl h)] [] (fw_put [371, 373, 372, 374] 352 [] W f) Post := by
  intro m
  induction m using Nat.strongRecOn with
  | ind m ih =>
    intro best least h f hm hi
    refine jf_rng (fun hrg => ?_)
    have hrg : -2147483648 ≤ best ∧ best ≤ 2147483647 ∧ -2147483648 ≤ least ∧ least ≤ 2147483647 ∧ -2147483648 ≤ h ∧ h ≤ 2147483647 ∧ True := hrg
    refine s_bestNews_6 ?_
    repeat' (first
      | (exact True.intro)
      | (exact hpre.1)
      | (refine And.intro ?_ ?_)
      | (refine jf_put (S := [371, 373, 372, 374]) (o := 352) (F := []) (W := W) (by repeat (first | exact fw_sm_refl | exact fw_sm_put0 | refine fw_sm_arr ?_ rfl | refine fw_sm_up ?_ rfl | refine fw_sm_put ?_ rfl | refine fw_sm_cp ?_ rfl)) (ih _ (by omega) _ _ _ _ rfl ?_); (first | omega | trivial | (simp (config := { decide := true }) only [fg_in, fg_fin, fg_out, fg_fout, fg_up, fg_same, true_and, and_true] <;> omega)))
      | (refine hP _ _ (by repeat (first | exact fw_sm_refl | exact fw_sm_put0 | refine fw_sm_arr ?_ rfl | refine fw_sm_up ?_ rfl | refine fw_sm_put ?_ rfl | refine fw_sm_cp ?_ rfl)) ?_; (refine ⟨by omega, by omega, ?_⟩; (first | trivial | omega)))
      | omega
      | (intro _))
def x_bestNews : fw_X := fun as W Q => match as with
  | [.inr (.inl s_)] => fw_if (Nat.beq s_ 352) ((mt W ∧ 0 ≤ (fw_g W 366 0) ∧ (fw_g W 366 0) ≤ 14) ∧ (∀ (v : Int) (f : fw_W), (-2147483648 ≤ v ∧ v ≤ 2147483647 ∧ (True)) → Q (some (.inl v)) (fw_put [371, 373, 372, 374] 352 [] W f)))
  | _ => False
theorem x_bestNews_ok (d : Nat) (as : List fw_V) (W : fw_W) (Q : Option fw_V → fw_W → Prop) (hx : x_bestNews as W Q) : jf fw_T (d + 5) 269 0 (fw_args 0 as) [] W Q := by
  unfold x_bestNews at hx
  split at hx
  · rename_i s_
    obtain ⟨e_, hpre, hQ⟩ := fw_if_ok hx
    have e_ := Nat.eq_of_beq_eq_true e_
    subst e_
    have hP : ∀ (v : Int) (W2 : fw_W), fw_sm [371, 373, 372, 374] 352 [] W W2 → _ → Q (some (.inl v)) W2 := fun v W2 hs hr => fw_sm_use (Q := fun Z => Q (some (.inl v)) Z) hs (hQ v W2 hr)
    refine s_bestNews_0 ?_
    repeat' (first
      | (exact True.intro)
      | (exact hpre.1)
      | (refine And.intro ?_ ?_)
      | (refine jf_put (S := [371, 373, 372, 374]) (o := 352) (F := []) (W := W) (by repeat (first | exact fw_sm_refl | exact fw_sm_put0 | refine fw_sm_arr ?_ rfl | refine fw_sm_up ?_ rfl | refine fw_sm_put ?_ rfl | refine fw_sm_cp ?_ rfl)) (lm_bestNews_6 hpre hP _ _ _ _ _ rfl ?_); (first | omega | trivial | (simp (config := { decide := true }) only [fg_in, fg_fin, fg_out, fg_fout, fg_up, fg_same, true_and, and_true] <;> omega)))
      | (refine hP _ _ (by repeat (first | exact fw_sm_refl | exact fw_sm_put0 | refine fw_sm_arr ?_ rfl | refine fw_sm_up ?_ rfl | refine fw_sm_put ?_ rfl | refine fw_sm_cp ?_ rfl)) ?_; (refine ⟨by omega, by omega, ?_⟩; (first | trivial | omega)))
      | omega
      | (intro _))
  · exact hx.elim

