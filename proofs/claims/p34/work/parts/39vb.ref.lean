/-! the reference, method by method -/
def fr_278 : fw_P := [(0, 2, 0, 0, 0), (1, 64, 188, 0, 112), (4, 3, 1, 0, 0), (5, 0, 0, 0, 0), (6, 3, 2, 0, 0), (7, 1, 2, 0, 0), (8, 2, 0, 0, 0), (9, 64, 188, 0, 112), (12, 13, 39, 0, 0), (15, 2, 0, 0, 0), (16, 50, 12, 45, 0), (19, 1, 2, 0, 0), (20, 2, 0, 0, 0), (21, 1, 2, 0, 0), (22, 64, 218, 1, 412), (25, 53, 0, 0, 0), (26, 2, 0, 0, 0), (27, 50, 12, 46, 0), (30, 1, 2, 0, 0), (31, 0, 0, 0, 0), (32, 53, 0, 0, 0), (33, 5, 2, 0, 1), (36, 6, 7, 0, 0), (39, 0, 0, 0, 1), (40, 3, 2, 0, 0), (41, 1, 1, 0, 0), (42, 0, 0, 0, 2), (43, 15, 180, 0, 0), (46, 0, 0, 0, 0), (47, 3, 3, 0, 0), (48, 1, 3, 0, 0), (49, 2, 0, 0, 0), (50, 64, 188, 0, 112), (53, 13, 89, 0, 0), (56, 2, 0, 0, 0), (57, 50, 12, 46, 0), (60, 1, 3, 0, 0), (61, 52, 0, 0, 0), (62, 21, 83, 0, 0), (65, 2, 0, 0, 0), (66, 50, 12, 45, 0), (69, 1, 3, 0, 0), (70, 52, 0, 0, 0), (71, 0, 0, 0, 1), (72, 11, 83, 0, 0), (75, 2, 0, 0, 0), (76, 50, 12, 46, 0), (79, 1, 3, 0, 0), (80, 1, 2, 0, 0), (81, 35, 0, 0, 0), (82, 53, 0, 0, 0), (83, 5, 3, 0, 1), (86, 6, 48, 0, 0), (89, 0, 0, 0, 0), (90, 3, 3, 0, 0), (91, 1, 3, 0, 0), (92, 2, 0, 0, 0), (93, 64, 188, 0, 112), (96, 13, 174, 0, 0), (99, 2, 0, 0, 0), (100, 50, 12, 46, 0), (103, 1, 3, 0, 0), (104, 52, 0, 0, 0), (105, 1, 2, 0, 0), (106, 35, 0, 0, 0), (107, 10, 113, 0, 0), (110, 6, 168, 0, 0), (113, 2, 0, 0, 0), (114, 50, 12, 46, 0), (117, 1, 3, 0, 0), (118, 1, 2, 0, 0), (119, 53, 0, 0, 0), (120, 5, 1, 0, -1), (123, 0, 0, 0, 0), (124, 3, 4, 0, 0), (126, 1, 4, 0, 0), (128, 2, 0, 0, 0), (129, 64, 188, 0, 112), (132, 13, 168, 0, 0), (135, 1, 4, 0, 0), (137, 1, 3, 0, 0), (138, 10, 162, 0, 0), (141, 2, 0, 0, 0), (142, 1, 3, 0, 0), (143, 1, 4, 0, 0), (145, 64, 219, 2, 312), (148, 20, 162, 0, 0), (151, 2, 0, 0, 0), (152, 50, 12, 45, 0), (155, 1, 4, 0, 0), (157, 44, 0, 0, 0), (158, 52, 0, 0, 0), (159, 0, 0, 0, 1), (160, 31, 0, 0, 0), (161, 53, 0, 0, 0), (162, 5, 4, 0, 1), (165, 6, 126, 0, 0), (168, 5, 3, 0, 1), (171, 6, 91, 0, 0), (174, 5, 2, 0, 1), (177, 6, 41, 0, 0), (180, 2, 0, 0, 0), (181, 0, 0, 0, -1), (182, 51, 12, 50, 0), (185, 2, 0, 0, 0), (186, 0, 0, 0, -1), (187, 51, 12, 51, 0), (190, 0, 0, 0, 0), (191, 3, 2, 0, 0), (192, 1, 2, 0, 0), (193, 2, 0, 0, 0), (194, 64, 188, 0, 112), (197, 13, 238, 0, 0), (200, 2, 0, 0, 0), (201, 50, 12, 46, 0), (204, 1, 2, 0, 0), (205, 52, 0, 0, 0), (206, 20, 212, 0, 0), (209, 6, 232, 0, 0), (212, 2, 0, 0, 0), (213, 50, 12, 50, 0), (216, 23, 227, 0, 0), (219, 2, 0, 0, 0), (220, 1, 2, 0, 0), (221, 51, 12, 50, 0), (224, 6, 232, 0, 0), (227, 2, 0, 0, 0), (228, 1, 2, 0, 0), (229, 51, 12, 51, 0), (232, 5, 2, 0, 1), (235, 6, 192, 0, 0), (238, 72, 0, 0, 0)]
theorem fr_278_ok : fw_mk 278 5 12 none fr_278 = true := by decide +kernel
def ct_layMiddle : List (Nat × fw_X) := [(219, x_areNext), (188, x_many), (218, x_streetsOf2)]
theorem ct_layMiddle_ok (d : Nat) : fw_cok fw_T (d + 3) ct_layMiddle := by
  intro q hq as W Q h
  simp only [ct_layMiddle, List.mem_cons, List.not_mem_nil, or_false] at hq
  rcases hq with rfl | rfl | rfl
  · exact jc_of (x_areNext_ok (d + 1) as W Q h)
  · exact jc_of (x_many_ok (d + 2) as W Q h)
  · exact jc_of (x_streetsOf2_ok (d + 0) as W Q h)
theorem s_layMiddle_0 {Post : Option fw_V → fw_W → Prop} {d : Nat} {W : fw_W}
    (hw_ : (True) ∧ (jf fw_T (d + 4) 278 7 [(0, .inr (.inl 352)), (1, .inl (fw_g W 366 0)), (2, .inl (0 : Int))] [] W Post)) :
    jf fw_T (d + 4) 278 0 [(0, .inr (.inl 352))] [] W Post := fw_ok (n := 6) (ss := [(7, [0, 1, 2]), (41, [0, 1, 2]), (48, [0, 1, 2, 3]), (91, [0, 1, 2, 3]), (126, [0, 1, 2, 3, 4]), (192, [0, 2])]) (hv := []) fr_278_ok fm_ok (ct_layMiddle_ok d) hw_

theorem s_layMiddle_126 {Post : Option fw_V → fw_W → Prop} {d : Nat} {W : fw_W} {left r h k : Int} {f : fw_W}
    (hw_ : (True) ∧ ((((fw_g W 366 0) ≤ k → -2147483648 ≤ h + (1 : Int) ∧ h + (1 : Int) ≤ 2147483647 ∧ (jf fw_T (d + 4) 278 91 [(0, .inr (.inl 352)), (1, .inl left), (2, .inl r), (3, .inl (h + (1 : Int)))] [] (fw_put [383, 382] 352 [50, 51] W f) Post)) ∧ (k < (fw_g W 366 0) → ((k = h → -2147483648 ≤ k + (1 : Int) ∧ k + (1 : Int) ≤ 2147483647 ∧ (jf fw_T (d + 4) 278 126 [(0, .inr (.inl 352)), (1, .inl left), (2, .inl r), (3, .inl h), (4, .inl (k + (1 : Int)))] [] (fw_put [383, 382] 352 [50, 51] W f) Post)) ∧ (¬ k = h → (0 ≤ h ∧ h < 14 ∧ 0 ≤ k ∧ k < 14) ∧ (∀ (r1 : Int), ((0 ≤ r1 ∧ r1 ≤ 1 ∧ ((r1 = 1 ∧ ((fw_g W 366 (2 + 3 * h)) = k ∨ (fw_g W 366 (2 + 3 * k)) = h)) ∨ (r1 = 0 ∧ ¬ (fw_g W 366 (2 + 3 * h)) = k ∧ ¬ (fw_g W 366 (2 + 3 * k)) = h)))) → ((r1 = 0 → -2147483648 ≤ k + (1 : Int) ∧ k + (1 : Int) ≤ 2147483647 ∧ (jf fw_T (d + 4) 278 126 [(0, .inr (.inl 352)), (1, .inl left), (2, .inl r), (3, .inl h), (4, .inl (k + (1 : Int)))] [] (fw_put [383, 382] 352 [50, 51] W f) Post)) ∧ (¬ r1 = 0 → 0 ≤ k ∧ k < 14 ∧ (-2147483648 ≤ (fw_g f 382 k) → (fw_g f 382 k) ≤ 2147483647 → -2147483648 ≤ (fw_g f 382 k) - (1 : Int) ∧ (fw_g f 382 k) - (1 : Int) ≤ 2147483647 ∧ (0 ≤ k ∧ k < 14 ∧ -2147483648 ≤ ((fw_g f 382 k) - (1 : Int)) ∧ ((fw_g f 382 k) - (1 : Int)) ≤ 2147483647 ∧ (-2147483648 ≤ k + (1 : Int) ∧ k + (1 : Int) ≤ 2147483647 ∧ (jf fw_T (d + 4) 278 126 [(0, .inr (.inl 352)), (1, .inl left), (2, .inl r), (3, .inl h), (4, .inl (k + (1 : Int)))] [] (fw_up (fw_put [383, 382] 352 [50, 51] W f) 382 k ((fw_g f 382 k) - (1 : Int))) Post))))))))))))) :
    jf fw_T (d + 4) 278 126 [(0, .inr (.inl 352)), (1, .inl left), (2, .inl r), (3, .inl h), (4, .inl k)] [] (fw_put [383, 382] 352 [50, 51] W f) Post := fw_ok (n := 23) (ss := [(7, [0, 1, 2]), (41, [0, 1, 2]), (48, [0, 1, 2, 3]), (91, [0, 1, 2, 3]), (126, [0, 1, 2, 3, 4]), (192, [0, 2])]) (hv := []) fr_278_ok fm_ok (ct_layMiddle_ok d) hw_

theorem s_layMiddle_91 {Post : Option fw_V → fw_W → Prop} {d : Nat} {W : fw_W} {left r h : Int} {f : fw_W}
    (hw_ : (True) ∧ ((((fw_g W 366 0) ≤ h → -2147483648 ≤ r + (1 : Int) ∧ r + (1 : Int) ≤ 2147483647 ∧ (jf fw_T (d + 4) 278 41 [(0, .inr (.inl 352)), (1, .inl left), (2, .inl (r + (1 : Int)))] [] (fw_put [383, 382] 352 [50, 51] W f) Post)) ∧ (h < (fw_g W 366 0) → 0 ≤ h ∧ h < 14 ∧ (-2147483648 ≤ (fw_g f 383 h) → (fw_g f 383 h) ≤ 2147483647 → -2147483648 ≤ -r ∧ -r ≤ 2147483647 ∧ ((((fw_g f 383 h) = (-r) → 0 ≤ h ∧ h < 14 ∧ -2147483648 ≤ r ∧ r ≤ 2147483647 ∧ (-2147483648 ≤ left + (-1 : Int) ∧ left + (-1 : Int) ≤ 2147483647 ∧ (jf fw_T (d + 4) 278 126 [(0, .inr (.inl 352)), (1, .inl (left + (-1 : Int))), (2, .inl r), (3, .inl h), (4, .inl (0 : Int))] [] (fw_up (fw_put [383, 382] 352 [50, 51] W f) 383 h r) Post))) ∧ (¬ (fw_g f 383 h) = (-r) → -2147483648 ≤ h + (1 : Int) ∧ h + (1 : Int) ≤ 2147483647 ∧ (jf fw_T (d + 4) 278 91 [(0, .inr (.inl 352)), (1, .inl left), (2, .inl r), (3, .inl (h + (1 : Int)))] [] (fw_put [383, 382] 352 [50, 51] W f) Post))))))))) :
    jf fw_T (d + 4) 278 91 [(0, .inr (.inl 352)), (1, .inl left), (2, .inl r), (3, .inl h)] [] (fw_put [383, 382] 352 [50, 51] W f) Post := fw_ok (n := 20) (ss := [(7, [0, 1, 2]), (41, [0, 1, 2]), (48, [0, 1, 2, 3]), (91, [0, 1, 2, 3]), (126, [0, 1, 2, 3, 4]), (192, [0, 2])]) (hv := []) fr_278_ok fm_ok (ct_layMiddle_ok d) hw_

theorem s_layMiddle_48 {Post : Option fw_V → fw_W → Prop} {d : Nat} {W : fw_W} {left r h : Int} {f : fw_W}
    (hw_ : (True) ∧ ((((fw_g W 366 0) ≤ h → jf fw_T (d + 4) 278 91 [(0, .inr (.inl 352)), (1, .inl left), (2, .inl r), (3, .inl (0 : Int))] [] (fw_put [383, 382] 352 [50, 51] W f) Post) ∧ (h < (fw_g W 366 0) → 0 ≤ h ∧ h < 14 ∧ (-2147483648 ≤ (fw_g f 383 h) → (fw_g f 383 h) ≤ 2147483647 → ((¬ (fw_g f 383 h) = 0 → -2147483648 ≤ h + (1 : Int) ∧ h + (1 : Int) ≤ 2147483647 ∧ (jf fw_T (d + 4) 278 48 [(0, .inr (.inl 352)), (1, .inl left), (2, .inl r), (3, .inl (h + (1 : Int)))] [] (fw_put [383, 382] 352 [50, 51] W f) Post)) ∧ ((fw_g f 383 h) = 0 → 0 ≤ h ∧ h < 14 ∧ (-2147483648 ≤ (fw_g f 382 h) → (fw_g f 382 h) ≤ 2147483647 → ((¬ (fw_g f 382 h) = (1 : Int) → -2147483648 ≤ h + (1 : Int) ∧ h + (1 : Int) ≤ 2147483647 ∧ (jf fw_T (d + 4) 278 48 [(0, .inr (.inl 352)), (1, .inl left), (2, .inl r), (3, .inl (h + (1 : Int)))] [] (fw_put [383, 382] 352 [50, 51] W f) Post)) ∧ ((fw_g f 382 h) = (1 : Int) → -2147483648 ≤ -r ∧ -r ≤ 2147483647 ∧ (0 ≤ h ∧ h < 14 ∧ -2147483648 ≤ (-r) ∧ (-r) ≤ 2147483647 ∧ (-2147483648 ≤ h + (1 : Int) ∧ h + (1 : Int) ≤ 2147483647 ∧ (jf fw_T (d + 4) 278 48 [(0, .inr (.inl 352)), (1, .inl left), (2, .inl r), (3, .inl (h + (1 : Int)))] [] (fw_up (fw_put [383, 382] 352 [50, 51] W f) 383 h (-r)) Post))))))))))))) :
    jf fw_T (d + 4) 278 48 [(0, .inr (.inl 352)), (1, .inl left), (2, .inl r), (3, .inl h)] [] (fw_put [383, 382] 352 [50, 51] W f) Post := fw_ok (n := 24) (ss := [(7, [0, 1, 2]), (41, [0, 1, 2]), (48, [0, 1, 2, 3]), (91, [0, 1, 2, 3]), (126, [0, 1, 2, 3, 4]), (192, [0, 2])]) (hv := []) fr_278_ok fm_ok (ct_layMiddle_ok d) hw_

theorem s_layMiddle_192 {Post : Option fw_V → fw_W → Prop} {d : Nat} {W : fw_W} {r : Int} {f : fw_W}
    (hw_ : (True) ∧ ((((fw_g W 366 0) ≤ r → Post none (fw_put [383, 382] 352 [50, 51] W f)) ∧ (r < (fw_g W 366 0) → 0 ≤ r ∧ r < 14 ∧ (-2147483648 ≤ (fw_g f 383 r) → (fw_g f 383 r) ≤ 2147483647 → (((fw_g f 383 r) = 0 → (-1 ≤ (fw_g f 352 50) → (fw_g f 352 50) ≤ 13 → ((0 ≤ (fw_g f 352 50) → -1 ≤ r ∧ r ≤ 13 ∧ (-2147483648 ≤ r + (1 : Int) ∧ r + (1 : Int) ≤ 2147483647 ∧ (jf fw_T (d + 4) 278 192 [(0, .inr (.inl 352)), (2, .inl (r + (1 : Int)))] [] (fw_up (fw_put [383, 382] 352 [50, 51] W f) 352 51 r) Post))) ∧ ((fw_g f 352 50) < 0 → -1 ≤ r ∧ r ≤ 13 ∧ (-2147483648 ≤ r + (1 : Int) ∧ r + (1 : Int) ≤ 2147483647 ∧ (jf fw_T (d + 4) 278 192 [(0, .inr (.inl 352)), (2, .inl (r + (1 : Int)))] [] (fw_up (fw_put [383, 382] 352 [50, 51] W f) 352 50 r) Post)))))) ∧ (¬ (fw_g f 383 r) = 0 → -2147483648 ≤ r + (1 : Int) ∧ r + (1 : Int) ≤ 2147483647 ∧ (jf fw_T (d + 4) 278 192 [(0, .inr (.inl 352)), (2, .inl (r + (1 : Int)))] [] (fw_put [383, 382] 352 [50, 51] W f) Post)))))))) :
    jf fw_T (d + 4) 278 192 [(0, .inr (.inl 352)), (2, .inl r)] [] (fw_put [383, 382] 352 [50, 51] W f) Post := fw_ok (n := 19) (ss := [(7, [0, 1, 2]), (41, [0, 1, 2]), (48, [0, 1, 2, 3]), (91, [0, 1, 2, 3]), (126, [0, 1, 2, 3, 4]), (192, [0, 2])]) (hv := []) fr_278_ok fm_ok (ct_layMiddle_ok d) hw_

theorem s_layMiddle_41 {Post : Option fw_V → fw_W → Prop} {d : Nat} {W : fw_W} {left r : Int} {f : fw_W}
    (hw_ : ((left ≤ (2 : Int) → -1 ≤ (-1 : Int) ∧ (-1 : Int) ≤ 13 ∧ (-1 ≤ (-1 : Int) ∧ (-1 : Int) ≤ 13 ∧ (jf fw_T (d + 4) 278 192 [(0, .inr (.inl 352)), (2, .inl (0 : Int))] [] (fw_up (fw_up (fw_put [383, 382] 352 [50, 51] W f) 352 50 (-1 : Int)) 352 51 (-1 : Int)) Post))) ∧ ((2 : Int) < left → jf fw_T (d + 4) 278 48 [(0, .inr (.inl 352)), (1, .inl left), (2, .inl r), (3, .inl (0 : Int))] [] (fw_put [383, 382] 352 [50, 51] W f) Post))) :
    jf fw_T (d + 4) 278 41 [(0, .inr (.inl 352)), (1, .inl left), (2, .inl r)] [] (fw_put [383, 382] 352 [50, 51] W f) Post := fw_ok (n := 12) (ss := [(7, [0, 1, 2]), (41, [0, 1, 2]), (48, [0, 1, 2, 3]), (91, [0, 1, 2, 3]), (126, [0, 1, 2, 3, 4]), (192, [0, 2])]) (hv := []) fr_278_ok fm_ok (ct_layMiddle_ok d) hw_

theorem s_layMiddle_7 {Post : Option fw_V → fw_W → Prop} {d : Nat} {W : fw_W} {left r : Int} {f : fw_W}
    (hw_ : (True) ∧ ((((fw_g W 366 0) ≤ r → jf fw_T (d + 4) 278 41 [(0, .inr (.inl 352)), (1, .inl left), (2, .inl (1 : Int))] [] (fw_put [383, 382] 352 [50, 51] W f) Post) ∧ (r < (fw_g W 366 0) → (mt (fw_put [383, 382] 352 [50, 51] W f) ∧ 0 ≤ (fw_g W 366 0) ∧ (fw_g W 366 0) ≤ 14 ∧ 0 ≤ r ∧ r < 14) ∧ (∀ (r1 : Int), ((-2147483648 ≤ r1 ∧ r1 ≤ 2147483647 ∧ (r1 = ((dga (fun z_ => (fw_g W 366 (2 + 3 * z_))) ((fw_g W 366 0)).toNat r : Nat) : Int)))) → 0 ≤ r ∧ r < 14 ∧ -2147483648 ≤ r1 ∧ r1 ≤ 2147483647 ∧ (0 ≤ r ∧ r < 14 ∧ -2147483648 ≤ (0 : Int) ∧ (0 : Int) ≤ 2147483647 ∧ (-2147483648 ≤ r + (1 : Int) ∧ r + (1 : Int) ≤ 2147483647 ∧ (jf fw_T (d + 4) 278 7 [(0, .inr (.inl 352)), (1, .inl left), (2, .inl (r + (1 : Int)))] [] (fw_up (fw_up (fw_put [383, 382] 352 [50, 51] W f) 382 r r1) 383 r (0 : Int)) Post)))))))) :
    jf fw_T (d + 4) 278 7 [(0, .inr (.inl 352)), (1, .inl left), (2, .inl r)] [] (fw_put [383, 382] 352 [50, 51] W f) Post := fw_ok (n := 19) (ss := [(7, [0, 1, 2]), (41, [0, 1, 2]), (48, [0, 1, 2, 3]), (91, [0, 1, 2, 3]), (126, [0, 1, 2, 3, 4]), (192, [0, 2])]) (hv := []) fr_278_ok fm_ok (ct_layMiddle_ok d) hw_

theorem lm_layMiddle_126 {Post : Option fw_V → fw_W → Prop} {d : Nat} {W : fw_W} (hpre : mt W ∧ 0 ≤ (fw_g W 366 0) ∧ (fw_g W 366 0) ≤ 14 ∧ 1 ≤ (fw_g W 366 0)) (hP : ∀ (W2 : fw_W), fw_sm [383, 382] 352 [50, 51] W W2 → (0 ≤ (fw_g W2 352 50) ∧ (fw_g W2 352 50) < (fw_g W 366 0) ∧ -1 ≤ (fw_g W2 352 51) ∧ (fw_g W2 352 51) < (fw_g W 366 0)) → Post none W2) (M41 : Int) (h41 : ∀ (left r : Int) (f : fw_W), (1 ≤ r ∧ r + left ≤ (fw_g W 366 0) + 1 ∧ 0 ≤ left) ∧ lb_ok ((fw_g W 366 0)) (fun z_ => (fw_g W 366 (2 + 3 * z_))) (fun z_ => (fw_g f 383 z_)) (fun z_ => (fw_g f 382 z_)) r left → left < M41 → jf fw_T (d + 4) 278 41 [(0, .inr (.inl 352)), (1, .inl left), (2, .inl r)] [] (fw_put [383, 382] 352 [50, 51] W f) Post) (M91 : Int) (h91 : ∀ (left r h : Int) (f : fw_W), (0 ≤ h ∧ h ≤ (fw_g W 366 0) ∧ 1 ≤ r ∧ r + ((cn0 (fun z_ => (fw_g f 383 z_)) ((fw_g W 366 0)).toNat : Nat) : Int) ≤ (fw_g W 366 0) ∧ left ≤ (fw_g W 366 0) ∧ 0 ≤ left) ∧ ld_ok ((fw_g W 366 0)) (fun z_ => (fw_g W 366 (2 + 3 * z_))) (fun z_ => (fw_g f 383 z_)) (fun z_ => (fw_g f 382 z_)) r left h → ((fw_g W 366 0) - h) < M91 → (((cn0 (fun z_ => (fw_g f 383 z_)) ((fw_g W 366 0)).toNat : Nat) : Int) + 1) ≤ M41 → jf fw_T (d + 4) 278 91 [(0, .inr (.inl 352)), (1, .inl left), (2, .inl r), (3, .inl h)] [] (fw_put [383, 382] 352 [50, 51] W f) Post) : ∀ (m : Nat) (left r h k : Int) (f : fw_W), ((fw_g W 366 0) - k).toNat = m → (0 ≤ k ∧ k ≤ (fw_g W 366 0) ∧ 0 ≤ h ∧ h < (fw_g W 366 0) ∧ 1 ≤ r ∧ r + ((cn0 (fun z_ => (fw_g f 383 z_)) ((fw_g W 366 0)).toNat : Nat) : Int) ≤ (fw_g W 366 0) ∧ left ≤ (fw_g W 366 0) ∧ 0 ≤ left) ∧ le_ok ((fw_g W 366 0)) (fun z_ => (fw_g W 366 (2 + 3 * z_))) (fun z_ => (fw_g f 383 z_)) (fun z_ => (fw_g f 382 z_)) r left h k → ((fw_g W 366 0) - h) ≤ M91 → (((cn0 (fun z_ => (fw_g f 383 z_)) ((fw_g W 366 0)).toNat : Nat) : Int) + 1) ≤ M41 → jf fw_T (d + 4) 278 126 [(0, .inr (.inl 352)), (1, .inl left), (2, .inl r), (3, .inl h), (4, .inl k)] [] (fw_put [383, 382] 352 [50, 51] W f) Post := by
  intro m
  induction m using Nat.strongRecOn with
  | ind m ih =>
    intro left r h k f hm hi e91 e41
    refine jf_rng (fun hrg => ?_)
    have hrg : -2147483648 ≤ left ∧ left ≤ 2147483647 ∧ -2147483648 ≤ r ∧ r ≤ 2147483647 ∧ -2147483648 ≤ h ∧ h ≤ 2147483647 ∧ -2147483648 ≤ k ∧ k ≤ 2147483647 ∧ True := hrg
    refine s_layMiddle_126 ?_
    have hi1 := hi.1
    have hbd : k < (fw_g W 366 0) → -14 ≤ (fw_g f 382 k) ∧ (fw_g f 382 k) ≤ 14 := fun z => by
      have a := le_bd hi.2 (x := k) (by omega) z
      have a2 : -((fw_g W 366 0) - left) ≤ (fw_g f 382 k) ∧ (fw_g f 382 k) ≤ 14 := a
      omega
    repeat' (first
      | (exact True.intro)
      | (exact hpre.1)
      | (refine And.intro ?_ ?_)
      | (refine (h41 _ _ _ ?_ (by omega)); (first | omega | trivial | (simp (config := { decide := true }) only [fg_in, fg_fin, fg_out, fg_fout, fg_up, fg_same, true_and, and_true] <;> omega)))
      | (refine jf_put (S := [383, 382]) (o := 352) (F := [50, 51]) (W := W) (by repeat (first | exact fw_sm_refl | exact fw_sm_put0 | refine fw_sm_arr ?_ rfl | refine fw_sm_up ?_ rfl | refine fw_sm_put ?_ rfl | refine fw_sm_cp ?_ rfl)) (h41 _ _ _ ?_ (by omega)); (first | omega | trivial | (simp (config := { decide := true }) only [fg_in, fg_fin, fg_out, fg_fout, fg_up, fg_same, true_and, and_true] <;> omega)))
      | (refine (h91 _ _ _ _ ?_ (by omega) (by omega)); (
        have e : k = (fw_g W 366 0) := by omega
        rw [e] at hi
        exact ⟨by omega, le_ld hpre.1.2.2.1 (by omega) hi.2 (by omega) (by omega)⟩))
      | (refine jf_put (S := [383, 382]) (o := 352) (F := [50, 51]) (W := W) (by repeat (first | exact fw_sm_refl | exact fw_sm_put0 | refine fw_sm_arr ?_ rfl | refine fw_sm_up ?_ rfl | refine fw_sm_put ?_ rfl | refine fw_sm_cp ?_ rfl)) (h91 _ _ _ _ ?_ (by omega) (by omega)); (
        have e : k = (fw_g W 366 0) := by omega
        rw [e] at hi
        exact ⟨by omega, le_ld hpre.1.2.2.1 (by omega) hi.2 (by omega) (by omega)⟩))
      | (refine (ih _ (by omega) _ _ _ _ _ rfl ?_ (by first | omega | exact e91) (by first | omega | exact e41)); (
        first
          | (have nx : ¬ (k ≠ h ∧ ((fw_g W 366 (2 + 3 * h)) = k ∨ (fw_g W 366 (2 + 3 * k)) = h)) := by omega
             exact ⟨by omega, le_step hi.2 (by omega) (by omega) (fun x x1 x2 => (if_neg (fun z => nx z.2)).symm)⟩)
          | (have nx : k ≠ h ∧ ((fw_g W 366 (2 + 3 * h)) = k ∨ (fw_g W 366 (2 + 3 * k)) = h) := by omega
             refine ⟨⟨by omega, by omega, by omega, by omega, by omega, hi1.2.2.2.2.2.1, by omega, by omega⟩, le_step (LV := (fun z_ => (fw_g f 383 z_))) (SL := (fun z_ => (fw_g f 382 z_))) hi.2 (by omega) (by omega) (fun x x1 x2 => ?_)⟩
             show fw_g _ 382 x = if k = x ∧ k ≠ h ∧ ((fw_g W 366 (2 + 3 * h)) = k ∨ (fw_g W 366 (2 + 3 * k)) = h) then (fw_g f 382 x) - 1 else (fw_g f 382 x)
             rw [fg_if (by omega) (by omega) (by omega) (by omega)]
             by_cases e : k = x
             · rw [if_pos e, if_pos ⟨e, nx⟩, ← e]
             · rw [if_neg e, if_neg (fun z => e z.1)]; rfl)))
      | (refine jf_put (S := [383, 382]) (o := 352) (F := [50, 51]) (W := W) (by repeat (first | exact fw_sm_refl | exact fw_sm_put0 | refine fw_sm_arr ?_ rfl | refine fw_sm_up ?_ rfl | refine fw_sm_put ?_ rfl | refine fw_sm_cp ?_ rfl)) (ih _ (by omega) _ _ _ _ _ rfl ?_ (by first | omega | exact e91) (by first | omega | exact e41)); (
        first
          | (have nx : ¬ (k ≠ h ∧ ((fw_g W 366 (2 + 3 * h)) = k ∨ (fw_g W 366 (2 + 3 * k)) = h)) := by omega
             exact ⟨by omega, le_step hi.2 (by omega) (by omega) (fun x x1 x2 => (if_neg (fun z => nx z.2)).symm)⟩)
          | (have nx : k ≠ h ∧ ((fw_g W 366 (2 + 3 * h)) = k ∨ (fw_g W 366 (2 + 3 * k)) = h) := by omega
             refine ⟨⟨by omega, by omega, by omega, by omega, by omega, hi1.2.2.2.2.2.1, by omega, by omega⟩, le_step (LV := (fun z_ => (fw_g f 383 z_))) (SL := (fun z_ => (fw_g f 382 z_))) hi.2 (by omega) (by omega) (fun x x1 x2 => ?_)⟩
             show fw_g _ 382 x = if k = x ∧ k ≠ h ∧ ((fw_g W 366 (2 + 3 * h)) = k ∨ (fw_g W 366 (2 + 3 * k)) = h) then (fw_g f 382 x) - 1 else (fw_g f 382 x)
             rw [fg_if (by omega) (by omega) (by omega) (by omega)]
             by_cases e : k = x
             · rw [if_pos e, if_pos ⟨e, nx⟩, ← e]
             · rw [if_neg e, if_neg (fun z => e z.1)]; rfl)))
      | (refine hP _ (by repeat (first | exact fw_sm_refl | exact fw_sm_put0 | refine fw_sm_arr ?_ rfl | refine fw_sm_up ?_ rfl | refine fw_sm_put ?_ rfl | refine fw_sm_cp ?_ rfl)) ?_; (
        obtain ⟨z, z1, z2, z3⟩ := hi.2.2
        have h7 := hi.2.1 z z1 (by omega) z3
        have h8 := hi.1
        have h9 : 0 ≤ fw_g f 352 50 ∧ fw_g f 352 50 < fw_g W 366 0 ∧ -1 ≤ fw_g f 352 51 ∧ fw_g f 352 51 < fw_g W 366 0 := by omega
        exact h9))
      | omega
      | (intro _))
theorem lm_layMiddle_91 {Post : Option fw_V → fw_W → Prop} {d : Nat} {W : fw_W} (hpre : mt W ∧ 0 ≤ (fw_g W 366 0) ∧ (fw_g W 366 0) ≤ 14 ∧ 1 ≤ (fw_g W 366 0)) (hP : ∀ (W2 : fw_W), fw_sm [383, 382] 352 [50, 51] W W2 → (0 ≤ (fw_g W2 352 50) ∧ (fw_g W2 352 50) < (fw_g W 366 0) ∧ -1 ≤ (fw_g W2 352 51) ∧ (fw_g W2 352 51) < (fw_g W 366 0)) → Post none W2) (M41 : Int) (h41 : ∀ (left r : Int) (f : fw_W), (1 ≤ r ∧ r + left ≤ (fw_g W 366 0) + 1 ∧ 0 ≤ left) ∧ lb_ok ((fw_g W 366 0)) (fun z_ => (fw_g W 366 (2 + 3 * z_))) (fun z_ => (fw_g f 383 z_)) (fun z_ => (fw_g f 382 z_)) r left → left < M41 → jf fw_T (d + 4) 278 41 [(0, .inr (.inl 352)), (1, .inl left), (2, .inl r)] [] (fw_put [383, 382] 352 [50, 51] W f) Post) : ∀ (m : Nat) (left r h : Int) (f : fw_W), ((fw_g W 366 0) - h).toNat = m → (0 ≤ h ∧ h ≤ (fw_g W 366 0) ∧ 1 ≤ r ∧ r + ((cn0 (fun z_ => (fw_g f 383 z_)) ((fw_g W 366 0)).toNat : Nat) : Int) ≤ (fw_g W 366 0) ∧ left ≤ (fw_g W 366 0) ∧ 0 ≤ left) ∧ ld_ok ((fw_g W 366 0)) (fun z_ => (fw_g W 366 (2 + 3 * z_))) (fun z_ => (fw_g f 383 z_)) (fun z_ => (fw_g f 382 z_)) r left h → (((cn0 (fun z_ => (fw_g f 383 z_)) ((fw_g W 366 0)).toNat : Nat) : Int) + 1) ≤ M41 → jf fw_T (d + 4) 278 91 [(0, .inr (.inl 352)), (1, .inl left), (2, .inl r), (3, .inl h)] [] (fw_put [383, 382] 352 [50, 51] W f) Post := by
  intro m
  induction m using Nat.strongRecOn with
  | ind m ih =>
    intro left r h f hm hi e41
    refine jf_rng (fun hrg => ?_)
    have hrg : -2147483648 ≤ left ∧ left ≤ 2147483647 ∧ -2147483648 ≤ r ∧ r ≤ 2147483647 ∧ -2147483648 ≤ h ∧ h ≤ 2147483647 ∧ True := hrg
    refine s_layMiddle_91 ?_
    have hi1 := hi.1
    have hl0 : 0 ≤ left := by have := hi.2.1.2.2; omega
    have hdb : (fw_g W 366 0) ≤ h → lb_ok ((fw_g W 366 0)) (fun z_ => (fw_g W 366 (2 + 3 * z_))) (fun z_ => (fw_g f 383 z_)) (fun z_ => (fw_g f 382 z_)) (r + 1) left ∧ left = ((cn0 (fun z_ => (fw_g f 383 z_)) ((fw_g W 366 0)).toNat : Nat) : Int) := fun z => by
      have e : h = (fw_g W 366 0) := by omega
      rw [e] at hi
      exact ld_lb hpre.1.2.2.1 (by omega) hi.2
    have hdb2 : (fw_g W 366 0) ≤ h → left = ((cn0 (fun z_ => (fw_g f 383 z_)) ((fw_g W 366 0)).toNat : Nat) : Int) := fun z => (hdb z).2
    have hde : h < (fw_g W 366 0) → (fw_g f 383 h) = -r → le_ok ((fw_g W 366 0)) (fun z_ => (fw_g W 366 (2 + 3 * z_))) (fun z_ => fw_g (fw_up (fw_put [383, 382] 352 [50, 51] W f) 383 h r) 383 z_) (fun z_ => (fw_g f 382 z_)) r (left - 1) h 0 ∧ ((cn0 (fun z_ => fw_g (fw_up (fw_put [383, 382] 352 [50, 51] W f) 383 h r) 383 z_) ((fw_g W 366 0)).toNat : Nat) : Int) = ((cn0 (fun z_ => (fw_g f 383 z_)) ((fw_g W 366 0)).toNat : Nat) : Int) := fun z z2 => by
      have a := ld_le (LV' := fun z_ => fw_g (fw_up (fw_put [383, 382] 352 [50, 51] W f) 383 h r) 383 z_) hpre.1.2.2.1 (by omega) hi.2 (by omega) z z2 (fun x x1 x2 => fg_if (by omega) (by omega) (by omega) (by omega))
      exact ⟨a.1, congrArg Int.ofNat a.2⟩
    have hde2 : h < (fw_g W 366 0) → (fw_g f 383 h) = -r → ((cn0 (fun z_ => fw_g (fw_up (fw_put [383, 382] 352 [50, 51] W f) 383 h r) 383 z_) ((fw_g W 366 0)).toNat : Nat) : Int) = ((cn0 (fun z_ => (fw_g f 383 z_)) ((fw_g W 366 0)).toNat : Nat) : Int) := fun z z2 => (hde z z2).2
    have hde3 : h < (fw_g W 366 0) → (fw_g f 383 h) = -r → 1 ≤ left := fun z z2 => ld_pos (by omega) hi.2 (by omega) z z2
    repeat' (first
      | (exact True.intro)
      | (exact hpre.1)
      | (refine And.intro ?_ ?_)
      | (refine (h41 _ _ _ ?_ (by omega)); (exact ⟨by omega, (hdb (by omega)).1⟩))
      | (refine jf_put (S := [383, 382]) (o := 352) (F := [50, 51]) (W := W) (by repeat (first | exact fw_sm_refl | exact fw_sm_put0 | refine fw_sm_arr ?_ rfl | refine fw_sm_up ?_ rfl | refine fw_sm_put ?_ rfl | refine fw_sm_cp ?_ rfl)) (h41 _ _ _ ?_ (by omega)); (exact ⟨by omega, (hdb (by omega)).1⟩))
      | (refine (ih _ (by omega) _ _ _ _ rfl ?_ (by first | omega | exact e41)); (exact ⟨by omega, ld_skip hi.2 (by show (fw_g f 383 h) ≠ -r; omega)⟩))
      | (refine jf_put (S := [383, 382]) (o := 352) (F := [50, 51]) (W := W) (by repeat (first | exact fw_sm_refl | exact fw_sm_put0 | refine fw_sm_arr ?_ rfl | refine fw_sm_up ?_ rfl | refine fw_sm_put ?_ rfl | refine fw_sm_cp ?_ rfl)) (ih _ (by omega) _ _ _ _ rfl ?_ (by first | omega | exact e41)); (exact ⟨by omega, ld_skip hi.2 (by show (fw_g f 383 h) ≠ -r; omega)⟩))
      | (refine (lm_layMiddle_126 hpre hP M41 h41 ((fw_g W 366 0) - h) (fun a0 a1 a2 af hi hl e41 => ih _ (by omega) a0 a1 a2 af rfl hi e41) _ _ _ _ _ _ rfl ?_ (by omega) (by omega)); (exact ⟨by omega, (hde (by omega) (by omega)).1⟩))
      | (refine jf_put (S := [383, 382]) (o := 352) (F := [50, 51]) (W := W) (by repeat (first | exact fw_sm_refl | exact fw_sm_put0 | refine fw_sm_arr ?_ rfl | refine fw_sm_up ?_ rfl | refine fw_sm_put ?_ rfl | refine fw_sm_cp ?_ rfl)) (lm_layMiddle_126 hpre hP M41 h41 ((fw_g W 366 0) - h) (fun a0 a1 a2 af hi hl e41 => ih _ (by omega) a0 a1 a2 af rfl hi e41) _ _ _ _ _ _ rfl ?_ (by omega) (by omega)); (exact ⟨by omega, (hde (by omega) (by omega)).1⟩))
      | (refine hP _ (by repeat (first | exact fw_sm_refl | exact fw_sm_put0 | refine fw_sm_arr ?_ rfl | refine fw_sm_up ?_ rfl | refine fw_sm_put ?_ rfl | refine fw_sm_cp ?_ rfl)) ?_; (
        obtain ⟨z, z1, z2, z3⟩ := hi.2.2
        have h7 := hi.2.1 z z1 (by omega) z3
        have h8 := hi.1
        have h9 : 0 ≤ fw_g f 352 50 ∧ fw_g f 352 50 < fw_g W 366 0 ∧ -1 ≤ fw_g f 352 51 ∧ fw_g f 352 51 < fw_g W 366 0 := by omega
        exact h9))
      | omega
      | (intro _))
theorem lm_layMiddle_48 {Post : Option fw_V → fw_W → Prop} {d : Nat} {W : fw_W} (hpre : mt W ∧ 0 ≤ (fw_g W 366 0) ∧ (fw_g W 366 0) ≤ 14 ∧ 1 ≤ (fw_g W 366 0)) (hP : ∀ (W2 : fw_W), fw_sm [383, 382] 352 [50, 51] W W2 → (0 ≤ (fw_g W2 352 50) ∧ (fw_g W2 352 50) < (fw_g W 366 0) ∧ -1 ≤ (fw_g W2 352 51) ∧ (fw_g W2 352 51) < (fw_g W 366 0)) → Post none W2) (M41 : Int) (h41 : ∀ (left r : Int) (f : fw_W), (1 ≤ r ∧ r + left ≤ (fw_g W 366 0) + 1 ∧ 0 ≤ left) ∧ lb_ok ((fw_g W 366 0)) (fun z_ => (fw_g W 366 (2 + 3 * z_))) (fun z_ => (fw_g f 383 z_)) (fun z_ => (fw_g f 382 z_)) r left → left < M41 → jf fw_T (d + 4) 278 41 [(0, .inr (.inl 352)), (1, .inl left), (2, .inl r)] [] (fw_put [383, 382] 352 [50, 51] W f) Post) : ∀ (m : Nat) (left r h : Int) (f : fw_W), ((fw_g W 366 0) - h).toNat = m → (0 ≤ h ∧ h ≤ (fw_g W 366 0) ∧ 1 ≤ r ∧ r + left ≤ (fw_g W 366 0) + 1 ∧ 3 ≤ left) ∧ lc_ok ((fw_g W 366 0)) (fun z_ => (fw_g W 366 (2 + 3 * z_))) (fun z_ => (fw_g f 383 z_)) (fun z_ => (fw_g f 382 z_)) r left h → left ≤ M41 → jf fw_T (d + 4) 278 48 [(0, .inr (.inl 352)), (1, .inl left), (2, .inl r), (3, .inl h)] [] (fw_put [383, 382] 352 [50, 51] W f) Post := by
  intro m
  induction m using Nat.strongRecOn with
  | ind m ih =>
    intro left r h f hm hi e41
    refine jf_rng (fun hrg => ?_)
    have hrg : -2147483648 ≤ left ∧ left ≤ 2147483647 ∧ -2147483648 ≤ r ∧ r ≤ 2147483647 ∧ -2147483648 ≤ h ∧ h ≤ 2147483647 ∧ True := hrg
    refine s_layMiddle_48 ?_
    have hi1 := hi.1
    have hcd : (fw_g W 366 0) ≤ h → ld_ok ((fw_g W 366 0)) (fun z_ => (fw_g W 366 (2 + 3 * z_))) (fun z_ => (fw_g f 383 z_)) (fun z_ => (fw_g f 382 z_)) r left 0 ∧ ((cn0 (fun z_ => (fw_g f 383 z_)) ((fw_g W 366 0)).toNat : Nat) : Int) + 1 ≤ left := fun z => by
      have e : h = (fw_g W 366 0) := by omega
      rw [e] at hi
      exact lc_ld hpre.1.2.2.1 (by omega) hi.2 (by omega)
    have hcd2 : (fw_g W 366 0) ≤ h → ((cn0 (fun z_ => (fw_g f 383 z_)) ((fw_g W 366 0)).toNat : Nat) : Int) + 1 ≤ left := fun z => (hcd z).2
    repeat' (first
      | (exact True.intro)
      | (exact hpre.1)
      | (refine And.intro ?_ ?_)
      | (refine (h41 _ _ _ ?_ (by omega)); (first | omega | trivial | (simp (config := { decide := true }) only [fg_in, fg_fin, fg_out, fg_fout, fg_up, fg_same, true_and, and_true] <;> omega)))
      | (refine jf_put (S := [383, 382]) (o := 352) (F := [50, 51]) (W := W) (by repeat (first | exact fw_sm_refl | exact fw_sm_put0 | refine fw_sm_arr ?_ rfl | refine fw_sm_up ?_ rfl | refine fw_sm_put ?_ rfl | refine fw_sm_cp ?_ rfl)) (h41 _ _ _ ?_ (by omega)); (first | omega | trivial | (simp (config := { decide := true }) only [fg_in, fg_fin, fg_out, fg_fout, fg_up, fg_same, true_and, and_true] <;> omega)))
      | (refine (ih _ (by omega) _ _ _ _ rfl ?_ (by first | omega | exact e41)); (
        first
          | exact ⟨by omega, lc_skip hi.2 (by show ¬ ((fw_g f 383 h) = 0 ∧ (fw_g f 382 h) = 1); omega)⟩
          | exact ⟨by omega, lc_mark hpre.1.2.2.1 (by omega) hi.2 (by omega) (by omega) (by show (fw_g f 383 h) = 0; omega) (by show (fw_g f 382 h) = 1; omega) (fun x x1 x2 => fg_if (by omega) (by omega) (by omega) (by omega))⟩))
      | (refine jf_put (S := [383, 382]) (o := 352) (F := [50, 51]) (W := W) (by repeat (first | exact fw_sm_refl | exact fw_sm_put0 | refine fw_sm_arr ?_ rfl | refine fw_sm_up ?_ rfl | refine fw_sm_put ?_ rfl | refine fw_sm_cp ?_ rfl)) (ih _ (by omega) _ _ _ _ rfl ?_ (by first | omega | exact e41)); (
        first
          | exact ⟨by omega, lc_skip hi.2 (by show ¬ ((fw_g f 383 h) = 0 ∧ (fw_g f 382 h) = 1); omega)⟩
          | exact ⟨by omega, lc_mark hpre.1.2.2.1 (by omega) hi.2 (by omega) (by omega) (by show (fw_g f 383 h) = 0; omega) (by show (fw_g f 382 h) = 1; omega) (fun x x1 x2 => fg_if (by omega) (by omega) (by omega) (by omega))⟩))
      | (refine (lm_layMiddle_91 hpre hP M41 h41 _ _ _ _ _ rfl ?_ (by omega)); (exact ⟨by omega, (hcd (by omega)).1⟩))
      | (refine jf_put (S := [383, 382]) (o := 352) (F := [50, 51]) (W := W) (by repeat (first | exact fw_sm_refl | exact fw_sm_put0 | refine fw_sm_arr ?_ rfl | refine fw_sm_up ?_ rfl | refine fw_sm_put ?_ rfl | refine fw_sm_cp ?_ rfl)) (lm_layMiddle_91 hpre hP M41 h41 _ _ _ _ _ rfl ?_ (by omega)); (exact ⟨by omega, (hcd (by omega)).1⟩))
      | (refine hP _ (by repeat (first | exact fw_sm_refl | exact fw_sm_put0 | refine fw_sm_arr ?_ rfl | refine fw_sm_up ?_ rfl | refine fw_sm_put ?_ rfl | refine fw_sm_cp ?_ rfl)) ?_; (
        obtain ⟨z, z1, z2, z3⟩ := hi.2.2
        have h7 := hi.2.1 z z1 (by omega) z3
        have h8 := hi.1
        have h9 : 0 ≤ fw_g f 352 50 ∧ fw_g f 352 50 < fw_g W 366 0 ∧ -1 ≤ fw_g f 352 51 ∧ fw_g f 352 51 < fw_g W 366 0 := by omega
        exact h9))
      | omega
      | (intro _))
theorem lm_layMiddle_192 {Post : Option fw_V → fw_W → Prop} {d : Nat} {W : fw_W} (hpre : mt W ∧ 0 ≤ (fw_g W 366 0) ∧ (fw_g W 366 0) ≤ 14 ∧ 1 ≤ (fw_g W 366 0)) (hP : ∀ (W2 : fw_W), fw_sm [383, 382] 352 [50, 51] W W2 → (0 ≤ (fw_g W2 352 50) ∧ (fw_g W2 352 50) < (fw_g W 366 0) ∧ -1 ≤ (fw_g W2 352 51) ∧ (fw_g W2 352 51) < (fw_g W 366 0)) → Post none W2)  : ∀ (m : Nat) (r : Int) (f : fw_W), ((fw_g W 366 0) - r).toNat = m → ((0 ≤ r ∧ -1 ≤ (fw_g f 352 50) ∧ (fw_g f 352 50) < (fw_g W 366 0) ∧ -1 ≤ (fw_g f 352 51) ∧ (fw_g f 352 51) < (fw_g W 366 0)) ∧ (∀ x_, 0 ≤ x_ → x_ < r → (fw_g f 383 x_) = 0 → 0 ≤ (fw_g f 352 50)) ∧ lm_z ((fw_g W 366 0)) (fun z_ => (fw_g f 383 z_))) → jf fw_T (d + 4) 278 192 [(0, .inr (.inl 352)), (2, .inl r)] [] (fw_put [383, 382] 352 [50, 51] W f) Post := by
  intro m
  induction m using Nat.strongRecOn with
  | ind m ih =>
    intro r f hm hi
    refine jf_rng (fun hrg => ?_)
    have hrg : -2147483648 ≤ r ∧ r ≤ 2147483647 ∧ True := hrg
    refine s_layMiddle_192 ?_
    have hi1 := hi.1
    have e50 : fw_g (fw_up (fw_put [383, 382] 352 [50, 51] W f) 352 51 r) 352 50 = (fw_g f 352 50) := (fg_lit rfl).trans (fg_fin rfl)
    have e51 : fw_g (fw_up (fw_put [383, 382] 352 [50, 51] W f) 352 50 r) 352 51 = (fw_g f 352 51) := (fg_lit rfl).trans (fg_fin rfl)
    have s51 : fw_g (fw_up (fw_put [383, 382] 352 [50, 51] W f) 352 51 r) 352 51 = r := fg_same (by omega) (by omega)
    have s50 : fw_g (fw_up (fw_put [383, 382] 352 [50, 51] W f) 352 50 r) 352 50 = r := fg_same (by omega) (by omega)
    repeat' (first
      | (exact True.intro)
      | (exact hpre.1)
      | (refine And.intro ?_ ?_)
      | (refine (ih _ (by omega) _ _ rfl ?_); (
        first
          | (refine ⟨by omega, fun x x1 x2 x3 => ?_, hi.2.2⟩
             by_cases e : x = r
             · exfalso; rw [e] at x3; omega
             · exact hi.2.1 x x1 (by omega) x3)
          | (refine ⟨by rw [e50, s51]; omega, fun x x1 x2 x3 => by rw [e50]; omega, ?_⟩
             obtain ⟨z, z1, z2, z3⟩ := hi.2.2
             exact ⟨z, z1, z2, z3⟩)
          | (refine ⟨by rw [e51, s50]; omega, fun x x1 x2 x3 => by rw [s50]; omega, ?_⟩
             obtain ⟨z, z1, z2, z3⟩ := hi.2.2
             exact ⟨z, z1, z2, z3⟩)))
      | (refine jf_put (S := [383, 382]) (o := 352) (F := [50, 51]) (W := W) (by repeat (first | exact fw_sm_refl | exact fw_sm_put0 | refine fw_sm_arr ?_ rfl | refine fw_sm_up ?_ rfl | refine fw_sm_put ?_ rfl | refine fw_sm_cp ?_ rfl)) (ih _ (by omega) _ _ rfl ?_); (
        first
          | (refine ⟨by omega, fun x x1 x2 x3 => ?_, hi.2.2⟩
             by_cases e : x = r
             · exfalso; rw [e] at x3; omega
             · exact hi.2.1 x x1 (by omega) x3)
          | (refine ⟨by rw [e50, s51]; omega, fun x x1 x2 x3 => by rw [e50]; omega, ?_⟩
             obtain ⟨z, z1, z2, z3⟩ := hi.2.2
             exact ⟨z, z1, z2, z3⟩)
          | (refine ⟨by rw [e51, s50]; omega, fun x x1 x2 x3 => by rw [s50]; omega, ?_⟩
             obtain ⟨z, z1, z2, z3⟩ := hi.2.2
             exact ⟨z, z1, z2, z3⟩)))
      | (refine hP _ (by repeat (first | exact fw_sm_refl | exact fw_sm_put0 | refine fw_sm_arr ?_ rfl | refine fw_sm_up ?_ rfl | refine fw_sm_put ?_ rfl | refine fw_sm_cp ?_ rfl)) ?_; (
        obtain ⟨z, z1, z2, z3⟩ := hi.2.2
        have h7 := hi.2.1 z z1 (by omega) z3
        have h8 := hi.1
        have h9 : 0 ≤ fw_g f 352 50 ∧ fw_g f 352 50 < fw_g W 366 0 ∧ -1 ≤ fw_g f 352 51 ∧ fw_g f 352 51 < fw_g W 366 0 := by omega
        exact h9))
      | omega
      | (intro _))
theorem lm_layMiddle_41 {Post : Option fw_V → fw_W → Prop} {d : Nat} {W : fw_W} (hpre : mt W ∧ 0 ≤ (fw_g W 366 0) ∧ (fw_g W 366 0) ≤ 14 ∧ 1 ≤ (fw_g W 366 0)) (hP : ∀ (W2 : fw_W), fw_sm [383, 382] 352 [50, 51] W W2 → (0 ≤ (fw_g W2 352 50) ∧ (fw_g W2 352 50) < (fw_g W 366 0) ∧ -1 ≤ (fw_g W2 352 51) ∧ (fw_g W2 352 51) < (fw_g W 366 0)) → Post none W2)  : ∀ (m : Nat) (left r : Int) (f : fw_W), (left).toNat = m → (1 ≤ r ∧ r + left ≤ (fw_g W 366 0) + 1 ∧ 0 ≤ left) ∧ lb_ok ((fw_g W 366 0)) (fun z_ => (fw_g W 366 (2 + 3 * z_))) (fun z_ => (fw_g f 383 z_)) (fun z_ => (fw_g f 382 z_)) r left → jf fw_T (d + 4) 278 41 [(0, .inr (.inl 352)), (1, .inl left), (2, .inl r)] [] (fw_put [383, 382] 352 [50, 51] W f) Post := by
  intro m
  induction m using Nat.strongRecOn with
  | ind m ih =>
    intro left r f hm hi
    refine jf_rng (fun hrg => ?_)
    have hrg : -2147483648 ≤ left ∧ left ≤ 2147483647 ∧ -2147483648 ≤ r ∧ r ≤ 2147483647 ∧ True := hrg
    refine s_layMiddle_41 ?_
    have hi1 := hi.1
    repeat' (first
      | (exact True.intro)
      | (exact hpre.1)
      | (refine And.intro ?_ ?_)
      | (refine (ih _ (by omega) _ _ _ rfl ?_); (first | omega | trivial | (simp (config := { decide := true }) only [fg_in, fg_fin, fg_out, fg_fout, fg_up, fg_same, true_and, and_true] <;> omega)))
      | (refine jf_put (S := [383, 382]) (o := 352) (F := [50, 51]) (W := W) (by repeat (first | exact fw_sm_refl | exact fw_sm_put0 | refine fw_sm_arr ?_ rfl | refine fw_sm_up ?_ rfl | refine fw_sm_put ?_ rfl | refine fw_sm_cp ?_ rfl)) (ih _ (by omega) _ _ _ rfl ?_); (first | omega | trivial | (simp (config := { decide := true }) only [fg_in, fg_fin, fg_out, fg_fout, fg_up, fg_same, true_and, and_true] <;> omega)))
      | (refine (lm_layMiddle_48 hpre hP left (fun a0 a1 af hi hl => ih _ (by omega) a0 a1 af rfl hi) _ _ _ _ _ rfl ?_ (by omega)); (exact ⟨by omega, lb_lc hi.2⟩))
      | (refine jf_put (S := [383, 382]) (o := 352) (F := [50, 51]) (W := W) (by repeat (first | exact fw_sm_refl | exact fw_sm_put0 | refine fw_sm_arr ?_ rfl | refine fw_sm_up ?_ rfl | refine fw_sm_put ?_ rfl | refine fw_sm_cp ?_ rfl)) (lm_layMiddle_48 hpre hP left (fun a0 a1 af hi hl => ih _ (by omega) a0 a1 af rfl hi) _ _ _ _ _ rfl ?_ (by omega)); (exact ⟨by omega, lb_lc hi.2⟩))
      | (refine (lm_layMiddle_192 hpre hP _ _ _ rfl ?_); (
        refine ⟨?_, fun x x1 x2 => by omega, ?_⟩
        · rw [fg_lit rfl, fg_same (by omega) (by omega), fg_same (by omega) (by omega)]; omega
        · obtain ⟨z, z1, z2, z3⟩ := hi.2.2.2.1
          exact ⟨z, z1, z2, (by show fw_g _ 383 z = 0; rw [fg_up rfl, fg_up rfl]; exact z3)⟩))
      | (refine jf_put (S := [383, 382]) (o := 352) (F := [50, 51]) (W := W) (by repeat (first | exact fw_sm_refl | exact fw_sm_put0 | refine fw_sm_arr ?_ rfl | refine fw_sm_up ?_ rfl | refine fw_sm_put ?_ rfl | refine fw_sm_cp ?_ rfl)) (lm_layMiddle_192 hpre hP _ _ _ rfl ?_); (
        refine ⟨?_, fun x x1 x2 => by omega, ?_⟩
        · rw [fg_lit rfl, fg_same (by omega) (by omega), fg_same (by omega) (by omega)]; omega
        · obtain ⟨z, z1, z2, z3⟩ := hi.2.2.2.1
          exact ⟨z, z1, z2, (by show fw_g _ 383 z = 0; rw [fg_up rfl, fg_up rfl]; exact z3)⟩))
      | (refine hP _ (by repeat (first | exact fw_sm_refl | exact fw_sm_put0 | refine fw_sm_arr ?_ rfl | refine fw_sm_up ?_ rfl | refine fw_sm_put ?_ rfl | refine fw_sm_cp ?_ rfl)) ?_; (
        obtain ⟨z, z1, z2, z3⟩ := hi.2.2
        have h7 := hi.2.1 z z1 (by omega) z3
        have h8 := hi.1
        have h9 : 0 ≤ fw_g f 352 50 ∧ fw_g f 352 50 < fw_g W 366 0 ∧ -1 ≤ fw_g f 352 51 ∧ fw_g f 352 51 < fw_g W 366 0 := by omega
        exact h9))
      | omega
      | (intro _))
theorem lm_layMiddle_7 {Post : Option fw_V → fw_W → Prop} {d : Nat} {W : fw_W} (hpre : mt W ∧ 0 ≤ (fw_g W 366 0) ∧ (fw_g W 366 0) ≤ 14 ∧ 1 ≤ (fw_g W 366 0)) (hP : ∀ (W2 : fw_W), fw_sm [383, 382] 352 [50, 51] W W2 → (0 ≤ (fw_g W2 352 50) ∧ (fw_g W2 352 50) < (fw_g W 366 0) ∧ -1 ≤ (fw_g W2 352 51) ∧ (fw_g W2 352 51) < (fw_g W 366 0)) → Post none W2)  : ∀ (m : Nat) (left r : Int) (f : fw_W), ((fw_g W 366 0) - r).toNat = m → ((0 ≤ r ∧ left = (fw_g W 366 0)) ∧ (∀ x_, 0 ≤ x_ → x_ < r → (fw_g f 382 x_) = ((dga (fun z_ => (fw_g W 366 (2 + 3 * z_))) ((fw_g W 366 0)).toNat x_ : Nat) : Int)) ∧ (∀ x_, 0 ≤ x_ → x_ < r → (fw_g f 383 x_) = 0)) → jf fw_T (d + 4) 278 7 [(0, .inr (.inl 352)), (1, .inl left), (2, .inl r)] [] (fw_put [383, 382] 352 [50, 51] W f) Post := by
  intro m
  induction m using Nat.strongRecOn with
  | ind m ih =>
    intro left r f hm hi
    refine jf_rng (fun hrg => ?_)
    have hrg : -2147483648 ≤ left ∧ left ≤ 2147483647 ∧ -2147483648 ≤ r ∧ r ≤ 2147483647 ∧ True := hrg
    refine s_layMiddle_7 ?_
    have hi1 := hi.1
    repeat' (first
      | (exact True.intro)
      | (exact hpre.1)
      | (refine And.intro ?_ ?_)
      | (refine (ih _ (by omega) _ _ _ rfl ?_); (
        rename_i r1 hr1
        refine ⟨by omega, fun x x1 x2 => ?_, fun x x1 x2 => ?_⟩
        · rw [fg_up rfl, fg_if (by omega) (by omega) (by omega) (by omega)]
          by_cases e : r = x
          · rw [if_pos e, ← e]; exact hr1.2.2
          · rw [if_neg e]; exact hi.2.1 x x1 (by omega)
        · rw [fg_if (by omega) (by omega) (by omega) (by omega)]
          by_cases e : r = x
          · rw [if_pos e]
          · rw [if_neg e, fg_up rfl]; exact hi.2.2 x x1 (by omega)))
      | (refine jf_put (S := [383, 382]) (o := 352) (F := [50, 51]) (W := W) (by repeat (first | exact fw_sm_refl | exact fw_sm_put0 | refine fw_sm_arr ?_ rfl | refine fw_sm_up ?_ rfl | refine fw_sm_put ?_ rfl | refine fw_sm_cp ?_ rfl)) (ih _ (by omega) _ _ _ rfl ?_); (
        rename_i r1 hr1
        refine ⟨by omega, fun x x1 x2 => ?_, fun x x1 x2 => ?_⟩
        · rw [fg_up rfl, fg_if (by omega) (by omega) (by omega) (by omega)]
          by_cases e : r = x
          · rw [if_pos e, ← e]; exact hr1.2.2
          · rw [if_neg e]; exact hi.2.1 x x1 (by omega)
        · rw [fg_if (by omega) (by omega) (by omega) (by omega)]
          by_cases e : r = x
          · rw [if_pos e]
          · rw [if_neg e, fg_up rfl]; exact hi.2.2 x x1 (by omega)))
      | (refine (lm_layMiddle_41 hpre hP _ _ _ _ rfl ?_); (
        exact ⟨by omega, by rw [hi1.2]; exact lb_init hpre.1.2.2.1 (by omega) (by omega) (fun x x1 x2 => hi.2.2 x x1 (by omega)) (fun x x1 x2 => hi.2.1 x x1 (by omega))⟩))
      | (refine jf_put (S := [383, 382]) (o := 352) (F := [50, 51]) (W := W) (by repeat (first | exact fw_sm_refl | exact fw_sm_put0 | refine fw_sm_arr ?_ rfl | refine fw_sm_up ?_ rfl | refine fw_sm_put ?_ rfl | refine fw_sm_cp ?_ rfl)) (lm_layMiddle_41 hpre hP _ _ _ _ rfl ?_); (
        exact ⟨by omega, by rw [hi1.2]; exact lb_init hpre.1.2.2.1 (by omega) (by omega) (fun x x1 x2 => hi.2.2 x x1 (by omega)) (fun x x1 x2 => hi.2.1 x x1 (by omega))⟩))
      | (refine hP _ (by repeat (first | exact fw_sm_refl | exact fw_sm_put0 | refine fw_sm_arr ?_ rfl | refine fw_sm_up ?_ rfl | refine fw_sm_put ?_ rfl | refine fw_sm_cp ?_ rfl)) ?_; (
        obtain ⟨z, z1, z2, z3⟩ := hi.2.2
        have h7 := hi.2.1 z z1 (by omega) z3
        have h8 := hi.1
        have h9 : 0 ≤ fw_g f 352 50 ∧ fw_g f 352 50 < fw_g W 366 0 ∧ -1 ≤ fw_g f 352 51 ∧ fw_g f 352 51 < fw_g W 366 0 := by omega
        exact h9))
      | omega
      | (intro _))
def x_layMiddle : fw_X := fun as W Q => match as with
  | [.inr (.inl s_)] => fw_if (Nat.beq s_ 352) ((mt W ∧ 0 ≤ (fw_g W 366 0) ∧ (fw_g W 366 0) ≤ 14 ∧ 1 ≤ (fw_g W 366 0)) ∧ (∀ (f : fw_W), (0 ≤ (fw_g f 352 50) ∧ (fw_g f 352 50) < (fw_g W 366 0) ∧ -1 ≤ (fw_g f 352 51) ∧ (fw_g f 352 51) < (fw_g W 366 0)) → Q none (fw_put [383, 382] 352 [50, 51] W f)))
  | _ => False
theorem x_layMiddle_ok (d : Nat) (as : List fw_V) (W : fw_W) (Q : Option fw_V → fw_W → Prop) (hx : x_layMiddle as W Q) : jf fw_T (d + 4) 278 0 (fw_args 0 as) [] W Q := by
  unfold x_layMiddle at hx
  split at hx
  · rename_i s_
    obtain ⟨e_, hpre, hQ⟩ := fw_if_ok hx
    have e_ := Nat.eq_of_beq_eq_true e_
    subst e_
    have hP : ∀ (W2 : fw_W), fw_sm [383, 382] 352 [50, 51] W W2 → _ → Q none W2 := fun W2 hs hr => fw_sm_use (Q := fun Z => Q none Z) hs (hQ W2 hr)
    refine s_layMiddle_0 ?_
    repeat' (first
      | (exact True.intro)
      | (exact hpre.1)
      | (refine And.intro ?_ ?_)
      | (refine jf_put (S := [383, 382]) (o := 352) (F := [50, 51]) (W := W) (by repeat (first | exact fw_sm_refl | exact fw_sm_put0 | refine fw_sm_arr ?_ rfl | refine fw_sm_up ?_ rfl | refine fw_sm_put ?_ rfl | refine fw_sm_cp ?_ rfl)) (lm_layMiddle_7 hpre hP _ _ _ _ rfl ?_); (exact ⟨by omega, fun x x1 x2 => by omega, fun x x1 x2 => by omega⟩))
      | (refine jf_put (S := [383, 382]) (o := 352) (F := [50, 51]) (W := W) (by repeat (first | exact fw_sm_refl | exact fw_sm_put0 | refine fw_sm_arr ?_ rfl | refine fw_sm_up ?_ rfl | refine fw_sm_put ?_ rfl | refine fw_sm_cp ?_ rfl)) (lm_layMiddle_41 hpre hP _ _ _ _ rfl ?_); (first | omega | trivial | (simp (config := { decide := true }) only [fg_in, fg_fin, fg_out, fg_fout, fg_up, fg_same, true_and, and_true] <;> omega)))
      | (refine jf_put (S := [383, 382]) (o := 352) (F := [50, 51]) (W := W) (by repeat (first | exact fw_sm_refl | exact fw_sm_put0 | refine fw_sm_arr ?_ rfl | refine fw_sm_up ?_ rfl | refine fw_sm_put ?_ rfl | refine fw_sm_cp ?_ rfl)) (lm_layMiddle_48 hpre hP M41 h41 _ _ _ _ _ rfl ?_ (by omega)); (first | omega | trivial | (simp (config := { decide := true }) only [fg_in, fg_fin, fg_out, fg_fout, fg_up, fg_same, true_and, and_true] <;> omega)))
      | (refine jf_put (S := [383, 382]) (o := 352) (F := [50, 51]) (W := W) (by repeat (first | exact fw_sm_refl | exact fw_sm_put0 | refine fw_sm_arr ?_ rfl | refine fw_sm_up ?_ rfl | refine fw_sm_put ?_ rfl | refine fw_sm_cp ?_ rfl)) (lm_layMiddle_91 hpre hP M41 h41 _ _ _ _ _ rfl ?_ (by omega)); (first | omega | trivial | (simp (config := { decide := true }) only [fg_in, fg_fin, fg_out, fg_fout, fg_up, fg_same, true_and, and_true] <;> omega)))
      | (refine jf_put (S := [383, 382]) (o := 352) (F := [50, 51]) (W := W) (by repeat (first | exact fw_sm_refl | exact fw_sm_put0 | refine fw_sm_arr ?_ rfl | refine fw_sm_up ?_ rfl | refine fw_sm_put ?_ rfl | refine fw_sm_cp ?_ rfl)) (lm_layMiddle_126 hpre hP M41 h41 M91 h91 _ _ _ _ _ _ rfl ?_ (by omega) (by omega)); (first | omega | trivial | (simp (config := { decide := true }) only [fg_in, fg_fin, fg_out, fg_fout, fg_up, fg_same, true_and, and_true] <;> omega)))
      | (refine jf_put (S := [383, 382]) (o := 352) (F := [50, 51]) (W := W) (by repeat (first | exact fw_sm_refl | exact fw_sm_put0 | refine fw_sm_arr ?_ rfl | refine fw_sm_up ?_ rfl | refine fw_sm_put ?_ rfl | refine fw_sm_cp ?_ rfl)) (lm_layMiddle_192 hpre hP _ _ _ rfl ?_); (first | omega | trivial | (simp (config := { decide := true }) only [fg_in, fg_fin, fg_out, fg_fout, fg_up, fg_same, true_and, and_true] <;> omega)))
      | (refine hP _ (by repeat (first | exact fw_sm_refl | exact fw_sm_put0 | refine fw_sm_arr ?_ rfl | refine fw_sm_up ?_ rfl | refine fw_sm_put ?_ rfl | refine fw_sm_cp ?_ rfl)) ?_; (
        obtain ⟨z, z1, z2, z3⟩ := hi.2.2
        have h7 := hi.2.1 z z1 (by omega) z3
        have h8 := hi.1
        have h9 : 0 ≤ fw_g f 352 50 ∧ fw_g f 352 50 < fw_g W 366 0 ∧ -1 ≤ fw_g f 352 51 ∧ fw_g f 352 51 < fw_g W 366 0 := by omega
        exact h9))
      | omega
      | (intro _))
  · exact hx.elim

