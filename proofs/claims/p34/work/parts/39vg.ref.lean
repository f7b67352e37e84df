/-! the reference, method by method -/
def fr_277 : fw_P := [(0, 2, 0, 0, 0), (1, 80, 1002, 0, 0), (2, 59, 12, 52, 0), (5, 2, 0, 0, 0), (6, 64, 188, 0, 112), (9, 21, 14, 0, 0), (12, 0, 0, 0, -1), (13, 70, 0, 0, 0), (14, 2, 0, 0, 0), (15, 64, 278, 0, 512), (18, 2, 0, 0, 0), (19, 50, 12, 51, 0), (22, 23, 36, 0, 0), (25, 2, 0, 0, 0), (26, 2, 0, 0, 0), (27, 50, 12, 50, 0), (30, 0, 0, 0, -1), (31, 1, 1, 0, 0), (32, 64, 279, 3, 1012), (35, 70, 0, 0, 0), (36, 2, 0, 0, 0), (37, 2, 0, 0, 0), (38, 50, 12, 50, 0), (41, 2, 0, 0, 0), (42, 50, 12, 51, 0), (45, 1, 1, 0, 0), (46, 64, 279, 3, 1012), (49, 3, 2, 0, 0), (50, 2, 0, 0, 0), (51, 2, 0, 0, 0), (52, 50, 12, 51, 0), (55, 2, 0, 0, 0), (56, 50, 12, 50, 0), (59, 1, 1, 0, 0), (60, 64, 279, 3, 1012), (63, 3, 3, 0, 0), (64, 1, 2, 0, 0), (65, 1, 3, 0, 0), (66, 11, 81, 0, 0), (69, 2, 0, 0, 0), (70, 43, 0, 0, 0), (71, 50, 12, 52, 0), (74, 80, 1003, 0, 0), (77, 87, 0, 0, 0), (78, 59, 12, 52, 0), (81, 1, 1, 0, 0), (82, 20, 100, 0, 0), (85, 2, 0, 0, 0), (86, 2, 0, 0, 0), (87, 50, 12, 50, 0), (90, 2, 0, 0, 0), (91, 50, 12, 51, 0), (94, 64, 267, 2, 312), (97, 6, 101, 0, 0), (100, 0, 0, 0, 0), (101, 3, 4, 0, 0), (103, 0, 0, 0, 10000), (106, 1, 2, 0, 0), (107, 1, 3, 0, 0), (108, 13, 120, 0, 0), (111, 0, 0, 0, 64), (113, 1, 2, 0, 0), (114, 32, 0, 0, 0), (115, 1, 3, 0, 0), (116, 30, 0, 0, 0), (117, 6, 126, 0, 0), (120, 0, 0, 0, 64), (122, 1, 3, 0, 0), (123, 32, 0, 0, 0), (124, 1, 2, 0, 0), (125, 30, 0, 0, 0), (126, 0, 0, 0, 100), (128, 32, 0, 0, 0), (129, 30, 0, 0, 0), (130, 1, 4, 0, 0), (132, 30, 0, 0, 0), (133, 70, 0, 0, 0)]
theorem fr_277_ok : fw_mk 277 5 12 (some .int) fr_277 = true := by decide +kernel
def ct_markOf : List (Nat × fw_X) := [(279, x_fold), (278, x_layMiddle), (267, x_lengthOf), (188, x_many)]
theorem ct_markOf_ok (d : Nat) : fw_cok fw_T (d + 4) ct_markOf := by
  intro q hq as W Q h
  simp only [ct_markOf, List.mem_cons, List.not_mem_nil, or_false] at hq
  rcases hq with rfl | rfl | rfl | rfl
  · exact jc_of (x_fold_ok (d + 0) as W Q h)
  · exact jc_of (x_layMiddle_ok (d + 0) as W Q h)
  · exact jc_of (x_lengthOf_ok (d + 2) as W Q h)
  · exact jc_of (x_many_ok (d + 3) as W Q h)
theorem s_markOf_0 {Post : Option fw_V → fw_W → Prop} {d : Nat} {W : fw_W} {lg : Int}
    (hw_ : (True) ∧ (((¬ (fw_g W 366 0) = 0 → (mt W ∧ 0 ≤ (fw_g W 366 0) ∧ (fw_g W 366 0) ≤ 14 ∧ 1 ≤ (fw_g W 366 0)) ∧ (∀ (f1 : fw_W), ((0 ≤ (fw_g f1 352 50) ∧ (fw_g f1 352 50) < (fw_g W 366 0) ∧ -1 ≤ (fw_g f1 352 51) ∧ (fw_g f1 352 51) < (fw_g W 366 0))) → (-1 ≤ (fw_g f1 352 51) → (fw_g f1 352 51) ≤ 13 → ((0 ≤ (fw_g f1 352 51) → (-1 ≤ (fw_g f1 352 50) → (fw_g f1 352 50) ≤ 13 → (-1 ≤ (fw_g f1 352 51) → (fw_g f1 352 51) ≤ 13 → (mt (fw_put [383, 382] 352 [50, 51] W f1) ∧ 0 ≤ (fw_g W 366 0) ∧ (fw_g W 366 0) ≤ 14 ∧ 0 ≤ (fw_g f1 352 50) ∧ (fw_g f1 352 50) < (fw_g W 366 0) ∧ 0 ≤ (fw_g W 352 48) ∧ (fw_g W 352 48) ≤ 42 ∧ 0 ≤ (fw_g W 352 49) ∧ (fw_g W 352 49) ≤ 400 ∧ (∀ q, 0 ≤ q → q < (fw_g W 352 48) → 0 ≤ (fw_g W 378 q) ∧ 0 ≤ (fw_g W 379 q) ∧ (fw_g W 378 q) + (fw_g W 379 q) ≤ (fw_g W 352 49))) ∧ (∀ (r2 : Int) (f3 : fw_W), ((-2147483648 ≤ r2 ∧ r2 ≤ 2147483647 ∧ (0 ≤ r2 ∧ r2 ≤ 63 ∧ (fw_g W 352 48) ≤ (fw_g f3 352 48) ∧ (fw_g f3 352 48) ≤ (fw_g W 352 48) + 14 ∧ (fw_g W 352 49) ≤ (fw_g f3 352 49) ∧ (fw_g f3 352 49) ≤ (fw_g W 352 49) + 14 ∧ (∀ q, 0 ≤ q → q < (fw_g f3 352 48) → 0 ≤ (fw_g f3 378 q) ∧ 0 ≤ (fw_g f3 379 q) ∧ (fw_g f3 378 q) + (fw_g f3 379 q) ≤ (fw_g f3 352 49))))) → (-1 ≤ (fw_g f1 352 51) → (fw_g f1 352 51) ≤ 13 → (-1 ≤ (fw_g f1 352 50) → (fw_g f1 352 50) ≤ 13 → (mt (fw_put [371, 373, 384, 381, 378, 379, 380] 352 [48, 49] (fw_put [383, 382] 352 [50, 51] W f1) f3) ∧ 0 ≤ (fw_g W 366 0) ∧ (fw_g W 366 0) ≤ 14 ∧ 0 ≤ (fw_g f1 352 51) ∧ (fw_g f1 352 51) < (fw_g W 366 0) ∧ 0 ≤ (fw_g f3 352 48) ∧ (fw_g f3 352 48) ≤ 42 ∧ 0 ≤ (fw_g f3 352 49) ∧ (fw_g f3 352 49) ≤ 400 ∧ (∀ q, 0 ≤ q → q < (fw_g f3 352 48) → 0 ≤ (fw_g f3 378 q) ∧ 0 ≤ (fw_g f3 379 q) ∧ (fw_g f3 378 q) + (fw_g f3 379 q) ≤ (fw_g f3 352 49))) ∧ (∀ (r4 : Int) (f5 : fw_W), ((-2147483648 ≤ r4 ∧ r4 ≤ 2147483647 ∧ (0 ≤ r4 ∧ r4 ≤ 63 ∧ (fw_g f3 352 48) ≤ (fw_g f5 352 48) ∧ (fw_g f5 352 48) ≤ (fw_g f3 352 48) + 14 ∧ (fw_g f3 352 49) ≤ (fw_g f5 352 49) ∧ (fw_g f5 352 49) ≤ (fw_g f3 352 49) + 14 ∧ (∀ q, 0 ≤ q → q < (fw_g f5 352 48) → 0 ≤ (fw_g f5 378 q) ∧ 0 ≤ (fw_g f5 379 q) ∧ (fw_g f5 378 q) + (fw_g f5 379 q) ≤ (fw_g f5 352 49))))) → jf fw_T (d + 5) 277 64 [(0, .inr (.inl 352)), (1, .inl lg), (2, .inl r2), (3, .inl r4)] [] (fw_put [371, 373, 384, 381, 378, 379, 380] 352 [48, 49] (fw_put [371, 373, 384, 381, 378, 379, 380] 352 [48, 49] (fw_put [383, 382] 352 [50, 51] W f1) f3) f5) Post))))))) ∧ ((fw_g f1 352 51) < 0 → (-1 ≤ (fw_g f1 352 50) → (fw_g f1 352 50) ≤ 13 → (mt (fw_put [383, 382] 352 [50, 51] W f1) ∧ 0 ≤ (fw_g W 366 0) ∧ (fw_g W 366 0) ≤ 14 ∧ 0 ≤ (fw_g f1 352 50) ∧ (fw_g f1 352 50) < (fw_g W 366 0) ∧ 0 ≤ (fw_g W 352 48) ∧ (fw_g W 352 48) ≤ 42 ∧ 0 ≤ (fw_g W 352 49) ∧ (fw_g W 352 49) ≤ 400 ∧ (∀ q, 0 ≤ q → q < (fw_g W 352 48) → 0 ≤ (fw_g W 378 q) ∧ 0 ≤ (fw_g W 379 q) ∧ (fw_g W 378 q) + (fw_g W 379 q) ≤ (fw_g W 352 49))) ∧ (∀ (r6 : Int) (f7 : fw_W), ((-2147483648 ≤ r6 ∧ r6 ≤ 2147483647 ∧ (0 ≤ r6 ∧ r6 ≤ 63 ∧ (fw_g W 352 48) ≤ (fw_g f7 352 48) ∧ (fw_g f7 352 48) ≤ (fw_g W 352 48) + 14 ∧ (fw_g W 352 49) ≤ (fw_g f7 352 49) ∧ (fw_g f7 352 49) ≤ (fw_g W 352 49) + 14 ∧ (∀ q, 0 ≤ q → q < (fw_g f7 352 48) → 0 ≤ (fw_g f7 378 q) ∧ 0 ≤ (fw_g f7 379 q) ∧ (fw_g f7 378 q) + (fw_g f7 379 q) ≤ (fw_g f7 352 49))))) → (-2147483648 ≤ r6 → r6 ≤ 2147483647 → Post (some (.inl r6)) (fw_put [371, 373, 384, 381, 378, 379, 380] 352 [48, 49] (fw_put [383, 382] 352 [50, 51] W f1) f7))))))))) ∧ ((fw_g W 366 0) = 0 → (-2147483648 ≤ (-1 : Int) → (-1 : Int) ≤ 2147483647 → Post (some (.inl (-1 : Int))) W))))) :
    jf fw_T (d + 5) 277 0 [(0, .inr (.inl 352)), (1, .inl lg)] [] W Post := fw_ok (n := 28) (ss := [(64, [0, 1, 2, 3])]) (hv := [114, 116, 123, 125, 128, 129, 132]) fr_277_ok fm_ok (ct_markOf_ok d) hw_

theorem s_markOf_64 {Post : Option fw_V → fw_W → Prop} {d : Nat} {W : fw_W} {lg a b : Int} {f : fw_W}
    (hw_ : ((¬ a = b → ((lg = 0 → ((b ≤ a → ∀ v1 : Int, -2147483648 ≤ v1 → v1 ≤ 2147483647 → ∀ v2 : Int, -2147483648 ≤ v2 → v2 ≤ 2147483647 → ∀ v3 : Int, -2147483648 ≤ v3 → v3 ≤ 2147483647 → ∀ v4 : Int, -2147483648 ≤ v4 → v4 ≤ 2147483647 → ∀ v5 : Int, -2147483648 ≤ v5 → v5 ≤ 2147483647 → (-2147483648 ≤ v5 → v5 ≤ 2147483647 → Post (some (.inl v5)) (fw_put [383, 382, 371, 373, 384, 381, 378, 379, 380] 352 [50, 51, 48, 49] W f))) ∧ (a < b → ∀ v6 : Int, -2147483648 ≤ v6 → v6 ≤ 2147483647 → ∀ v7 : Int, -2147483648 ≤ v7 → v7 ≤ 2147483647 → ∀ v8 : Int, -2147483648 ≤ v8 → v8 ≤ 2147483647 → ∀ v9 : Int, -2147483648 ≤ v9 → v9 ≤ 2147483647 → ∀ v10 : Int, -2147483648 ≤ v10 → v10 ≤ 2147483647 → (-2147483648 ≤ v10 → v10 ≤ 2147483647 → Post (some (.inl v10)) (fw_put [383, 382, 371, 373, 384, 381, 378, 379, 380] 352 [50, 51, 48, 49] W f))))) ∧ (¬ lg = 0 → (-1 ≤ (fw_g f 352 50) → (fw_g f 352 50) ≤ 13 → (-1 ≤ (fw_g f 352 51) → (fw_g f 352 51) ≤ 13 → (0 ≤ (fw_g f 352 50) ∧ (fw_g f 352 50) < 14 ∧ 0 ≤ (fw_g f 352 51) ∧ (fw_g f 352 51) < 14) ∧ (∀ (r11 : Int), ((-2147483648 ≤ r11 ∧ r11 ≤ 2147483647 ∧ (True))) → ((b ≤ a → ∀ v12 : Int, -2147483648 ≤ v12 → v12 ≤ 2147483647 → ∀ v13 : Int, -2147483648 ≤ v13 → v13 ≤ 2147483647 → ∀ v14 : Int, -2147483648 ≤ v14 → v14 ≤ 2147483647 → ∀ v15 : Int, -2147483648 ≤ v15 → v15 ≤ 2147483647 → ∀ v16 : Int, -2147483648 ≤ v16 → v16 ≤ 2147483647 → (-2147483648 ≤ v16 → v16 ≤ 2147483647 → Post (some (.inl v16)) (fw_put [383, 382, 371, 373, 384, 381, 378, 379, 380] 352 [50, 51, 48, 49] W f))) ∧ (a < b → ∀ v17 : Int, -2147483648 ≤ v17 → v17 ≤ 2147483647 → ∀ v18 : Int, -2147483648 ≤ v18 → v18 ≤ 2147483647 → ∀ v19 : Int, -2147483648 ≤ v19 → v19 ≤ 2147483647 → ∀ v20 : Int, -2147483648 ≤ v20 → v20 ≤ 2147483647 → ∀ v21 : Int, -2147483648 ≤ v21 → v21 ≤ 2147483647 → (-2147483648 ≤ v21 → v21 ≤ 2147483647 → Post (some (.inl v21)) (fw_put [383, 382, 371, 373, 384, 381, 378, 379, 380] 352 [50, 51, 48, 49] W f)))))))))) ∧ (a = b → ((lg = 0 → ((b ≤ a → ∀ v22 : Int, -2147483648 ≤ v22 → v22 ≤ 2147483647 → ∀ v23 : Int, -2147483648 ≤ v23 → v23 ≤ 2147483647 → ∀ v24 : Int, -2147483648 ≤ v24 → v24 ≤ 2147483647 → ∀ v25 : Int, -2147483648 ≤ v25 → v25 ≤ 2147483647 → ∀ v26 : Int, -2147483648 ≤ v26 → v26 ≤ 2147483647 → (-2147483648 ≤ v26 → v26 ≤ 2147483647 → Post (some (.inl v26)) (fw_put [383, 382, 371, 373, 384, 381, 378, 379, 380] 352 [50, 51, 48, 49] W f))) ∧ (a < b → ∀ v27 : Int, -2147483648 ≤ v27 → v27 ≤ 2147483647 → ∀ v28 : Int, -2147483648 ≤ v28 → v28 ≤ 2147483647 → ∀ v29 : Int, -2147483648 ≤ v29 → v29 ≤ 2147483647 → ∀ v30 : Int, -2147483648 ≤ v30 → v30 ≤ 2147483647 → ∀ v31 : Int, -2147483648 ≤ v31 → v31 ≤ 2147483647 → (-2147483648 ≤ v31 → v31 ≤ 2147483647 → Post (some (.inl v31)) (fw_put [383, 382, 371, 373, 384, 381, 378, 379, 380] 352 [50, 51, 48, 49] W f))))) ∧ (¬ lg = 0 → (-1 ≤ (fw_g f 352 50) → (fw_g f 352 50) ≤ 13 → (-1 ≤ (fw_g f 352 51) → (fw_g f 352 51) ≤ 13 → (0 ≤ (fw_g f 352 50) ∧ (fw_g f 352 50) < 14 ∧ 0 ≤ (fw_g f 352 51) ∧ (fw_g f 352 51) < 14) ∧ (∀ (r32 : Int), ((-2147483648 ≤ r32 ∧ r32 ≤ 2147483647 ∧ (True))) → ((b ≤ a → ∀ v33 : Int, -2147483648 ≤ v33 → v33 ≤ 2147483647 → ∀ v34 : Int, -2147483648 ≤ v34 → v34 ≤ 2147483647 → ∀ v35 : Int, -2147483648 ≤ v35 → v35 ≤ 2147483647 → ∀ v36 : Int, -2147483648 ≤ v36 → v36 ≤ 2147483647 → ∀ v37 : Int, -2147483648 ≤ v37 → v37 ≤ 2147483647 → (-2147483648 ≤ v37 → v37 ≤ 2147483647 → Post (some (.inl v37)) (fw_put [383, 382, 371, 373, 384, 381, 378, 379, 380] 352 [50, 51, 48, 49] W f))) ∧ (a < b → ∀ v38 : Int, -2147483648 ≤ v38 → v38 ≤ 2147483647 → ∀ v39 : Int, -2147483648 ≤ v39 → v39 ≤ 2147483647 → ∀ v40 : Int, -2147483648 ≤ v40 → v40 ≤ 2147483647 → ∀ v41 : Int, -2147483648 ≤ v41 → v41 ≤ 2147483647 → ∀ v42 : Int, -2147483648 ≤ v42 → v42 ≤ 2147483647 → (-2147483648 ≤ v42 → v42 ≤ 2147483647 → Post (some (.inl v42)) (fw_put [383, 382, 371, 373, 384, 381, 378, 379, 380] 352 [50, 51, 48, 49] W f)))))))))))) :
    jf fw_T (d + 5) 277 64 [(0, .inr (.inl 352)), (1, .inl lg), (2, .inl a), (3, .inl b)] [] (fw_put [383, 382, 371, 373, 384, 381, 378, 379, 380] 352 [50, 51, 48, 49] W f) Post := fw_ok (n := 36) (ss := [(64, [0, 1, 2, 3])]) (hv := [114, 116, 123, 125, 128, 129, 132]) fr_277_ok fm_ok (ct_markOf_ok d) hw_

theorem lm_markOf_64 {Post : Option fw_V → fw_W → Prop} {d : Nat} {W : fw_W} {lg : Int} (hpre : mt W ∧ 0 ≤ (fw_g W 366 0) ∧ (fw_g W 366 0) ≤ 14 ∧ 0 ≤ (fw_g W 352 48) ∧ (fw_g W 352 48) ≤ 28 ∧ 0 ≤ (fw_g W 352 49) ∧ (fw_g W 352 49) ≤ 300 ∧ (∀ q, 0 ≤ q → q < (fw_g W 352 48) → 0 ≤ (fw_g W 378 q) ∧ 0 ≤ (fw_g W 379 q) ∧ (fw_g W 378 q) + (fw_g W 379 q) ≤ (fw_g W 352 49))) (hP : ∀ (v : Int) (W2 : fw_W), fw_sm [383, 382, 371, 373, 384, 381, 378, 379, 380] 352 [50, 51, 48, 49] W W2 → (-2147483648 ≤ v ∧ v ≤ 2147483647 ∧ ((0 ≤ (fw_g W2 352 48) ∧ (fw_g W2 352 48) ≤ (fw_g W 352 48) + 28 ∧ 0 ≤ (fw_g W2 352 49) ∧ (fw_g W2 352 49) ≤ (fw_g W 352 49) + 28) ∧ (∀ q, 0 ≤ q → q < (fw_g W2 352 48) → 0 ≤ (fw_g W2 378 q) ∧ 0 ≤ (fw_g W2 379 q) ∧ (fw_g W2 378 q) + (fw_g W2 379 q) ≤ (fw_g W2 352 49)))) → Post (some (.inl v)) W2)  : ∀ (a b : Int) (f : fw_W), ((0 ≤ (fw_g f 352 48) ∧ (fw_g f 352 48) ≤ fw_g W 352 48 + 28 ∧ 0 ≤ (fw_g f 352 49) ∧ (fw_g f 352 49) ≤ fw_g W 352 49 + 28) ∧ (∀ q, 0 ≤ q → q < (fw_g f 352 48) → 0 ≤ (fw_g f 378 q) ∧ 0 ≤ (fw_g f 379 q) ∧ (fw_g f 378 q) + (fw_g f 379 q) ≤ (fw_g f 352 49)) ∧ (0 ≤ (fw_g f 352 50) ∧ (fw_g f 352 50) < 14 ∧ 0 ≤ (fw_g f 352 51) ∧ (fw_g f 352 51) < 14)) → jf fw_T (d + 5) 277 64 [(0, .inr (.inl 352)), (1, .inl lg), (2, .inl a), (3, .inl b)] [] (fw_put [383, 382, 371, 373, 384, 381, 378, 379, 380] 352 [50, 51, 48, 49] W f) Post := by
  intro a b f hi
  refine jf_rng (fun hrg => ?_)
  have hrg : -2147483648 ≤ lg ∧ lg ≤ 2147483647 ∧ -2147483648 ≤ a ∧ a ≤ 2147483647 ∧ -2147483648 ≤ b ∧ b ≤ 2147483647 ∧ True := hrg
  refine s_markOf_64 ?_
  have hi3 := hi.2.2
  repeat' (first
    | (exact True.intro)
    | (exact hpre.1)
    | (refine And.intro ?_ ?_)
    | (refine hP _ _ (by repeat (first | exact fw_sm_refl | exact fw_sm_put0 | refine fw_sm_arr ?_ rfl | refine fw_sm_up ?_ rfl | refine fw_sm_put ?_ rfl | refine fw_sm_cp ?_ rfl)) ?_; (refine ⟨by omega, by omega, ?_⟩; (first
          | exact ⟨by omega, hpre.2.2.2.2.2.2.2⟩
          | (rename_i r1 f1 h1 c1 c2
             have h9 : 0 ≤ fw_g f1 352 48 ∧ fw_g f1 352 48 ≤ fw_g W 352 48 + 28 ∧ 0 ≤ fw_g f1 352 49 ∧ fw_g f1 352 49 ≤ fw_g W 352 49 + 28 := by omega
             exact ⟨h9, h1.2.2.2.2.2.2.2.2⟩)
          | exact ⟨hi.1, hi.2.1⟩)))
    | omega
    | (intro _))
def x_markOf : fw_X := fun as W Q => match as with
  | [.inr (.inl s_), .inl lg] => fw_if (Nat.beq s_ 352) ((mt W ∧ 0 ≤ (fw_g W 366 0) ∧ (fw_g W 366 0) ≤ 14 ∧ 0 ≤ (fw_g W 352 48) ∧ (fw_g W 352 48) ≤ 28 ∧ 0 ≤ (fw_g W 352 49) ∧ (fw_g W 352 49) ≤ 300 ∧ (∀ q, 0 ≤ q → q < (fw_g W 352 48) → 0 ≤ (fw_g W 378 q) ∧ 0 ≤ (fw_g W 379 q) ∧ (fw_g W 378 q) + (fw_g W 379 q) ≤ (fw_g W 352 49))) ∧ (∀ (v : Int) (f : fw_W), (-2147483648 ≤ v ∧ v ≤ 2147483647 ∧ ((0 ≤ (fw_g f 352 48) ∧ (fw_g f 352 48) ≤ (fw_g W 352 48) + 28 ∧ 0 ≤ (fw_g f 352 49) ∧ (fw_g f 352 49) ≤ (fw_g W 352 49) + 28) ∧ (∀ q, 0 ≤ q → q < (fw_g f 352 48) → 0 ≤ (fw_g f 378 q) ∧ 0 ≤ (fw_g f 379 q) ∧ (fw_g f 378 q) + (fw_g f 379 q) ≤ (fw_g f 352 49)))) → Q (some (.inl v)) (fw_put [383, 382, 371, 373, 384, 381, 378, 379, 380] 352 [50, 51, 48, 49] W f)))
  | _ => False
theorem x_markOf_ok (d : Nat) (as : List fw_V) (W : fw_W) (Q : Option fw_V → fw_W → Prop) (hx : x_markOf as W Q) : jf fw_T (d + 5) 277 0 (fw_args 0 as) [] W Q := by
  unfold x_markOf at hx
  split at hx
  · rename_i s_ lg
    obtain ⟨e_, hpre, hQ⟩ := fw_if_ok hx
    have e_ := Nat.eq_of_beq_eq_true e_
    subst e_
    have hP : ∀ (v : Int) (W2 : fw_W), fw_sm [383, 382, 371, 373, 384, 381, 378, 379, 380] 352 [50, 51, 48, 49] W W2 → _ → Q (some (.inl v)) W2 := fun v W2 hs hr => fw_sm_use (Q := fun Z => Q (some (.inl v)) Z) hs (hQ v W2 hr)
    refine s_markOf_0 ?_
    repeat' (first
      | (exact hpre.2.2.2.2.2.2.2)
      | (rename_i r2 f2 hf2 w1 w2 w3 w4; exact hf2.2.2.2.2.2.2.2.2)
      | (exact True.intro)
      | (exact hpre.1)
      | (refine And.intro ?_ ?_)
      | (refine jf_put (S := [383, 382, 371, 373, 384, 381, 378, 379, 380]) (o := 352) (F := [50, 51, 48, 49]) (W := W) (by repeat (first | exact fw_sm_refl | exact fw_sm_put0 | refine fw_sm_arr ?_ rfl | refine fw_sm_up ?_ rfl | refine fw_sm_put ?_ rfl | refine fw_sm_cp ?_ rfl)) (lm_markOf_64 (lg := lg) hpre hP _ _ _ ?_); (
        rename_i f1 h1 e1 e2 c1 e3 e4 e5 e6 r2 f2 h2 e7 e8 e9 e10 r3 f3 h3
        have h9 : 0 ≤ fw_g f3 352 48 ∧ fw_g f3 352 48 ≤ fw_g W 352 48 + 28 ∧ 0 ≤ fw_g f3 352 49 ∧ fw_g f3 352 49 ≤ fw_g W 352 49 + 28 := by omega
        have h8 : 0 ≤ fw_g f1 352 50 ∧ fw_g f1 352 50 < 14 ∧ 0 ≤ fw_g f1 352 51 ∧ fw_g f1 352 51 < 14 := by omega
        exact ⟨h9, h3.2.2.2.2.2.2.2.2, h8⟩))
      | (refine hP _ _ (by repeat (first | exact fw_sm_refl | exact fw_sm_put0 | refine fw_sm_arr ?_ rfl | refine fw_sm_up ?_ rfl | refine fw_sm_put ?_ rfl | refine fw_sm_cp ?_ rfl)) ?_; (refine ⟨by omega, by omega, ?_⟩; (first
          | exact ⟨by omega, hpre.2.2.2.2.2.2.2⟩
          | (rename_i r1 f1 h1 c1 c2
             have h9 : 0 ≤ fw_g f1 352 48 ∧ fw_g f1 352 48 ≤ fw_g W 352 48 + 28 ∧ 0 ≤ fw_g f1 352 49 ∧ fw_g f1 352 49 ≤ fw_g W 352 49 + 28 := by omega
             exact ⟨h9, h1.2.2.2.2.2.2.2.2⟩)
          | exact ⟨hi.1, hi.2.1⟩)))
      | omega
      | (intro _))
  · exact hx.elim

def fr_283 : fw_P := [(0, 2, 0, 0, 0), (1, 0, 0, 0, 0), (2, 51, 12, 48, 0), (5, 2, 0, 0, 0), (6, 0, 0, 0, 0), (7, 51, 12, 49, 0), (10, 2, 0, 0, 0), (11, 1, 1, 0, 0), (12, 64, 277, 1, 512), (15, 45, 0, 0, 0), (16, 2, 0, 0, 0), (17, 50, 12, 52, 0), (20, 93, 0, 0, 0)]
theorem fr_283_ok : fw_mk 283 2 12 (some .long) fr_283 = true := by decide +kernel
def ct_selves : List (Nat × fw_X) := [(277, x_markOf)]
theorem ct_selves_ok (d : Nat) : fw_cok fw_T (d + 5) ct_selves := by
  intro q hq as W Q h
  simp only [ct_selves, List.mem_cons, List.not_mem_nil, or_false] at hq
  rcases hq with rfl
  · exact jc_of (x_markOf_ok (d + 0) as W Q h)
theorem s_selves_0 {Post : Option fw_V → fw_W → Prop} {d : Nat} {W : fw_W} {lg : Int}
    (hw_ : 0 ≤ (0 : Int) ∧ (0 : Int) ≤ 64 ∧ (0 ≤ (0 : Int) ∧ (0 : Int) ≤ 512 ∧ ((mt (fw_up (fw_up W 352 48 (0 : Int)) 352 49 (0 : Int)) ∧ 0 ≤ (fw_g W 366 0) ∧ (fw_g W 366 0) ≤ 14 ∧ 0 ≤ (fw_g (fw_up W 352 48 (0 : Int)) 352 48) ∧ (fw_g (fw_up W 352 48 (0 : Int)) 352 48) ≤ 28 ∧ 0 ≤ (fw_g (fw_up (fw_up W 352 48 (0 : Int)) 352 49 (0 : Int)) 352 49) ∧ (fw_g (fw_up (fw_up W 352 48 (0 : Int)) 352 49 (0 : Int)) 352 49) ≤ 300 ∧ (∀ q, 0 ≤ q → q < (fw_g (fw_up W 352 48 (0 : Int)) 352 48) → 0 ≤ (fw_g W 378 q) ∧ 0 ≤ (fw_g W 379 q) ∧ (fw_g W 378 q) + (fw_g W 379 q) ≤ (fw_g (fw_up (fw_up W 352 48 (0 : Int)) 352 49 (0 : Int)) 352 49))) ∧ (∀ (r1 : Int) (f2 : fw_W), ((-2147483648 ≤ r1 ∧ r1 ≤ 2147483647 ∧ ((0 ≤ (fw_g f2 352 48) ∧ (fw_g f2 352 48) ≤ (fw_g (fw_up W 352 48 (0 : Int)) 352 48) + 28 ∧ 0 ≤ (fw_g f2 352 49) ∧ (fw_g f2 352 49) ≤ (fw_g (fw_up (fw_up W 352 48 (0 : Int)) 352 49 (0 : Int)) 352 49) + 28) ∧ (∀ q, 0 ≤ q → q < (fw_g f2 352 48) → 0 ≤ (fw_g f2 378 q) ∧ 0 ≤ (fw_g f2 379 q) ∧ (fw_g f2 378 q) + (fw_g f2 379 q) ≤ (fw_g f2 352 49))))) → Post (some (.inr (.inr 1000))) (fw_put [383, 382, 371, 373, 384, 381, 378, 379, 380] 352 [50, 51, 48, 49] (fw_up (fw_up W 352 48 (0 : Int)) 352 49 (0 : Int)) f2))))) :
    jf fw_T (d + 6) 283 0 [(0, .inr (.inl 352)), (1, .inl lg)] [] W Post := fw_ok (n := 14) (ss := []) (hv := []) fr_283_ok fm_ok (ct_selves_ok d) hw_

def x_selves : fw_X := fun as W Q => match as with
  | [.inr (.inl s_), .inl lg] => fw_if (Nat.beq s_ 352) ((mt W ∧ 0 ≤ (fw_g W 366 0) ∧ (fw_g W 366 0) ≤ 14) ∧ (∀ (f : fw_W), (True) → Q (some (.inr (.inr 1000))) (fw_put [383, 382, 371, 373, 384, 381, 378, 379, 380] 352 [50, 51, 48, 49] W f)))
  | _ => False
theorem x_selves_ok (d : Nat) (as : List fw_V) (W : fw_W) (Q : Option fw_V → fw_W → Prop) (hx : x_selves as W Q) : jf fw_T (d + 6) 283 0 (fw_args 0 as) [] W Q := by
  unfold x_selves at hx
  split at hx
  · rename_i s_ lg
    obtain ⟨e_, hpre, hQ⟩ := fw_if_ok hx
    have e_ := Nat.eq_of_beq_eq_true e_
    subst e_
    have hP : ∀ (W2 : fw_W), fw_sm [383, 382, 371, 373, 384, 381, 378, 379, 380] 352 [50, 51, 48, 49] W W2 → _ → Q (some (.inr (.inr 1000))) W2 := fun W2 hs hr => fw_sm_use (Q := fun Z => Q (some (.inr (.inr 1000))) Z) hs (hQ W2 hr)
    refine s_selves_0 ?_
    repeat' (first
      | (first
         | (show 0 ≤ fw_g (fw_up (fw_up W 352 48 0) 352 49 0) 352 48; rw [fg_lit rfl, fg_same (by omega) (by omega)]; omega)
         | (show fw_g (fw_up (fw_up W 352 48 0) 352 49 0) 352 48 ≤ 28; rw [fg_lit rfl, fg_same (by omega) (by omega)]; omega)
         | (show 0 ≤ fw_g (fw_up (fw_up W 352 48 0) 352 49 0) 352 49; rw [fg_same (by omega) (by omega)]; omega)
         | (show fw_g (fw_up (fw_up W 352 48 0) 352 49 0) 352 49 ≤ 300; rw [fg_same (by omega) (by omega)]; omega))
      | (intro q q1 q2
         exfalso
         have q3 : q < fw_g (fw_up (fw_up W 352 48 0) 352 49 0) 352 48 := q2
         rw [fg_lit rfl, fg_same (by omega) (by omega)] at q3
         omega)
      | (exact True.intro)
      | (exact hpre.1)
      | (refine And.intro ?_ ?_)
      | (refine hP _ (by repeat (first | exact fw_sm_refl | exact fw_sm_put0 | refine fw_sm_arr ?_ rfl | refine fw_sm_up ?_ rfl | refine fw_sm_put ?_ rfl | refine fw_sm_cp ?_ rfl)) ?_; (first | trivial | omega))
      | omega
      | (intro _))
  · exact hx.elim

