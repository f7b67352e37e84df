/-! the reference, method by method -/
def fr_221 : fw_P := [(0, 2, 0, 0, 0), (1, 0, 0, 0, 0), (2, 51, 12, 27, 0), (5, 2, 0, 0, 0), (6, 1, 1, 0, 0), (7, 64, 213, 1, 212), (10, 20, 21, 0, 0), (13, 2, 0, 0, 0), (14, 1, 2, 0, 0), (15, 64, 213, 1, 212), (18, 21, 23, 0, 0), (21, 0, 0, 0, -1), (22, 70, 0, 0, 0), (23, 2, 0, 0, 0), (24, 64, 222, 0, 312), (27, 1, 1, 0, 0), (28, 3, 3, 0, 0), (29, 2, 0, 0, 0), (30, 1, 3, 0, 0), (31, 64, 225, 1, 212), (34, 1, 3, 0, 0), (35, 1, 2, 0, 0), (36, 10, 130, 0, 0), (39, 0, 0, 0, -1), (40, 3, 4, 0, 0), (42, 0, 0, 0, 0), (43, 3, 5, 0, 0), (45, 1, 5, 0, 0), (47, 2, 0, 0, 0), (48, 64, 188, 0, 112), (51, 13, 119, 0, 0), (54, 1, 5, 0, 0), (56, 1, 3, 0, 0), (57, 10, 113, 0, 0), (60, 2, 0, 0, 0), (61, 1, 3, 0, 0), (62, 1, 5, 0, 0), (64, 64, 219, 2, 312), (67, 20, 113, 0, 0), (70, 2, 0, 0, 0), (71, 50, 12, 25, 0), (74, 0, 0, 0, 14), (76, 1, 3, 0, 0), (77, 32, 0, 0, 0), (78, 1, 2, 0, 0), (79, 30, 0, 0, 0), (80, 52, 0, 0, 0), (81, 2, 0, 0, 0), (82, 50, 12, 25, 0), (85, 0, 0, 0, 14), (87, 1, 3, 0, 0), (88, 32, 0, 0, 0), (89, 1, 5, 0, 0), (91, 30, 0, 0, 0), (92, 52, 0, 0, 0), (93, 2, 0, 0, 0), (94, 50, 12, 25, 0), (97, 0, 0, 0, 14), (99, 1, 5, 0, 0), (101, 32, 0, 0, 0), (102, 1, 2, 0, 0), (103, 30, 0, 0, 0), (104, 52, 0, 0, 0), (105, 30, 0, 0, 0), (106, 11, 113, 0, 0), (109, 1, 5, 0, 0), (111, 3, 4, 0, 0), (113, 5, 5, 0, 1), (116, 6, 45, 0, 0), (119, 1, 4, 0, 0), (121, 3, 3, 0, 0), (122, 2, 0, 0, 0), (123, 1, 3, 0, 0), (124, 64, 225, 1, 212), (127, 6, 34, 0, 0), (130, 2, 0, 0, 0), (131, 50, 12, 25, 0), (134, 0, 0, 0, 14), (136, 1, 1, 0, 0), (137, 32, 0, 0, 0), (138, 1, 2, 0, 0), (139, 30, 0, 0, 0), (140, 52, 0, 0, 0), (141, 70, 0, 0, 0)]
theorem fr_221_ok : fw_mk 221 6 12 (some .int) fr_221 = true := by decide +kernel
def ct_way : List (Nat × fw_X) := [(225, x_add), (219, x_areNext), (213, x_isHouse), (222, x_layWays2), (188, x_many)]
theorem ct_way_ok (d : Nat) : fw_cok fw_T (d + 4) ct_way := by
  intro q hq as W Q h
  simp only [ct_way, List.mem_cons, List.not_mem_nil, or_false] at hq
  rcases hq with rfl | rfl | rfl | rfl | rfl
  · exact jc_of (x_add_ok (d + 3) as W Q h)
  · exact jc_of (x_areNext_ok (d + 2) as W Q h)
  · exact jc_of (x_isHouse_ok (d + 2) as W Q h)
  · exact jc_of (x_layWays2_ok (d + 0) as W Q h)
  · exact jc_of (x_many_ok (d + 3) as W Q h)
theorem s_way_0 {Post : Option fw_V → fw_W → Prop} {d : Nat} {W : fw_W} {a b : Int}
    (hw_ : 0 ≤ (0 : Int) ∧ (0 : Int) ≤ 16 ∧ ((mt (fw_up W 352 27 (0 : Int)) ∧ 0 ≤ (fw_g W 366 0) ∧ (fw_g W 366 0) ≤ 14) ∧ (∀ (r1 : Int), ((0 ≤ r1 ∧ r1 ≤ 1 ∧ ((r1 = 1 ∧ 0 ≤ a ∧ a < (fw_g W 366 0)) ∨ (r1 = 0 ∧ (a < 0 ∨ (fw_g W 366 0) ≤ a))))) → ((r1 = 0 → (-2147483648 ≤ (-1 : Int) → (-1 : Int) ≤ 2147483647 → Post (some (.inl (-1 : Int))) (fw_up W 352 27 (0 : Int)))) ∧ (¬ r1 = 0 → (mt (fw_up W 352 27 (0 : Int)) ∧ 0 ≤ (fw_g W 366 0) ∧ (fw_g W 366 0) ≤ 14) ∧ (∀ (r2 : Int), ((0 ≤ r2 ∧ r2 ≤ 1 ∧ ((r2 = 1 ∧ 0 ≤ b ∧ b < (fw_g W 366 0)) ∨ (r2 = 0 ∧ (b < 0 ∨ (fw_g W 366 0) ≤ b))))) → ((¬ r2 = 0 → ∃ (δ_3 : Int → Int), ∃ (D_4 : Int → Int → Int), (tr_dep ((fw_g W 366 0)) (fun z_ => (fw_g W 366 (2 + 3 * z_))) δ_3 ∧ tr_met ((fw_g W 366 0)) (fun z_ => (fw_g W 366 (2 + 3 * z_))) (fun z_ => (fw_g W 366 (3 + 3 * z_))) δ_3 D_4) ∧ (mt (fw_up W 352 27 (0 : Int)) ∧ 0 ≤ (fw_g W 366 0) ∧ (fw_g W 366 0) ≤ 14) ∧ (∀ (f5 : fw_W), ((∀ x y, 0 ≤ x → x < (fw_g W 366 0) → 0 ≤ y → y < (fw_g W 366 0) → (fw_g f5 367 (14 * x + y)) = D_4 x y)) → (0 ≤ (fw_g (fw_up W 352 27 (0 : Int)) 352 27) ∧ (fw_g (fw_up W 352 27 (0 : Int)) 352 27) ≤ 15) ∧ (∀ (f6 : fw_W), (((fw_g f6 352 27) = (fw_g (fw_up W 352 27 (0 : Int)) 352 27) + 1)) → jf fw_T (d + 5) 221 34 [(0, .inr (.inl 352)), (1, .inl a), (2, .inl b), (3, .inl a)] [] (fw_put [368] 352 [27] (fw_put [367] 352 [] (fw_up W 352 27 (0 : Int)) f5) f6) Post))) ∧ (r2 = 0 → (-2147483648 ≤ (-1 : Int) → (-1 : Int) ≤ 2147483647 → Post (some (.inl (-1 : Int))) (fw_up W 352 27 (0 : Int))))))))))) :
    jf fw_T (d + 5) 221 0 [(0, .inr (.inl 352)), (1, .inl a), (2, .inl b)] [] W Post := fw_ok (n := 19) (ss := [(34, [0, 1, 2, 3]), (45, [0, 1, 2, 3, 4, 5])]) (hv := []) fr_221_ok fm_ok (ct_way_ok d) hw_

theorem s_way_45 {Post : Option fw_V → fw_W → Prop} {d : Nat} {W : fw_W} {a b x nxt k : Int} {f : fw_W}
    (hw_ : (True) ∧ ((((fw_g W 366 0) ≤ k → (0 ≤ (fw_g f 352 27) ∧ (fw_g f 352 27) ≤ 15) ∧ (∀ (f1 : fw_W), (((fw_g f1 352 27) = (fw_g f 352 27) + 1)) → jf fw_T (d + 5) 221 34 [(0, .inr (.inl 352)), (1, .inl a), (2, .inl b), (3, .inl nxt)] [] (fw_put [368] 352 [27] (fw_put [367, 368] 352 [27] W f) f1) Post)) ∧ (k < (fw_g W 366 0) → ((k = x → -2147483648 ≤ k + (1 : Int) ∧ k + (1 : Int) ≤ 2147483647 ∧ (jf fw_T (d + 5) 221 45 [(0, .inr (.inl 352)), (1, .inl a), (2, .inl b), (3, .inl x), (4, .inl nxt), (5, .inl (k + (1 : Int)))] [] (fw_put [367, 368] 352 [27] W f) Post)) ∧ (¬ k = x → (0 ≤ x ∧ x < 14 ∧ 0 ≤ k ∧ k < 14) ∧ (∀ (r2 : Int), ((0 ≤ r2 ∧ r2 ≤ 1 ∧ ((r2 = 1 ∧ ((fw_g W 366 (2 + 3 * x)) = k ∨ (fw_g W 366 (2 + 3 * k)) = x)) ∨ (r2 = 0 ∧ ¬ (fw_g W 366 (2 + 3 * x)) = k ∧ ¬ (fw_g W 366 (2 + 3 * k)) = x)))) → ((r2 = 0 → -2147483648 ≤ k + (1 : Int) ∧ k + (1 : Int) ≤ 2147483647 ∧ (jf fw_T (d + 5) 221 45 [(0, .inr (.inl 352)), (1, .inl a), (2, .inl b), (3, .inl x), (4, .inl nxt), (5, .inl (k + (1 : Int)))] [] (fw_put [367, 368] 352 [27] W f) Post)) ∧ (¬ r2 = 0 → -2147483648 ≤ (14 : Int) * x ∧ (14 : Int) * x ≤ 2147483647 ∧ (-2147483648 ≤ ((14 : Int) * x) + b ∧ ((14 : Int) * x) + b ≤ 2147483647 ∧ (0 ≤ (((14 : Int) * x) + b) ∧ (((14 : Int) * x) + b) < 196 ∧ (-2147483648 ≤ (fw_g f 367 (((14 : Int) * x) + b)) → (fw_g f 367 (((14 : Int) * x) + b)) ≤ 2147483647 → -2147483648 ≤ (14 : Int) * x ∧ (14 : Int) * x ≤ 2147483647 ∧ (-2147483648 ≤ ((14 : Int) * x) + k ∧ ((14 : Int) * x) + k ≤ 2147483647 ∧ (0 ≤ (((14 : Int) * x) + k) ∧ (((14 : Int) * x) + k) < 196 ∧ (-2147483648 ≤ (fw_g f 367 (((14 : Int) * x) + k)) → (fw_g f 367 (((14 : Int) * x) + k)) ≤ 2147483647 → -2147483648 ≤ (14 : Int) * k ∧ (14 : Int) * k ≤ 2147483647 ∧ (-2147483648 ≤ ((14 : Int) * k) + b ∧ ((14 : Int) * k) + b ≤ 2147483647 ∧ (0 ≤ (((14 : Int) * k) + b) ∧ (((14 : Int) * k) + b) < 196 ∧ (-2147483648 ≤ (fw_g f 367 (((14 : Int) * k) + b)) → (fw_g f 367 (((14 : Int) * k) + b)) ≤ 2147483647 → -2147483648 ≤ (fw_g f 367 (((14 : Int) * x) + k)) + (fw_g f 367 (((14 : Int) * k) + b)) ∧ (fw_g f 367 (((14 : Int) * x) + k)) + (fw_g f 367 (((14 : Int) * k) + b)) ≤ 2147483647 ∧ (((¬ (fw_g f 367 (((14 : Int) * x) + b)) = ((fw_g f 367 (((14 : Int) * x) + k)) + (fw_g f 367 (((14 : Int) * k) + b))) → -2147483648 ≤ k + (1 : Int) ∧ k + (1 : Int) ≤ 2147483647 ∧ (jf fw_T (d + 5) 221 45 [(0, .inr (.inl 352)), (1, .inl a), (2, .inl b), (3, .inl x), (4, .inl nxt), (5, .inl (k + (1 : Int)))] [] (fw_put [367, 368] 352 [27] W f) Post)) ∧ ((fw_g f 367 (((14 : Int) * x) + b)) = ((fw_g f 367 (((14 : Int) * x) + k)) + (fw_g f 367 (((14 : Int) * k) + b))) → -2147483648 ≤ k + (1 : Int) ∧ k + (1 : Int) ≤ 2147483647 ∧ (jf fw_T (d + 5) 221 45 [(0, .inr (.inl 352)), (1, .inl a), (2, .inl b), (3, .inl x), (4, .inl k), (5, .inl (k + (1 : Int)))] [] (fw_put [367, 368] 352 [27] W f) Post)))))))))))))))))))))) :
    jf fw_T (d + 5) 221 45 [(0, .inr (.inl 352)), (1, .inl a), (2, .inl b), (3, .inl x), (4, .inl nxt), (5, .inl k)] [] (fw_put [367, 368] 352 [27] W f) Post := fw_ok (n := 43) (ss := [(34, [0, 1, 2, 3]), (45, [0, 1, 2, 3, 4, 5])]) (hv := []) fr_221_ok fm_ok (ct_way_ok d) hw_

theorem s_way_34 {Post : Option fw_V → fw_W → Prop} {d : Nat} {W : fw_W} {a b x : Int} {f : fw_W}
    (hw_ : ((x = b → -2147483648 ≤ (14 : Int) * a ∧ (14 : Int) * a ≤ 2147483647 ∧ (-2147483648 ≤ ((14 : Int) * a) + b ∧ ((14 : Int) * a) + b ≤ 2147483647 ∧ (0 ≤ (((14 : Int) * a) + b) ∧ (((14 : Int) * a) + b) < 196 ∧ (-2147483648 ≤ (fw_g f 367 (((14 : Int) * a) + b)) → (fw_g f 367 (((14 : Int) * a) + b)) ≤ 2147483647 → (-2147483648 ≤ (fw_g f 367 (((14 : Int) * a) + b)) → (fw_g f 367 (((14 : Int) * a) + b)) ≤ 2147483647 → Post (some (.inl (fw_g f 367 (((14 : Int) * a) + b)))) (fw_put [367, 368] 352 [27] W f)))))) ∧ (¬ x = b → jf fw_T (d + 5) 221 45 [(0, .inr (.inl 352)), (1, .inl a), (2, .inl b), (3, .inl x), (4, .inl (-1 : Int)), (5, .inl (0 : Int))] [] (fw_put [367, 368] 352 [27] W f) Post))) :
    jf fw_T (d + 5) 221 34 [(0, .inr (.inl 352)), (1, .inl a), (2, .inl b), (3, .inl x)] [] (fw_put [367, 368] 352 [27] W f) Post := fw_ok (n := 13) (ss := [(34, [0, 1, 2, 3]), (45, [0, 1, 2, 3, 4, 5])]) (hv := []) fr_221_ok fm_ok (ct_way_ok d) hw_

theorem lm_way_45 {Post : Option fw_V → fw_W → Prop} {d : Nat} {W : fw_W} {a b : Int} (δ : Int → Int) (D : Int → Int → Int) (hgh : tr_dep ((fw_g W 366 0)) (fun z_ => (fw_g W 366 (2 + 3 * z_))) δ ∧ tr_met ((fw_g W 366 0)) (fun z_ => (fw_g W 366 (2 + 3 * z_))) (fun z_ => (fw_g W 366 (3 + 3 * z_))) δ D) (η : Int → Int) (hη : (0 ≤ b → b < (fw_g W 366 0) → tr_hop ((fw_g W 366 0)) (fun z_ => (fw_g W 366 (2 + 3 * z_))) b η ∧ ∀ x, 0 ≤ x → x < (fw_g W 366 0) → x ≠ b → (∃ k, 0 ≤ k ∧ k < (fw_g W 366 0) ∧ k ≠ x ∧ tr_nx (fun z_ => (fw_g W 366 (2 + 3 * z_))) x k ∧ D x b = D x k + D k b) ∧ ∀ k, 0 ≤ k → k < (fw_g W 366 0) → k ≠ x → tr_nx (fun z_ => (fw_g W 366 (2 + 3 * z_))) x k → D x b = D x k + D k b → η x = η k + 1)) (hpre : mt W ∧ 0 ≤ (fw_g W 366 0) ∧ (fw_g W 366 0) ≤ 14) (hP : ∀ (v : Int) (W2 : fw_W), fw_sm [367, 368] 352 [27] W W2 → (-2147483648 ≤ v ∧ v ≤ 2147483647 ∧ (True)) → Post (some (.inl v)) W2) (M34 : Int) (h34 : ∀ (x : Int) (f : fw_W), (0 ≤ b ∧ b < (fw_g W 366 0) ∧ 0 ≤ a ∧ a < (fw_g W 366 0) ∧ 0 ≤ x ∧ x < (fw_g W 366 0) ∧ (0 ≤ (fw_g f 352 27) ∧ (fw_g f 352 27) + η x = η a + 1) ∧ (∀ u t, 0 ≤ u → u < (fw_g W 366 0) → 0 ≤ t → t < (fw_g W 366 0) → (fw_g f 367 (14 * u + t)) = D u t)) → (η x) < M34 → jf fw_T (d + 5) 221 34 [(0, .inr (.inl 352)), (1, .inl a), (2, .inl b), (3, .inl x)] [] (fw_put [367, 368] 352 [27] W f) Post) : ∀ (m : Nat) (x nxt k : Int) (f : fw_W), ((fw_g W 366 0) - k).toNat = m → (0 ≤ b ∧ b < (fw_g W 366 0) ∧ 0 ≤ a ∧ a < (fw_g W 366 0) ∧ 0 ≤ x ∧ x < (fw_g W 366 0) ∧ (0 ≤ (fw_g f 352 27) ∧ (fw_g f 352 27) + η x = η a + 1) ∧ (∀ u t, 0 ≤ u → u < (fw_g W 366 0) → 0 ≤ t → t < (fw_g W 366 0) → (fw_g f 367 (14 * u + t)) = D u t) ∧ ¬ x = b ∧ 0 ≤ k ∧ k ≤ (fw_g W 366 0) ∧ (nxt = -1 ∨ (0 ≤ nxt ∧ nxt < (fw_g W 366 0) ∧ η x = η nxt + 1)) ∧ (nxt = -1 → ∀ q, 0 ≤ q → q < k → ¬ (q ≠ x ∧ tr_nx (fun z_ => (fw_g W 366 (2 + 3 * z_))) x q ∧ D x b = D x q + D q b))) → (η x) ≤ M34 → jf fw_T (d + 5) 221 45 [(0, .inr (.inl 352)), (1, .inl a), (2, .inl b), (3, .inl x), (4, .inl nxt), (5, .inl k)] [] (fw_put [367, 368] 352 [27] W f) Post := by
  intro m
  induction m using Nat.strongRecOn with
  | ind m ih =>
    intro x nxt k f hm hi e34
    refine jf_rng (fun hrg => ?_)
    have hrg : -2147483648 ≤ a ∧ a ≤ 2147483647 ∧ -2147483648 ≤ b ∧ b ≤ 2147483647 ∧ -2147483648 ≤ x ∧ x ≤ 2147483647 ∧ -2147483648 ≤ nxt ∧ nxt ≤ 2147483647 ∧ -2147483648 ≤ k ∧ k ≤ 2147483647 ∧ True := hrg
    refine s_way_45 ?_
    have hr : 0 ≤ b ∧ b < (fw_g W 366 0) ∧ 0 ≤ a ∧ a < (fw_g W 366 0) ∧ 0 ≤ x ∧ x < (fw_g W 366 0) := ⟨hi.1, hi.2.1, hi.2.2.1, hi.2.2.2.1, hi.2.2.2.2.1, hi.2.2.2.2.2.1⟩
    have hl := hi.2.2.2.2.2.2.1
    have hww := hi.2.2.2.2.2.2.2.1
    have hx := hi.2.2.2.2.2.2.2.2.1
    have hk : 0 ≤ k ∧ k ≤ (fw_g W 366 0) := ⟨hi.2.2.2.2.2.2.2.2.2.1, hi.2.2.2.2.2.2.2.2.2.2.1⟩
    have hnx := hi.2.2.2.2.2.2.2.2.2.2.2.1
    have hno := hi.2.2.2.2.2.2.2.2.2.2.2.2
    have hw := hη hr.1 hr.2.1
    have e1 := (hw.1.2.1 x hr.2.2.2.2.1 hr.2.2.2.2.2).1
    have e2 := tr_hop_le hw.1 a hr.2.2.1 hr.2.2.2.1
    have w1 := hww x b hr.2.2.2.2.1 hr.2.2.2.2.2 hr.1 hr.2.1
    have w2 : k < (fw_g W 366 0) → (fw_g f 367 (14 * x + k)) = D x k ∧ (fw_g f 367 (14 * k + b)) = D k b ∧ 0 ≤ D x k ∧ D x k ≤ 2574 ∧ 0 ≤ D k b ∧ D k b ≤ 2574 := fun z => by
      have u1 := mt_ms hpre.1 hgh.1 hgh.2 hr.2.2.2.2.1 hr.2.2.2.2.2 hk.1 z
      have u2 := mt_ms hpre.1 hgh.1 hgh.2 hk.1 z hr.1 hr.2.1
      exact ⟨hww x k hr.2.2.2.2.1 hr.2.2.2.2.2 hk.1 z, hww k b hk.1 z hr.1 hr.2.1, u1.1, u1.2.1, u2.1, u2.2.1⟩
    have nn : (fw_g W 366 0) ≤ k → ¬ nxt = -1 := fun z e => by
      obtain ⟨q, q1, q2, q3, q4, q5⟩ := (hw.2 x hr.2.2.2.2.1 hr.2.2.2.2.2 hx).1
      exact hno e q q1 (by omega) ⟨q3, q4, q5⟩
    clear hi
    repeat' (first
      | (exact True.intro)
      | (exact hpre.1)
      | (refine And.intro ?_ ?_)
      | (refine jf_put (S := [367, 368]) (o := 352) (F := [27]) (W := W) (by repeat (first | exact fw_sm_refl | exact fw_sm_put0 | refine fw_sm_arr ?_ rfl | refine fw_sm_up ?_ rfl | refine fw_sm_put ?_ rfl | refine fw_sm_cp ?_ rfl)) (h34 _ _ ?_ (by omega)); (
        rename_i f1 hl1
        refine ⟨by omega, by omega, by omega, by omega, by omega, by omega, ?_, ?_⟩
        · rw [fg_fin rfl]; omega
        · intro u t u1 u2 t1 t2
          rw [fg_out rfl rfl, fg_in rfl]
          exact hww u t u1 u2 t1 t2))
      | (refine jf_put (S := [367, 368]) (o := 352) (F := [27]) (W := W) (by repeat (first | exact fw_sm_refl | exact fw_sm_put0 | refine fw_sm_arr ?_ rfl | refine fw_sm_up ?_ rfl | refine fw_sm_put ?_ rfl | refine fw_sm_cp ?_ rfl)) (ih _ (by omega) _ _ _ _ rfl ?_ (by omega)); (first
        | (refine ⟨by omega, by omega, by omega, by omega, by omega, by omega, hl, hww, by omega, by omega, by omega, hnx, fun e q q1 q2 hq => ?_⟩
           by_cases e2 : q = k
           · subst e2
             first
               | omega
               | (have h1 : (fw_g W 366 (2 + 3 * x)) = q ∨ (fw_g W 366 (2 + 3 * q)) = x := hq.2.1
                  have h2 := hq.2.2
                  omega)
           · exact hno e q q1 (by omega) hq)
        | (refine ⟨by omega, by omega, by omega, by omega, by omega, by omega, hl, hww, by omega, by omega, by omega, Or.inr ⟨by omega, by omega, (hw.2 x hr.2.2.2.2.1 hr.2.2.2.2.2 hx).2 k (by omega) (by omega) (by omega) (by show (fw_g W 366 (2 + 3 * x)) = k ∨ (fw_g W 366 (2 + 3 * k)) = x; omega) (by omega)⟩, fun e => by omega⟩)))
      | (refine hP _ _ (by repeat (first | exact fw_sm_refl | exact fw_sm_put0 | refine fw_sm_arr ?_ rfl | refine fw_sm_up ?_ rfl | refine fw_sm_put ?_ rfl | refine fw_sm_cp ?_ rfl)) ?_; (refine ⟨by omega, by omega, ?_⟩; (first | trivial | omega)))
      | omega
      | (intro _))
theorem lm_way_34 {Post : Option fw_V → fw_W → Prop} {d : Nat} {W : fw_W} {a b : Int} (δ : Int → Int) (D : Int → Int → Int) (hgh : tr_dep ((fw_g W 366 0)) (fun z_ => (fw_g W 366 (2 + 3 * z_))) δ ∧ tr_met ((fw_g W 366 0)) (fun z_ => (fw_g W 366 (2 + 3 * z_))) (fun z_ => (fw_g W 366 (3 + 3 * z_))) δ D) (η : Int → Int) (hη : (0 ≤ b → b < (fw_g W 366 0) → tr_hop ((fw_g W 366 0)) (fun z_ => (fw_g W 366 (2 + 3 * z_))) b η ∧ ∀ x, 0 ≤ x → x < (fw_g W 366 0) → x ≠ b → (∃ k, 0 ≤ k ∧ k < (fw_g W 366 0) ∧ k ≠ x ∧ tr_nx (fun z_ => (fw_g W 366 (2 + 3 * z_))) x k ∧ D x b = D x k + D k b) ∧ ∀ k, 0 ≤ k → k < (fw_g W 366 0) → k ≠ x → tr_nx (fun z_ => (fw_g W 366 (2 + 3 * z_))) x k → D x b = D x k + D k b → η x = η k + 1)) (hpre : mt W ∧ 0 ≤ (fw_g W 366 0) ∧ (fw_g W 366 0) ≤ 14) (hP : ∀ (v : Int) (W2 : fw_W), fw_sm [367, 368] 352 [27] W W2 → (-2147483648 ≤ v ∧ v ≤ 2147483647 ∧ (True)) → Post (some (.inl v)) W2)  : ∀ (m : Nat) (x : Int) (f : fw_W), (η x).toNat = m → (0 ≤ b ∧ b < (fw_g W 366 0) ∧ 0 ≤ a ∧ a < (fw_g W 366 0) ∧ 0 ≤ x ∧ x < (fw_g W 366 0) ∧ (0 ≤ (fw_g f 352 27) ∧ (fw_g f 352 27) + η x = η a + 1) ∧ (∀ u t, 0 ≤ u → u < (fw_g W 366 0) → 0 ≤ t → t < (fw_g W 366 0) → (fw_g f 367 (14 * u + t)) = D u t)) → jf fw_T (d + 5) 221 34 [(0, .inr (.inl 352)), (1, .inl a), (2, .inl b), (3, .inl x)] [] (fw_put [367, 368] 352 [27] W f) Post := by
  intro m
  induction m using Nat.strongRecOn with
  | ind m ih =>
    intro x f hm hi
    refine jf_rng (fun hrg => ?_)
    have hrg : -2147483648 ≤ a ∧ a ≤ 2147483647 ∧ -2147483648 ≤ b ∧ b ≤ 2147483647 ∧ -2147483648 ≤ x ∧ x ≤ 2147483647 ∧ True := hrg
    refine s_way_34 ?_
    have hr : 0 ≤ b ∧ b < (fw_g W 366 0) ∧ 0 ≤ a ∧ a < (fw_g W 366 0) ∧ 0 ≤ x ∧ x < (fw_g W 366 0) := ⟨hi.1, hi.2.1, hi.2.2.1, hi.2.2.2.1, hi.2.2.2.2.1, hi.2.2.2.2.2.1⟩
    have hl := hi.2.2.2.2.2.2.1
    have hw := hη hr.1 hr.2.1
    have e1 := (hw.1.2.1 x hr.2.2.2.2.1 hr.2.2.2.2.2).1
    have e2 := tr_hop_le hw.1 a hr.2.2.1 hr.2.2.2.1
    have e3 := (hw.1.2.1 x hr.2.2.2.2.1 hr.2.2.2.2.2).2.2
    repeat' (first
      | (exact True.intro)
      | (exact hpre.1)
      | (refine And.intro ?_ ?_)
      | (refine jf_put (S := [367, 368]) (o := 352) (F := [27]) (W := W) (by repeat (first | exact fw_sm_refl | exact fw_sm_put0 | refine fw_sm_arr ?_ rfl | refine fw_sm_up ?_ rfl | refine fw_sm_put ?_ rfl | refine fw_sm_cp ?_ rfl)) (ih _ (by omega) _ _ rfl ?_); (first | omega | trivial | (simp (config := { decide := true }) only [fg_in, fg_fin, fg_out, fg_fout, fg_up, fg_same, true_and, and_true] <;> omega)))
      | (refine jf_put (S := [367, 368]) (o := 352) (F := [27]) (W := W) (by repeat (first | exact fw_sm_refl | exact fw_sm_put0 | refine fw_sm_arr ?_ rfl | refine fw_sm_up ?_ rfl | refine fw_sm_put ?_ rfl | refine fw_sm_cp ?_ rfl)) (lm_way_45 (a := a) (b := b) δ D hgh η hη hpre hP (η x) (fun a0 af hi hl => ih _ (by omega) a0 af rfl hi) _ _ _ _ _ rfl ?_ (by omega)); (
        refine ⟨by omega, by omega, by omega, by omega, by omega, by omega, hl, hi.2.2.2.2.2.2.2, by omega, by omega, by omega, Or.inl rfl, fun _ q q1 q2 => by omega⟩))
      | (refine hP _ _ (by repeat (first | exact fw_sm_refl | exact fw_sm_put0 | refine fw_sm_arr ?_ rfl | refine fw_sm_up ?_ rfl | refine fw_sm_put ?_ rfl | refine fw_sm_cp ?_ rfl)) ?_; (refine ⟨by omega, by omega, ?_⟩; (first | trivial | omega)))
      | omega
      | (intro _))
def x_way : fw_X := fun as W Q => match as with
  | [.inr (.inl s_), .inl a, .inl b] => fw_if (Nat.beq s_ 352) ((mt W ∧ 0 ≤ (fw_g W 366 0) ∧ (fw_g W 366 0) ≤ 14) ∧ (∀ (v : Int) (f : fw_W), (-2147483648 ≤ v ∧ v ≤ 2147483647 ∧ (True)) → Q (some (.inl v)) (fw_put [367, 368] 352 [27] W f)))
  | _ => False
theorem x_way_ok (d : Nat) (as : List fw_V) (W : fw_W) (Q : Option fw_V → fw_W → Prop) (hx : x_way as W Q) : jf fw_T (d + 5) 221 0 (fw_args 0 as) [] W Q := by
  unfold x_way at hx
  split at hx
  · rename_i s_ a b
    obtain ⟨e_, hpre, hQ⟩ := fw_if_ok hx
    have e_ := Nat.eq_of_beq_eq_true e_
    subst e_
    have hP : ∀ (v : Int) (W2 : fw_W), fw_sm [367, 368] 352 [27] W W2 → _ → Q (some (.inl v)) W2 := fun v W2 hs hr => fw_sm_use (Q := fun Z => Q (some (.inl v)) Z) hs (hQ v W2 hr)
    obtain ⟨δ, hδ⟩ := tr_has hpre.1.2.2.1
    obtain ⟨D, hD⟩ := tr_hasm hpre.1.2.2.1 hδ hpre.2.2 (fun z_ => fw_g W 366 (3 + 3 * z_))
    have hgh : _ ∧ _ := ⟨hδ, hD⟩
    have ex : ∃ η : Int → Int, (0 ≤ b → b < (fw_g W 366 0) → tr_hop ((fw_g W 366 0)) (fun z_ => (fw_g W 366 (2 + 3 * z_))) b η ∧ ∀ x, 0 ≤ x → x < (fw_g W 366 0) → x ≠ b → (∃ k, 0 ≤ k ∧ k < (fw_g W 366 0) ∧ k ≠ x ∧ tr_nx (fun z_ => (fw_g W 366 (2 + 3 * z_))) x k ∧ D x b = D x k + D k b) ∧ ∀ k, 0 ≤ k → k < (fw_g W 366 0) → k ≠ x → tr_nx (fun z_ => (fw_g W 366 (2 + 3 * z_))) x k → D x b = D x k + D k b → η x = η k + 1) := by
      by_cases hb : 0 ≤ b ∧ b < fw_g W 366 0
      · obtain ⟨η, h1, h2⟩ := met_way hpre.1.2.2.1 hpre.2.2 hδ hD hpre.1.2.2.2.1 hb.1 hb.2
        exact ⟨η, fun _ _ => ⟨h1, h2⟩⟩
      · exact ⟨fun _ => 0, fun h1 h2 => absurd ⟨h1, h2⟩ hb⟩
    obtain ⟨η, hη⟩ := ex
    refine s_way_0 ?_
    repeat' (first
      | (exact True.intro)
      | (exact hpre.1)
      | (refine And.intro ?_ ?_)
      | (refine jf_put (S := [367, 368]) (o := 352) (F := [27]) (W := W) (by repeat (first | exact fw_sm_refl | exact fw_sm_put0 | refine fw_sm_arr ?_ rfl | refine fw_sm_up ?_ rfl | refine fw_sm_put ?_ rfl | refine fw_sm_cp ?_ rfl)) (lm_way_34 (a := a) (b := b) δ D hgh η hη hpre hP _ _ _ rfl ?_); (
        rename_i hw5 f6 hl6
        rw [fg_same (by omega) (by omega)] at hl6
        refine ⟨by omega, by omega, by omega, by omega, by omega, by omega, ?_, ?_⟩
        · rw [fg_fin rfl]; omega
        · intro u t u1 u2 t1 t2
          rw [fg_out rfl rfl, fg_in rfl]
          exact hw5 u t u1 u2 t1 t2))
      | (refine jf_put (S := [367, 368]) (o := 352) (F := [27]) (W := W) (by repeat (first | exact fw_sm_refl | exact fw_sm_put0 | refine fw_sm_arr ?_ rfl | refine fw_sm_up ?_ rfl | refine fw_sm_put ?_ rfl | refine fw_sm_cp ?_ rfl)) (lm_way_45 (a := a) (b := b) δ D hgh η hη hpre hP M34 h34 _ _ _ _ _ rfl ?_ (by omega)); (first | omega | trivial | (simp (config := { decide := true }) only [fg_in, fg_fin, fg_out, fg_fout, fg_up, fg_same, true_and, and_true] <;> omega)))
      | (refine hP _ _ (by repeat (first | exact fw_sm_refl | exact fw_sm_put0 | refine fw_sm_arr ?_ rfl | refine fw_sm_up ?_ rfl | refine fw_sm_put ?_ rfl | refine fw_sm_cp ?_ rfl)) ?_; (refine ⟨by omega, by omega, ?_⟩; (first | trivial | omega)))
      | (refine ⟨δ, D, hgh, ?_⟩)
      | (rw [fg_same (by omega) (by omega)]; omega)
      | omega
      | (intro _))
  · exact hx.elim

