/-! the reference, method by method -/
theorem tw_grow2 {g k : Int → Int} {n : Int} (t : tw g) (en : g 0 = n) (hn : 0 < n) (h13 : n ≤ 13) (c1 : 0 ≤ k (2 + 3 * n)) (c2 : k (2 + 3 * n) < n) (c3 : 1 ≤ k (3 + 3 * n)) (c4 : k (3 + 3 * n) ≤ 99) (e0 : k 0 = n + 1) (h : ∀ i, 0 ≤ i → i ≠ 0 → i ≠ 2 + 3 * n → i ≠ 3 + 3 * n → i ≠ 4 + 3 * n → k i = g i) : tw k := by
  subst en
  exact tw_grow t hn h13 c1 c2 c3 c4 e0 h
def fr_243 : fw_P := [(0, 2, 0, 0, 0), (1, 50, 12, 24, 0), (4, 0, 0, 0, 1), (5, 0, 0, 0, 137), (8, 2, 0, 0, 0), (9, 50, 12, 24, 0), (12, 0, 0, 0, 1), (13, 52, 0, 0, 0), (14, 32, 0, 0, 0), (15, 0, 0, 0, 71), (17, 30, 0, 0, 0), (18, 0, 0, 0, 1000), (21, 34, 0, 0, 0), (22, 53, 0, 0, 0), (23, 2, 0, 0, 0), (24, 50, 12, 24, 0), (27, 0, 0, 0, 1), (28, 52, 0, 0, 0), (29, 3, 1, 0, 0), (30, 1, 1, 0, 0), (31, 2, 0, 0, 0), (32, 64, 188, 0, 112), (35, 34, 0, 0, 0), (36, 3, 2, 0, 0), (37, 1, 1, 0, 0), (38, 0, 0, 0, 4), (39, 34, 0, 0, 0), (40, 21, 94, 0, 0), (43, 0, 0, 0, -1), (44, 3, 3, 0, 0), (45, 0, 0, 0, 0), (46, 3, 4, 0, 0), (48, 1, 4, 0, 0), (50, 2, 0, 0, 0), (51, 64, 188, 0, 112), (54, 13, 76, 0, 0), (57, 2, 0, 0, 0), (58, 1, 4, 0, 0), (60, 64, 218, 1, 412), (63, 0, 0, 0, 1), (64, 11, 70, 0, 0), (67, 1, 4, 0, 0), (69, 3, 3, 0, 0), (70, 5, 4, 0, 1), (73, 6, 48, 0, 0), (76, 1, 3, 0, 0), (77, 22, 91, 0, 0), (80, 2, 0, 0, 0), (81, 50, 12, 24, 0), (84, 0, 0, 0, 4), (85, 0, 0, 0, 3), (86, 1, 3, 0, 0), (87, 32, 0, 0, 0), (88, 30, 0, 0, 0), (89, 0, 0, 0, 0), (90, 53, 0, 0, 0), (91, 6, 144, 0, 0), (94, 2, 0, 0, 0), (95, 64, 188, 0, 112), (98, 0, 0, 0, 14), (100, 13, 120, 0, 0), (103, 2, 0, 0, 0), (104, 1, 2, 0, 0), (105, 0, 0, 0, 1), (106, 1, 1, 0, 0), (107, 0, 0, 0, 9), (109, 34, 0, 0, 0), (110, 30, 0, 0, 0), (111, 1, 1, 0, 0), (112, 0, 0, 0, 5), (113, 34, 0, 0, 0), (114, 64, 238, 3, 412), (117, 6, 144, 0, 0), (120, 2, 0, 0, 0), (121, 1, 2, 0, 0), (122, 64, 217, 1, 212), (125, 0, 0, 0, 99), (127, 13, 144, 0, 0), (130, 2, 0, 0, 0), (131, 50, 12, 24, 0), (134, 0, 0, 0, 4), (135, 0, 0, 0, 3), (136, 1, 2, 0, 0), (137, 32, 0, 0, 0), (138, 30, 0, 0, 0), (139, 44, 0, 0, 0), (140, 52, 0, 0, 0), (141, 0, 0, 0, 1), (142, 30, 0, 0, 0), (143, 53, 0, 0, 0), (144, 72, 0, 0, 0)]
theorem fr_243_ok : fw_mk 243 5 12 none fr_243 = true := by decide +kernel
def ct_year : List (Nat × fw_X) := [(238, x_grows), (188, x_many), (217, x_peopleOf), (218, x_streetsOf)]
theorem ct_year_ok (d : Nat) : fw_cok fw_T (d + 3) ct_year := by
  intro q hq as W Q h
  simp only [ct_year, List.mem_cons, List.not_mem_nil, or_false] at hq
  rcases hq with rfl | rfl | rfl | rfl
  · exact jc_of (x_grows_ok (d + 1) as W Q h)
  · exact jc_of (x_many_ok (d + 2) as W Q h)
  · exact jc_of (x_peopleOf_ok (d + 2) as W Q h)
  · exact jc_of (x_streetsOf_ok (d + 0) as W Q h)
theorem s_year_0 {Post : Option fw_V → fw_W → Prop} {d : Nat} {W : fw_W}
    (hw_ : 0 ≤ (1 : Int) ∧ (1 : Int) < 44 ∧ (-2147483648 ≤ (fw_g W 366 (1 : Int)) → (fw_g W 366 (1 : Int)) ≤ 2147483647 → -2147483648 ≤ (137 : Int) * (fw_g W 366 (1 : Int)) ∧ (137 : Int) * (fw_g W 366 (1 : Int)) ≤ 2147483647 ∧ (-2147483648 ≤ ((137 : Int) * (fw_g W 366 (1 : Int))) + (71 : Int) ∧ ((137 : Int) * (fw_g W 366 (1 : Int))) + (71 : Int) ≤ 2147483647 ∧ (0 ≤ (((137 : Int) * (fw_g W 366 (1 : Int))) + (71 : Int)) ∧ 0 < (1000 : Int) ∧ (0 ≤ (1 : Int) ∧ (1 : Int) < 44 ∧ -2147483648 ≤ ((((137 : Int) * (fw_g W 366 (1 : Int))) + (71 : Int)) % (1000 : Int)) ∧ ((((137 : Int) * (fw_g W 366 (1 : Int))) + (71 : Int)) % (1000 : Int)) ≤ 2147483647 ∧ (0 ≤ (1 : Int) ∧ (1 : Int) < 44 ∧ (-2147483648 ≤ (fw_g (fw_up W 366 (1 : Int) ((((137 : Int) * (fw_g W 366 (1 : Int))) + (71 : Int)) % (1000 : Int))) 366 (1 : Int)) → (fw_g (fw_up W 366 (1 : Int) ((((137 : Int) * (fw_g W 366 (1 : Int))) + (71 : Int)) % (1000 : Int))) 366 (1 : Int)) ≤ 2147483647 → (True) ∧ (0 ≤ (fw_g (fw_up W 366 (1 : Int) ((((137 : Int) * (fw_g W 366 (1 : Int))) + (71 : Int)) % (1000 : Int))) 366 (1 : Int)) ∧ 0 < (fw_g W 366 0) ∧ (0 ≤ (fw_g (fw_up W 366 (1 : Int) ((((137 : Int) * (fw_g W 366 (1 : Int))) + (71 : Int)) % (1000 : Int))) 366 (1 : Int)) ∧ 0 < (4 : Int) ∧ (((¬ ((fw_g (fw_up W 366 (1 : Int) ((((137 : Int) * (fw_g W 366 (1 : Int))) + (71 : Int)) % (1000 : Int))) 366 (1 : Int)) % (4 : Int)) = 0 → (True) ∧ ((((14 : Int) ≤ (fw_g W 366 0) → (0 ≤ ((fw_g (fw_up W 366 (1 : Int) ((((137 : Int) * (fw_g W 366 (1 : Int))) + (71 : Int)) % (1000 : Int))) 366 (1 : Int)) % (fw_g W 366 0)) ∧ ((fw_g (fw_up W 366 (1 : Int) ((((137 : Int) * (fw_g W 366 (1 : Int))) + (71 : Int)) % (1000 : Int))) 366 (1 : Int)) % (fw_g W 366 0)) < 14) ∧ ((((99 : Int) ≤ (fw_g (fw_up W 366 (1 : Int) ((((137 : Int) * (fw_g W 366 (1 : Int))) + (71 : Int)) % (1000 : Int))) 366 (4 + 3 * ((fw_g (fw_up W 366 (1 : Int) ((((137 : Int) * (fw_g W 366 (1 : Int))) + (71 : Int)) % (1000 : Int))) 366 (1 : Int)) % (fw_g W 366 0)))) → Post none (fw_up W 366 (1 : Int) ((((137 : Int) * (fw_g W 366 (1 : Int))) + (71 : Int)) % (1000 : Int)))) ∧ ((fw_g (fw_up W 366 (1 : Int) ((((137 : Int) * (fw_g W 366 (1 : Int))) + (71 : Int)) % (1000 : Int))) 366 (4 + 3 * ((fw_g (fw_up W 366 (1 : Int) ((((137 : Int) * (fw_g W 366 (1 : Int))) + (71 : Int)) % (1000 : Int))) 366 (1 : Int)) % (fw_g W 366 0)))) < (99 : Int) → -2147483648 ≤ (3 : Int) * ((fw_g (fw_up W 366 (1 : Int) ((((137 : Int) * (fw_g W 366 (1 : Int))) + (71 : Int)) % (1000 : Int))) 366 (1 : Int)) % (fw_g W 366 0)) ∧ (3 : Int) * ((fw_g (fw_up W 366 (1 : Int) ((((137 : Int) * (fw_g W 366 (1 : Int))) + (71 : Int)) % (1000 : Int))) 366 (1 : Int)) % (fw_g W 366 0)) ≤ 2147483647 ∧ (-2147483648 ≤ (4 : Int) + ((3 : Int) * ((fw_g (fw_up W 366 (1 : Int) ((((137 : Int) * (fw_g W 366 (1 : Int))) + (71 : Int)) % (1000 : Int))) 366 (1 : Int)) % (fw_g W 366 0))) ∧ (4 : Int) + ((3 : Int) * ((fw_g (fw_up W 366 (1 : Int) ((((137 : Int) * (fw_g W 366 (1 : Int))) + (71 : Int)) % (1000 : Int))) 366 (1 : Int)) % (fw_g W 366 0))) ≤ 2147483647 ∧ (0 ≤ ((4 : Int) + ((3 : Int) * ((fw_g (fw_up W 366 (1 : Int) ((((137 : Int) * (fw_g W 366 (1 : Int))) + (71 : Int)) % (1000 : Int))) 366 (1 : Int)) % (fw_g W 366 0)))) ∧ ((4 : Int) + ((3 : Int) * ((fw_g (fw_up W 366 (1 : Int) ((((137 : Int) * (fw_g W 366 (1 : Int))) + (71 : Int)) % (1000 : Int))) 366 (1 : Int)) % (fw_g W 366 0)))) < 44 ∧ (-2147483648 ≤ (fw_g (fw_up W 366 (1 : Int) ((((137 : Int) * (fw_g W 366 (1 : Int))) + (71 : Int)) % (1000 : Int))) 366 ((4 : Int) + ((3 : Int) * ((fw_g (fw_up W 366 (1 : Int) ((((137 : Int) * (fw_g W 366 (1 : Int))) + (71 : Int)) % (1000 : Int))) 366 (1 : Int)) % (fw_g W 366 0))))) → (fw_g (fw_up W 366 (1 : Int) ((((137 : Int) * (fw_g W 366 (1 : Int))) + (71 : Int)) % (1000 : Int))) 366 ((4 : Int) + ((3 : Int) * ((fw_g (fw_up W 366 (1 : Int) ((((137 : Int) * (fw_g W 366 (1 : Int))) + (71 : Int)) % (1000 : Int))) 366 (1 : Int)) % (fw_g W 366 0))))) ≤ 2147483647 → -2147483648 ≤ (fw_g (fw_up W 366 (1 : Int) ((((137 : Int) * (fw_g W 366 (1 : Int))) + (71 : Int)) % (1000 : Int))) 366 ((4 : Int) + ((3 : Int) * ((fw_g (fw_up W 366 (1 : Int) ((((137 : Int) * (fw_g W 366 (1 : Int))) + (71 : Int)) % (1000 : Int))) 366 (1 : Int)) % (fw_g W 366 0))))) + (1 : Int) ∧ (fw_g (fw_up W 366 (1 : Int) ((((137 : Int) * (fw_g W 366 (1 : Int))) + (71 : Int)) % (1000 : Int))) 366 ((4 : Int) + ((3 : Int) * ((fw_g (fw_up W 366 (1 : Int) ((((137 : Int) * (fw_g W 366 (1 : Int))) + (71 : Int)) % (1000 : Int))) 366 (1 : Int)) % (fw_g W 366 0))))) + (1 : Int) ≤ 2147483647 ∧ (0 ≤ ((4 : Int) + ((3 : Int) * ((fw_g (fw_up W 366 (1 : Int) ((((137 : Int) * (fw_g W 366 (1 : Int))) + (71 : Int)) % (1000 : Int))) 366 (1 : Int)) % (fw_g W 366 0)))) ∧ ((4 : Int) + ((3 : Int) * ((fw_g (fw_up W 366 (1 : Int) ((((137 : Int) * (fw_g W 366 (1 : Int))) + (71 : Int)) % (1000 : Int))) 366 (1 : Int)) % (fw_g W 366 0)))) < 44 ∧ -2147483648 ≤ ((fw_g (fw_up W 366 (1 : Int) ((((137 : Int) * (fw_g W 366 (1 : Int))) + (71 : Int)) % (1000 : Int))) 366 ((4 : Int) + ((3 : Int) * ((fw_g (fw_up W 366 (1 : Int) ((((137 : Int) * (fw_g W 366 (1 : Int))) + (71 : Int)) % (1000 : Int))) 366 (1 : Int)) % (fw_g W 366 0))))) + (1 : Int)) ∧ ((fw_g (fw_up W 366 (1 : Int) ((((137 : Int) * (fw_g W 366 (1 : Int))) + (71 : Int)) % (1000 : Int))) 366 ((4 : Int) + ((3 : Int) * ((fw_g (fw_up W 366 (1 : Int) ((((137 : Int) * (fw_g W 366 (1 : Int))) + (71 : Int)) % (1000 : Int))) 366 (1 : Int)) % (fw_g W 366 0))))) + (1 : Int)) ≤ 2147483647 ∧ (Post none (fw_up (fw_up W 366 (1 : Int) ((((137 : Int) * (fw_g W 366 (1 : Int))) + (71 : Int)) % (1000 : Int))) 366 ((4 : Int) + ((3 : Int) * ((fw_g (fw_up W 366 (1 : Int) ((((137 : Int) * (fw_g W 366 (1 : Int))) + (71 : Int)) % (1000 : Int))) 366 (1 : Int)) % (fw_g W 366 0)))) ((fw_g (fw_up W 366 (1 : Int) ((((137 : Int) * (fw_g W 366 (1 : Int))) + (71 : Int)) % (1000 : Int))) 366 ((4 : Int) + ((3 : Int) * ((fw_g (fw_up W 366 (1 : Int) ((((137 : Int) * (fw_g W 366 (1 : Int))) + (71 : Int)) % (1000 : Int))) 366 (1 : Int)) % (fw_g W 366 0))))) + (1 : Int)))))))))))) ∧ ((fw_g W 366 0) < (14 : Int) → 0 ≤ (fw_g (fw_up W 366 (1 : Int) ((((137 : Int) * (fw_g W 366 (1 : Int))) + (71 : Int)) % (1000 : Int))) 366 (1 : Int)) ∧ 0 < (9 : Int) ∧ (-2147483648 ≤ (1 : Int) + ((fw_g (fw_up W 366 (1 : Int) ((((137 : Int) * (fw_g W 366 (1 : Int))) + (71 : Int)) % (1000 : Int))) 366 (1 : Int)) % (9 : Int)) ∧ (1 : Int) + ((fw_g (fw_up W 366 (1 : Int) ((((137 : Int) * (fw_g W 366 (1 : Int))) + (71 : Int)) % (1000 : Int))) 366 (1 : Int)) % (9 : Int)) ≤ 2147483647 ∧ (0 ≤ (fw_g (fw_up W 366 (1 : Int) ((((137 : Int) * (fw_g W 366 (1 : Int))) + (71 : Int)) % (1000 : Int))) 366 (1 : Int)) ∧ 0 < (5 : Int) ∧ ((0 ≤ (fw_g W 366 0) ∧ (fw_g W 366 0) ≤ 13) ∧ (∀ (f1 : fw_W), (((fw_g f1 366 0) = (fw_g W 366 0) + 1 ∧ (fw_g f1 366 (2 + 3 * (fw_g W 366 0))) = ((fw_g (fw_up W 366 (1 : Int) ((((137 : Int) * (fw_g W 366 (1 : Int))) + (71 : Int)) % (1000 : Int))) 366 (1 : Int)) % (fw_g W 366 0)) ∧ (fw_g f1 366 (3 + 3 * (fw_g W 366 0))) = ((1 : Int) + ((fw_g (fw_up W 366 (1 : Int) ((((137 : Int) * (fw_g W 366 (1 : Int))) + (71 : Int)) % (1000 : Int))) 366 (1 : Int)) % (9 : Int))) ∧ ∀ i, 0 ≤ i → i ≠ 0 → i ≠ 2 + 3 * (fw_g W 366 0) → i ≠ 3 + 3 * (fw_g W 366 0) → i ≠ 4 + 3 * (fw_g W 366 0) → (fw_g f1 366 i) = (fw_g (fw_up W 366 (1 : Int) ((((137 : Int) * (fw_g W 366 (1 : Int))) + (71 : Int)) % (1000 : Int))) 366 i))) → Post none (fw_put [366] 352 [] (fw_up W 366 (1 : Int) ((((137 : Int) * (fw_g W 366 (1 : Int))) + (71 : Int)) % (1000 : Int))) f1))))))))) ∧ (((fw_g (fw_up W 366 (1 : Int) ((((137 : Int) * (fw_g W 366 (1 : Int))) + (71 : Int)) % (1000 : Int))) 366 (1 : Int)) % (4 : Int)) = 0 → jf fw_T (d + 4) 243 48 [(0, .inr (.inl 352)), (3, .inl (-1 : Int)), (4, .inl (0 : Int))] [] (fw_up W 366 (1 : Int) ((((137 : Int) * (fw_g W 366 (1 : Int))) + (71 : Int)) % (1000 : Int))) Post)))))))))))) :
    jf fw_T (d + 4) 243 0 [(0, .inr (.inl 352))] [] W Post := fw_ok (n := 51) (ss := [(48, [0, 3, 4])]) (hv := []) fr_243_ok fm_ok (ct_year_ok d) hw_

theorem s_year_48 {Post : Option fw_V → fw_W → Prop} {d : Nat} {W : fw_W} {burns k : Int} {f : fw_W}
    (hw_ : (True) ∧ ((((fw_g f 366 0) ≤ k → ((burns < 0 → Post none (fw_put [366] 352 [] W f)) ∧ (0 ≤ burns → -2147483648 ≤ (3 : Int) * burns ∧ (3 : Int) * burns ≤ 2147483647 ∧ (-2147483648 ≤ (4 : Int) + ((3 : Int) * burns) ∧ (4 : Int) + ((3 : Int) * burns) ≤ 2147483647 ∧ (0 ≤ ((4 : Int) + ((3 : Int) * burns)) ∧ ((4 : Int) + ((3 : Int) * burns)) < 44 ∧ -2147483648 ≤ (0 : Int) ∧ (0 : Int) ≤ 2147483647 ∧ (Post none (fw_up (fw_put [366] 352 [] W f) 366 ((4 : Int) + ((3 : Int) * burns)) (0 : Int)))))))) ∧ (k < (fw_g f 366 0) → (mt (fw_put [366] 352 [] W f) ∧ 0 ≤ (fw_g f 366 0) ∧ (fw_g f 366 0) ≤ 14 ∧ 0 ≤ k ∧ k < 14) ∧ (∀ (r1 : Int), ((-2147483648 ≤ r1 ∧ r1 ≤ 2147483647 ∧ (True))) → ((¬ r1 = (1 : Int) → -2147483648 ≤ k + (1 : Int) ∧ k + (1 : Int) ≤ 2147483647 ∧ (jf fw_T (d + 4) 243 48 [(0, .inr (.inl 352)), (3, .inl burns), (4, .inl (k + (1 : Int)))] [] (fw_put [366] 352 [] W f) Post)) ∧ (r1 = (1 : Int) → -2147483648 ≤ k + (1 : Int) ∧ k + (1 : Int) ≤ 2147483647 ∧ (jf fw_T (d + 4) 243 48 [(0, .inr (.inl 352)), (3, .inl k), (4, .inl (k + (1 : Int)))] [] (fw_put [366] 352 [] W f) Post)))))))) :
    jf fw_T (d + 4) 243 48 [(0, .inr (.inl 352)), (3, .inl burns), (4, .inl k)] [] (fw_put [366] 352 [] W f) Post := fw_ok (n := 18) (ss := [(48, [0, 3, 4])]) (hv := []) fr_243_ok fm_ok (ct_year_ok d) hw_

theorem lm_year_48 {Post : Option fw_V → fw_W → Prop} {d : Nat} {W : fw_W} (hpre : mt W ∧ 0 ≤ (fw_g W 366 0) ∧ (fw_g W 366 0) ≤ 14 ∧ 1 ≤ (fw_g W 366 0)) (hP : ∀ (W2 : fw_W), fw_sm [366] 352 [] W W2 → (tw (fun z_ => (fw_g W2 366 z_)) ∧ 1 ≤ (fw_g W2 366 0)) → Post none W2)  : ∀ (m : Nat) (burns k : Int) (f : fw_W), ((fw_g f 366 0) - k).toNat = m → 0 ≤ k ∧ -1 ≤ burns ∧ burns < 14 ∧ tw (fun z_ => (fw_g f 366 z_)) ∧ 1 ≤ (fw_g f 366 0) ∧ (fw_g f 366 0) ≤ 14 → jf fw_T (d + 4) 243 48 [(0, .inr (.inl 352)), (3, .inl burns), (4, .inl k)] [] (fw_put [366] 352 [] W f) Post := by
  intro m
  induction m using Nat.strongRecOn with
  | ind m ih =>
    intro burns k f hm hi
    refine jf_rng (fun hrg => ?_)
    have hrg : -2147483648 ≤ burns ∧ burns ≤ 2147483647 ∧ -2147483648 ≤ k ∧ k ≤ 2147483647 ∧ True := hrg
    refine s_year_48 ?_
    repeat' (first
      | (exact hi.2.2.2.1)
      | (exact True.intro)
      | (exact hpre.1)
      | (refine And.intro ?_ ?_)
      | (refine (ih _ (by omega) _ _ _ rfl ?_); (exact ⟨by omega, by omega, by omega, hi.2.2.2.1, by omega, by omega⟩))
      | (refine jf_put (S := [366]) (o := 352) (F := []) (W := W) (by repeat (first | exact fw_sm_refl | exact fw_sm_put0 | refine fw_sm_arr ?_ rfl | refine fw_sm_up ?_ rfl | refine fw_sm_put ?_ rfl | refine fw_sm_cp ?_ rfl)) (ih _ (by omega) _ _ _ rfl ?_); (exact ⟨by omega, by omega, by omega, hi.2.2.2.1, by omega, by omega⟩))
      | (refine hP _ (by repeat (first | exact fw_sm_refl | exact fw_sm_put0 | refine fw_sm_arr ?_ rfl | refine fw_sm_up ?_ rfl | refine fw_sm_put ?_ rfl | refine fw_sm_cp ?_ rfl)) ?_; (first
          | (refine ⟨ht, ?_⟩; omega)
          | (rename_i f1 hg2
             refine ⟨tw_grow2 (k := fun z_ => fw_g f1 366 z_) ht hN (by omega) (by omega) (by show 0 ≤ fw_g f1 366 (2 + 3 * fw_g W 366 0); omega) (by show fw_g f1 366 (2 + 3 * fw_g W 366 0) < fw_g W 366 0; omega) (by show 1 ≤ fw_g f1 366 (3 + 3 * fw_g W 366 0); omega) (by show fw_g f1 366 (3 + 3 * fw_g W 366 0) ≤ 99; omega) hg2.1 hg2.2.2.2, ?_⟩
             rw [fg_in rfl]; omega)
          | (refine ⟨tw_ppl (x := fw_g (fw_up W 366 1 ((137 * fw_g W 366 1 + 71) % 1000)) 366 1 % fw_g W 366 0) ht hm1 (fun z z1 z2 z3 => ?_), ?_⟩
             · show fw_g _ _ _ = fw_g _ _ _
               rw [fg_if (by omega) (by omega) (by omega) (by omega), if_neg (by omega)]
             · rw [fg_if (by omega) (by omega) (by omega) (by omega), if_neg (by omega), hN]; omega)
          | (refine ⟨hi.2.2.2.1, ?_⟩; show 1 ≤ fw_g f 366 0; omega)
          | (refine ⟨tw_ppl (g := fun z_ => fw_g f 366 z_) (x := burns) hi.2.2.2.1 (by omega) (fun z z1 z2 z3 => ?_), ?_⟩
             · show fw_g _ _ _ = fw_g _ _ _
               rw [fg_if (by omega) (by omega) (by omega) (by omega), if_neg (by omega)]; rfl
             · rw [fg_if (by omega) (by omega) (by omega) (by omega), if_neg (by omega)]; show 1 ≤ fw_g f 366 0; omega)))
      | omega
      | (intro _))
def x_year : fw_X := fun as W Q => match as with
  | [.inr (.inl s_)] => fw_if (Nat.beq s_ 352) ((mt W ∧ 0 ≤ (fw_g W 366 0) ∧ (fw_g W 366 0) ≤ 14 ∧ 1 ≤ (fw_g W 366 0)) ∧ (∀ (f : fw_W), (tw (fun z_ => (fw_g f 366 z_)) ∧ 1 ≤ (fw_g f 366 0)) → Q none (fw_put [366] 352 [] W f)))
  | _ => False
theorem x_year_ok (d : Nat) (as : List fw_V) (W : fw_W) (Q : Option fw_V → fw_W → Prop) (hx : x_year as W Q) : jf fw_T (d + 4) 243 0 (fw_args 0 as) [] W Q := by
  unfold x_year at hx
  split at hx
  · rename_i s_
    obtain ⟨e_, hpre, hQ⟩ := fw_if_ok hx
    have e_ := Nat.eq_of_beq_eq_true e_
    subst e_
    have hP : ∀ (W2 : fw_W), fw_sm [366] 352 [] W W2 → _ → Q none W2 := fun W2 hs hr => fw_sm_use (Q := fun Z => Q none Z) hs (hQ W2 hr)
    refine s_year_0 ?_
    have hs := hpre.1.2.2.2.2
    have hs0 : 0 ≤ fw_g W 366 1 ∧ fw_g W 366 1 ≤ 999 := hs
    have hs1 : fw_g (fw_up W 366 1 ((137 * fw_g W 366 1 + 71) % 1000)) 366 1 = (137 * fw_g W 366 1 + 71) % 1000 := fg_same (by omega) (by omega)
    have hm1 := Int.emod_nonneg (fw_g (fw_up W 366 1 ((137 * fw_g W 366 1 + 71) % 1000)) 366 1) (b := fw_g W 366 0) (by omega)
    have hm2 := Int.emod_lt_of_pos (fw_g (fw_up W 366 1 ((137 * fw_g W 366 1 + 71) % 1000)) 366 1) (b := fw_g W 366 0) (by omega)
    have ht : tw (fun z_ => fw_g (fw_up W 366 1 ((137 * fw_g W 366 1 + 71) % 1000)) 366 z_) := tw_seed (g := fun z_ => fw_g W 366 z_) hpre.1 (by show 0 ≤ fw_g _ _ _; omega) (by show fw_g _ _ _ ≤ 999; omega) (fun z z1 z2 z3 => by show fw_g _ _ _ = fw_g _ _ _; rw [fg_if (by omega) (by omega) (by omega) (by omega), if_neg (by omega)])
    have hN : fw_g (fw_up W 366 1 ((137 * fw_g W 366 1 + 71) % 1000)) 366 0 = fw_g W 366 0 := fg_lit rfl
    repeat' (first
      | (exact True.intro)
      | (exact hpre.1)
      | (refine And.intro ?_ ?_)
      | (refine jf_put (S := [366]) (o := 352) (F := []) (W := W) (by repeat (first | exact fw_sm_refl | exact fw_sm_put0 | refine fw_sm_arr ?_ rfl | refine fw_sm_up ?_ rfl | refine fw_sm_put ?_ rfl | refine fw_sm_cp ?_ rfl)) (lm_year_48 hpre hP _ _ _ _ rfl ?_); (
        refine ⟨by omega, by omega, by omega, ht, ?_, ?_⟩
        · show 1 ≤ fw_g (fw_up W 366 1 _) 366 0; rw [hN]; omega
        · show fw_g (fw_up W 366 1 _) 366 0 ≤ 14; rw [hN]; omega))
      | (refine hP _ (by repeat (first | exact fw_sm_refl | exact fw_sm_put0 | refine fw_sm_arr ?_ rfl | refine fw_sm_up ?_ rfl | refine fw_sm_put ?_ rfl | refine fw_sm_cp ?_ rfl)) ?_; (first
          | (refine ⟨ht, ?_⟩; omega)
          | (rename_i f1 hg2
             refine ⟨tw_grow2 (k := fun z_ => fw_g f1 366 z_) ht hN (by omega) (by omega) (by show 0 ≤ fw_g f1 366 (2 + 3 * fw_g W 366 0); omega) (by show fw_g f1 366 (2 + 3 * fw_g W 366 0) < fw_g W 366 0; omega) (by show 1 ≤ fw_g f1 366 (3 + 3 * fw_g W 366 0); omega) (by show fw_g f1 366 (3 + 3 * fw_g W 366 0) ≤ 99; omega) hg2.1 hg2.2.2.2, ?_⟩
             rw [fg_in rfl]; omega)
          | (refine ⟨tw_ppl (x := fw_g (fw_up W 366 1 ((137 * fw_g W 366 1 + 71) % 1000)) 366 1 % fw_g W 366 0) ht hm1 (fun z z1 z2 z3 => ?_), ?_⟩
             · show fw_g _ _ _ = fw_g _ _ _
               rw [fg_if (by omega) (by omega) (by omega) (by omega), if_neg (by omega)]
             · rw [fg_if (by omega) (by omega) (by omega) (by omega), if_neg (by omega), hN]; omega)
          | (refine ⟨hi.2.2.2.1, ?_⟩; show 1 ≤ fw_g f 366 0; omega)
          | (refine ⟨tw_ppl (g := fun z_ => fw_g f 366 z_) (x := burns) hi.2.2.2.1 (by omega) (fun z z1 z2 z3 => ?_), ?_⟩
             · show fw_g _ _ _ = fw_g _ _ _
               rw [fg_if (by omega) (by omega) (by omega) (by omega), if_neg (by omega)]; rfl
             · rw [fg_if (by omega) (by omega) (by omega) (by omega), if_neg (by omega)]; show 1 ≤ fw_g f 366 0; omega)))
      | (exact ht)
      | omega
      | (intro _))
  · exact hx.elim

def fr_242 : fw_P := [(0, 1, 1, 0, 0), (1, 0, 0, 0, 0), (2, 0, 0, 0, 50), (4, 65, 214, 3, 300), (7, 20, 17, 0, 0), (10, 2, 0, 0, 0), (11, 64, 188, 0, 112), (14, 21, 19, 0, 0), (17, 0, 0, 0, -1), (18, 70, 0, 0, 0), (19, 2, 0, 0, 0), (20, 64, 237, 0, 212), (23, 0, 0, 0, 0), (24, 3, 2, 0, 0), (25, 1, 2, 0, 0), (26, 1, 1, 0, 0), (27, 13, 40, 0, 0), (30, 2, 0, 0, 0), (31, 64, 243, 0, 512), (34, 5, 2, 0, 1), (37, 6, 25, 0, 0), (40, 2, 0, 0, 0), (41, 64, 188, 0, 112), (44, 70, 0, 0, 0)]
theorem fr_242_ok : fw_mk 242 3 12 (some .int) fr_242 = true := by decide +kernel
def ct_years : List (Nat × fw_X) := [(214, x_isIn), (237, x_keepAct), (188, x_many), (243, x_year)]
theorem ct_years_ok (d : Nat) : fw_cok fw_T (d + 4) ct_years := by
  intro q hq as W Q h
  simp only [ct_years, List.mem_cons, List.not_mem_nil, or_false] at hq
  rcases hq with rfl | rfl | rfl | rfl
  · exact jc_of (x_isIn_ok (d + 3) as W Q h)
  · exact jc_of (x_keepAct_ok (d + 3) as W Q h)
  · exact jc_of (x_many_ok (d + 3) as W Q h)
  · exact jc_of (x_year_ok (d + 0) as W Q h)
theorem s_years_0 {Post : Option fw_V → fw_W → Prop} {d : Nat} {W : fw_W} {n : Int}
    (hw_ : (True) ∧ (∀ (r1 : Int), ((0 ≤ r1 ∧ r1 ≤ 1 ∧ ((r1 = 1 ∧ (0 : Int) ≤ n ∧ n ≤ (50 : Int)) ∨ (r1 = 0 ∧ (n < (0 : Int) ∨ (50 : Int) < n))))) → ((r1 = 0 → (-2147483648 ≤ (-1 : Int) → (-1 : Int) ≤ 2147483647 → Post (some (.inl (-1 : Int))) W)) ∧ (¬ r1 = 0 → (True) ∧ (((¬ (fw_g W 366 0) = 0 → (mt W ∧ 0 ≤ (fw_g W 366 0) ∧ (fw_g W 366 0) ≤ 14 ∧ (∀ s, 0 ≤ s → s ≤ 40 → tw (fun z_ => (fw_g W 369 (44 * s + z_)))) ∧ 0 ≤ (fw_g W 352 29) ∧ (fw_g W 352 29) ≤ 40) ∧ (∀ (f2 : fw_W), (((∀ s, 0 ≤ s → s ≤ 40 → tw (fun z_ => (fw_g f2 369 (44 * s + z_)))) ∧ 0 ≤ (fw_g f2 352 29) ∧ (fw_g f2 352 29) ≤ 40 ∧ (fw_g f2 352 30) = 0)) → jf fw_T (d + 5) 242 25 [(0, .inr (.inl 352)), (1, .inl n), (2, .inl (0 : Int))] [] (fw_put [369] 352 [29, 30] W f2) Post)) ∧ ((fw_g W 366 0) = 0 → (-2147483648 ≤ (-1 : Int) → (-1 : Int) ≤ 2147483647 → Post (some (.inl (-1 : Int))) W)))))))) :
    jf fw_T (d + 5) 242 0 [(0, .inr (.inl 352)), (1, .inl n)] [] W Post := fw_ok (n := 13) (ss := [(25, [0, 1, 2])]) (hv := []) fr_242_ok fm_ok (ct_years_ok d) hw_

theorem s_years_25 {Post : Option fw_V → fw_W → Prop} {d : Nat} {W : fw_W} {n k : Int} {f : fw_W}
    (hw_ : ((n ≤ k → (True) ∧ ((-2147483648 ≤ (fw_g f 366 0) → (fw_g f 366 0) ≤ 2147483647 → Post (some (.inl (fw_g f 366 0))) (fw_put [369, 366] 352 [29, 30] W f)))) ∧ (k < n → (mt (fw_put [369, 366] 352 [29, 30] W f) ∧ 0 ≤ (fw_g f 366 0) ∧ (fw_g f 366 0) ≤ 14 ∧ 1 ≤ (fw_g f 366 0)) ∧ (∀ (f1 : fw_W), ((tw (fun z_ => (fw_g f1 366 z_)) ∧ 1 ≤ (fw_g f1 366 0))) → -2147483648 ≤ k + (1 : Int) ∧ k + (1 : Int) ≤ 2147483647 ∧ (jf fw_T (d + 5) 242 25 [(0, .inr (.inl 352)), (1, .inl n), (2, .inl (k + (1 : Int)))] [] (fw_put [366] 352 [] (fw_put [369, 366] 352 [29, 30] W f) f1) Post))))) :
    jf fw_T (d + 5) 242 25 [(0, .inr (.inl 352)), (1, .inl n), (2, .inl k)] [] (fw_put [369, 366] 352 [29, 30] W f) Post := fw_ok (n := 8) (ss := [(25, [0, 1, 2])]) (hv := []) fr_242_ok fm_ok (ct_years_ok d) hw_

theorem lm_years_25 {Post : Option fw_V → fw_W → Prop} {d : Nat} {W : fw_W} {n : Int} (hpre : mt W ∧ 0 ≤ (fw_g W 366 0) ∧ (fw_g W 366 0) ≤ 14 ∧ mi W ∧ 0 ≤ (fw_g W 352 29) ∧ 0 ≤ (fw_g W 352 30) ∧ (fw_g W 352 29) + (fw_g W 352 30) ≤ 40) (hP : ∀ (v : Int) (W2 : fw_W), fw_sm [369, 366] 352 [29, 30] W W2 → (-2147483648 ≤ v ∧ v ≤ 2147483647 ∧ (mi W2)) → Post (some (.inl v)) W2)  : ∀ (m : Nat) (k : Int) (f : fw_W), (n - k).toNat = m → (0 ≤ k ∧ tw (fun z_ => (fw_g f 366 z_)) ∧ 1 ≤ (fw_g f 366 0) ∧ (fw_g f 366 0) ≤ 14 ∧ (∀ s, 0 ≤ s → s ≤ 40 → tw (fun z_ => (fw_g f 369 (44 * s + z_)))) ∧ 0 ≤ (fw_g f 352 29) ∧ 0 ≤ (fw_g f 352 30) ∧ (fw_g f 352 29) + (fw_g f 352 30) ≤ 40) → jf fw_T (d + 5) 242 25 [(0, .inr (.inl 352)), (1, .inl n), (2, .inl k)] [] (fw_put [369, 366] 352 [29, 30] W f) Post := by
  intro m
  induction m using Nat.strongRecOn with
  | ind m ih =>
    intro k f hm hi
    refine jf_rng (fun hrg => ?_)
    have hrg : -2147483648 ≤ n ∧ n ≤ 2147483647 ∧ -2147483648 ≤ k ∧ k ≤ 2147483647 ∧ True := hrg
    refine s_years_25 ?_
    repeat' (first
      | (exact hi.2.1)
      | (exact True.intro)
      | (exact hpre.1)
      | (refine And.intro ?_ ?_)
      | (refine (ih _ (by omega) _ _ rfl ?_); (
        rename_i f1 hk
        have hu := hk.1.2.1
        refine ⟨by omega, hk.1, ?_, ?_, hi.2.2.2.2.1, hi.2.2.2.2.2.1, hi.2.2.2.2.2.2.1, hi.2.2.2.2.2.2.2⟩
        · show 1 ≤ fw_g f1 366 0; omega
        · exact hu))
      | (refine jf_put (S := [369, 366]) (o := 352) (F := [29, 30]) (W := W) (by repeat (first | exact fw_sm_refl | exact fw_sm_put0 | refine fw_sm_arr ?_ rfl | refine fw_sm_up ?_ rfl | refine fw_sm_put ?_ rfl | refine fw_sm_cp ?_ rfl)) (ih _ (by omega) _ _ rfl ?_); (
        rename_i f1 hk
        have hu := hk.1.2.1
        refine ⟨by omega, hk.1, ?_, ?_, hi.2.2.2.2.1, hi.2.2.2.2.2.1, hi.2.2.2.2.2.2.1, hi.2.2.2.2.2.2.2⟩
        · show 1 ≤ fw_g f1 366 0; omega
        · exact hu))
      | (refine hP _ _ (by repeat (first | exact fw_sm_refl | exact fw_sm_put0 | refine fw_sm_arr ?_ rfl | refine fw_sm_up ?_ rfl | refine fw_sm_put ?_ rfl | refine fw_sm_cp ?_ rfl)) ?_; (refine ⟨by omega, by omega, ?_⟩; (first
          | (exact hpre.2.2.2.1)
          | exact ⟨hi.2.1, hi.2.2.2.2.1, hpre.2.2.2.1.2.2.1, hi.2.2.2.2.2.1, hi.2.2.2.2.2.2.1, hi.2.2.2.2.2.2.2⟩)))
      | omega
      | (intro _))
def x_years : fw_X := fun as W Q => match as with
  | [.inr (.inl s_), .inl n] => fw_if (Nat.beq s_ 352) ((mt W ∧ 0 ≤ (fw_g W 366 0) ∧ (fw_g W 366 0) ≤ 14 ∧ mi W ∧ 0 ≤ (fw_g W 352 29) ∧ 0 ≤ (fw_g W 352 30) ∧ (fw_g W 352 29) + (fw_g W 352 30) ≤ 40) ∧ (∀ (v : Int) (f : fw_W), (-2147483648 ≤ v ∧ v ≤ 2147483647 ∧ (mi (fw_put [369, 366] 352 [29, 30] W f))) → Q (some (.inl v)) (fw_put [369, 366] 352 [29, 30] W f)))
  | _ => False
theorem x_years_ok (d : Nat) (as : List fw_V) (W : fw_W) (Q : Option fw_V → fw_W → Prop) (hx : x_years as W Q) : jf fw_T (d + 5) 242 0 (fw_args 0 as) [] W Q := by
  unfold x_years at hx
  split at hx
  · rename_i s_ n
    obtain ⟨e_, hpre, hQ⟩ := fw_if_ok hx
    have e_ := Nat.eq_of_beq_eq_true e_
    subst e_
    have hP : ∀ (v : Int) (W2 : fw_W), fw_sm [369, 366] 352 [29, 30] W W2 → (-2147483648 ≤ v ∧ v ≤ 2147483647 ∧ (mi W2)) → Q (some (.inl v)) W2 := fun v W2 hs hr => fw_sm_use (Q := fun Z => Q (some (.inl v)) Z) hs (hQ v W2 (by rw [fw_sm_eq hs]; exact hr))
    refine s_years_0 ?_
    repeat' (first
      | (exact True.intro)
      | (exact hpre.1)
      | (refine And.intro ?_ ?_)
      | (refine jf_put (S := [369, 366]) (o := 352) (F := [29, 30]) (W := W) (by repeat (first | exact fw_sm_refl | exact fw_sm_put0 | refine fw_sm_arr ?_ rfl | refine fw_sm_up ?_ rfl | refine fw_sm_put ?_ rfl | refine fw_sm_cp ?_ rfl)) (lm_years_25 (n := n) hpre hP _ _ _ rfl ?_); (
        rename_i f1 hk
        refine ⟨by omega, hpre.1, ?_, ?_, hk.1, hk.2.1, ?_, ?_⟩
        · show 1 ≤ fw_g W 366 0; omega
        · show fw_g W 366 0 ≤ 14; omega
        · show 0 ≤ fw_g f1 352 30; omega
        · show fw_g f1 352 29 + fw_g f1 352 30 ≤ 40; omega))
      | (refine hP _ _ (by repeat (first | exact fw_sm_refl | exact fw_sm_put0 | refine fw_sm_arr ?_ rfl | refine fw_sm_up ?_ rfl | refine fw_sm_put ?_ rfl | refine fw_sm_cp ?_ rfl)) ?_; (refine ⟨by omega, by omega, ?_⟩; (first
          | (exact hpre.2.2.2.1)
          | exact ⟨hi.2.1, hi.2.2.2.2.1, hpre.2.2.2.1.2.2.1, hi.2.2.2.2.2.1, hi.2.2.2.2.2.2.1, hi.2.2.2.2.2.2.2⟩)))
      | (exact hpre.2.2.2.1.2.1)
      | omega
      | (intro _))
  · exact hx.elim

def fr_312 : fw_P := [(0, 1, 1, 0, 0), (1, 0, 0, 0, 0), (2, 0, 0, 0, 2), (3, 65, 214, 3, 300), (6, 21, 11, 0, 0), (9, 0, 0, 0, -1), (10, 70, 0, 0, 0), (11, 0, 0, 0, 0), (12, 3, 2, 0, 0), (13, 1, 2, 0, 0), (14, 0, 0, 0, 44), (16, 13, 42, 0, 0), (19, 2, 0, 0, 0), (20, 50, 12, 67, 0), (23, 0, 0, 0, 44), (25, 1, 1, 0, 0), (26, 32, 0, 0, 0), (27, 1, 2, 0, 0), (28, 30, 0, 0, 0), (29, 2, 0, 0, 0), (30, 50, 12, 24, 0), (33, 1, 2, 0, 0), (34, 52, 0, 0, 0), (35, 53, 0, 0, 0), (36, 5, 2, 0, 1), (39, 6, 13, 0, 0), (42, 2, 0, 0, 0), (43, 50, 12, 68, 0), (46, 1, 1, 0, 0), (47, 0, 0, 0, 1), (48, 55, 0, 0, 0), (49, 2, 0, 0, 0), (50, 64, 188, 0, 112), (53, 70, 0, 0, 0)]
theorem fr_312_ok : fw_mk 312 3 12 (some .int) fr_312 = true := by decide +kernel
def ct_image : List (Nat × fw_X) := [(214, x_isIn), (188, x_many)]
theorem ct_image_ok (d : Nat) : fw_cok fw_T (d + 1) ct_image := by
  intro q hq as W Q h
  simp only [ct_image, List.mem_cons, List.not_mem_nil, or_false] at hq
  rcases hq with rfl | rfl
  · exact jc_of (x_isIn_ok (d + 0) as W Q h)
  · exact jc_of (x_many_ok (d + 0) as W Q h)
theorem s_image_0 {Post : Option fw_V → fw_W → Prop} {d : Nat} {W : fw_W} {box : Int}
    (hw_ : (True) ∧ (∀ (r1 : Int), ((0 ≤ r1 ∧ r1 ≤ 1 ∧ ((r1 = 1 ∧ (0 : Int) ≤ box ∧ box ≤ (2 : Int)) ∨ (r1 = 0 ∧ (box < (0 : Int) ∨ (2 : Int) < box))))) → ((¬ r1 = 0 → jf fw_T (d + 2) 312 13 [(0, .inr (.inl 352)), (1, .inl box), (2, .inl (0 : Int))] [] W Post) ∧ (r1 = 0 → (-2147483648 ≤ (-1 : Int) → (-1 : Int) ≤ 2147483647 → Post (some (.inl (-1 : Int))) W))))) :
    jf fw_T (d + 2) 312 0 [(0, .inr (.inl 352)), (1, .inl box)] [] W Post := fw_ok (n := 8) (ss := [(13, [0, 1, 2])]) (hv := []) fr_312_ok fm_ok (ct_image_ok d) hw_

theorem s_image_13 {Post : Option fw_V → fw_W → Prop} {d : Nat} {W : fw_W} {box k : Int} {f : fw_W}
    (hw_ : (((44 : Int) ≤ k → 0 ≤ box ∧ box < 3 ∧ 0 ≤ (1 : Int) ∧ (1 : Int) ≤ 1 ∧ 0 ≤ (1 : Int) ∧ (1 : Int) ≤ 1 ∧ ((True) ∧ ((-2147483648 ≤ (fw_g W 366 0) → (fw_g W 366 0) ≤ 2147483647 → Post (some (.inl (fw_g W 366 0))) (fw_up (fw_put [397, 398] 352 [] W f) 398 box (1 : Int)))))) ∧ (k < (44 : Int) → -2147483648 ≤ (44 : Int) * box ∧ (44 : Int) * box ≤ 2147483647 ∧ (-2147483648 ≤ ((44 : Int) * box) + k ∧ ((44 : Int) * box) + k ≤ 2147483647 ∧ (0 ≤ k ∧ k < 44 ∧ (-2147483648 ≤ (fw_g W 366 k) → (fw_g W 366 k) ≤ 2147483647 → 0 ≤ (((44 : Int) * box) + k) ∧ (((44 : Int) * box) + k) < 132 ∧ -2147483648 ≤ (fw_g W 366 k) ∧ (fw_g W 366 k) ≤ 2147483647 ∧ (-2147483648 ≤ k + (1 : Int) ∧ k + (1 : Int) ≤ 2147483647 ∧ (jf fw_T (d + 2) 312 13 [(0, .inr (.inl 352)), (1, .inl box), (2, .inl (k + (1 : Int)))] [] (fw_up (fw_put [397, 398] 352 [] W f) 397 (((44 : Int) * box) + k) (fw_g W 366 k)) Post)))))))) :
    jf fw_T (d + 2) 312 13 [(0, .inr (.inl 352)), (1, .inl box), (2, .inl k)] [] (fw_put [397, 398] 352 [] W f) Post := fw_ok (n := 18) (ss := [(13, [0, 1, 2])]) (hv := []) fr_312_ok fm_ok (ct_image_ok d) hw_

theorem lm_image_13 {Post : Option fw_V → fw_W → Prop} {d : Nat} {W : fw_W} {box : Int} (hpre : mt W ∧ 0 ≤ (fw_g W 366 0) ∧ (fw_g W 366 0) ≤ 14 ∧ mi W ∧ 0 ≤ (fw_g W 352 29) ∧ 0 ≤ (fw_g W 352 30) ∧ (fw_g W 352 29) + (fw_g W 352 30) ≤ 40) (hP : ∀ (v : Int) (W2 : fw_W), fw_sm [397, 398] 352 [] W W2 → (-2147483648 ≤ v ∧ v ≤ 2147483647 ∧ (mi W2)) → Post (some (.inl v)) W2)  : ∀ (m : Nat) (k : Int) (f : fw_W), (44 - k).toNat = m → (0 ≤ k ∧ (k ≤ 44 ∧ 0 ≤ box ∧ box ≤ 2) ∧ (∀ i, 0 ≤ i → i < k → (fw_g f 397 (44 * box + i)) = fw_g W 366 i) ∧ (∀ j, 0 ≤ j → (j < 44 * box ∨ 44 * box + 44 ≤ j) → (fw_g f 397 j) = fw_g W 397 j)) → jf fw_T (d + 2) 312 13 [(0, .inr (.inl 352)), (1, .inl box), (2, .inl k)] [] (fw_put [397, 398] 352 [] W f) Post := by
  intro m
  induction m using Nat.strongRecOn with
  | ind m ih =>
    intro k f hm hi
    refine jf_rng (fun hrg => ?_)
    have hrg : -2147483648 ≤ box ∧ box ≤ 2147483647 ∧ -2147483648 ≤ k ∧ k ≤ 2147483647 ∧ True := hrg
    refine s_image_13 ?_
    have hk : 0 ≤ k ∧ (k ≤ 44 ∧ 0 ≤ box ∧ box ≤ 2) := ⟨hi.1, hi.2.1⟩
    repeat' (first
      | (exact True.intro)
      | (exact hpre.1)
      | (refine And.intro ?_ ?_)
      | (refine jf_put (S := [397, 398]) (o := 352) (F := []) (W := W) (by repeat (first | exact fw_sm_refl | exact fw_sm_put0 | refine fw_sm_arr ?_ rfl | refine fw_sm_up ?_ rfl | refine fw_sm_put ?_ rfl | refine fw_sm_cp ?_ rfl)) (ih _ (by omega) _ _ rfl ?_); (
        obtain ⟨i1, i2, i3, i4⟩ := hi
        refine ⟨by omega, by omega, fun i j1 j2 => ?_, fun j j1 j2 => ?_⟩
        · rw [fg_if (by omega) (by omega) (by omega) (by omega)]
          by_cases e : k = i
          · rw [if_pos (by omega), e]
          · rw [if_neg (by omega)]; exact i3 i j1 (by omega)
        · rw [fg_if (by omega) (by omega) (by omega) (by omega), if_neg (by omega)]; exact i4 j j1 j2))
      | (refine hP _ _ (by repeat (first | exact fw_sm_refl | exact fw_sm_put0 | refine fw_sm_arr ?_ rfl | refine fw_sm_up ?_ rfl | refine fw_sm_put ?_ rfl | refine fw_sm_cp ?_ rfl)) ?_; (refine ⟨by omega, by omega, ?_⟩; (first
          | (exact hpre.2.2.2.1)
          | (obtain ⟨i1, i2, i3, i4⟩ := hi
             refine ⟨hpre.1, hpre.2.2.2.1.2.1, fun s s1 s2 => ?_, hpre.2.2.2.2.1, hpre.2.2.2.2.2.1, hpre.2.2.2.2.2.2⟩
             by_cases e : s = box
             · refine tw_c (g := fun z_ => fw_g W 366 z_) hpre.1 (fun z z1 z2 => ?_)
               show fw_g _ _ _ = fw_g _ _ _
               rw [fg_up rfl, fg_in rfl, e]
               exact i3 z z1 (by omega)
             · refine tw_c (hpre.2.2.2.1.2.2.1 s s1 s2) (fun z z1 z2 => ?_)
               show fw_g _ _ _ = fw_g _ _ _
               rw [fg_up rfl, fg_in rfl]
               exact i4 _ (by omega) (by omega)))))
      | omega
      | (intro _))
def x_image : fw_X := fun as W Q => match as with
  | [.inr (.inl s_), .inl box] => fw_if (Nat.beq s_ 352) ((mt W ∧ 0 ≤ (fw_g W 366 0) ∧ (fw_g W 366 0) ≤ 14 ∧ mi W ∧ 0 ≤ (fw_g W 352 29) ∧ 0 ≤ (fw_g W 352 30) ∧ (fw_g W 352 29) + (fw_g W 352 30) ≤ 40) ∧ (∀ (v : Int) (f : fw_W), (-2147483648 ≤ v ∧ v ≤ 2147483647 ∧ (mi (fw_put [397, 398] 352 [] W f))) → Q (some (.inl v)) (fw_put [397, 398] 352 [] W f)))
  | _ => False
theorem x_image_ok (d : Nat) (as : List fw_V) (W : fw_W) (Q : Option fw_V → fw_W → Prop) (hx : x_image as W Q) : jf fw_T (d + 2) 312 0 (fw_args 0 as) [] W Q := by
  unfold x_image at hx
  split at hx
  · rename_i s_ box
    obtain ⟨e_, hpre, hQ⟩ := fw_if_ok hx
    have e_ := Nat.eq_of_beq_eq_true e_
    subst e_
    have hP : ∀ (v : Int) (W2 : fw_W), fw_sm [397, 398] 352 [] W W2 → (-2147483648 ≤ v ∧ v ≤ 2147483647 ∧ (mi W2)) → Q (some (.inl v)) W2 := fun v W2 hs hr => fw_sm_use (Q := fun Z => Q (some (.inl v)) Z) hs (hQ v W2 (by rw [fw_sm_eq hs]; exact hr))
    refine s_image_0 ?_
    repeat' (first
      | (exact True.intro)
      | (exact hpre.1)
      | (refine And.intro ?_ ?_)
      | (refine jf_put (S := [397, 398]) (o := 352) (F := []) (W := W) (by repeat (first | exact fw_sm_refl | exact fw_sm_put0 | refine fw_sm_arr ?_ rfl | refine fw_sm_up ?_ rfl | refine fw_sm_put ?_ rfl | refine fw_sm_cp ?_ rfl)) (lm_image_13 (box := box) hpre hP _ _ _ rfl ?_); (exact ⟨by omega, by omega, fun i i1 i2 => by omega, fun j j1 j2 => rfl⟩))
      | (refine hP _ _ (by repeat (first | exact fw_sm_refl | exact fw_sm_put0 | refine fw_sm_arr ?_ rfl | refine fw_sm_up ?_ rfl | refine fw_sm_put ?_ rfl | refine fw_sm_cp ?_ rfl)) ?_; (refine ⟨by omega, by omega, ?_⟩; (first
          | (exact hpre.2.2.2.1)
          | (obtain ⟨i1, i2, i3, i4⟩ := hi
             refine ⟨hpre.1, hpre.2.2.2.1.2.1, fun s s1 s2 => ?_, hpre.2.2.2.2.1, hpre.2.2.2.2.2.1, hpre.2.2.2.2.2.2⟩
             by_cases e : s = box
             · refine tw_c (g := fun z_ => fw_g W 366 z_) hpre.1 (fun z z1 z2 => ?_)
               show fw_g _ _ _ = fw_g _ _ _
               rw [fg_up rfl, fg_in rfl, e]
               exact i3 z z1 (by omega)
             · refine tw_c (hpre.2.2.2.1.2.2.1 s s1 s2) (fun z z1 z2 => ?_)
               show fw_g _ _ _ = fw_g _ _ _
               rw [fg_up rfl, fg_in rfl]
               exact i4 _ (by omega) (by omega)))))
      | omega
      | (intro _))
  · exact hx.elim

def fr_313 : fw_P := [(0, 1, 1, 0, 0), (1, 0, 0, 0, 0), (2, 0, 0, 0, 2), (3, 65, 214, 3, 300), (6, 20, 18, 0, 0), (9, 2, 0, 0, 0), (10, 50, 12, 68, 0), (13, 1, 1, 0, 0), (14, 54, 0, 0, 0), (15, 21, 20, 0, 0), (18, 0, 0, 0, -1), (19, 70, 0, 0, 0), (20, 0, 0, 0, 0), (21, 3, 2, 0, 0), (22, 1, 2, 0, 0), (23, 0, 0, 0, 44), (25, 13, 51, 0, 0), (28, 2, 0, 0, 0), (29, 50, 12, 24, 0), (32, 1, 2, 0, 0), (33, 2, 0, 0, 0), (34, 50, 12, 67, 0), (37, 0, 0, 0, 44), (39, 1, 1, 0, 0), (40, 32, 0, 0, 0), (41, 1, 2, 0, 0), (42, 30, 0, 0, 0), (43, 52, 0, 0, 0), (44, 53, 0, 0, 0), (45, 5, 2, 0, 1), (48, 6, 22, 0, 0), (51, 2, 0, 0, 0), (52, 0, 0, 0, 0), (53, 51, 12, 29, 0), (56, 2, 0, 0, 0), (57, 0, 0, 0, 0), (58, 51, 12, 30, 0), (61, 2, 0, 0, 0), (62, 64, 188, 0, 112), (65, 70, 0, 0, 0)]
theorem fr_313_ok : fw_mk 313 3 12 (some .int) fr_313 = true := by decide +kernel
def ct_back : List (Nat × fw_X) := [(214, x_isIn), (188, x_many)]
theorem ct_back_ok (d : Nat) : fw_cok fw_T (d + 1) ct_back := by
  intro q hq as W Q h
  simp only [ct_back, List.mem_cons, List.not_mem_nil, or_false] at hq
  rcases hq with rfl | rfl
  · exact jc_of (x_isIn_ok (d + 0) as W Q h)
  · exact jc_of (x_many_ok (d + 0) as W Q h)
theorem s_back_0 {Post : Option fw_V → fw_W → Prop} {d : Nat} {W : fw_W} {box : Int}
    (hw_ : (True) ∧ (∀ (r1 : Int), ((0 ≤ r1 ∧ r1 ≤ 1 ∧ ((r1 = 1 ∧ (0 : Int) ≤ box ∧ box ≤ (2 : Int)) ∨ (r1 = 0 ∧ (box < (0 : Int) ∨ (2 : Int) < box))))) → ((r1 = 0 → (-2147483648 ≤ (-1 : Int) → (-1 : Int) ≤ 2147483647 → Post (some (.inl (-1 : Int))) W)) ∧ (¬ r1 = 0 → 0 ≤ box ∧ box < 3 ∧ (0 ≤ (fw_g W 398 box) → (fw_g W 398 box) ≤ 1 → ((¬ (fw_g W 398 box) = 0 → jf fw_T (d + 2) 313 22 [(0, .inr (.inl 352)), (1, .inl box), (2, .inl (0 : Int))] [] W Post) ∧ ((fw_g W 398 box) = 0 → (-2147483648 ≤ (-1 : Int) → (-1 : Int) ≤ 2147483647 → Post (some (.inl (-1 : Int))) W)))))))) :
    jf fw_T (d + 2) 313 0 [(0, .inr (.inl 352)), (1, .inl box)] [] W Post := fw_ok (n := 13) (ss := [(22, [0, 1, 2])]) (hv := []) fr_313_ok fm_ok (ct_back_ok d) hw_

theorem s_back_22 {Post : Option fw_V → fw_W → Prop} {d : Nat} {W : fw_W} {box k : Int} {f : fw_W}
    (hw_ : (((44 : Int) ≤ k → 0 ≤ (0 : Int) ∧ (0 : Int) ≤ 40 ∧ (0 ≤ (0 : Int) ∧ (0 : Int) ≤ 40 ∧ ((True) ∧ ((-2147483648 ≤ (fw_g f 366 0) → (fw_g f 366 0) ≤ 2147483647 → Post (some (.inl (fw_g f 366 0))) (fw_up (fw_up (fw_put [366] 352 [29, 30] W f) 352 29 (0 : Int)) 352 30 (0 : Int))))))) ∧ (k < (44 : Int) → -2147483648 ≤ (44 : Int) * box ∧ (44 : Int) * box ≤ 2147483647 ∧ (-2147483648 ≤ ((44 : Int) * box) + k ∧ ((44 : Int) * box) + k ≤ 2147483647 ∧ (0 ≤ (((44 : Int) * box) + k) ∧ (((44 : Int) * box) + k) < 132 ∧ (-2147483648 ≤ (fw_g W 397 (((44 : Int) * box) + k)) → (fw_g W 397 (((44 : Int) * box) + k)) ≤ 2147483647 → 0 ≤ k ∧ k < 44 ∧ -2147483648 ≤ (fw_g W 397 (((44 : Int) * box) + k)) ∧ (fw_g W 397 (((44 : Int) * box) + k)) ≤ 2147483647 ∧ (-2147483648 ≤ k + (1 : Int) ∧ k + (1 : Int) ≤ 2147483647 ∧ (jf fw_T (d + 2) 313 22 [(0, .inr (.inl 352)), (1, .inl box), (2, .inl (k + (1 : Int)))] [] (fw_up (fw_put [366] 352 [29, 30] W f) 366 k (fw_g W 397 (((44 : Int) * box) + k))) Post)))))))) :
    jf fw_T (d + 2) 313 22 [(0, .inr (.inl 352)), (1, .inl box), (2, .inl k)] [] (fw_put [366] 352 [29, 30] W f) Post := fw_ok (n := 18) (ss := [(22, [0, 1, 2])]) (hv := []) fr_313_ok fm_ok (ct_back_ok d) hw_

theorem lm_back_22 {Post : Option fw_V → fw_W → Prop} {d : Nat} {W : fw_W} {box : Int} (hpre : mt W ∧ 0 ≤ (fw_g W 366 0) ∧ (fw_g W 366 0) ≤ 14 ∧ mi W ∧ 0 ≤ (fw_g W 352 29) ∧ 0 ≤ (fw_g W 352 30) ∧ (fw_g W 352 29) + (fw_g W 352 30) ≤ 40) (hP : ∀ (v : Int) (W2 : fw_W), fw_sm [366] 352 [29, 30] W W2 → (-2147483648 ≤ v ∧ v ≤ 2147483647 ∧ (mi W2)) → Post (some (.inl v)) W2)  : ∀ (m : Nat) (k : Int) (f : fw_W), (44 - k).toNat = m → (0 ≤ k ∧ (k ≤ 44 ∧ 0 ≤ box ∧ box ≤ 2) ∧ (∀ i, 0 ≤ i → i < k → (fw_g f 366 i) = fw_g W 397 (44 * box + i))) → jf fw_T (d + 2) 313 22 [(0, .inr (.inl 352)), (1, .inl box), (2, .inl k)] [] (fw_put [366] 352 [29, 30] W f) Post := by
  intro m
  induction m using Nat.strongRecOn with
  | ind m ih =>
    intro k f hm hi
    refine jf_rng (fun hrg => ?_)
    have hrg : -2147483648 ≤ box ∧ box ≤ 2147483647 ∧ -2147483648 ≤ k ∧ k ≤ 2147483647 ∧ True := hrg
    refine s_back_22 ?_
    have hk : 0 ≤ k ∧ (k ≤ 44 ∧ 0 ≤ box ∧ box ≤ 2) := ⟨hi.1, hi.2.1⟩
    repeat' (first
      | (exact True.intro)
      | (exact hpre.1)
      | (refine And.intro ?_ ?_)
      | (refine jf_put (S := [366]) (o := 352) (F := [29, 30]) (W := W) (by repeat (first | exact fw_sm_refl | exact fw_sm_put0 | refine fw_sm_arr ?_ rfl | refine fw_sm_up ?_ rfl | refine fw_sm_put ?_ rfl | refine fw_sm_cp ?_ rfl)) (ih _ (by omega) _ _ rfl ?_); (
        obtain ⟨i1, i2, i3⟩ := hi
        refine ⟨by omega, by omega, fun i j1 j2 => ?_⟩
        rw [fg_if (by omega) (by omega) (by omega) (by omega)]
        by_cases e : k = i
        · rw [if_pos (by omega), e]
        · rw [if_neg (by omega)]; exact i3 i j1 (by omega)))
      | (refine hP _ _ (by repeat (first | exact fw_sm_refl | exact fw_sm_put0 | refine fw_sm_arr ?_ rfl | refine fw_sm_up ?_ rfl | refine fw_sm_put ?_ rfl | refine fw_sm_cp ?_ rfl)) ?_; (refine ⟨by omega, by omega, ?_⟩; (first
          | (exact hpre.2.2.2.1)
          | (obtain ⟨i1, i2, i3⟩ := hi
             refine ⟨tw_c (hpre.2.2.2.1.2.2.1 box (by omega) (by omega)) (fun z z1 z2 => ?_), hpre.2.2.2.1.2.1, hpre.2.2.2.1.2.2.1, ?_, ?_, ?_⟩
             · show fw_g _ _ _ = fw_g _ _ _
               rw [fg_up rfl, fg_up rfl, fg_in rfl]
               exact i3 z z1 (by omega)
             · rw [fg_lit rfl, fg_same (by omega) (by omega)]; omega
             · rw [fg_same (by omega) (by omega)]; omega
             · rw [fg_lit rfl, fg_same (by omega) (by omega), fg_same (by omega) (by omega)]; omega))))
      | omega
      | (intro _))
def x_back : fw_X := fun as W Q => match as with
  | [.inr (.inl s_), .inl box] => fw_if (Nat.beq s_ 352) ((mt W ∧ 0 ≤ (fw_g W 366 0) ∧ (fw_g W 366 0) ≤ 14 ∧ mi W ∧ 0 ≤ (fw_g W 352 29) ∧ 0 ≤ (fw_g W 352 30) ∧ (fw_g W 352 29) + (fw_g W 352 30) ≤ 40) ∧ (∀ (v : Int) (f : fw_W), (-2147483648 ≤ v ∧ v ≤ 2147483647 ∧ (mi (fw_put [366] 352 [29, 30] W f))) → Q (some (.inl v)) (fw_put [366] 352 [29, 30] W f)))
  | _ => False
theorem x_back_ok (d : Nat) (as : List fw_V) (W : fw_W) (Q : Option fw_V → fw_W → Prop) (hx : x_back as W Q) : jf fw_T (d + 2) 313 0 (fw_args 0 as) [] W Q := by
  unfold x_back at hx
  split at hx
  · rename_i s_ box
    obtain ⟨e_, hpre, hQ⟩ := fw_if_ok hx
    have e_ := Nat.eq_of_beq_eq_true e_
    subst e_
    have hP : ∀ (v : Int) (W2 : fw_W), fw_sm [366] 352 [29, 30] W W2 → (-2147483648 ≤ v ∧ v ≤ 2147483647 ∧ (mi W2)) → Q (some (.inl v)) W2 := fun v W2 hs hr => fw_sm_use (Q := fun Z => Q (some (.inl v)) Z) hs (hQ v W2 (by rw [fw_sm_eq hs]; exact hr))
    refine s_back_0 ?_
    repeat' (first
      | (exact True.intro)
      | (exact hpre.1)
      | (refine And.intro ?_ ?_)
      | (refine jf_put (S := [366]) (o := 352) (F := [29, 30]) (W := W) (by repeat (first | exact fw_sm_refl | exact fw_sm_put0 | refine fw_sm_arr ?_ rfl | refine fw_sm_up ?_ rfl | refine fw_sm_put ?_ rfl | refine fw_sm_cp ?_ rfl)) (lm_back_22 (box := box) hpre hP _ _ _ rfl ?_); (exact ⟨by omega, by omega, fun i i1 i2 => by omega⟩))
      | (refine hP _ _ (by repeat (first | exact fw_sm_refl | exact fw_sm_put0 | refine fw_sm_arr ?_ rfl | refine fw_sm_up ?_ rfl | refine fw_sm_put ?_ rfl | refine fw_sm_cp ?_ rfl)) ?_; (refine ⟨by omega, by omega, ?_⟩; (first
          | (exact hpre.2.2.2.1)
          | (obtain ⟨i1, i2, i3⟩ := hi
             refine ⟨tw_c (hpre.2.2.2.1.2.2.1 box (by omega) (by omega)) (fun z z1 z2 => ?_), hpre.2.2.2.1.2.1, hpre.2.2.2.1.2.2.1, ?_, ?_, ?_⟩
             · show fw_g _ _ _ = fw_g _ _ _
               rw [fg_up rfl, fg_up rfl, fg_in rfl]
               exact i3 z z1 (by omega)
             · rw [fg_lit rfl, fg_same (by omega) (by omega)]; omega
             · rw [fg_same (by omega) (by omega)]; omega
             · rw [fg_lit rfl, fg_same (by omega) (by omega), fg_same (by omega) (by omega)]; omega))))
      | omega
      | (intro _))
  · exact hx.elim

