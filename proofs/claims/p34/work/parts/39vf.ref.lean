/-! the reference, method by method -/
def fr_292 : fw_P := [(0, 1, 1, 0, 0), (1, 0, 0, 0, 0), (2, 0, 0, 0, 2), (3, 65, 214, 3, 300), (6, 20, 19, 0, 0), (9, 1, 2, 0, 0), (10, 0, 0, 0, 2), (11, 0, 0, 0, 6), (13, 65, 214, 3, 300), (16, 21, 21, 0, 0), (19, 0, 0, 0, -1), (20, 70, 0, 0, 0), (21, 0, 0, 0, 0), (22, 3, 3, 0, 0), (23, 1, 3, 0, 0), (24, 0, 0, 0, 44), (26, 13, 47, 0, 0), (29, 2, 0, 0, 0), (30, 50, 12, 53, 0), (33, 1, 3, 0, 0), (34, 2, 0, 0, 0), (35, 50, 12, 24, 0), (38, 1, 3, 0, 0), (39, 52, 0, 0, 0), (40, 53, 0, 0, 0), (41, 5, 3, 0, 1), (44, 6, 23, 0, 0), (47, 0, 0, 0, 1), (48, 3, 3, 0, 0), (49, 0, 0, 0, 0), (50, 3, 4, 0, 0), (52, 1, 4, 0, 0), (54, 1, 2, 0, 0), (55, 0, 0, 0, 2), (56, 31, 0, 0, 0), (57, 13, 70, 0, 0), (60, 1, 3, 0, 0), (61, 1, 2, 0, 0), (62, 32, 0, 0, 0), (63, 3, 3, 0, 0), (64, 5, 4, 0, 1), (67, 6, 52, 0, 0), (70, 0, 0, 0, 0), (71, 3, 4, 0, 0), (73, 0, 0, 0, 0), (74, 3, 5, 0, 0), (76, 1, 5, 0, 0), (78, 1, 3, 0, 0), (79, 13, 149, 0, 0), (82, 1, 5, 0, 0), (84, 3, 6, 0, 0), (86, 0, 0, 0, 0), (87, 3, 7, 0, 0), (89, 1, 7, 0, 0), (91, 1, 2, 0, 0), (92, 0, 0, 0, 2), (93, 31, 0, 0, 0), (94, 13, 120, 0, 0), (97, 2, 0, 0, 0), (98, 50, 12, 55, 0), (101, 1, 7, 0, 0), (103, 1, 6, 0, 0), (105, 1, 2, 0, 0), (106, 34, 0, 0, 0), (107, 53, 0, 0, 0), (108, 1, 6, 0, 0), (110, 1, 2, 0, 0), (111, 33, 0, 0, 0), (112, 3, 6, 0, 0), (114, 5, 7, 0, 1), (117, 6, 89, 0, 0), (120, 2, 0, 0, 0), (121, 1, 2, 0, 0), (122, 64, 289, 1, 412), (125, 1, 4, 0, 0), (127, 2, 0, 0, 0), (128, 1, 1, 0, 0), (129, 64, 293, 1, 212), (132, 20, 139, 0, 0), (135, 0, 0, 0, 0), (136, 6, 140, 0, 0), (139, 0, 0, 0, 1), (140, 30, 0, 0, 0), (141, 3, 4, 0, 0), (143, 5, 5, 0, 1), (146, 6, 76, 0, 0), (149, 0, 0, 0, 0), (150, 3, 5, 0, 0), (152, 1, 5, 0, 0), (154, 0, 0, 0, 44), (156, 13, 179, 0, 0), (159, 2, 0, 0, 0), (160, 50, 12, 24, 0), (163, 1, 5, 0, 0), (165, 2, 0, 0, 0), (166, 50, 12, 53, 0), (169, 1, 5, 0, 0), (171, 52, 0, 0, 0), (172, 53, 0, 0, 0), (173, 5, 5, 0, 1), (176, 6, 152, 0, 0), (179, 1, 4, 0, 0), (181, 70, 0, 0, 0)]
theorem fr_292_ok : fw_mk 292 8 12 (some .int) fr_292 = true := by decide +kernel
def ct_tried : List (Nat × fw_X) := [(289, x_growsFrom), (214, x_isIn), (293, x_isSo)]
theorem ct_tried_ok (d : Nat) : fw_cok fw_T (d + 7) ct_tried := by
  intro q hq as W Q h
  simp only [ct_tried, List.mem_cons, List.not_mem_nil, or_false] at hq
  rcases hq with rfl | rfl | rfl
  · exact jc_of (x_growsFrom_ok (d + 4) as W Q h)
  · exact jc_of (x_isIn_ok (d + 6) as W Q h)
  · exact jc_of (x_isSo_ok (d + 0) as W Q h)
theorem s_tried_0 {Post : Option fw_V → fw_W → Prop} {d : Nat} {W : fw_W} {law nn : Int}
    (hw_ : (True) ∧ (∀ (r1 : Int), ((0 ≤ r1 ∧ r1 ≤ 1 ∧ ((r1 = 1 ∧ (0 : Int) ≤ law ∧ law ≤ (2 : Int)) ∨ (r1 = 0 ∧ (law < (0 : Int) ∨ (2 : Int) < law))))) → ((r1 = 0 → (-2147483648 ≤ (-1 : Int) → (-1 : Int) ≤ 2147483647 → Post (some (.inl (-1 : Int))) W)) ∧ (¬ r1 = 0 → (True) ∧ (∀ (r2 : Int), ((0 ≤ r2 ∧ r2 ≤ 1 ∧ ((r2 = 1 ∧ (2 : Int) ≤ nn ∧ nn ≤ (6 : Int)) ∨ (r2 = 0 ∧ (nn < (2 : Int) ∨ (6 : Int) < nn))))) → ((¬ r2 = 0 → jf fw_T (d + 8) 292 23 [(0, .inr (.inl 352)), (1, .inl law), (2, .inl nn), (3, .inl (0 : Int))] [] W Post) ∧ (r2 = 0 → (-2147483648 ≤ (-1 : Int) → (-1 : Int) ≤ 2147483647 → Post (some (.inl (-1 : Int))) W)))))))) :
    jf fw_T (d + 8) 292 0 [(0, .inr (.inl 352)), (1, .inl law), (2, .inl nn)] [] W Post := fw_ok (n := 13) (ss := [(23, [0, 1, 2, 3]), (52, [0, 1, 2, 3, 4]), (76, [0, 1, 2, 3, 4, 5]), (89, [0, 1, 2, 3, 4, 5, 6, 7]), (152, [0, 4, 5])]) (hv := [62, 140]) fr_292_ok fm_ok (ct_tried_ok d) hw_

theorem s_tried_89 {Post : Option fw_V → fw_W → Prop} {d : Nat} {W : fw_W} {law nn rows not_ v_ rest i : Int} {f : fw_W}
    (hw_ : -2147483648 ≤ nn - (2 : Int) ∧ nn - (2 : Int) ≤ 2147483647 ∧ ((((nn - (2 : Int)) ≤ i → ((2 ≤ nn ∧ nn ≤ 14) ∧ (∀ i_, 0 ≤ i_ → i_ < nn - 2 → 0 ≤ (fw_g f 387 i_) ∧ (fw_g f 387 i_) < nn) ∧ 0 ≤ (fw_g f 366 1) ∧ (fw_g f 366 1) ≤ 999) ∧ (∀ (f1 : fw_W), ((mt (fw_put [389, 388, 366, 371] 352 [] (fw_put [385, 366, 387, 389, 388, 371, 367, 370] 352 [] W f) f1) ∧ (fw_g f1 366 0) = nn ∧ ∀ x_, 1 ≤ x_ → x_ < nn → (fw_g f1 366 (3 + 3 * x_)) = 1)) → (mt (fw_put [389, 388, 366, 371] 352 [] (fw_put [385, 366, 387, 389, 388, 371, 367, 370] 352 [] W f) f1) ∧ 0 ≤ (fw_g f1 366 0) ∧ (fw_g f1 366 0) ≤ 14 ∧ ∀ x_, 1 ≤ x_ → x_ < (fw_g f1 366 0) → (fw_g f1 366 (3 + 3 * x_)) = 1) ∧ (∀ (r2 : Int) (f3 : fw_W), ((0 ≤ r2 ∧ r2 ≤ 1 ∧ (True))) → ((r2 = 0 → ∀ v4 : Int, -2147483648 ≤ v4 → v4 ≤ 2147483647 → -2147483648 ≤ v_ + (1 : Int) ∧ v_ + (1 : Int) ≤ 2147483647 ∧ (jf fw_T (d + 8) 292 76 [(0, .inr (.inl 352)), (1, .inl law), (2, .inl nn), (3, .inl rows), (4, .inl v4), (5, .inl (v_ + (1 : Int)))] [] (fw_put [367, 370] 352 [] (fw_put [389, 388, 366, 371] 352 [] (fw_put [385, 366, 387, 389, 388, 371, 367, 370] 352 [] W f) f1) f3) Post)) ∧ (¬ r2 = 0 → ∀ v5 : Int, -2147483648 ≤ v5 → v5 ≤ 2147483647 → -2147483648 ≤ v_ + (1 : Int) ∧ v_ + (1 : Int) ≤ 2147483647 ∧ (jf fw_T (d + 8) 292 76 [(0, .inr (.inl 352)), (1, .inl law), (2, .inl nn), (3, .inl rows), (4, .inl v5), (5, .inl (v_ + (1 : Int)))] [] (fw_put [367, 370] 352 [] (fw_put [389, 388, 366, 371] 352 [] (fw_put [385, 366, 387, 389, 388, 371, 367, 370] 352 [] W f) f1) f3) Post)))))) ∧ (i < (nn - (2 : Int)) → 0 ≤ rest ∧ 0 < nn ∧ (0 ≤ i ∧ i < 14 ∧ 0 ≤ (rest % nn) ∧ (rest % nn) ≤ 15 ∧ (0 ≤ rest ∧ 0 < nn ∧ (-2147483648 ≤ i + (1 : Int) ∧ i + (1 : Int) ≤ 2147483647 ∧ (jf fw_T (d + 8) 292 89 [(0, .inr (.inl 352)), (1, .inl law), (2, .inl nn), (3, .inl rows), (4, .inl not_), (5, .inl v_), (6, .inl (rest / nn)), (7, .inl (i + (1 : Int)))] [] (fw_up (fw_put [385, 366, 387, 389, 388, 371, 367, 370] 352 [] W f) 387 i (rest % nn)) Post)))))))) :
    jf fw_T (d + 8) 292 89 [(0, .inr (.inl 352)), (1, .inl law), (2, .inl nn), (3, .inl rows), (4, .inl not_), (5, .inl v_), (6, .inl rest), (7, .inl i)] [] (fw_put [385, 366, 387, 389, 388, 371, 367, 370] 352 [] W f) Post := fw_ok (n := 20) (ss := [(23, [0, 1, 2, 3]), (52, [0, 1, 2, 3, 4]), (76, [0, 1, 2, 3, 4, 5]), (89, [0, 1, 2, 3, 4, 5, 6, 7]), (152, [0, 4, 5])]) (hv := [62, 140]) fr_292_ok fm_ok (ct_tried_ok d) hw_

theorem s_tried_152 {Post : Option fw_V → fw_W → Prop} {d : Nat} {W : fw_W} {not_ v_ : Int} {f : fw_W}
    (hw_ : (((44 : Int) ≤ v_ → (-2147483648 ≤ not_ → not_ ≤ 2147483647 → Post (some (.inl not_)) (fw_put [385, 366, 387, 389, 388, 371, 367, 370] 352 [] W f))) ∧ (v_ < (44 : Int) → 0 ≤ v_ ∧ v_ < 44 ∧ (-2147483648 ≤ (fw_g f 385 v_) → (fw_g f 385 v_) ≤ 2147483647 → 0 ≤ v_ ∧ v_ < 44 ∧ -2147483648 ≤ (fw_g f 385 v_) ∧ (fw_g f 385 v_) ≤ 2147483647 ∧ (-2147483648 ≤ v_ + (1 : Int) ∧ v_ + (1 : Int) ≤ 2147483647 ∧ (jf fw_T (d + 8) 292 152 [(0, .inr (.inl 352)), (4, .inl not_), (5, .inl (v_ + (1 : Int)))] [] (fw_up (fw_put [385, 366, 387, 389, 388, 371, 367, 370] 352 [] W f) 366 v_ (fw_g f 385 v_)) Post)))))) :
    jf fw_T (d + 8) 292 152 [(0, .inr (.inl 352)), (4, .inl not_), (5, .inl v_)] [] (fw_put [385, 366, 387, 389, 388, 371, 367, 370] 352 [] W f) Post := fw_ok (n := 14) (ss := [(23, [0, 1, 2, 3]), (52, [0, 1, 2, 3, 4]), (76, [0, 1, 2, 3, 4, 5]), (89, [0, 1, 2, 3, 4, 5, 6, 7]), (152, [0, 4, 5])]) (hv := [62, 140]) fr_292_ok fm_ok (ct_tried_ok d) hw_

theorem s_tried_76 {Post : Option fw_V → fw_W → Prop} {d : Nat} {W : fw_W} {law nn rows not_ v_ : Int} {f : fw_W}
    (hw_ : ((rows ≤ v_ → jf fw_T (d + 8) 292 152 [(0, .inr (.inl 352)), (4, .inl not_), (5, .inl (0 : Int))] [] (fw_put [385, 366, 387, 389, 388, 371, 367, 370] 352 [] W f) Post) ∧ (v_ < rows → jf fw_T (d + 8) 292 89 [(0, .inr (.inl 352)), (1, .inl law), (2, .inl nn), (3, .inl rows), (4, .inl not_), (5, .inl v_), (6, .inl v_), (7, .inl (0 : Int))] [] (fw_put [385, 366, 387, 389, 388, 371, 367, 370] 352 [] W f) Post))) :
    jf fw_T (d + 8) 292 76 [(0, .inr (.inl 352)), (1, .inl law), (2, .inl nn), (3, .inl rows), (4, .inl not_), (5, .inl v_)] [] (fw_put [385, 366, 387, 389, 388, 371, 367, 370] 352 [] W f) Post := fw_ok (n := 8) (ss := [(23, [0, 1, 2, 3]), (52, [0, 1, 2, 3, 4]), (76, [0, 1, 2, 3, 4, 5]), (89, [0, 1, 2, 3, 4, 5, 6, 7]), (152, [0, 4, 5])]) (hv := [62, 140]) fr_292_ok fm_ok (ct_tried_ok d) hw_

theorem s_tried_52 {Post : Option fw_V → fw_W → Prop} {d : Nat} {W : fw_W} {law nn rows not_ : Int} {f : fw_W}
    (hw_ : -2147483648 ≤ nn - (2 : Int) ∧ nn - (2 : Int) ≤ 2147483647 ∧ ((((nn - (2 : Int)) ≤ not_ → jf fw_T (d + 8) 292 76 [(0, .inr (.inl 352)), (1, .inl law), (2, .inl nn), (3, .inl rows), (4, .inl (0 : Int)), (5, .inl (0 : Int))] [] (fw_put [385, 366, 387, 389, 388, 371, 367, 370] 352 [] W f) Post) ∧ (not_ < (nn - (2 : Int)) → ∀ v1 : Int, -2147483648 ≤ v1 → v1 ≤ 2147483647 → -2147483648 ≤ not_ + (1 : Int) ∧ not_ + (1 : Int) ≤ 2147483647 ∧ (jf fw_T (d + 8) 292 52 [(0, .inr (.inl 352)), (1, .inl law), (2, .inl nn), (3, .inl v1), (4, .inl (not_ + (1 : Int)))] [] (fw_put [385, 366, 387, 389, 388, 371, 367, 370] 352 [] W f) Post))))) :
    jf fw_T (d + 8) 292 52 [(0, .inr (.inl 352)), (1, .inl law), (2, .inl nn), (3, .inl rows), (4, .inl not_)] [] (fw_put [385, 366, 387, 389, 388, 371, 367, 370] 352 [] W f) Post := fw_ok (n := 12) (ss := [(23, [0, 1, 2, 3]), (52, [0, 1, 2, 3, 4]), (76, [0, 1, 2, 3, 4, 5]), (89, [0, 1, 2, 3, 4, 5, 6, 7]), (152, [0, 4, 5])]) (hv := [62, 140]) fr_292_ok fm_ok (ct_tried_ok d) hw_

theorem s_tried_23 {Post : Option fw_V → fw_W → Prop} {d : Nat} {W : fw_W} {law nn rows : Int} {f : fw_W}
    (hw_ : (((44 : Int) ≤ rows → jf fw_T (d + 8) 292 52 [(0, .inr (.inl 352)), (1, .inl law), (2, .inl nn), (3, .inl (1 : Int)), (4, .inl (0 : Int))] [] (fw_put [385, 366, 387, 389, 388, 371, 367, 370] 352 [] W f) Post) ∧ (rows < (44 : Int) → 0 ≤ rows ∧ rows < 44 ∧ (-2147483648 ≤ (fw_g f 366 rows) → (fw_g f 366 rows) ≤ 2147483647 → 0 ≤ rows ∧ rows < 44 ∧ -2147483648 ≤ (fw_g f 366 rows) ∧ (fw_g f 366 rows) ≤ 2147483647 ∧ (-2147483648 ≤ rows + (1 : Int) ∧ rows + (1 : Int) ≤ 2147483647 ∧ (jf fw_T (d + 8) 292 23 [(0, .inr (.inl 352)), (1, .inl law), (2, .inl nn), (3, .inl (rows + (1 : Int)))] [] (fw_up (fw_put [385, 366, 387, 389, 388, 371, 367, 370] 352 [] W f) 385 rows (fw_g f 366 rows)) Post)))))) :
    jf fw_T (d + 8) 292 23 [(0, .inr (.inl 352)), (1, .inl law), (2, .inl nn), (3, .inl rows)] [] (fw_put [385, 366, 387, 389, 388, 371, 367, 370] 352 [] W f) Post := fw_ok (n := 14) (ss := [(23, [0, 1, 2, 3]), (52, [0, 1, 2, 3, 4]), (76, [0, 1, 2, 3, 4, 5]), (89, [0, 1, 2, 3, 4, 5, 6, 7]), (152, [0, 4, 5])]) (hv := [62, 140]) fr_292_ok fm_ok (ct_tried_ok d) hw_

theorem lm_tried_89 {Post : Option fw_V → fw_W → Prop} {d : Nat} {W : fw_W} {law nn : Int} (hpre : mt W ∧ 0 ≤ (fw_g W 366 0) ∧ (fw_g W 366 0) ≤ 14 ∧ mi W ∧ 0 ≤ (fw_g W 352 29) ∧ 0 ≤ (fw_g W 352 30) ∧ (fw_g W 352 29) + (fw_g W 352 30) ≤ 40) (hP : ∀ (v : Int) (W2 : fw_W), fw_sm [385, 366, 387, 389, 388, 371, 367, 370] 352 [] W W2 → (-2147483648 ≤ v ∧ v ≤ 2147483647 ∧ (mi W2)) → Post (some (.inl v)) W2) (M76 : Int) (h76 : ∀ (rows not_ v_ : Int) (f : fw_W), (((0 ≤ law ∧ law ≤ 2 ∧ 2 ≤ nn ∧ nn ≤ 6) ∧ 0 ≤ v_) ∧ (∀ i_, 0 ≤ i_ → i_ < 44 → (fw_g f 385 i_) = fw_g W 366 i_) ∧ (0 ≤ (fw_g f 366 1) ∧ (fw_g f 366 1) ≤ 999)) → (rows - v_) < M76 → jf fw_T (d + 8) 292 76 [(0, .inr (.inl 352)), (1, .inl law), (2, .inl nn), (3, .inl rows), (4, .inl not_), (5, .inl v_)] [] (fw_put [385, 366, 387, 389, 388, 371, 367, 370] 352 [] W f) Post) : ∀ (m : Nat) (rows not_ v_ rest i : Int) (f : fw_W), (nn - i).toNat = m → (((0 ≤ law ∧ law ≤ 2 ∧ 2 ≤ nn ∧ nn ≤ 6) ∧ 0 ≤ v_ ∧ v_ < rows ∧ 0 ≤ rest ∧ 0 ≤ i ∧ i ≤ nn - 2) ∧ (∀ i_, 0 ≤ i_ → i_ < 44 → (fw_g f 385 i_) = fw_g W 366 i_) ∧ (0 ≤ (fw_g f 366 1) ∧ (fw_g f 366 1) ≤ 999) ∧ (∀ i_, 0 ≤ i_ → i_ < i → 0 ≤ (fw_g f 387 i_) ∧ (fw_g f 387 i_) < nn)) → (rows - v_) ≤ M76 → jf fw_T (d + 8) 292 89 [(0, .inr (.inl 352)), (1, .inl law), (2, .inl nn), (3, .inl rows), (4, .inl not_), (5, .inl v_), (6, .inl rest), (7, .inl i)] [] (fw_put [385, 366, 387, 389, 388, 371, 367, 370] 352 [] W f) Post := by
  intro m
  induction m using Nat.strongRecOn with
  | ind m ih =>
    intro rows not_ v_ rest i f hm hi e76
    refine jf_rng (fun hrg => ?_)
    have hrg : -2147483648 ≤ law ∧ law ≤ 2147483647 ∧ -2147483648 ≤ nn ∧ nn ≤ 2147483647 ∧ -2147483648 ≤ rows ∧ rows ≤ 2147483647 ∧ -2147483648 ≤ not_ ∧ not_ ≤ 2147483647 ∧ -2147483648 ≤ v_ ∧ v_ ≤ 2147483647 ∧ -2147483648 ≤ rest ∧ rest ≤ 2147483647 ∧ -2147483648 ≤ i ∧ i ≤ 2147483647 ∧ True := hrg
    refine s_tried_89 ?_
    have hi1 := hi.1
    have hd : 0 ≤ rest % nn ∧ rest % nn < nn ∧ 0 ≤ rest / nn := ⟨Int.emod_nonneg _ (by omega), Int.emod_lt_of_pos _ (by omega), Int.ediv_nonneg (by omega) (by omega)⟩
    repeat' (first
      | (exact fun x x1 x2 => hi.2.2.2 x x1 (by omega))
      | (rename_i f3 hf3
         exact ⟨hf3.1, hf3.1.1, hf3.1.2.1, fun x x1 x2 => hf3.2.2 x x1 (by have e := hf3.2.1; have x3 : x < fw_g f3 366 0 := x2; omega)⟩)
      | (exact True.intro)
      | (exact hpre.1)
      | (refine And.intro ?_ ?_)
      | (refine (h76 _ _ _ _ ?_ (by omega)); (
        rename_i f3 hf3 r4 f4 hr4 hc4 v9 v10 v11
        have h9 := hf3.1.2.2.2.2
        exact ⟨by omega, hi.2.1, h9⟩))
      | (refine jf_put (S := [385, 366, 387, 389, 388, 371, 367, 370]) (o := 352) (F := []) (W := W) (by repeat (first | exact fw_sm_refl | exact fw_sm_put0 | refine fw_sm_arr ?_ rfl | refine fw_sm_up ?_ rfl | refine fw_sm_put ?_ rfl | refine fw_sm_cp ?_ rfl)) (h76 _ _ _ _ ?_ (by omega)); (
        rename_i f3 hf3 r4 f4 hr4 hc4 v9 v10 v11
        have h9 := hf3.1.2.2.2.2
        exact ⟨by omega, hi.2.1, h9⟩))
      | (refine (ih _ (by omega) _ _ _ _ _ _ rfl ?_ (by omega)); (
        refine ⟨by omega, hi.2.1, hi.2.2.1, fun x x1 x2 => ?_⟩
        rw [fg_if (by omega) (by omega) (by omega) (by omega)]
        by_cases e : i = x
        · rw [if_pos e]; omega
        · rw [if_neg e]; exact hi.2.2.2 x x1 (by omega)))
      | (refine jf_put (S := [385, 366, 387, 389, 388, 371, 367, 370]) (o := 352) (F := []) (W := W) (by repeat (first | exact fw_sm_refl | exact fw_sm_put0 | refine fw_sm_arr ?_ rfl | refine fw_sm_up ?_ rfl | refine fw_sm_put ?_ rfl | refine fw_sm_cp ?_ rfl)) (ih _ (by omega) _ _ _ _ _ _ rfl ?_ (by omega)); (
        refine ⟨by omega, hi.2.1, hi.2.2.1, fun x x1 x2 => ?_⟩
        rw [fg_if (by omega) (by omega) (by omega) (by omega)]
        by_cases e : i = x
        · rw [if_pos e]; omega
        · rw [if_neg e]; exact hi.2.2.2 x x1 (by omega)))
      | (refine hP _ _ (by repeat (first | exact fw_sm_refl | exact fw_sm_put0 | refine fw_sm_arr ?_ rfl | refine fw_sm_up ?_ rfl | refine fw_sm_put ?_ rfl | refine fw_sm_cp ?_ rfl)) ?_; (refine ⟨by omega, by omega, ?_⟩; (first
          | (exact hpre.2.2.2.1)
          | (obtain ⟨i1, i2, i3⟩ := hi
             refine ⟨tw_c hpre.2.2.2.1.1 (fun z z1 z2 => ?_), hpre.2.2.2.1.2⟩
             exact i2 z z1 (by omega)))))
      | omega
      | (intro _))
theorem lm_tried_152 {Post : Option fw_V → fw_W → Prop} {d : Nat} {W : fw_W} {law nn : Int} (hpre : mt W ∧ 0 ≤ (fw_g W 366 0) ∧ (fw_g W 366 0) ≤ 14 ∧ mi W ∧ 0 ≤ (fw_g W 352 29) ∧ 0 ≤ (fw_g W 352 30) ∧ (fw_g W 352 29) + (fw_g W 352 30) ≤ 40) (hP : ∀ (v : Int) (W2 : fw_W), fw_sm [385, 366, 387, 389, 388, 371, 367, 370] 352 [] W W2 → (-2147483648 ≤ v ∧ v ≤ 2147483647 ∧ (mi W2)) → Post (some (.inl v)) W2)  : ∀ (m : Nat) (not_ v_ : Int) (f : fw_W), (44 - v_).toNat = m → (0 ≤ v_ ∧ (∀ i_, 0 ≤ i_ → i_ < v_ → (fw_g f 366 i_) = fw_g W 366 i_) ∧ (∀ i_, 0 ≤ i_ → i_ < 44 → (fw_g f 385 i_) = fw_g W 366 i_)) → jf fw_T (d + 8) 292 152 [(0, .inr (.inl 352)), (4, .inl not_), (5, .inl v_)] [] (fw_put [385, 366, 387, 389, 388, 371, 367, 370] 352 [] W f) Post := by
  intro m
  induction m using Nat.strongRecOn with
  | ind m ih =>
    intro not_ v_ f hm hi
    refine jf_rng (fun hrg => ?_)
    have hrg : -2147483648 ≤ not_ ∧ not_ ≤ 2147483647 ∧ -2147483648 ≤ v_ ∧ v_ ≤ 2147483647 ∧ True := hrg
    refine s_tried_152 ?_
    have hi1 := hi.1
    repeat' (first
      | (exact True.intro)
      | (exact hpre.1)
      | (refine And.intro ?_ ?_)
      | (refine (ih _ (by omega) _ _ _ rfl ?_); (
        refine ⟨by omega, fun x x1 x2 => ?_, hi.2.2⟩
        rw [fg_if (by omega) (by omega) (by omega) (by omega)]
        by_cases e : v_ = x
        · rw [if_pos e, e]; exact hi.2.2 x x1 (by omega)
        · rw [if_neg e]; exact hi.2.1 x x1 (by omega)))
      | (refine jf_put (S := [385, 366, 387, 389, 388, 371, 367, 370]) (o := 352) (F := []) (W := W) (by repeat (first | exact fw_sm_refl | exact fw_sm_put0 | refine fw_sm_arr ?_ rfl | refine fw_sm_up ?_ rfl | refine fw_sm_put ?_ rfl | refine fw_sm_cp ?_ rfl)) (ih _ (by omega) _ _ _ rfl ?_); (
        refine ⟨by omega, fun x x1 x2 => ?_, hi.2.2⟩
        rw [fg_if (by omega) (by omega) (by omega) (by omega)]
        by_cases e : v_ = x
        · rw [if_pos e, e]; exact hi.2.2 x x1 (by omega)
        · rw [if_neg e]; exact hi.2.1 x x1 (by omega)))
      | (refine hP _ _ (by repeat (first | exact fw_sm_refl | exact fw_sm_put0 | refine fw_sm_arr ?_ rfl | refine fw_sm_up ?_ rfl | refine fw_sm_put ?_ rfl | refine fw_sm_cp ?_ rfl)) ?_; (refine ⟨by omega, by omega, ?_⟩; (first
          | (exact hpre.2.2.2.1)
          | (obtain ⟨i1, i2, i3⟩ := hi
             refine ⟨tw_c hpre.2.2.2.1.1 (fun z z1 z2 => ?_), hpre.2.2.2.1.2⟩
             exact i2 z z1 (by omega)))))
      | omega
      | (intro _))
theorem lm_tried_76 {Post : Option fw_V → fw_W → Prop} {d : Nat} {W : fw_W} {law nn : Int} (hpre : mt W ∧ 0 ≤ (fw_g W 366 0) ∧ (fw_g W 366 0) ≤ 14 ∧ mi W ∧ 0 ≤ (fw_g W 352 29) ∧ 0 ≤ (fw_g W 352 30) ∧ (fw_g W 352 29) + (fw_g W 352 30) ≤ 40) (hP : ∀ (v : Int) (W2 : fw_W), fw_sm [385, 366, 387, 389, 388, 371, 367, 370] 352 [] W W2 → (-2147483648 ≤ v ∧ v ≤ 2147483647 ∧ (mi W2)) → Post (some (.inl v)) W2)  : ∀ (m : Nat) (rows not_ v_ : Int) (f : fw_W), (rows - v_).toNat = m → (((0 ≤ law ∧ law ≤ 2 ∧ 2 ≤ nn ∧ nn ≤ 6) ∧ 0 ≤ v_) ∧ (∀ i_, 0 ≤ i_ → i_ < 44 → (fw_g f 385 i_) = fw_g W 366 i_) ∧ (0 ≤ (fw_g f 366 1) ∧ (fw_g f 366 1) ≤ 999)) → jf fw_T (d + 8) 292 76 [(0, .inr (.inl 352)), (1, .inl law), (2, .inl nn), (3, .inl rows), (4, .inl not_), (5, .inl v_)] [] (fw_put [385, 366, 387, 389, 388, 371, 367, 370] 352 [] W f) Post := by
  intro m
  induction m using Nat.strongRecOn with
  | ind m ih =>
    intro rows not_ v_ f hm hi
    refine jf_rng (fun hrg => ?_)
    have hrg : -2147483648 ≤ law ∧ law ≤ 2147483647 ∧ -2147483648 ≤ nn ∧ nn ≤ 2147483647 ∧ -2147483648 ≤ rows ∧ rows ≤ 2147483647 ∧ -2147483648 ≤ not_ ∧ not_ ≤ 2147483647 ∧ -2147483648 ≤ v_ ∧ v_ ≤ 2147483647 ∧ True := hrg
    refine s_tried_76 ?_
    have hi1 := hi.1
    repeat' (first
      | (exact True.intro)
      | (exact hpre.1)
      | (refine And.intro ?_ ?_)
      | (refine (ih _ (by omega) _ _ _ _ rfl ?_); (first | omega | trivial | (simp (config := { decide := true }) only [fg_in, fg_fin, fg_out, fg_fout, fg_up, fg_same, true_and, and_true] <;> omega)))
      | (refine jf_put (S := [385, 366, 387, 389, 388, 371, 367, 370]) (o := 352) (F := []) (W := W) (by repeat (first | exact fw_sm_refl | exact fw_sm_put0 | refine fw_sm_arr ?_ rfl | refine fw_sm_up ?_ rfl | refine fw_sm_put ?_ rfl | refine fw_sm_cp ?_ rfl)) (ih _ (by omega) _ _ _ _ rfl ?_); (first | omega | trivial | (simp (config := { decide := true }) only [fg_in, fg_fin, fg_out, fg_fout, fg_up, fg_same, true_and, and_true] <;> omega)))
      | (refine (lm_tried_89 (law := law) (nn := nn) hpre hP (rows - v_) (fun a0 a1 a2 af hi hl => ih _ (by omega) a0 a1 a2 af rfl hi) _ _ _ _ _ _ _ rfl ?_ (by omega)); (exact ⟨by omega, hi.2.1, hi.2.2, fun x x1 x2 => by omega⟩))
      | (refine jf_put (S := [385, 366, 387, 389, 388, 371, 367, 370]) (o := 352) (F := []) (W := W) (by repeat (first | exact fw_sm_refl | exact fw_sm_put0 | refine fw_sm_arr ?_ rfl | refine fw_sm_up ?_ rfl | refine fw_sm_put ?_ rfl | refine fw_sm_cp ?_ rfl)) (lm_tried_89 (law := law) (nn := nn) hpre hP (rows - v_) (fun a0 a1 a2 af hi hl => ih _ (by omega) a0 a1 a2 af rfl hi) _ _ _ _ _ _ _ rfl ?_ (by omega)); (exact ⟨by omega, hi.2.1, hi.2.2, fun x x1 x2 => by omega⟩))
      | (refine (lm_tried_152 (law := law) (nn := nn) hpre hP _ _ _ _ rfl ?_); (exact ⟨by omega, fun x x1 x2 => by omega, hi.2.1⟩))
      | (refine jf_put (S := [385, 366, 387, 389, 388, 371, 367, 370]) (o := 352) (F := []) (W := W) (by repeat (first | exact fw_sm_refl | exact fw_sm_put0 | refine fw_sm_arr ?_ rfl | refine fw_sm_up ?_ rfl | refine fw_sm_put ?_ rfl | refine fw_sm_cp ?_ rfl)) (lm_tried_152 (law := law) (nn := nn) hpre hP _ _ _ _ rfl ?_); (exact ⟨by omega, fun x x1 x2 => by omega, hi.2.1⟩))
      | (refine hP _ _ (by repeat (first | exact fw_sm_refl | exact fw_sm_put0 | refine fw_sm_arr ?_ rfl | refine fw_sm_up ?_ rfl | refine fw_sm_put ?_ rfl | refine fw_sm_cp ?_ rfl)) ?_; (refine ⟨by omega, by omega, ?_⟩; (first
          | (exact hpre.2.2.2.1)
          | (obtain ⟨i1, i2, i3⟩ := hi
             refine ⟨tw_c hpre.2.2.2.1.1 (fun z z1 z2 => ?_), hpre.2.2.2.1.2⟩
             exact i2 z z1 (by omega)))))
      | omega
      | (intro _))
theorem lm_tried_52 {Post : Option fw_V → fw_W → Prop} {d : Nat} {W : fw_W} {law nn : Int} (hpre : mt W ∧ 0 ≤ (fw_g W 366 0) ∧ (fw_g W 366 0) ≤ 14 ∧ mi W ∧ 0 ≤ (fw_g W 352 29) ∧ 0 ≤ (fw_g W 352 30) ∧ (fw_g W 352 29) + (fw_g W 352 30) ≤ 40) (hP : ∀ (v : Int) (W2 : fw_W), fw_sm [385, 366, 387, 389, 388, 371, 367, 370] 352 [] W W2 → (-2147483648 ≤ v ∧ v ≤ 2147483647 ∧ (mi W2)) → Post (some (.inl v)) W2)  : ∀ (m : Nat) (rows not_ : Int) (f : fw_W), (nn - not_).toNat = m → (((0 ≤ law ∧ law ≤ 2 ∧ 2 ≤ nn ∧ nn ≤ 6) ∧ 0 ≤ not_) ∧ (∀ i_, 0 ≤ i_ → i_ < 44 → (fw_g f 385 i_) = fw_g W 366 i_) ∧ (0 ≤ (fw_g f 366 1) ∧ (fw_g f 366 1) ≤ 999)) → jf fw_T (d + 8) 292 52 [(0, .inr (.inl 352)), (1, .inl law), (2, .inl nn), (3, .inl rows), (4, .inl not_)] [] (fw_put [385, 366, 387, 389, 388, 371, 367, 370] 352 [] W f) Post := by
  intro m
  induction m using Nat.strongRecOn with
  | ind m ih =>
    intro rows not_ f hm hi
    refine jf_rng (fun hrg => ?_)
    have hrg : -2147483648 ≤ law ∧ law ≤ 2147483647 ∧ -2147483648 ≤ nn ∧ nn ≤ 2147483647 ∧ -2147483648 ≤ rows ∧ rows ≤ 2147483647 ∧ -2147483648 ≤ not_ ∧ not_ ≤ 2147483647 ∧ True := hrg
    refine s_tried_52 ?_
    have hi1 := hi.1
    repeat' (first
      | (exact True.intro)
      | (exact hpre.1)
      | (refine And.intro ?_ ?_)
      | (refine (ih _ (by omega) _ _ _ rfl ?_); (exact ⟨by omega, hi.2⟩))
      | (refine jf_put (S := [385, 366, 387, 389, 388, 371, 367, 370]) (o := 352) (F := []) (W := W) (by repeat (first | exact fw_sm_refl | exact fw_sm_put0 | refine fw_sm_arr ?_ rfl | refine fw_sm_up ?_ rfl | refine fw_sm_put ?_ rfl | refine fw_sm_cp ?_ rfl)) (ih _ (by omega) _ _ _ rfl ?_); (exact ⟨by omega, hi.2⟩))
      | (refine (lm_tried_76 (law := law) (nn := nn) hpre hP _ _ _ _ _ rfl ?_); (exact ⟨by omega, hi.2⟩))
      | (refine jf_put (S := [385, 366, 387, 389, 388, 371, 367, 370]) (o := 352) (F := []) (W := W) (by repeat (first | exact fw_sm_refl | exact fw_sm_put0 | refine fw_sm_arr ?_ rfl | refine fw_sm_up ?_ rfl | refine fw_sm_put ?_ rfl | refine fw_sm_cp ?_ rfl)) (lm_tried_76 (law := law) (nn := nn) hpre hP _ _ _ _ _ rfl ?_); (exact ⟨by omega, hi.2⟩))
      | (refine hP _ _ (by repeat (first | exact fw_sm_refl | exact fw_sm_put0 | refine fw_sm_arr ?_ rfl | refine fw_sm_up ?_ rfl | refine fw_sm_put ?_ rfl | refine fw_sm_cp ?_ rfl)) ?_; (refine ⟨by omega, by omega, ?_⟩; (first
          | (exact hpre.2.2.2.1)
          | (obtain ⟨i1, i2, i3⟩ := hi
             refine ⟨tw_c hpre.2.2.2.1.1 (fun z z1 z2 => ?_), hpre.2.2.2.1.2⟩
             exact i2 z z1 (by omega)))))
      | omega
      | (intro _))
theorem lm_tried_23 {Post : Option fw_V → fw_W → Prop} {d : Nat} {W : fw_W} {law nn : Int} (hpre : mt W ∧ 0 ≤ (fw_g W 366 0) ∧ (fw_g W 366 0) ≤ 14 ∧ mi W ∧ 0 ≤ (fw_g W 352 29) ∧ 0 ≤ (fw_g W 352 30) ∧ (fw_g W 352 29) + (fw_g W 352 30) ≤ 40) (hP : ∀ (v : Int) (W2 : fw_W), fw_sm [385, 366, 387, 389, 388, 371, 367, 370] 352 [] W W2 → (-2147483648 ≤ v ∧ v ≤ 2147483647 ∧ (mi W2)) → Post (some (.inl v)) W2)  : ∀ (m : Nat) (rows : Int) (f : fw_W), (44 - rows).toNat = m → ((0 ≤ rows ∧ (0 ≤ law ∧ law ≤ 2 ∧ 2 ≤ nn ∧ nn ≤ 6)) ∧ (∀ i_, 0 ≤ i_ → i_ < rows → (fw_g f 385 i_) = fw_g W 366 i_) ∧ (fw_g f 366 1) = fw_g W 366 1 ∧ (∀ i_, 0 ≤ i_ → (fw_g f 366 i_) = fw_g W 366 i_)) → jf fw_T (d + 8) 292 23 [(0, .inr (.inl 352)), (1, .inl law), (2, .inl nn), (3, .inl rows)] [] (fw_put [385, 366, 387, 389, 388, 371, 367, 370] 352 [] W f) Post := by
  intro m
  induction m using Nat.strongRecOn with
  | ind m ih =>
    intro rows f hm hi
    refine jf_rng (fun hrg => ?_)
    have hrg : -2147483648 ≤ law ∧ law ≤ 2147483647 ∧ -2147483648 ≤ nn ∧ nn ≤ 2147483647 ∧ -2147483648 ≤ rows ∧ rows ≤ 2147483647 ∧ True := hrg
    refine s_tried_23 ?_
    have hi1 := hi.1
    repeat' (first
      | (exact True.intro)
      | (exact hpre.1)
      | (refine And.intro ?_ ?_)
      | (refine (ih _ (by omega) _ _ rfl ?_); (
        refine ⟨by omega, fun x x1 x2 => ?_, (fg_up rfl).trans hi.2.2.1, fun x x1 => (fg_up rfl).trans (hi.2.2.2 x x1)⟩
        rw [fg_if (by omega) (by omega) (by omega) (by omega)]
        by_cases e : rows = x
        · rw [if_pos e, e]; exact hi.2.2.2 x x1
        · rw [if_neg e]; exact hi.2.1 x x1 (by omega)))
      | (refine jf_put (S := [385, 366, 387, 389, 388, 371, 367, 370]) (o := 352) (F := []) (W := W) (by repeat (first | exact fw_sm_refl | exact fw_sm_put0 | refine fw_sm_arr ?_ rfl | refine fw_sm_up ?_ rfl | refine fw_sm_put ?_ rfl | refine fw_sm_cp ?_ rfl)) (ih _ (by omega) _ _ rfl ?_); (
        refine ⟨by omega, fun x x1 x2 => ?_, (fg_up rfl).trans hi.2.2.1, fun x x1 => (fg_up rfl).trans (hi.2.2.2 x x1)⟩
        rw [fg_if (by omega) (by omega) (by omega) (by omega)]
        by_cases e : rows = x
        · rw [if_pos e, e]; exact hi.2.2.2 x x1
        · rw [if_neg e]; exact hi.2.1 x x1 (by omega)))
      | (refine (lm_tried_52 (law := law) (nn := nn) hpre hP _ _ _ _ rfl ?_); (
        have h9 := hpre.1.2.2.2.2
        have h8 := hi.2.2.1
        exact ⟨by omega, fun x x1 x2 => hi.2.1 x x1 (by omega), by omega⟩))
      | (refine jf_put (S := [385, 366, 387, 389, 388, 371, 367, 370]) (o := 352) (F := []) (W := W) (by repeat (first | exact fw_sm_refl | exact fw_sm_put0 | refine fw_sm_arr ?_ rfl | refine fw_sm_up ?_ rfl | refine fw_sm_put ?_ rfl | refine fw_sm_cp ?_ rfl)) (lm_tried_52 (law := law) (nn := nn) hpre hP _ _ _ _ rfl ?_); (
        have h9 := hpre.1.2.2.2.2
        have h8 := hi.2.2.1
        exact ⟨by omega, fun x x1 x2 => hi.2.1 x x1 (by omega), by omega⟩))
      | (refine hP _ _ (by repeat (first | exact fw_sm_refl | exact fw_sm_put0 | refine fw_sm_arr ?_ rfl | refine fw_sm_up ?_ rfl | refine fw_sm_put ?_ rfl | refine fw_sm_cp ?_ rfl)) ?_; (refine ⟨by omega, by omega, ?_⟩; (first
          | (exact hpre.2.2.2.1)
          | (obtain ⟨i1, i2, i3⟩ := hi
             refine ⟨tw_c hpre.2.2.2.1.1 (fun z z1 z2 => ?_), hpre.2.2.2.1.2⟩
             exact i2 z z1 (by omega)))))
      | omega
      | (intro _))
def x_tried : fw_X := fun as W Q => match as with
  | [.inr (.inl s_), .inl law, .inl nn] => fw_if (Nat.beq s_ 352) ((mt W ∧ 0 ≤ (fw_g W 366 0) ∧ (fw_g W 366 0) ≤ 14 ∧ mi W ∧ 0 ≤ (fw_g W 352 29) ∧ 0 ≤ (fw_g W 352 30) ∧ (fw_g W 352 29) + (fw_g W 352 30) ≤ 40) ∧ (∀ (v : Int) (f : fw_W), (-2147483648 ≤ v ∧ v ≤ 2147483647 ∧ (mi (fw_put [385, 366, 387, 389, 388, 371, 367, 370] 352 [] W f))) → Q (some (.inl v)) (fw_put [385, 366, 387, 389, 388, 371, 367, 370] 352 [] W f)))
  | _ => False
theorem x_tried_ok (d : Nat) (as : List fw_V) (W : fw_W) (Q : Option fw_V → fw_W → Prop) (hx : x_tried as W Q) : jf fw_T (d + 8) 292 0 (fw_args 0 as) [] W Q := by
  unfold x_tried at hx
  split at hx
  · rename_i s_ law nn
    obtain ⟨e_, hpre, hQ⟩ := fw_if_ok hx
    have e_ := Nat.eq_of_beq_eq_true e_
    subst e_
    have hP : ∀ (v : Int) (W2 : fw_W), fw_sm [385, 366, 387, 389, 388, 371, 367, 370] 352 [] W W2 → (-2147483648 ≤ v ∧ v ≤ 2147483647 ∧ (mi W2)) → Q (some (.inl v)) W2 := fun v W2 hs hr => fw_sm_use (Q := fun Z => Q (some (.inl v)) Z) hs (hQ v W2 (by rw [fw_sm_eq hs]; exact hr))
    refine s_tried_0 ?_
    repeat' (first
      | (exact True.intro)
      | (exact hpre.1)
      | (refine And.intro ?_ ?_)
      | (refine jf_put (S := [385, 366, 387, 389, 388, 371, 367, 370]) (o := 352) (F := []) (W := W) (by repeat (first | exact fw_sm_refl | exact fw_sm_put0 | refine fw_sm_arr ?_ rfl | refine fw_sm_up ?_ rfl | refine fw_sm_put ?_ rfl | refine fw_sm_cp ?_ rfl)) (lm_tried_23 (law := law) (nn := nn) hpre hP _ _ _ rfl ?_); (exact ⟨by omega, fun x x1 x2 => by omega, rfl, fun x x1 => rfl⟩))
      | (refine jf_put (S := [385, 366, 387, 389, 388, 371, 367, 370]) (o := 352) (F := []) (W := W) (by repeat (first | exact fw_sm_refl | exact fw_sm_put0 | refine fw_sm_arr ?_ rfl | refine fw_sm_up ?_ rfl | refine fw_sm_put ?_ rfl | refine fw_sm_cp ?_ rfl)) (lm_tried_52 (law := law) (nn := nn) hpre hP _ _ _ _ rfl ?_); (first | omega | trivial | (simp (config := { decide := true }) only [fg_in, fg_fin, fg_out, fg_fout, fg_up, fg_same, true_and, and_true] <;> omega)))
      | (refine jf_put (S := [385, 366, 387, 389, 388, 371, 367, 370]) (o := 352) (F := []) (W := W) (by repeat (first | exact fw_sm_refl | exact fw_sm_put0 | refine fw_sm_arr ?_ rfl | refine fw_sm_up ?_ rfl | refine fw_sm_put ?_ rfl | refine fw_sm_cp ?_ rfl)) (lm_tried_76 (law := law) (nn := nn) hpre hP _ _ _ _ _ rfl ?_); (first | omega | trivial | (simp (config := { decide := true }) only [fg_in, fg_fin, fg_out, fg_fout, fg_up, fg_same, true_and, and_true] <;> omega)))
      | (refine jf_put (S := [385, 366, 387, 389, 388, 371, 367, 370]) (o := 352) (F := []) (W := W) (by repeat (first | exact fw_sm_refl | exact fw_sm_put0 | refine fw_sm_arr ?_ rfl | refine fw_sm_up ?_ rfl | refine fw_sm_put ?_ rfl | refine fw_sm_cp ?_ rfl)) (lm_tried_89 (law := law) (nn := nn) hpre hP M76 h76 _ _ _ _ _ _ _ rfl ?_ (by omega)); (first | omega | trivial | (simp (config := { decide := true }) only [fg_in, fg_fin, fg_out, fg_fout, fg_up, fg_same, true_and, and_true] <;> omega)))
      | (refine jf_put (S := [385, 366, 387, 389, 388, 371, 367, 370]) (o := 352) (F := []) (W := W) (by repeat (first | exact fw_sm_refl | exact fw_sm_put0 | refine fw_sm_arr ?_ rfl | refine fw_sm_up ?_ rfl | refine fw_sm_put ?_ rfl | refine fw_sm_cp ?_ rfl)) (lm_tried_152 (law := law) (nn := nn) hpre hP _ _ _ _ rfl ?_); (first | omega | trivial | (simp (config := { decide := true }) only [fg_in, fg_fin, fg_out, fg_fout, fg_up, fg_same, true_and, and_true] <;> omega)))
      | (refine hP _ _ (by repeat (first | exact fw_sm_refl | exact fw_sm_put0 | refine fw_sm_arr ?_ rfl | refine fw_sm_up ?_ rfl | refine fw_sm_put ?_ rfl | refine fw_sm_cp ?_ rfl)) ?_; (refine ⟨by omega, by omega, ?_⟩; (first
          | (exact hpre.2.2.2.1)
          | (obtain ⟨i1, i2, i3⟩ := hi
             refine ⟨tw_c hpre.2.2.2.1.1 (fun z z1 z2 => ?_), hpre.2.2.2.1.2⟩
             exact i2 z z1 (by omega)))))
      | omega
      | (intro _))
  · exact hx.elim

