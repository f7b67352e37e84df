/-! the reference, method by method -/
def fr_289 : fw_P := [(0, 0, 0, 0, 0), (1, 3, 2, 0, 0), (2, 1, 2, 0, 0), (3, 0, 0, 0, 196), (6, 13, 22, 0, 0), (9, 2, 0, 0, 0), (10, 50, 12, 57, 0), (13, 1, 2, 0, 0), (14, 0, 0, 0, 0), (15, 53, 0, 0, 0), (16, 5, 2, 0, 1), (19, 6, 2, 0, 0), (22, 0, 0, 0, 0), (23, 3, 2, 0, 0), (24, 1, 2, 0, 0), (25, 1, 1, 0, 0), (26, 13, 42, 0, 0), (29, 2, 0, 0, 0), (30, 50, 12, 56, 0), (33, 1, 2, 0, 0), (34, 0, 0, 0, 1), (35, 53, 0, 0, 0), (36, 5, 2, 0, 1), (39, 6, 24, 0, 0), (42, 0, 0, 0, 0), (43, 3, 2, 0, 0), (44, 1, 2, 0, 0), (45, 1, 1, 0, 0), (46, 0, 0, 0, 2), (47, 31, 0, 0, 0), (48, 13, 72, 0, 0), (51, 2, 0, 0, 0), (52, 50, 12, 56, 0), (55, 2, 0, 0, 0), (56, 50, 12, 55, 0), (59, 1, 2, 0, 0), (60, 52, 0, 0, 0), (61, 44, 0, 0, 0), (62, 52, 0, 0, 0), (63, 0, 0, 0, 1), (64, 30, 0, 0, 0), (65, 53, 0, 0, 0), (66, 5, 2, 0, 1), (69, 6, 44, 0, 0), (72, 0, 0, 0, 0), (73, 3, 2, 0, 0), (74, 1, 2, 0, 0), (75, 1, 1, 0, 0), (76, 0, 0, 0, 2), (77, 31, 0, 0, 0), (78, 13, 116, 0, 0), (81, 0, 0, 0, 0), (82, 3, 3, 0, 0), (83, 2, 0, 0, 0), (84, 50, 12, 56, 0), (87, 1, 3, 0, 0), (88, 52, 0, 0, 0), (89, 0, 0, 0, 1), (90, 10, 99, 0, 0), (93, 5, 3, 0, 1), (96, 6, 83, 0, 0), (99, 2, 0, 0, 0), (100, 1, 3, 0, 0), (101, 2, 0, 0, 0), (102, 50, 12, 55, 0), (105, 1, 2, 0, 0), (106, 52, 0, 0, 0), (107, 64, 290, 2, 312), (110, 5, 2, 0, 1), (113, 6, 74, 0, 0), (116, 0, 0, 0, -1), (117, 3, 2, 0, 0), (118, 0, 0, 0, 0), (119, 3, 3, 0, 0), (120, 1, 3, 0, 0), (121, 1, 1, 0, 0), (122, 13, 164, 0, 0), (125, 2, 0, 0, 0), (126, 50, 12, 56, 0), (129, 1, 3, 0, 0), (130, 52, 0, 0, 0), (131, 0, 0, 0, 1), (132, 10, 138, 0, 0), (135, 6, 158, 0, 0), (138, 1, 2, 0, 0), (139, 22, 148, 0, 0), (142, 2, 0, 0, 0), (143, 1, 2, 0, 0), (144, 1, 3, 0, 0), (145, 64, 290, 2, 312), (148, 1, 2, 0, 0), (149, 22, 156, 0, 0), (152, 0, 0, 0, -1), (153, 6, 157, 0, 0), (156, 1, 3, 0, 0), (157, 3, 2, 0, 0), (158, 5, 3, 0, 1), (161, 6, 120, 0, 0), (164, 2, 0, 0, 0), (165, 1, 1, 0, 0), (166, 64, 291, 1, 512), (169, 72, 0, 0, 0)]
theorem fr_289_ok : fw_mk 289 4 12 none fr_289 = true := by decide +kernel
def ct_growsFrom : List (Nat × fw_X) := [(291, x_hangAll), (290, x_joins)]
theorem ct_growsFrom_ok (d : Nat) : fw_cok fw_T (d + 2) ct_growsFrom := by
  intro q hq as W Q h
  simp only [ct_growsFrom, List.mem_cons, List.not_mem_nil, or_false] at hq
  rcases hq with rfl | rfl
  · exact jc_of (x_hangAll_ok (d + 0) as W Q h)
  · exact jc_of (x_joins_ok (d + 1) as W Q h)
theorem s_growsFrom_0 {Post : Option fw_V → fw_W → Prop} {d : Nat} {W : fw_W} {n : Int}
    (hw_ : jf fw_T (d + 3) 289 2 [(0, .inr (.inl 352)), (1, .inl n), (2, .inl (0 : Int))] [] W Post) :
    jf fw_T (d + 3) 289 0 [(0, .inr (.inl 352)), (1, .inl n)] [] W Post := fw_ok (n := 3) (ss := [(2, [0, 1, 2]), (24, [0, 1, 2]), (44, [0, 1, 2]), (74, [0, 1, 2]), (83, [0, 1, 2, 3]), (120, [0, 1, 2, 3])]) (hv := []) fr_289_ok fm_ok (ct_growsFrom_ok d) hw_

theorem s_growsFrom_83 {Post : Option fw_V → fw_W → Prop} {d : Nat} {W : fw_W} {n i h : Int} {f : fw_W}
    (hw_ : 0 ≤ h ∧ h < 14 ∧ (-2147483648 ≤ (fw_g f 388 h) → (fw_g f 388 h) ≤ 2147483647 → (((fw_g f 388 h) = (1 : Int) → 0 ≤ i ∧ i < 14 ∧ (0 ≤ (fw_g W 387 i) → (fw_g W 387 i) ≤ 15 → ((0 ≤ h ∧ h < 14 ∧ 0 ≤ (fw_g W 387 i) ∧ (fw_g W 387 i) < 14 ∧ h ≠ (fw_g W 387 i)) ∧ (-100 ≤ (fw_g f 388 h) ∧ (fw_g f 388 h) ≤ 100) ∧ (-100 ≤ (fw_g f 388 (fw_g W 387 i)) ∧ (fw_g f 388 (fw_g W 387 i)) ≤ 100)) ∧ (∀ (f1 : fw_W), (((∀ x_, 0 ≤ x_ → (fw_g f1 388 x_) = if (fw_g W 387 i) = x_ then (fw_g f 388 (fw_g W 387 i)) - 1 else if h = x_ then (fw_g f 388 h) - 1 else (fw_g f 388 x_)) ∧ (∀ x_, 0 ≤ x_ → (fw_g f1 389 x_) = if 14 * (fw_g W 387 i) + h = x_ then 1 else if 14 * h + (fw_g W 387 i) = x_ then 1 else (fw_g f 389 x_)))) → -2147483648 ≤ i + (1 : Int) ∧ i + (1 : Int) ≤ 2147483647 ∧ (jf fw_T (d + 3) 289 74 [(0, .inr (.inl 352)), (1, .inl n), (2, .inl (i + (1 : Int)))] [] (fw_put [389, 388] 352 [] (fw_put [389, 388, 366, 371] 352 [] W f) f1) Post)))) ∧ (¬ (fw_g f 388 h) = (1 : Int) → -2147483648 ≤ h + (1 : Int) ∧ h + (1 : Int) ≤ 2147483647 ∧ (jf fw_T (d + 3) 289 83 [(0, .inr (.inl 352)), (1, .inl n), (2, .inl i), (3, .inl (h + (1 : Int)))] [] (fw_put [389, 388, 366, 371] 352 [] W f) Post))))) :
    jf fw_T (d + 3) 289 83 [(0, .inr (.inl 352)), (1, .inl n), (2, .inl i), (3, .inl h)] [] (fw_put [389, 388, 366, 371] 352 [] W f) Post := fw_ok (n := 16) (ss := [(2, [0, 1, 2]), (24, [0, 1, 2]), (44, [0, 1, 2]), (74, [0, 1, 2]), (83, [0, 1, 2, 3]), (120, [0, 1, 2, 3])]) (hv := []) fr_289_ok fm_ok (ct_growsFrom_ok d) hw_

theorem s_growsFrom_120 {Post : Option fw_V → fw_W → Prop} {d : Nat} {W : fw_W} {n i h : Int} {f : fw_W}
    (hw_ : ((n ≤ h → (2 ≤ n ∧ n ≤ 14 ∧ gc_ok n (fun a_ b_ => (fw_g f 389 (14 * a_ + b_)))) ∧ (∀ (f1 : fw_W), (((fw_g f1 366 0) = n ∧ (fw_g f1 366 1) = (fw_g f 366 1) ∧ tr n (fun z_ => (fw_g f1 366 (2 + 3 * z_))) ∧ ∀ x_, 1 ≤ x_ → x_ < n → (fw_g f1 366 (3 + 3 * x_)) = 1)) → Post none (fw_put [366, 371] 352 [] (fw_put [389, 388, 366, 371] 352 [] W f) f1))) ∧ (h < n → 0 ≤ h ∧ h < 14 ∧ (-2147483648 ≤ (fw_g f 388 h) → (fw_g f 388 h) ≤ 2147483647 → (((fw_g f 388 h) = (1 : Int) → ((i < 0 → ((i < 0 → -2147483648 ≤ h + (1 : Int) ∧ h + (1 : Int) ≤ 2147483647 ∧ (jf fw_T (d + 3) 289 120 [(0, .inr (.inl 352)), (1, .inl n), (2, .inl h), (3, .inl (h + (1 : Int)))] [] (fw_put [389, 388, 366, 371] 352 [] W f) Post)) ∧ (0 ≤ i → -2147483648 ≤ h + (1 : Int) ∧ h + (1 : Int) ≤ 2147483647 ∧ (jf fw_T (d + 3) 289 120 [(0, .inr (.inl 352)), (1, .inl n), (2, .inl (-1 : Int)), (3, .inl (h + (1 : Int)))] [] (fw_put [389, 388, 366, 371] 352 [] W f) Post)))) ∧ (0 ≤ i → ((0 ≤ i ∧ i < 14 ∧ 0 ≤ h ∧ h < 14 ∧ i ≠ h) ∧ (-100 ≤ (fw_g f 388 i) ∧ (fw_g f 388 i) ≤ 100) ∧ (-100 ≤ (fw_g f 388 h) ∧ (fw_g f 388 h) ≤ 100)) ∧ (∀ (f2 : fw_W), (((∀ x_, 0 ≤ x_ → (fw_g f2 388 x_) = if h = x_ then (fw_g f 388 h) - 1 else if i = x_ then (fw_g f 388 i) - 1 else (fw_g f 388 x_)) ∧ (∀ x_, 0 ≤ x_ → (fw_g f2 389 x_) = if 14 * h + i = x_ then 1 else if 14 * i + h = x_ then 1 else (fw_g f 389 x_)))) → ((i < 0 → -2147483648 ≤ h + (1 : Int) ∧ h + (1 : Int) ≤ 2147483647 ∧ (jf fw_T (d + 3) 289 120 [(0, .inr (.inl 352)), (1, .inl n), (2, .inl h), (3, .inl (h + (1 : Int)))] [] (fw_put [389, 388] 352 [] (fw_put [389, 388, 366, 371] 352 [] W f) f2) Post)) ∧ (0 ≤ i → -2147483648 ≤ h + (1 : Int) ∧ h + (1 : Int) ≤ 2147483647 ∧ (jf fw_T (d + 3) 289 120 [(0, .inr (.inl 352)), (1, .inl n), (2, .inl (-1 : Int)), (3, .inl (h + (1 : Int)))] [] (fw_put [389, 388] 352 [] (fw_put [389, 388, 366, 371] 352 [] W f) f2) Post))))))) ∧ (¬ (fw_g f 388 h) = (1 : Int) → -2147483648 ≤ h + (1 : Int) ∧ h + (1 : Int) ≤ 2147483647 ∧ (jf fw_T (d + 3) 289 120 [(0, .inr (.inl 352)), (1, .inl n), (2, .inl i), (3, .inl (h + (1 : Int)))] [] (fw_put [389, 388, 366, 371] 352 [] W f) Post))))))) :
    jf fw_T (d + 3) 289 120 [(0, .inr (.inl 352)), (1, .inl n), (2, .inl i), (3, .inl h)] [] (fw_put [389, 388, 366, 371] 352 [] W f) Post := fw_ok (n := 23) (ss := [(2, [0, 1, 2]), (24, [0, 1, 2]), (44, [0, 1, 2]), (74, [0, 1, 2]), (83, [0, 1, 2, 3]), (120, [0, 1, 2, 3])]) (hv := []) fr_289_ok fm_ok (ct_growsFrom_ok d) hw_

theorem s_growsFrom_74 {Post : Option fw_V → fw_W → Prop} {d : Nat} {W : fw_W} {n i : Int} {f : fw_W}
    (hw_ : -2147483648 ≤ n - (2 : Int) ∧ n - (2 : Int) ≤ 2147483647 ∧ ((((n - (2 : Int)) ≤ i → jf fw_T (d + 3) 289 120 [(0, .inr (.inl 352)), (1, .inl n), (2, .inl (-1 : Int)), (3, .inl (0 : Int))] [] (fw_put [389, 388, 366, 371] 352 [] W f) Post) ∧ (i < (n - (2 : Int)) → jf fw_T (d + 3) 289 83 [(0, .inr (.inl 352)), (1, .inl n), (2, .inl i), (3, .inl (0 : Int))] [] (fw_put [389, 388, 366, 371] 352 [] W f) Post)))) :
    jf fw_T (d + 3) 289 74 [(0, .inr (.inl 352)), (1, .inl n), (2, .inl i)] [] (fw_put [389, 388, 366, 371] 352 [] W f) Post := fw_ok (n := 10) (ss := [(2, [0, 1, 2]), (24, [0, 1, 2]), (44, [0, 1, 2]), (74, [0, 1, 2]), (83, [0, 1, 2, 3]), (120, [0, 1, 2, 3])]) (hv := []) fr_289_ok fm_ok (ct_growsFrom_ok d) hw_

theorem s_growsFrom_44 {Post : Option fw_V → fw_W → Prop} {d : Nat} {W : fw_W} {n i : Int} {f : fw_W}
    (hw_ : -2147483648 ≤ n - (2 : Int) ∧ n - (2 : Int) ≤ 2147483647 ∧ ((((n - (2 : Int)) ≤ i → jf fw_T (d + 3) 289 74 [(0, .inr (.inl 352)), (1, .inl n), (2, .inl (0 : Int))] [] (fw_put [389, 388, 366, 371] 352 [] W f) Post) ∧ (i < (n - (2 : Int)) → 0 ≤ i ∧ i < 14 ∧ (0 ≤ (fw_g W 387 i) → (fw_g W 387 i) ≤ 15 → 0 ≤ (fw_g W 387 i) ∧ (fw_g W 387 i) < 14 ∧ (-2147483648 ≤ (fw_g f 388 (fw_g W 387 i)) → (fw_g f 388 (fw_g W 387 i)) ≤ 2147483647 → -2147483648 ≤ (fw_g f 388 (fw_g W 387 i)) + (1 : Int) ∧ (fw_g f 388 (fw_g W 387 i)) + (1 : Int) ≤ 2147483647 ∧ (0 ≤ (fw_g W 387 i) ∧ (fw_g W 387 i) < 14 ∧ -2147483648 ≤ ((fw_g f 388 (fw_g W 387 i)) + (1 : Int)) ∧ ((fw_g f 388 (fw_g W 387 i)) + (1 : Int)) ≤ 2147483647 ∧ (-2147483648 ≤ i + (1 : Int) ∧ i + (1 : Int) ≤ 2147483647 ∧ (jf fw_T (d + 3) 289 44 [(0, .inr (.inl 352)), (1, .inl n), (2, .inl (i + (1 : Int)))] [] (fw_up (fw_put [389, 388, 366, 371] 352 [] W f) 388 (fw_g W 387 i) ((fw_g f 388 (fw_g W 387 i)) + (1 : Int))) Post))))))))) :
    jf fw_T (d + 3) 289 44 [(0, .inr (.inl 352)), (1, .inl n), (2, .inl i)] [] (fw_put [389, 388, 366, 371] 352 [] W f) Post := fw_ok (n := 19) (ss := [(2, [0, 1, 2]), (24, [0, 1, 2]), (44, [0, 1, 2]), (74, [0, 1, 2]), (83, [0, 1, 2, 3]), (120, [0, 1, 2, 3])]) (hv := []) fr_289_ok fm_ok (ct_growsFrom_ok d) hw_

theorem s_growsFrom_24 {Post : Option fw_V → fw_W → Prop} {d : Nat} {W : fw_W} {n i : Int} {f : fw_W}
    (hw_ : ((n ≤ i → jf fw_T (d + 3) 289 44 [(0, .inr (.inl 352)), (1, .inl n), (2, .inl (0 : Int))] [] (fw_put [389, 388, 366, 371] 352 [] W f) Post) ∧ (i < n → 0 ≤ i ∧ i < 14 ∧ -2147483648 ≤ (1 : Int) ∧ (1 : Int) ≤ 2147483647 ∧ (-2147483648 ≤ i + (1 : Int) ∧ i + (1 : Int) ≤ 2147483647 ∧ (jf fw_T (d + 3) 289 24 [(0, .inr (.inl 352)), (1, .inl n), (2, .inl (i + (1 : Int)))] [] (fw_up (fw_put [389, 388, 366, 371] 352 [] W f) 388 i (1 : Int)) Post))))) :
    jf fw_T (d + 3) 289 24 [(0, .inr (.inl 352)), (1, .inl n), (2, .inl i)] [] (fw_put [389, 388, 366, 371] 352 [] W f) Post := fw_ok (n := 11) (ss := [(2, [0, 1, 2]), (24, [0, 1, 2]), (44, [0, 1, 2]), (74, [0, 1, 2]), (83, [0, 1, 2, 3]), (120, [0, 1, 2, 3])]) (hv := []) fr_289_ok fm_ok (ct_growsFrom_ok d) hw_

theorem s_growsFrom_2 {Post : Option fw_V → fw_W → Prop} {d : Nat} {W : fw_W} {n i : Int} {f : fw_W}
    (hw_ : (((196 : Int) ≤ i → jf fw_T (d + 3) 289 24 [(0, .inr (.inl 352)), (1, .inl n), (2, .inl (0 : Int))] [] (fw_put [389, 388, 366, 371] 352 [] W f) Post) ∧ (i < (196 : Int) → 0 ≤ i ∧ i < 196 ∧ -2147483648 ≤ (0 : Int) ∧ (0 : Int) ≤ 2147483647 ∧ (-2147483648 ≤ i + (1 : Int) ∧ i + (1 : Int) ≤ 2147483647 ∧ (jf fw_T (d + 3) 289 2 [(0, .inr (.inl 352)), (1, .inl n), (2, .inl (i + (1 : Int)))] [] (fw_up (fw_put [389, 388, 366, 371] 352 [] W f) 389 i (0 : Int)) Post))))) :
    jf fw_T (d + 3) 289 2 [(0, .inr (.inl 352)), (1, .inl n), (2, .inl i)] [] (fw_put [389, 388, 366, 371] 352 [] W f) Post := fw_ok (n := 11) (ss := [(2, [0, 1, 2]), (24, [0, 1, 2]), (44, [0, 1, 2]), (74, [0, 1, 2]), (83, [0, 1, 2, 3]), (120, [0, 1, 2, 3])]) (hv := []) fr_289_ok fm_ok (ct_growsFrom_ok d) hw_

theorem lm_growsFrom_83 {Post : Option fw_V → fw_W → Prop} {d : Nat} {W : fw_W} {n : Int} (hpre : (2 ≤ n ∧ n ≤ 14) ∧ (∀ i_, 0 ≤ i_ → i_ < n - 2 → 0 ≤ (fw_g W 387 i_) ∧ (fw_g W 387 i_) < n) ∧ 0 ≤ (fw_g W 366 1) ∧ (fw_g W 366 1) ≤ 999) (hP : ∀ (W2 : fw_W), fw_sm [389, 388, 366, 371] 352 [] W W2 → (mt W2 ∧ (fw_g W2 366 0) = n ∧ ∀ x_, 1 ≤ x_ → x_ < n → (fw_g W2 366 (3 + 3 * x_)) = 1) → Post none W2) (M74 : Int) (h74 : ∀ (i : Int) (f : fw_W), (0 ≤ i ∧ i ≤ n - 2 ∧ (fw_g f 366 1) = fw_g W 366 1) ∧ pf_ok n (fun z_ => (fw_g W 387 z_)) (fun z_ => (fw_g f 388 z_)) (fun a_ b_ => (fw_g f 389 (14 * a_ + b_))) i → (n - i) < M74 → jf fw_T (d + 3) 289 74 [(0, .inr (.inl 352)), (1, .inl n), (2, .inl i)] [] (fw_put [389, 388, 366, 371] 352 [] W f) Post) : ∀ (m : Nat) (i h : Int) (f : fw_W), (n - h).toNat = m → ((0 ≤ h ∧ 0 ≤ i ∧ i < n - 2 ∧ (fw_g f 366 1) = fw_g W 366 1) ∧ pf_ok n (fun z_ => (fw_g W 387 z_)) (fun z_ => (fw_g f 388 z_)) (fun a_ b_ => (fw_g f 389 (14 * a_ + b_))) i ∧ ∀ x_, 0 ≤ x_ → x_ < h → (fw_g f 388 x_) ≠ 1) → (n - i) ≤ M74 → jf fw_T (d + 3) 289 83 [(0, .inr (.inl 352)), (1, .inl n), (2, .inl i), (3, .inl h)] [] (fw_put [389, 388, 366, 371] 352 [] W f) Post := by
  intro m
  induction m using Nat.strongRecOn with
  | ind m ih =>
    intro i h f hm hi e74
    refine jf_rng (fun hrg => ?_)
    have hrg : -2147483648 ≤ n ∧ n ≤ 2147483647 ∧ -2147483648 ≤ i ∧ i ≤ 2147483647 ∧ -2147483648 ≤ h ∧ h ≤ 2147483647 ∧ True := hrg
    refine s_growsFrom_83 ?_
    have hi1 := hi.1
    have hl : h < n := by
      obtain ⟨l, l1, l2, l3⟩ := pf_end hi.2.1 (by omega) (by omega)
      apply Classical.byContradiction
      intro hc
      exact hi.2.2 l l1 (by omega) l3
    have hbb : 0 ≤ (fw_g W 387 i) ∧ (fw_g W 387 i) < n ∧ 2 ≤ (fw_g f 388 (fw_g W 387 i)) ∧ (fw_g f 388 (fw_g W 387 i)) ≤ n ∧ ((fw_g f 388 h) = 1 → h ≠ (fw_g W 387 i)) := by
      have a := hpre.2.1 i hi1.2.1 hi1.2.2.1
      have b : 2 ≤ (fw_g f 388 (fw_g W 387 i)) := pf_b hi.2.1 (by omega) (by omega) a.1 a.2
      have c := pf_bd hi.2.1 (by omega) (by omega) a.1 a.2
      exact ⟨a.1, a.2, b, c.2, fun z w => by rw [← w] at b; omega⟩
    repeat' (first
      | (exact True.intro)
      | (exact hpre.1)
      | (refine And.intro ?_ ?_)
      | (refine (h74 _ _ ?_ (by omega)); (
        rename_i f2 hf2
        obtain ⟨j1, j2⟩ := hf2
        have hb1 := hpre.2.1 i hi1.2.1 hi1.2.2.1
        have hb2 := hbb
        refine ⟨⟨by omega, by omega, hi1.2.2.2⟩, pf_step hi.2.1 (by omega) (by omega) (e := h) (b := (fw_g W 387 i)) rfl hb1.1 hb1.2 (by omega) hl (by show (fw_g f 388 h) = 1; omega) ?_ ?_ (fun x x1 x2 x3 x4 => ?_) (fun x y x1 x2 y1 y2 z => ?_) ?_ ?_⟩
        · show fw_g f2 388 h = 0
          rw [j1 h (by omega), if_neg (by omega), if_pos rfl]; omega
        · show fw_g f2 388 ((fw_g W 387 i)) = (fw_g f 388 (fw_g W 387 i)) - 1
          rw [j1 _ hb1.1, if_pos rfl]
        · show fw_g f2 388 x = (fw_g f 388 x)
          rw [j1 x x1, if_neg (fun z => x4 z.symm), if_neg (fun z => x3 z.symm)]
        · show fw_g f2 389 (14 * x + y) = 1
          have z2 : (fw_g f 389 (14 * x + y)) = 1 := z
          rw [j2 _ (by omega)]
          split
          · rfl
          · split
            · rfl
            · exact z2
        · show fw_g f2 389 (14 * h + (fw_g W 387 i)) = 1
          rw [j2 _ (by omega)]
          split
          · rfl
          · rw [if_pos rfl]
        · show fw_g f2 389 (14 * (fw_g W 387 i) + h) = 1
          rw [j2 _ (by omega), if_pos rfl]))
      | (refine jf_put (S := [389, 388, 366, 371]) (o := 352) (F := []) (W := W) (by repeat (first | exact fw_sm_refl | exact fw_sm_put0 | refine fw_sm_arr ?_ rfl | refine fw_sm_up ?_ rfl | refine fw_sm_put ?_ rfl | refine fw_sm_cp ?_ rfl)) (h74 _ _ ?_ (by omega)); (
        rename_i f2 hf2
        obtain ⟨j1, j2⟩ := hf2
        have hb1 := hpre.2.1 i hi1.2.1 hi1.2.2.1
        have hb2 := hbb
        refine ⟨⟨by omega, by omega, hi1.2.2.2⟩, pf_step hi.2.1 (by omega) (by omega) (e := h) (b := (fw_g W 387 i)) rfl hb1.1 hb1.2 (by omega) hl (by show (fw_g f 388 h) = 1; omega) ?_ ?_ (fun x x1 x2 x3 x4 => ?_) (fun x y x1 x2 y1 y2 z => ?_) ?_ ?_⟩
        · show fw_g f2 388 h = 0
          rw [j1 h (by omega), if_neg (by omega), if_pos rfl]; omega
        · show fw_g f2 388 ((fw_g W 387 i)) = (fw_g f 388 (fw_g W 387 i)) - 1
          rw [j1 _ hb1.1, if_pos rfl]
        · show fw_g f2 388 x = (fw_g f 388 x)
          rw [j1 x x1, if_neg (fun z => x4 z.symm), if_neg (fun z => x3 z.symm)]
        · show fw_g f2 389 (14 * x + y) = 1
          have z2 : (fw_g f 389 (14 * x + y)) = 1 := z
          rw [j2 _ (by omega)]
          split
          · rfl
          · split
            · rfl
            · exact z2
        · show fw_g f2 389 (14 * h + (fw_g W 387 i)) = 1
          rw [j2 _ (by omega)]
          split
          · rfl
          · rw [if_pos rfl]
        · show fw_g f2 389 (14 * (fw_g W 387 i) + h) = 1
          rw [j2 _ (by omega), if_pos rfl]))
      | (refine (ih _ (by omega) _ _ _ rfl ?_ (by omega)); (
        refine ⟨by omega, hi.2.1, fun x x1 x2 => ?_⟩
        by_cases e : x = h
        · rw [e]; omega
        · exact hi.2.2 x x1 (by omega)))
      | (refine jf_put (S := [389, 388, 366, 371]) (o := 352) (F := []) (W := W) (by repeat (first | exact fw_sm_refl | exact fw_sm_put0 | refine fw_sm_arr ?_ rfl | refine fw_sm_up ?_ rfl | refine fw_sm_put ?_ rfl | refine fw_sm_cp ?_ rfl)) (ih _ (by omega) _ _ _ rfl ?_ (by omega)); (
        refine ⟨by omega, hi.2.1, fun x x1 x2 => ?_⟩
        by_cases e : x = h
        · rw [e]; omega
        · exact hi.2.2 x x1 (by omega)))
      | (refine hP _ (by repeat (first | exact fw_sm_refl | exact fw_sm_put0 | refine fw_sm_arr ?_ rfl | refine fw_sm_up ?_ rfl | refine fw_sm_put ?_ rfl | refine fw_sm_cp ?_ rfl)) ?_; (
        rename_i f5 hf5
        obtain ⟨q1, q2, q3, q4⟩ := hf5
        have hs := hpre.2.2
        have key : 0 ≤ fw_g f5 366 0 ∧ fw_g f5 366 0 ≤ 14 ∧ tr (fw_g f5 366 0) (fun h => fw_g f5 366 (2 + 3 * h)) ∧ (∀ h, 1 ≤ h → h < fw_g f5 366 0 → (1 ≤ fw_g f5 366 (3 + 3 * h) ∧ fw_g f5 366 (3 + 3 * h) ≤ 99)) ∧ 0 ≤ fw_g f5 366 1 ∧ fw_g f5 366 1 ≤ 999 := by
          have e1 : fw_g f5 366 1 = fw_g W 366 1 := q2.trans hi1.2.2
          rw [q1, e1]
          refine ⟨by omega, by omega, q3, fun x x1 x2 => ?_, by omega, by omega⟩
          have := q4 x x1 x2
          omega
        exact ⟨key, q1, q4⟩))
      | omega
      | (intro _))
theorem lm_growsFrom_120 {Post : Option fw_V → fw_W → Prop} {d : Nat} {W : fw_W} {n : Int} (hpre : (2 ≤ n ∧ n ≤ 14) ∧ (∀ i_, 0 ≤ i_ → i_ < n - 2 → 0 ≤ (fw_g W 387 i_) ∧ (fw_g W 387 i_) < n) ∧ 0 ≤ (fw_g W 366 1) ∧ (fw_g W 366 1) ≤ 999) (hP : ∀ (W2 : fw_W), fw_sm [389, 388, 366, 371] 352 [] W W2 → (mt W2 ∧ (fw_g W2 366 0) = n ∧ ∀ x_, 1 ≤ x_ → x_ < n → (fw_g W2 366 (3 + 3 * x_)) = 1) → Post none W2)  : ∀ (m : Nat) (i h : Int) (f : fw_W), (n - h).toNat = m → (0 ≤ h ∧ h ≤ n ∧ (fw_g f 366 1) = fw_g W 366 1) ∧ pl_ok n (fun z_ => (fw_g W 387 z_)) (fun z_ => (fw_g f 388 z_)) (fun a_ b_ => (fw_g f 389 (14 * a_ + b_))) i h → jf fw_T (d + 3) 289 120 [(0, .inr (.inl 352)), (1, .inl n), (2, .inl i), (3, .inl h)] [] (fw_put [389, 388, 366, 371] 352 [] W f) Post := by
  intro m
  induction m using Nat.strongRecOn with
  | ind m ih =>
    intro i h f hm hi
    refine jf_rng (fun hrg => ?_)
    have hrg : -2147483648 ≤ n ∧ n ≤ 2147483647 ∧ -2147483648 ≤ i ∧ i ≤ 2147483647 ∧ -2147483648 ≤ h ∧ h ≤ 2147483647 ∧ True := hrg
    refine s_growsFrom_120 ?_
    have hi1 := hi.1
    have hr := pl_rng hi.2
    have hr2 : i = -1 ∨ (0 ≤ i ∧ i < h ∧ i < n ∧ (fw_g f 388 i) = 1) := hr
    repeat' (first
      | (exact pl_end (by omega) hi.2 (by omega))
      | (exact True.intro)
      | (exact hpre.1)
      | (refine And.intro ?_ ?_)
      | (refine (ih _ (by omega) _ _ _ rfl ?_); (
        first
          | exact ⟨by omega, pl_skip hi.2 (by omega) (by omega) (by show (fw_g f 388 h) ≠ 1; omega)⟩
          | exact ⟨by omega, pl_first hi.2 (by omega) (by omega) (by omega) (by show (fw_g f 388 h) = 1; omega)⟩
          | (rename_i f2 hf2 hc2
             obtain ⟨j1, j2⟩ := hf2
             refine ⟨⟨by omega, by omega, hi1.2.2⟩, pl_join (by omega) hi.2 (by omega) (by omega) (by omega) (by show (fw_g f 388 h) = 1; omega) ?_ ?_ (fun x x1 x2 x3 x4 => ?_) (fun x y x1 x2 y1 y2 z => ?_) ?_ ?_⟩
             · show fw_g f2 388 i = (fw_g f 388 i) - 1
               rw [j1 i (by omega), if_neg (by omega), if_pos rfl]
             · show fw_g f2 388 h = (fw_g f 388 h) - 1
               rw [j1 h (by omega), if_pos rfl]
             · show fw_g f2 388 x = (fw_g f 388 x)
               rw [j1 x x1, if_neg (fun z => x4 z.symm), if_neg (fun z => x3 z.symm)]
             · show fw_g f2 389 (14 * x + y) = 1
               have z2 : (fw_g f 389 (14 * x + y)) = 1 := z
               rw [j2 _ (by omega)]
               split
               · rfl
               · split
                 · rfl
                 · exact z2
             · show fw_g f2 389 (14 * i + h) = 1
               rw [j2 _ (by omega)]
               split
               · rfl
               · rw [if_pos rfl]
             · show fw_g f2 389 (14 * h + i) = 1
               rw [j2 _ (by omega), if_pos rfl])))
      | (refine jf_put (S := [389, 388, 366, 371]) (o := 352) (F := []) (W := W) (by repeat (first | exact fw_sm_refl | exact fw_sm_put0 | refine fw_sm_arr ?_ rfl | refine fw_sm_up ?_ rfl | refine fw_sm_put ?_ rfl | refine fw_sm_cp ?_ rfl)) (ih _ (by omega) _ _ _ rfl ?_); (
        first
          | exact ⟨by omega, pl_skip hi.2 (by omega) (by omega) (by show (fw_g f 388 h) ≠ 1; omega)⟩
          | exact ⟨by omega, pl_first hi.2 (by omega) (by omega) (by omega) (by show (fw_g f 388 h) = 1; omega)⟩
          | (rename_i f2 hf2 hc2
             obtain ⟨j1, j2⟩ := hf2
             refine ⟨⟨by omega, by omega, hi1.2.2⟩, pl_join (by omega) hi.2 (by omega) (by omega) (by omega) (by show (fw_g f 388 h) = 1; omega) ?_ ?_ (fun x x1 x2 x3 x4 => ?_) (fun x y x1 x2 y1 y2 z => ?_) ?_ ?_⟩
             · show fw_g f2 388 i = (fw_g f 388 i) - 1
               rw [j1 i (by omega), if_neg (by omega), if_pos rfl]
             · show fw_g f2 388 h = (fw_g f 388 h) - 1
               rw [j1 h (by omega), if_pos rfl]
             · show fw_g f2 388 x = (fw_g f 388 x)
               rw [j1 x x1, if_neg (fun z => x4 z.symm), if_neg (fun z => x3 z.symm)]
             · show fw_g f2 389 (14 * x + y) = 1
               have z2 : (fw_g f 389 (14 * x + y)) = 1 := z
               rw [j2 _ (by omega)]
               split
               · rfl
               · split
                 · rfl
                 · exact z2
             · show fw_g f2 389 (14 * i + h) = 1
               rw [j2 _ (by omega)]
               split
               · rfl
               · rw [if_pos rfl]
             · show fw_g f2 389 (14 * h + i) = 1
               rw [j2 _ (by omega), if_pos rfl])))
      | (refine hP _ (by repeat (first | exact fw_sm_refl | exact fw_sm_put0 | refine fw_sm_arr ?_ rfl | refine fw_sm_up ?_ rfl | refine fw_sm_put ?_ rfl | refine fw_sm_cp ?_ rfl)) ?_; (
        rename_i f5 hf5
        obtain ⟨q1, q2, q3, q4⟩ := hf5
        have hs := hpre.2.2
        have key : 0 ≤ fw_g f5 366 0 ∧ fw_g f5 366 0 ≤ 14 ∧ tr (fw_g f5 366 0) (fun h => fw_g f5 366 (2 + 3 * h)) ∧ (∀ h, 1 ≤ h → h < fw_g f5 366 0 → (1 ≤ fw_g f5 366 (3 + 3 * h) ∧ fw_g f5 366 (3 + 3 * h) ≤ 99)) ∧ 0 ≤ fw_g f5 366 1 ∧ fw_g f5 366 1 ≤ 999 := by
          have e1 : fw_g f5 366 1 = fw_g W 366 1 := q2.trans hi1.2.2
          rw [q1, e1]
          refine ⟨by omega, by omega, q3, fun x x1 x2 => ?_, by omega, by omega⟩
          have := q4 x x1 x2
          omega
        exact ⟨key, q1, q4⟩))
      | omega
      | (intro _))
theorem lm_growsFrom_74 {Post : Option fw_V → fw_W → Prop} {d : Nat} {W : fw_W} {n : Int} (hpre : (2 ≤ n ∧ n ≤ 14) ∧ (∀ i_, 0 ≤ i_ → i_ < n - 2 → 0 ≤ (fw_g W 387 i_) ∧ (fw_g W 387 i_) < n) ∧ 0 ≤ (fw_g W 366 1) ∧ (fw_g W 366 1) ≤ 999) (hP : ∀ (W2 : fw_W), fw_sm [389, 388, 366, 371] 352 [] W W2 → (mt W2 ∧ (fw_g W2 366 0) = n ∧ ∀ x_, 1 ≤ x_ → x_ < n → (fw_g W2 366 (3 + 3 * x_)) = 1) → Post none W2)  : ∀ (m : Nat) (i : Int) (f : fw_W), (n - i).toNat = m → (0 ≤ i ∧ i ≤ n - 2 ∧ (fw_g f 366 1) = fw_g W 366 1) ∧ pf_ok n (fun z_ => (fw_g W 387 z_)) (fun z_ => (fw_g f 388 z_)) (fun a_ b_ => (fw_g f 389 (14 * a_ + b_))) i → jf fw_T (d + 3) 289 74 [(0, .inr (.inl 352)), (1, .inl n), (2, .inl i)] [] (fw_put [389, 388, 366, 371] 352 [] W f) Post := by
  intro m
  induction m using Nat.strongRecOn with
  | ind m ih =>
    intro i f hm hi
    refine jf_rng (fun hrg => ?_)
    have hrg : -2147483648 ≤ n ∧ n ≤ 2147483647 ∧ -2147483648 ≤ i ∧ i ≤ 2147483647 ∧ True := hrg
    refine s_growsFrom_74 ?_
    have hi1 := hi.1
    repeat' (first
      | (exact True.intro)
      | (exact hpre.1)
      | (refine And.intro ?_ ?_)
      | (refine (ih _ (by omega) _ _ rfl ?_); (first | omega | trivial | (simp (config := { decide := true }) only [fg_in, fg_fin, fg_out, fg_fout, fg_up, fg_same, true_and, and_true] <;> omega)))
      | (refine jf_put (S := [389, 388, 366, 371]) (o := 352) (F := []) (W := W) (by repeat (first | exact fw_sm_refl | exact fw_sm_put0 | refine fw_sm_arr ?_ rfl | refine fw_sm_up ?_ rfl | refine fw_sm_put ?_ rfl | refine fw_sm_cp ?_ rfl)) (ih _ (by omega) _ _ rfl ?_); (first | omega | trivial | (simp (config := { decide := true }) only [fg_in, fg_fin, fg_out, fg_fout, fg_up, fg_same, true_and, and_true] <;> omega)))
      | (refine (lm_growsFrom_83 (n := n) hpre hP (n - i) (fun a0 af hi hl => ih _ (by omega) a0 af rfl hi) _ _ _ _ rfl ?_ (by omega)); (exact ⟨by omega, hi.2, fun x x1 x2 => by omega⟩))
      | (refine jf_put (S := [389, 388, 366, 371]) (o := 352) (F := []) (W := W) (by repeat (first | exact fw_sm_refl | exact fw_sm_put0 | refine fw_sm_arr ?_ rfl | refine fw_sm_up ?_ rfl | refine fw_sm_put ?_ rfl | refine fw_sm_cp ?_ rfl)) (lm_growsFrom_83 (n := n) hpre hP (n - i) (fun a0 af hi hl => ih _ (by omega) a0 af rfl hi) _ _ _ _ rfl ?_ (by omega)); (exact ⟨by omega, hi.2, fun x x1 x2 => by omega⟩))
      | (refine (lm_growsFrom_120 (n := n) hpre hP _ _ _ _ rfl ?_); (
        have ei : i = n - 2 := by omega
        rw [ei] at hi
        exact ⟨⟨by omega, by omega, hi1.2.2⟩, pl_init hi.2⟩))
      | (refine jf_put (S := [389, 388, 366, 371]) (o := 352) (F := []) (W := W) (by repeat (first | exact fw_sm_refl | exact fw_sm_put0 | refine fw_sm_arr ?_ rfl | refine fw_sm_up ?_ rfl | refine fw_sm_put ?_ rfl | refine fw_sm_cp ?_ rfl)) (lm_growsFrom_120 (n := n) hpre hP _ _ _ _ rfl ?_); (
        have ei : i = n - 2 := by omega
        rw [ei] at hi
        exact ⟨⟨by omega, by omega, hi1.2.2⟩, pl_init hi.2⟩))
      | (refine hP _ (by repeat (first | exact fw_sm_refl | exact fw_sm_put0 | refine fw_sm_arr ?_ rfl | refine fw_sm_up ?_ rfl | refine fw_sm_put ?_ rfl | refine fw_sm_cp ?_ rfl)) ?_; (
        rename_i f5 hf5
        obtain ⟨q1, q2, q3, q4⟩ := hf5
        have hs := hpre.2.2
        have key : 0 ≤ fw_g f5 366 0 ∧ fw_g f5 366 0 ≤ 14 ∧ tr (fw_g f5 366 0) (fun h => fw_g f5 366 (2 + 3 * h)) ∧ (∀ h, 1 ≤ h → h < fw_g f5 366 0 → (1 ≤ fw_g f5 366 (3 + 3 * h) ∧ fw_g f5 366 (3 + 3 * h) ≤ 99)) ∧ 0 ≤ fw_g f5 366 1 ∧ fw_g f5 366 1 ≤ 999 := by
          have e1 : fw_g f5 366 1 = fw_g W 366 1 := q2.trans hi1.2.2
          rw [q1, e1]
          refine ⟨by omega, by omega, q3, fun x x1 x2 => ?_, by omega, by omega⟩
          have := q4 x x1 x2
          omega
        exact ⟨key, q1, q4⟩))
      | omega
      | (intro _))
theorem lm_growsFrom_44 {Post : Option fw_V → fw_W → Prop} {d : Nat} {W : fw_W} {n : Int} (hpre : (2 ≤ n ∧ n ≤ 14) ∧ (∀ i_, 0 ≤ i_ → i_ < n - 2 → 0 ≤ (fw_g W 387 i_) ∧ (fw_g W 387 i_) < n) ∧ 0 ≤ (fw_g W 366 1) ∧ (fw_g W 366 1) ≤ 999) (hP : ∀ (W2 : fw_W), fw_sm [389, 388, 366, 371] 352 [] W W2 → (mt W2 ∧ (fw_g W2 366 0) = n ∧ ∀ x_, 1 ≤ x_ → x_ < n → (fw_g W2 366 (3 + 3 * x_)) = 1) → Post none W2)  : ∀ (m : Nat) (i : Int) (f : fw_W), (n - i).toNat = m → ((0 ≤ i ∧ i ≤ n - 2 ∧ (fw_g f 366 1) = fw_g W 366 1) ∧ (∀ x_, 0 ≤ x_ → x_ < n → (fw_g f 388 x_) = 1 + ((fd_c (fun z_ => (fw_g W 387 z_)) (i).toNat x_ : Nat) : Int)) ∧ sml (fun z_ => (fw_g f 388 z_)) n.toNat = n + i) → jf fw_T (d + 3) 289 44 [(0, .inr (.inl 352)), (1, .inl n), (2, .inl i)] [] (fw_put [389, 388, 366, 371] 352 [] W f) Post := by
  intro m
  induction m using Nat.strongRecOn with
  | ind m ih =>
    intro i f hm hi
    refine jf_rng (fun hrg => ?_)
    have hrg : -2147483648 ≤ n ∧ n ≤ 2147483647 ∧ -2147483648 ≤ i ∧ i ≤ 2147483647 ∧ True := hrg
    refine s_growsFrom_44 ?_
    have hi1 := hi.1
    have hb : i < n - 2 → 0 ≤ (fw_g W 387 i) ∧ (fw_g W 387 i) < n ∧ 1 ≤ (fw_g f 388 (fw_g W 387 i)) ∧ (fw_g f 388 (fw_g W 387 i)) ≤ n := fun z => by
      have a := hpre.2.1 i hi1.1 z
      have b := hi.2.1 ((fw_g W 387 i)) a.1 a.2
      have c := fd_le (fun z_ => (fw_g W 387 z_)) i.toNat ((fw_g W 387 i))
      exact ⟨a.1, a.2, by omega, by omega⟩
    repeat' (first
      | (exact True.intro)
      | (exact hpre.1)
      | (refine And.intro ?_ ?_)
      | (refine (ih _ (by omega) _ _ rfl ?_); (
        have hb1 := hb (by omega)
        have hu : ∀ x, 0 ≤ x → fw_g (fw_up (fw_put [389, 388, 366, 371] 352 [] W f) 388 ((fw_g W 387 i)) ((fw_g f 388 (fw_g W 387 i)) + 1)) 388 x = if (fw_g W 387 i) = x then (fw_g f 388 (fw_g W 387 i)) + 1 else (fw_g f 388 x) := fun x x1 => fg_if (by omega) x1 (by omega) (by omega)
        refine ⟨⟨by omega, by omega, (fg_up rfl).trans hi1.2.2⟩, fun x x1 x2 => ?_, ?_⟩
        · have hs := fd_c_s (fun z_ => (fw_g W 387 z_)) i x hi1.1
          have h0 := hi.2.1 x x1 x2
          rw [hu x x1, hs]
          by_cases e : (fw_g W 387 i) = x
          · rw [if_pos e, if_pos e, e]; omega
          · rw [if_neg e, if_neg e]; omega
        · have s := sml_up (L := (fun z_ => (fw_g f 388 z_))) (L' := fun z_ => fw_g (fw_up (fw_put [389, 388, 366, 371] 352 [] W f) 388 ((fw_g W 387 i)) ((fw_g f 388 (fw_g W 387 i)) + 1)) 388 z_) hb1.1 n.toNat (by omega) (fun y y1 y2 y3 => by
            show fw_g _ 388 y = (fw_g f 388 y)
            rw [hu y y1, if_neg (fun z => y3 z.symm)])
          have h0 := hi.2.2
          have h2 := hu ((fw_g W 387 i)) hb1.1
          rw [if_pos rfl] at h2
          refine s.trans ?_
          show sml (fun z_ => (fw_g f 388 z_)) n.toNat + (fw_g _ 388 ((fw_g W 387 i)) - (fw_g f 388 (fw_g W 387 i))) = n + (i + 1)
          rw [h2]
          omega))
      | (refine jf_put (S := [389, 388, 366, 371]) (o := 352) (F := []) (W := W) (by repeat (first | exact fw_sm_refl | exact fw_sm_put0 | refine fw_sm_arr ?_ rfl | refine fw_sm_up ?_ rfl | refine fw_sm_put ?_ rfl | refine fw_sm_cp ?_ rfl)) (ih _ (by omega) _ _ rfl ?_); (
        have hb1 := hb (by omega)
        have hu : ∀ x, 0 ≤ x → fw_g (fw_up (fw_put [389, 388, 366, 371] 352 [] W f) 388 ((fw_g W 387 i)) ((fw_g f 388 (fw_g W 387 i)) + 1)) 388 x = if (fw_g W 387 i) = x then (fw_g f 388 (fw_g W 387 i)) + 1 else (fw_g f 388 x) := fun x x1 => fg_if (by omega) x1 (by omega) (by omega)
        refine ⟨⟨by omega, by omega, (fg_up rfl).trans hi1.2.2⟩, fun x x1 x2 => ?_, ?_⟩
        · have hs := fd_c_s (fun z_ => (fw_g W 387 z_)) i x hi1.1
          have h0 := hi.2.1 x x1 x2
          rw [hu x x1, hs]
          by_cases e : (fw_g W 387 i) = x
          · rw [if_pos e, if_pos e, e]; omega
          · rw [if_neg e, if_neg e]; omega
        · have s := sml_up (L := (fun z_ => (fw_g f 388 z_))) (L' := fun z_ => fw_g (fw_up (fw_put [389, 388, 366, 371] 352 [] W f) 388 ((fw_g W 387 i)) ((fw_g f 388 (fw_g W 387 i)) + 1)) 388 z_) hb1.1 n.toNat (by omega) (fun y y1 y2 y3 => by
            show fw_g _ 388 y = (fw_g f 388 y)
            rw [hu y y1, if_neg (fun z => y3 z.symm)])
          have h0 := hi.2.2
          have h2 := hu ((fw_g W 387 i)) hb1.1
          rw [if_pos rfl] at h2
          refine s.trans ?_
          show sml (fun z_ => (fw_g f 388 z_)) n.toNat + (fw_g _ 388 ((fw_g W 387 i)) - (fw_g f 388 (fw_g W 387 i))) = n + (i + 1)
          rw [h2]
          omega))
      | (refine (lm_growsFrom_74 (n := n) hpre hP _ _ _ rfl ?_); (
        have ei : i = n - 2 := by omega
        refine ⟨⟨by omega, by omega, hi1.2.2⟩, pf_init (by omega) (fun x x1 x2 => ?_) ?_⟩
        · rw [← ei]; exact hi.2.1 x x1 x2
        · refine hi.2.2.trans ?_; omega))
      | (refine jf_put (S := [389, 388, 366, 371]) (o := 352) (F := []) (W := W) (by repeat (first | exact fw_sm_refl | exact fw_sm_put0 | refine fw_sm_arr ?_ rfl | refine fw_sm_up ?_ rfl | refine fw_sm_put ?_ rfl | refine fw_sm_cp ?_ rfl)) (lm_growsFrom_74 (n := n) hpre hP _ _ _ rfl ?_); (
        have ei : i = n - 2 := by omega
        refine ⟨⟨by omega, by omega, hi1.2.2⟩, pf_init (by omega) (fun x x1 x2 => ?_) ?_⟩
        · rw [← ei]; exact hi.2.1 x x1 x2
        · refine hi.2.2.trans ?_; omega))
      | (refine hP _ (by repeat (first | exact fw_sm_refl | exact fw_sm_put0 | refine fw_sm_arr ?_ rfl | refine fw_sm_up ?_ rfl | refine fw_sm_put ?_ rfl | refine fw_sm_cp ?_ rfl)) ?_; (
        rename_i f5 hf5
        obtain ⟨q1, q2, q3, q4⟩ := hf5
        have hs := hpre.2.2
        have key : 0 ≤ fw_g f5 366 0 ∧ fw_g f5 366 0 ≤ 14 ∧ tr (fw_g f5 366 0) (fun h => fw_g f5 366 (2 + 3 * h)) ∧ (∀ h, 1 ≤ h → h < fw_g f5 366 0 → (1 ≤ fw_g f5 366 (3 + 3 * h) ∧ fw_g f5 366 (3 + 3 * h) ≤ 99)) ∧ 0 ≤ fw_g f5 366 1 ∧ fw_g f5 366 1 ≤ 999 := by
          have e1 : fw_g f5 366 1 = fw_g W 366 1 := q2.trans hi1.2.2
          rw [q1, e1]
          refine ⟨by omega, by omega, q3, fun x x1 x2 => ?_, by omega, by omega⟩
          have := q4 x x1 x2
          omega
        exact ⟨key, q1, q4⟩))
      | omega
      | (intro _))
theorem lm_growsFrom_24 {Post : Option fw_V → fw_W → Prop} {d : Nat} {W : fw_W} {n : Int} (hpre : (2 ≤ n ∧ n ≤ 14) ∧ (∀ i_, 0 ≤ i_ → i_ < n - 2 → 0 ≤ (fw_g W 387 i_) ∧ (fw_g W 387 i_) < n) ∧ 0 ≤ (fw_g W 366 1) ∧ (fw_g W 366 1) ≤ 999) (hP : ∀ (W2 : fw_W), fw_sm [389, 388, 366, 371] 352 [] W W2 → (mt W2 ∧ (fw_g W2 366 0) = n ∧ ∀ x_, 1 ≤ x_ → x_ < n → (fw_g W2 366 (3 + 3 * x_)) = 1) → Post none W2)  : ∀ (m : Nat) (i : Int) (f : fw_W), (n - i).toNat = m → ((0 ≤ i ∧ (fw_g f 366 1) = fw_g W 366 1) ∧ ∀ x_, 0 ≤ x_ → x_ < i → (fw_g f 388 x_) = 1) → jf fw_T (d + 3) 289 24 [(0, .inr (.inl 352)), (1, .inl n), (2, .inl i)] [] (fw_put [389, 388, 366, 371] 352 [] W f) Post := by
  intro m
  induction m using Nat.strongRecOn with
  | ind m ih =>
    intro i f hm hi
    refine jf_rng (fun hrg => ?_)
    have hrg : -2147483648 ≤ n ∧ n ≤ 2147483647 ∧ -2147483648 ≤ i ∧ i ≤ 2147483647 ∧ True := hrg
    refine s_growsFrom_24 ?_
    have hi1 := hi.1
    repeat' (first
      | (exact True.intro)
      | (exact hpre.1)
      | (refine And.intro ?_ ?_)
      | (refine (ih _ (by omega) _ _ rfl ?_); (
        refine ⟨⟨by omega, (fg_up rfl).trans hi1.2⟩, fun x x1 x2 => ?_⟩
        rw [fg_if (by omega) (by omega) (by omega) (by omega)]
        by_cases e : i = x
        · rw [if_pos e]
        · rw [if_neg e]; exact hi.2 x x1 (by omega)))
      | (refine jf_put (S := [389, 388, 366, 371]) (o := 352) (F := []) (W := W) (by repeat (first | exact fw_sm_refl | exact fw_sm_put0 | refine fw_sm_arr ?_ rfl | refine fw_sm_up ?_ rfl | refine fw_sm_put ?_ rfl | refine fw_sm_cp ?_ rfl)) (ih _ (by omega) _ _ rfl ?_); (
        refine ⟨⟨by omega, (fg_up rfl).trans hi1.2⟩, fun x x1 x2 => ?_⟩
        rw [fg_if (by omega) (by omega) (by omega) (by omega)]
        by_cases e : i = x
        · rw [if_pos e]
        · rw [if_neg e]; exact hi.2 x x1 (by omega)))
      | (refine (lm_growsFrom_44 (n := n) hpre hP _ _ _ rfl ?_); (
        refine ⟨⟨by omega, by omega, hi1.2⟩, fun x x1 x2 => ?_, ?_⟩
        · rw [hi.2 x x1 (by omega)]
          show (1 : Int) = 1 + ((fd_c (fun z_ => (fw_g W 387 z_)) 0 x : Nat) : Int)
          simp [fd_c]
        · rw [sml_one n.toNat (fun y y1 y2 => hi.2 y y1 (by omega))]; omega))
      | (refine jf_put (S := [389, 388, 366, 371]) (o := 352) (F := []) (W := W) (by repeat (first | exact fw_sm_refl | exact fw_sm_put0 | refine fw_sm_arr ?_ rfl | refine fw_sm_up ?_ rfl | refine fw_sm_put ?_ rfl | refine fw_sm_cp ?_ rfl)) (lm_growsFrom_44 (n := n) hpre hP _ _ _ rfl ?_); (
        refine ⟨⟨by omega, by omega, hi1.2⟩, fun x x1 x2 => ?_, ?_⟩
        · rw [hi.2 x x1 (by omega)]
          show (1 : Int) = 1 + ((fd_c (fun z_ => (fw_g W 387 z_)) 0 x : Nat) : Int)
          simp [fd_c]
        · rw [sml_one n.toNat (fun y y1 y2 => hi.2 y y1 (by omega))]; omega))
      | (refine hP _ (by repeat (first | exact fw_sm_refl | exact fw_sm_put0 | refine fw_sm_arr ?_ rfl | refine fw_sm_up ?_ rfl | refine fw_sm_put ?_ rfl | refine fw_sm_cp ?_ rfl)) ?_; (
        rename_i f5 hf5
        obtain ⟨q1, q2, q3, q4⟩ := hf5
        have hs := hpre.2.2
        have key : 0 ≤ fw_g f5 366 0 ∧ fw_g f5 366 0 ≤ 14 ∧ tr (fw_g f5 366 0) (fun h => fw_g f5 366 (2 + 3 * h)) ∧ (∀ h, 1 ≤ h → h < fw_g f5 366 0 → (1 ≤ fw_g f5 366 (3 + 3 * h) ∧ fw_g f5 366 (3 + 3 * h) ≤ 99)) ∧ 0 ≤ fw_g f5 366 1 ∧ fw_g f5 366 1 ≤ 999 := by
          have e1 : fw_g f5 366 1 = fw_g W 366 1 := q2.trans hi1.2.2
          rw [q1, e1]
          refine ⟨by omega, by omega, q3, fun x x1 x2 => ?_, by omega, by omega⟩
          have := q4 x x1 x2
          omega
        exact ⟨key, q1, q4⟩))
      | omega
      | (intro _))
theorem lm_growsFrom_2 {Post : Option fw_V → fw_W → Prop} {d : Nat} {W : fw_W} {n : Int} (hpre : (2 ≤ n ∧ n ≤ 14) ∧ (∀ i_, 0 ≤ i_ → i_ < n - 2 → 0 ≤ (fw_g W 387 i_) ∧ (fw_g W 387 i_) < n) ∧ 0 ≤ (fw_g W 366 1) ∧ (fw_g W 366 1) ≤ 999) (hP : ∀ (W2 : fw_W), fw_sm [389, 388, 366, 371] 352 [] W W2 → (mt W2 ∧ (fw_g W2 366 0) = n ∧ ∀ x_, 1 ≤ x_ → x_ < n → (fw_g W2 366 (3 + 3 * x_)) = 1) → Post none W2)  : ∀ (m : Nat) (i : Int) (f : fw_W), (196 - i).toNat = m → 0 ≤ i ∧ (fw_g f 366 1) = fw_g W 366 1 → jf fw_T (d + 3) 289 2 [(0, .inr (.inl 352)), (1, .inl n), (2, .inl i)] [] (fw_put [389, 388, 366, 371] 352 [] W f) Post := by
  intro m
  induction m using Nat.strongRecOn with
  | ind m ih =>
    intro i f hm hi
    refine jf_rng (fun hrg => ?_)
    have hrg : -2147483648 ≤ n ∧ n ≤ 2147483647 ∧ -2147483648 ≤ i ∧ i ≤ 2147483647 ∧ True := hrg
    refine s_growsFrom_2 ?_
    repeat' (first
      | (exact True.intro)
      | (exact hpre.1)
      | (refine And.intro ?_ ?_)
      | (refine (ih _ (by omega) _ _ rfl ?_); (exact ⟨by omega, (fg_up rfl).trans hi.2⟩))
      | (refine jf_put (S := [389, 388, 366, 371]) (o := 352) (F := []) (W := W) (by repeat (first | exact fw_sm_refl | exact fw_sm_put0 | refine fw_sm_arr ?_ rfl | refine fw_sm_up ?_ rfl | refine fw_sm_put ?_ rfl | refine fw_sm_cp ?_ rfl)) (ih _ (by omega) _ _ rfl ?_); (exact ⟨by omega, (fg_up rfl).trans hi.2⟩))
      | (refine (lm_growsFrom_24 (n := n) hpre hP _ _ _ rfl ?_); (exact ⟨⟨by omega, hi.2⟩, fun x x1 x2 => by omega⟩))
      | (refine jf_put (S := [389, 388, 366, 371]) (o := 352) (F := []) (W := W) (by repeat (first | exact fw_sm_refl | exact fw_sm_put0 | refine fw_sm_arr ?_ rfl | refine fw_sm_up ?_ rfl | refine fw_sm_put ?_ rfl | refine fw_sm_cp ?_ rfl)) (lm_growsFrom_24 (n := n) hpre hP _ _ _ rfl ?_); (exact ⟨⟨by omega, hi.2⟩, fun x x1 x2 => by omega⟩))
      | (refine hP _ (by repeat (first | exact fw_sm_refl | exact fw_sm_put0 | refine fw_sm_arr ?_ rfl | refine fw_sm_up ?_ rfl | refine fw_sm_put ?_ rfl | refine fw_sm_cp ?_ rfl)) ?_; (
        rename_i f5 hf5
        obtain ⟨q1, q2, q3, q4⟩ := hf5
        have hs := hpre.2.2
        have key : 0 ≤ fw_g f5 366 0 ∧ fw_g f5 366 0 ≤ 14 ∧ tr (fw_g f5 366 0) (fun h => fw_g f5 366 (2 + 3 * h)) ∧ (∀ h, 1 ≤ h → h < fw_g f5 366 0 → (1 ≤ fw_g f5 366 (3 + 3 * h) ∧ fw_g f5 366 (3 + 3 * h) ≤ 99)) ∧ 0 ≤ fw_g f5 366 1 ∧ fw_g f5 366 1 ≤ 999 := by
          have e1 : fw_g f5 366 1 = fw_g W 366 1 := q2.trans hi1.2.2
          rw [q1, e1]
          refine ⟨by omega, by omega, q3, fun x x1 x2 => ?_, by omega, by omega⟩
          have := q4 x x1 x2
          omega
        exact ⟨key, q1, q4⟩))
      | omega
      | (intro _))
def x_growsFrom : fw_X := fun as W Q => match as with
  | [.inr (.inl s_), .inl n] => fw_if (Nat.beq s_ 352) (((2 ≤ n ∧ n ≤ 14) ∧ (∀ i_, 0 ≤ i_ → i_ < n - 2 → 0 ≤ (fw_g W 387 i_) ∧ (fw_g W 387 i_) < n) ∧ 0 ≤ (fw_g W 366 1) ∧ (fw_g W 366 1) ≤ 999) ∧ (∀ (f : fw_W), (mt (fw_put [389, 388, 366, 371] 352 [] W f) ∧ (fw_g f 366 0) = n ∧ ∀ x_, 1 ≤ x_ → x_ < n → (fw_g f 366 (3 + 3 * x_)) = 1) → Q none (fw_put [389, 388, 366, 371] 352 [] W f)))
  | _ => False
theorem x_growsFrom_ok (d : Nat) (as : List fw_V) (W : fw_W) (Q : Option fw_V → fw_W → Prop) (hx : x_growsFrom as W Q) : jf fw_T (d + 3) 289 0 (fw_args 0 as) [] W Q := by
  unfold x_growsFrom at hx
  split at hx
  · rename_i s_ n
    obtain ⟨e_, hpre, hQ⟩ := fw_if_ok hx
    have e_ := Nat.eq_of_beq_eq_true e_
    subst e_
    have hP : ∀ (W2 : fw_W), fw_sm [389, 388, 366, 371] 352 [] W W2 → (mt W2 ∧ (fw_g W2 366 0) = n ∧ ∀ x_, 1 ≤ x_ → x_ < n → (fw_g W2 366 (3 + 3 * x_)) = 1) → Q none W2 := fun W2 hs hr => fw_sm_use (Q := fun Z => Q none Z) hs (hQ W2 (by rw [fw_sm_eq hs]; exact hr))
    refine s_growsFrom_0 ?_
    repeat' (first
      | (exact True.intro)
      | (exact hpre.1)
      | (refine And.intro ?_ ?_)
      | (refine jf_put (S := [389, 388, 366, 371]) (o := 352) (F := []) (W := W) (by repeat (first | exact fw_sm_refl | exact fw_sm_put0 | refine fw_sm_arr ?_ rfl | refine fw_sm_up ?_ rfl | refine fw_sm_put ?_ rfl | refine fw_sm_cp ?_ rfl)) (lm_growsFrom_2 (n := n) hpre hP _ _ _ rfl ?_); (exact ⟨by omega, rfl⟩))
      | (refine jf_put (S := [389, 388, 366, 371]) (o := 352) (F := []) (W := W) (by repeat (first | exact fw_sm_refl | exact fw_sm_put0 | refine fw_sm_arr ?_ rfl | refine fw_sm_up ?_ rfl | refine fw_sm_put ?_ rfl | refine fw_sm_cp ?_ rfl)) (lm_growsFrom_24 (n := n) hpre hP _ _ _ rfl ?_); (first | omega | trivial | (simp (config := { decide := true }) only [fg_in, fg_fin, fg_out, fg_fout, fg_up, fg_same, true_and, and_true] <;> omega)))
      | (refine jf_put (S := [389, 388, 366, 371]) (o := 352) (F := []) (W := W) (by repeat (first | exact fw_sm_refl | exact fw_sm_put0 | refine fw_sm_arr ?_ rfl | refine fw_sm_up ?_ rfl | refine fw_sm_put ?_ rfl | refine fw_sm_cp ?_ rfl)) (lm_growsFrom_44 (n := n) hpre hP _ _ _ rfl ?_); (first | omega | trivial | (simp (config := { decide := true }) only [fg_in, fg_fin, fg_out, fg_fout, fg_up, fg_same, true_and, and_true] <;> omega)))
      | (refine jf_put (S := [389, 388, 366, 371]) (o := 352) (F := []) (W := W) (by repeat (first | exact fw_sm_refl | exact fw_sm_put0 | refine fw_sm_arr ?_ rfl | refine fw_sm_up ?_ rfl | refine fw_sm_put ?_ rfl | refine fw_sm_cp ?_ rfl)) (lm_growsFrom_74 (n := n) hpre hP _ _ _ rfl ?_); (first | omega | trivial | (simp (config := { decide := true }) only [fg_in, fg_fin, fg_out, fg_fout, fg_up, fg_same, true_and, and_true] <;> omega)))
      | (refine jf_put (S := [389, 388, 366, 371]) (o := 352) (F := []) (W := W) (by repeat (first | exact fw_sm_refl | exact fw_sm_put0 | refine fw_sm_arr ?_ rfl | refine fw_sm_up ?_ rfl | refine fw_sm_put ?_ rfl | refine fw_sm_cp ?_ rfl)) (lm_growsFrom_83 (n := n) hpre hP M74 h74 _ _ _ _ rfl ?_ (by omega)); (first | omega | trivial | (simp (config := { decide := true }) only [fg_in, fg_fin, fg_out, fg_fout, fg_up, fg_same, true_and, and_true] <;> omega)))
      | (refine jf_put (S := [389, 388, 366, 371]) (o := 352) (F := []) (W := W) (by repeat (first | exact fw_sm_refl | exact fw_sm_put0 | refine fw_sm_arr ?_ rfl | refine fw_sm_up ?_ rfl | refine fw_sm_put ?_ rfl | refine fw_sm_cp ?_ rfl)) (lm_growsFrom_120 (n := n) hpre hP _ _ _ _ rfl ?_); (first | omega | trivial | (simp (config := { decide := true }) only [fg_in, fg_fin, fg_out, fg_fout, fg_up, fg_same, true_and, and_true] <;> omega)))
      | (refine hP _ (by repeat (first | exact fw_sm_refl | exact fw_sm_put0 | refine fw_sm_arr ?_ rfl | refine fw_sm_up ?_ rfl | refine fw_sm_put ?_ rfl | refine fw_sm_cp ?_ rfl)) ?_; (
        rename_i f5 hf5
        obtain ⟨q1, q2, q3, q4⟩ := hf5
        have hs := hpre.2.2
        have key : 0 ≤ fw_g f5 366 0 ∧ fw_g f5 366 0 ≤ 14 ∧ tr (fw_g f5 366 0) (fun h => fw_g f5 366 (2 + 3 * h)) ∧ (∀ h, 1 ≤ h → h < fw_g f5 366 0 → (1 ≤ fw_g f5 366 (3 + 3 * h) ∧ fw_g f5 366 (3 + 3 * h) ≤ 99)) ∧ 0 ≤ fw_g f5 366 1 ∧ fw_g f5 366 1 ≤ 999 := by
          have e1 : fw_g f5 366 1 = fw_g W 366 1 := q2.trans hi1.2.2
          rw [q1, e1]
          refine ⟨by omega, by omega, q3, fun x x1 x2 => ?_, by omega, by omega⟩
          have := q4 x x1 x2
          omega
        exact ⟨key, q1, q4⟩))
      | omega
      | (intro _))
  · exact hx.elim

