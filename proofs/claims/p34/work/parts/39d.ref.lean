/-! the reference, method by method -/
def fr_266 : fw_P := [(0, 0, 0, 0, 0), (1, 3, 2, 0, 0), (2, 1, 2, 0, 0), (3, 2, 0, 0, 0), (4, 64, 188, 0, 112), (7, 13, 23, 0, 0), (10, 2, 0, 0, 0), (11, 50, 12, 34, 0), (14, 1, 2, 0, 0), (15, 0, 0, 0, -1), (16, 53, 0, 0, 0), (17, 5, 2, 0, 1), (20, 6, 2, 0, 0), (23, 2, 0, 0, 0), (24, 50, 12, 32, 0), (27, 0, 0, 0, 0), (28, 1, 1, 0, 0), (29, 53, 0, 0, 0), (30, 0, 0, 0, 1), (31, 3, 2, 0, 0), (32, 0, 0, 0, 0), (33, 3, 3, 0, 0), (34, 1, 3, 0, 0), (35, 1, 2, 0, 0), (36, 13, 132, 0, 0), (39, 0, 0, 0, 0), (40, 3, 4, 0, 0), (42, 1, 4, 0, 0), (44, 2, 0, 0, 0), (45, 64, 188, 0, 112), (48, 13, 126, 0, 0), (51, 1, 4, 0, 0), (53, 2, 0, 0, 0), (54, 50, 12, 32, 0), (57, 1, 3, 0, 0), (58, 52, 0, 0, 0), (59, 10, 120, 0, 0), (62, 1, 4, 0, 0), (64, 2, 0, 0, 0), (65, 50, 12, 34, 0), (68, 2, 0, 0, 0), (69, 50, 12, 32, 0), (72, 1, 3, 0, 0), (73, 52, 0, 0, 0), (74, 52, 0, 0, 0), (75, 10, 120, 0, 0), (78, 2, 0, 0, 0), (79, 2, 0, 0, 0), (80, 50, 12, 32, 0), (83, 1, 3, 0, 0), (84, 52, 0, 0, 0), (85, 1, 4, 0, 0), (87, 64, 219, 2, 312), (90, 21, 96, 0, 0), (93, 6, 120, 0, 0), (96, 2, 0, 0, 0), (97, 50, 12, 34, 0), (100, 1, 4, 0, 0), (102, 2, 0, 0, 0), (103, 50, 12, 32, 0), (106, 1, 3, 0, 0), (107, 52, 0, 0, 0), (108, 53, 0, 0, 0), (109, 2, 0, 0, 0), (110, 50, 12, 32, 0), (113, 1, 2, 0, 0), (114, 1, 4, 0, 0), (116, 53, 0, 0, 0), (117, 5, 2, 0, 1), (120, 5, 4, 0, 1), (123, 6, 42, 0, 0), (126, 5, 3, 0, 1), (129, 6, 34, 0, 0), (132, 72, 0, 0, 0)]
theorem fr_266_ok : fw_mk 266 5 12 none fr_266 = true := by decide +kernel
def ct_layOrder : List (Nat × fw_X) := [(219, x_areNext), (188, x_many)]
theorem ct_layOrder_ok (d : Nat) : fw_cok fw_T (d + 2) ct_layOrder := by
  intro q hq as W Q h
  simp only [ct_layOrder, List.mem_cons, List.not_mem_nil, or_false] at hq
  rcases hq with rfl | rfl
  · exact jc_of (x_areNext_ok (d + 0) as W Q h)
  · exact jc_of (x_many_ok (d + 1) as W Q h)
theorem s_layOrder_0 {Post : Option fw_V → fw_W → Prop} {d : Nat} {W : fw_W} {frm : Int}
    (hw_ : jf fw_T (d + 3) 266 2 [(0, .inr (.inl 352)), (1, .inl frm), (2, .inl (0 : Int))] [] W Post) :
    jf fw_T (d + 3) 266 0 [(0, .inr (.inl 352)), (1, .inl frm)] [] W Post := fw_ok (n := 3) (ss := [(2, [0, 1, 2]), (34, [0, 2, 3]), (42, [0, 2, 3, 4])]) (hv := []) fr_266_ok fm_ok (ct_layOrder_ok d) hw_

theorem s_layOrder_42 {Post : Option fw_V → fw_W → Prop} {d : Nat} {W : fw_W} {n i k : Int} {f : fw_W}
    (hw_ : (True) ∧ ((((fw_g W 366 0) ≤ k → -2147483648 ≤ i + (1 : Int) ∧ i + (1 : Int) ≤ 2147483647 ∧ (jf fw_T (d + 3) 266 34 [(0, .inr (.inl 352)), (2, .inl n), (3, .inl (i + (1 : Int)))] [] (fw_put [371, 373] 352 [] W f) Post)) ∧ (k < (fw_g W 366 0) → 0 ≤ i ∧ i < 14 ∧ (0 ≤ (fw_g f 371 i) → (fw_g f 371 i) ≤ 13 → ((k = (fw_g f 371 i) → -2147483648 ≤ k + (1 : Int) ∧ k + (1 : Int) ≤ 2147483647 ∧ (jf fw_T (d + 3) 266 42 [(0, .inr (.inl 352)), (2, .inl n), (3, .inl i), (4, .inl (k + (1 : Int)))] [] (fw_put [371, 373] 352 [] W f) Post)) ∧ (¬ k = (fw_g f 371 i) → 0 ≤ i ∧ i < 14 ∧ (0 ≤ (fw_g f 371 i) → (fw_g f 371 i) ≤ 13 → 0 ≤ (fw_g f 371 i) ∧ (fw_g f 371 i) < 14 ∧ (-1 ≤ (fw_g f 373 (fw_g f 371 i)) → (fw_g f 373 (fw_g f 371 i)) ≤ 13 → ((k = (fw_g f 373 (fw_g f 371 i)) → -2147483648 ≤ k + (1 : Int) ∧ k + (1 : Int) ≤ 2147483647 ∧ (jf fw_T (d + 3) 266 42 [(0, .inr (.inl 352)), (2, .inl n), (3, .inl i), (4, .inl (k + (1 : Int)))] [] (fw_put [371, 373] 352 [] W f) Post)) ∧ (¬ k = (fw_g f 373 (fw_g f 371 i)) → 0 ≤ i ∧ i < 14 ∧ (0 ≤ (fw_g f 371 i) → (fw_g f 371 i) ≤ 13 → (0 ≤ (fw_g f 371 i) ∧ (fw_g f 371 i) < 14 ∧ 0 ≤ k ∧ k < 14) ∧ (∀ (r1 : Int), ((0 ≤ r1 ∧ r1 ≤ 1 ∧ ((r1 = 1 ∧ ((fw_g W 366 (2 + 3 * (fw_g f 371 i))) = k ∨ (fw_g W 366 (2 + 3 * k)) = (fw_g f 371 i))) ∨ (r1 = 0 ∧ ¬ (fw_g W 366 (2 + 3 * (fw_g f 371 i))) = k ∧ ¬ (fw_g W 366 (2 + 3 * k)) = (fw_g f 371 i))))) → ((¬ r1 = 0 → 0 ≤ i ∧ i < 14 ∧ (0 ≤ (fw_g f 371 i) → (fw_g f 371 i) ≤ 13 → 0 ≤ k ∧ k < 14 ∧ -1 ≤ (fw_g f 371 i) ∧ (fw_g f 371 i) ≤ 13 ∧ (0 ≤ n ∧ n < 14 ∧ 0 ≤ k ∧ k ≤ 13 ∧ (-2147483648 ≤ n + (1 : Int) ∧ n + (1 : Int) ≤ 2147483647 ∧ (-2147483648 ≤ k + (1 : Int) ∧ k + (1 : Int) ≤ 2147483647 ∧ (jf fw_T (d + 3) 266 42 [(0, .inr (.inl 352)), (2, .inl (n + (1 : Int))), (3, .inl i), (4, .inl (k + (1 : Int)))] [] (fw_up (fw_up (fw_put [371, 373] 352 [] W f) 373 k (fw_g f 371 i)) 371 n k) Post)))))) ∧ (r1 = 0 → -2147483648 ≤ k + (1 : Int) ∧ k + (1 : Int) ≤ 2147483647 ∧ (jf fw_T (d + 3) 266 42 [(0, .inr (.inl 352)), (2, .inl n), (3, .inl i), (4, .inl (k + (1 : Int)))] [] (fw_put [371, 373] 352 [] W f) Post)))))))))))))))) :
    jf fw_T (d + 3) 266 42 [(0, .inr (.inl 352)), (2, .inl n), (3, .inl i), (4, .inl k)] [] (fw_put [371, 373] 352 [] W f) Post := fw_ok (n := 44) (ss := [(2, [0, 1, 2]), (34, [0, 2, 3]), (42, [0, 2, 3, 4])]) (hv := []) fr_266_ok fm_ok (ct_layOrder_ok d) hw_

theorem s_layOrder_34 {Post : Option fw_V → fw_W → Prop} {d : Nat} {W : fw_W} {n i : Int} {f : fw_W}
    (hw_ : ((n ≤ i → Post none (fw_put [371, 373] 352 [] W f)) ∧ (i < n → jf fw_T (d + 3) 266 42 [(0, .inr (.inl 352)), (2, .inl n), (3, .inl i), (4, .inl (0 : Int))] [] (fw_put [371, 373] 352 [] W f) Post))) :
    jf fw_T (d + 3) 266 34 [(0, .inr (.inl 352)), (2, .inl n), (3, .inl i)] [] (fw_put [371, 373] 352 [] W f) Post := fw_ok (n := 6) (ss := [(2, [0, 1, 2]), (34, [0, 2, 3]), (42, [0, 2, 3, 4])]) (hv := []) fr_266_ok fm_ok (ct_layOrder_ok d) hw_

theorem s_layOrder_2 {Post : Option fw_V → fw_W → Prop} {d : Nat} {W : fw_W} {frm n : Int} {f : fw_W}
    (hw_ : (True) ∧ ((((fw_g W 366 0) ≤ n → 0 ≤ (0 : Int) ∧ (0 : Int) < 14 ∧ 0 ≤ frm ∧ frm ≤ 13 ∧ (jf fw_T (d + 3) 266 34 [(0, .inr (.inl 352)), (2, .inl (1 : Int)), (3, .inl (0 : Int))] [] (fw_up (fw_put [371, 373] 352 [] W f) 371 (0 : Int) frm) Post)) ∧ (n < (fw_g W 366 0) → 0 ≤ n ∧ n < 14 ∧ -1 ≤ (-1 : Int) ∧ (-1 : Int) ≤ 13 ∧ (-2147483648 ≤ n + (1 : Int) ∧ n + (1 : Int) ≤ 2147483647 ∧ (jf fw_T (d + 3) 266 2 [(0, .inr (.inl 352)), (1, .inl frm), (2, .inl (n + (1 : Int)))] [] (fw_up (fw_put [371, 373] 352 [] W f) 373 n (-1 : Int)) Post)))))) :
    jf fw_T (d + 3) 266 2 [(0, .inr (.inl 352)), (1, .inl frm), (2, .inl n)] [] (fw_put [371, 373] 352 [] W f) Post := fw_ok (n := 14) (ss := [(2, [0, 1, 2]), (34, [0, 2, 3]), (42, [0, 2, 3, 4])]) (hv := []) fr_266_ok fm_ok (ct_layOrder_ok d) hw_

theorem lm_layOrder_42 {Post : Option fw_V → fw_W → Prop} {d : Nat} {W : fw_W} {frm : Int} (η : Int → Int) (hη : tr_hop ((fw_g W 366 0)) (fun z_ => (fw_g W 366 (2 + 3 * z_))) frm η) (hpre : mt W ∧ 0 ≤ (fw_g W 366 0) ∧ (fw_g W 366 0) ≤ 14 ∧ 0 ≤ frm ∧ frm < (fw_g W 366 0)) (hP : ∀ (W2 : fw_W), fw_sm [371, 373] 352 [] W W2 → ((∃ η : Int → Int, ∀ x, 0 ≤ x → x < (fw_g W 366 0) → 0 ≤ η x ∧ (x ≠ frm → 0 ≤ (fw_g W2 373 x) ∧ (fw_g W2 373 x) < (fw_g W 366 0) ∧ η x = η ((fw_g W2 373 x)) + 1)) ∧ (fw_g W2 373 frm) = -1 ∧ (∀ i, 0 ≤ i → i < (fw_g W 366 0) → 0 ≤ (fw_g W2 371 i) ∧ (fw_g W2 371 i) < (fw_g W 366 0)) ∧ (∀ i j, 0 ≤ i → i < j → j < (fw_g W 366 0) → (fw_g W2 371 i) ≠ (fw_g W2 371 j))) → Post none W2) (M34 : Int) (h34 : ∀ (n i : Int) (f : fw_W), bq ((fw_g W 366 0)) (fun z_ => (fw_g W 366 (2 + 3 * z_))) frm η n i 0 (fun z_ => (fw_g f 371 z_)) (fun z_ => (fw_g f 373 z_)) ∧ 0 ≤ i ∧ i ≤ n ∧ n ≤ (fw_g W 366 0) → ((fw_g W 366 0) - i) < M34 → jf fw_T (d + 3) 266 34 [(0, .inr (.inl 352)), (2, .inl n), (3, .inl i)] [] (fw_put [371, 373] 352 [] W f) Post) : ∀ (m : Nat) (n i k : Int) (f : fw_W), ((fw_g W 366 0) - k).toNat = m → bq ((fw_g W 366 0)) (fun z_ => (fw_g W 366 (2 + 3 * z_))) frm η n i k (fun z_ => (fw_g f 371 z_)) (fun z_ => (fw_g f 373 z_)) ∧ 0 ≤ i ∧ i < n ∧ n ≤ (fw_g W 366 0) ∧ 0 ≤ k ∧ k ≤ (fw_g W 366 0) → ((fw_g W 366 0) - i) ≤ M34 → jf fw_T (d + 3) 266 42 [(0, .inr (.inl 352)), (2, .inl n), (3, .inl i), (4, .inl k)] [] (fw_put [371, 373] 352 [] W f) Post := by
  intro m
  induction m using Nat.strongRecOn with
  | ind m ih =>
    intro n i k f hm hi e34
    refine jf_rng (fun hrg => ?_)
    have hrg : -2147483648 ≤ n ∧ n ≤ 2147483647 ∧ -2147483648 ≤ i ∧ i ≤ 2147483647 ∧ -2147483648 ≤ k ∧ k ≤ 2147483647 ∧ True := hrg
    refine s_layOrder_42 ?_
    have hi2 := hi.2
    have o1 : 0 ≤ (fw_g f 371 i) ∧ (fw_g f 371 i) < (fw_g W 366 0) := hi.1.2.2.2.1 i hi.2.1 hi.2.2.1
    have nw : k < (fw_g W 366 0) → ¬ k = (fw_g f 373 (fw_g f 371 i)) → ((fw_g W 366 (2 + 3 * (fw_g f 371 i))) = k ∨ (fw_g W 366 (2 + 3 * k)) = (fw_g f 371 i)) → n < (fw_g W 366 0) := fun a b c => (bq_new hη hi.1 hi.2.1 hi.2.2.1 hi.2.2.2.2.1 a b c).2.2
    repeat' (first
      | (exact True.intro)
      | (exact hpre.1)
      | (refine And.intro ?_ ?_)
      | (refine jf_put (S := [371, 373]) (o := 352) (F := []) (W := W) (by repeat (first | exact fw_sm_refl | exact fw_sm_put0 | refine fw_sm_arr ?_ rfl | refine fw_sm_up ?_ rfl | refine fw_sm_put ?_ rfl | refine fw_sm_cp ?_ rfl)) (h34 _ _ _ ?_ (by omega)); (exact ⟨bq_next hi.1 (by omega), by omega, by omega, by omega⟩))
      | (refine jf_put (S := [371, 373]) (o := 352) (F := []) (W := W) (by repeat (first | exact fw_sm_refl | exact fw_sm_put0 | refine fw_sm_arr ?_ rfl | refine fw_sm_up ?_ rfl | refine fw_sm_put ?_ rfl | refine fw_sm_cp ?_ rfl)) (ih _ (by omega) _ _ _ _ rfl ?_ (by omega)); (first
        | (refine ⟨bq_skip hη hi.1 (by omega) (by omega) (by omega) ?_, by omega, by omega, by omega, by omega, by omega⟩
           show k = (fw_g f 371 i) ∨ k = (fw_g f 373 (fw_g f 371 i)) ∨ _
           first
             | (left; omega)
             | (right; left; omega)
             | (right; right; intro hx; have hx2 : (fw_g W 366 (2 + 3 * (fw_g f 371 i))) = k ∨ (fw_g W 366 (2 + 3 * k)) = (fw_g f 371 i) := hx; omega))
        | (refine ⟨bq_push hη hi.1 (by omega) (by omega) (by omega) (by omega) (by omega) (by show (fw_g W 366 (2 + 3 * (fw_g f 371 i))) = k ∨ (fw_g W 366 (2 + 3 * k)) = (fw_g f 371 i); omega) (fun x x1 x2 => ?_) (fun j j1 j2 => ?_), by omega, by omega, by omega, by omega, by omega⟩
           · show fw_g (fw_up _ _ _ _) 373 x = _
             rw [fg_up rfl, fg_if (by omega) (by omega) (by omega) (by omega)]
             by_cases e : k = x
             · rw [if_pos e, if_pos e.symm]
             · rw [if_neg e, if_neg (fun z => e z.symm)]; rfl
           · show fw_g (fw_up _ _ _ _) 371 j = _
             rw [fg_if (by omega) (by omega) (by omega) (by omega)]
             by_cases e : n = j
             · rw [if_pos e, if_pos e.symm]
             · rw [if_neg e, if_neg (fun z => e z.symm), fg_up rfl]; rfl)))
      | (refine hP _ (by repeat (first | exact fw_sm_refl | exact fw_sm_put0 | refine fw_sm_arr ?_ rfl | refine fw_sm_up ?_ rfl | refine fw_sm_put ?_ rfl | refine fw_sm_cp ?_ rfl)) ?_; (
        obtain ⟨hmn, hfr⟩ := bq_end hη hi.1 (by omega)
        refine ⟨⟨η, fun x x1 x2 => ⟨(hη.2.1 x x1 x2).1, fun xb => hfr x x1 x2 xb⟩⟩, hi.1.2.2.1, fun i i1 i2 => hi.1.2.2.2.1 i i1 (by omega), fun i j i1 i2 i3 => hi.1.2.2.2.2.1 i j i1 i2 (by omega)⟩))
      | omega
      | (intro _))
theorem lm_layOrder_34 {Post : Option fw_V → fw_W → Prop} {d : Nat} {W : fw_W} {frm : Int} (η : Int → Int) (hη : tr_hop ((fw_g W 366 0)) (fun z_ => (fw_g W 366 (2 + 3 * z_))) frm η) (hpre : mt W ∧ 0 ≤ (fw_g W 366 0) ∧ (fw_g W 366 0) ≤ 14 ∧ 0 ≤ frm ∧ frm < (fw_g W 366 0)) (hP : ∀ (W2 : fw_W), fw_sm [371, 373] 352 [] W W2 → ((∃ η : Int → Int, ∀ x, 0 ≤ x → x < (fw_g W 366 0) → 0 ≤ η x ∧ (x ≠ frm → 0 ≤ (fw_g W2 373 x) ∧ (fw_g W2 373 x) < (fw_g W 366 0) ∧ η x = η ((fw_g W2 373 x)) + 1)) ∧ (fw_g W2 373 frm) = -1 ∧ (∀ i, 0 ≤ i → i < (fw_g W 366 0) → 0 ≤ (fw_g W2 371 i) ∧ (fw_g W2 371 i) < (fw_g W 366 0)) ∧ (∀ i j, 0 ≤ i → i < j → j < (fw_g W 366 0) → (fw_g W2 371 i) ≠ (fw_g W2 371 j))) → Post none W2)  : ∀ (m : Nat) (n i : Int) (f : fw_W), ((fw_g W 366 0) - i).toNat = m → bq ((fw_g W 366 0)) (fun z_ => (fw_g W 366 (2 + 3 * z_))) frm η n i 0 (fun z_ => (fw_g f 371 z_)) (fun z_ => (fw_g f 373 z_)) ∧ 0 ≤ i ∧ i ≤ n ∧ n ≤ (fw_g W 366 0) → jf fw_T (d + 3) 266 34 [(0, .inr (.inl 352)), (2, .inl n), (3, .inl i)] [] (fw_put [371, 373] 352 [] W f) Post := by
  intro m
  induction m using Nat.strongRecOn with
  | ind m ih =>
    intro n i f hm hi
    refine jf_rng (fun hrg => ?_)
    have hrg : -2147483648 ≤ n ∧ n ≤ 2147483647 ∧ -2147483648 ≤ i ∧ i ≤ 2147483647 ∧ True := hrg
    refine s_layOrder_34 ?_
    have hi2 := hi.2
    repeat' (first
      | (exact True.intro)
      | (exact hpre.1)
      | (refine And.intro ?_ ?_)
      | (refine jf_put (S := [371, 373]) (o := 352) (F := []) (W := W) (by repeat (first | exact fw_sm_refl | exact fw_sm_put0 | refine fw_sm_arr ?_ rfl | refine fw_sm_up ?_ rfl | refine fw_sm_put ?_ rfl | refine fw_sm_cp ?_ rfl)) (ih _ (by omega) _ _ _ rfl ?_); (first | omega | trivial | (simp (config := { decide := true }) only [fg_in, fg_fin, fg_out, fg_fout, fg_up, fg_same, true_and, and_true] <;> omega)))
      | (refine jf_put (S := [371, 373]) (o := 352) (F := []) (W := W) (by repeat (first | exact fw_sm_refl | exact fw_sm_put0 | refine fw_sm_arr ?_ rfl | refine fw_sm_up ?_ rfl | refine fw_sm_put ?_ rfl | refine fw_sm_cp ?_ rfl)) (lm_layOrder_42 (frm := frm) η hη hpre hP ((fw_g W 366 0) - i) (fun a0 a1 af hi hl => ih _ (by omega) a0 a1 af rfl hi) _ _ _ _ _ rfl ?_ (by omega)); (exact ⟨hi.1, by omega, by omega, by omega, by omega, by omega⟩))
      | (refine hP _ (by repeat (first | exact fw_sm_refl | exact fw_sm_put0 | refine fw_sm_arr ?_ rfl | refine fw_sm_up ?_ rfl | refine fw_sm_put ?_ rfl | refine fw_sm_cp ?_ rfl)) ?_; (
        obtain ⟨hmn, hfr⟩ := bq_end hη hi.1 (by omega)
        refine ⟨⟨η, fun x x1 x2 => ⟨(hη.2.1 x x1 x2).1, fun xb => hfr x x1 x2 xb⟩⟩, hi.1.2.2.1, fun i i1 i2 => hi.1.2.2.2.1 i i1 (by omega), fun i j i1 i2 i3 => hi.1.2.2.2.2.1 i j i1 i2 (by omega)⟩))
      | omega
      | (intro _))
theorem lm_layOrder_2 {Post : Option fw_V → fw_W → Prop} {d : Nat} {W : fw_W} {frm : Int} (η : Int → Int) (hη : tr_hop ((fw_g W 366 0)) (fun z_ => (fw_g W 366 (2 + 3 * z_))) frm η) (hpre : mt W ∧ 0 ≤ (fw_g W 366 0) ∧ (fw_g W 366 0) ≤ 14 ∧ 0 ≤ frm ∧ frm < (fw_g W 366 0)) (hP : ∀ (W2 : fw_W), fw_sm [371, 373] 352 [] W W2 → ((∃ η : Int → Int, ∀ x, 0 ≤ x → x < (fw_g W 366 0) → 0 ≤ η x ∧ (x ≠ frm → 0 ≤ (fw_g W2 373 x) ∧ (fw_g W2 373 x) < (fw_g W 366 0) ∧ η x = η ((fw_g W2 373 x)) + 1)) ∧ (fw_g W2 373 frm) = -1 ∧ (∀ i, 0 ≤ i → i < (fw_g W 366 0) → 0 ≤ (fw_g W2 371 i) ∧ (fw_g W2 371 i) < (fw_g W 366 0)) ∧ (∀ i j, 0 ≤ i → i < j → j < (fw_g W 366 0) → (fw_g W2 371 i) ≠ (fw_g W2 371 j))) → Post none W2)  : ∀ (m : Nat) (n : Int) (f : fw_W), ((fw_g W 366 0) - n).toNat = m → (0 ≤ n ∧ ∀ x, 0 ≤ x → x < n → (fw_g f 373 x) = -1) → jf fw_T (d + 3) 266 2 [(0, .inr (.inl 352)), (1, .inl frm), (2, .inl n)] [] (fw_put [371, 373] 352 [] W f) Post := by
  intro m
  induction m using Nat.strongRecOn with
  | ind m ih =>
    intro n f hm hi
    refine jf_rng (fun hrg => ?_)
    have hrg : -2147483648 ≤ frm ∧ frm ≤ 2147483647 ∧ -2147483648 ≤ n ∧ n ≤ 2147483647 ∧ True := hrg
    refine s_layOrder_2 ?_
    have hi1 := hi.1
    repeat' (first
      | (exact True.intro)
      | (exact hpre.1)
      | (refine And.intro ?_ ?_)
      | (refine jf_put (S := [371, 373]) (o := 352) (F := []) (W := W) (by repeat (first | exact fw_sm_refl | exact fw_sm_put0 | refine fw_sm_arr ?_ rfl | refine fw_sm_up ?_ rfl | refine fw_sm_put ?_ rfl | refine fw_sm_cp ?_ rfl)) (ih _ (by omega) _ _ rfl ?_); (
        refine ⟨by omega, fun x x1 x2 => ?_⟩
        rw [fg_if (by omega) (by omega) (by omega) (by omega)]
        by_cases e : n = x
        · rw [if_pos e]
        · rw [if_neg e]; exact hi.2 x x1 (by omega)))
      | (refine jf_put (S := [371, 373]) (o := 352) (F := []) (W := W) (by repeat (first | exact fw_sm_refl | exact fw_sm_put0 | refine fw_sm_arr ?_ rfl | refine fw_sm_up ?_ rfl | refine fw_sm_put ?_ rfl | refine fw_sm_cp ?_ rfl)) (lm_layOrder_34 (frm := frm) η hη hpre hP _ _ _ _ rfl ?_); (
        refine ⟨bq_init (by omega) (by omega) (fg_same (by omega) (by omega)) ?_, by omega, by omega, by omega⟩
        show fw_g (fw_up _ _ _ _) 373 frm = -1
        rw [fg_up rfl]
        exact hi.2 frm (by omega) (by omega)))
      | (refine hP _ (by repeat (first | exact fw_sm_refl | exact fw_sm_put0 | refine fw_sm_arr ?_ rfl | refine fw_sm_up ?_ rfl | refine fw_sm_put ?_ rfl | refine fw_sm_cp ?_ rfl)) ?_; (
        obtain ⟨hmn, hfr⟩ := bq_end hη hi.1 (by omega)
        refine ⟨⟨η, fun x x1 x2 => ⟨(hη.2.1 x x1 x2).1, fun xb => hfr x x1 x2 xb⟩⟩, hi.1.2.2.1, fun i i1 i2 => hi.1.2.2.2.1 i i1 (by omega), fun i j i1 i2 i3 => hi.1.2.2.2.2.1 i j i1 i2 (by omega)⟩))
      | omega
      | (intro _))
def x_layOrder : fw_X := fun as W Q => match as with
  | [.inr (.inl s_), .inl frm] => fw_if (Nat.beq s_ 352) ((mt W ∧ 0 ≤ (fw_g W 366 0) ∧ (fw_g W 366 0) ≤ 14 ∧ 0 ≤ frm ∧ frm < (fw_g W 366 0)) ∧ (∀ (f : fw_W), ((∃ η : Int → Int, ∀ x, 0 ≤ x → x < (fw_g W 366 0) → 0 ≤ η x ∧ (x ≠ frm → 0 ≤ (fw_g f 373 x) ∧ (fw_g f 373 x) < (fw_g W 366 0) ∧ η x = η ((fw_g f 373 x)) + 1)) ∧ (fw_g f 373 frm) = -1 ∧ (∀ i, 0 ≤ i → i < (fw_g W 366 0) → 0 ≤ (fw_g f 371 i) ∧ (fw_g f 371 i) < (fw_g W 366 0)) ∧ (∀ i j, 0 ≤ i → i < j → j < (fw_g W 366 0) → (fw_g f 371 i) ≠ (fw_g f 371 j))) → Q none (fw_put [371, 373] 352 [] W f)))
  | _ => False
theorem x_layOrder_ok (d : Nat) (as : List fw_V) (W : fw_W) (Q : Option fw_V → fw_W → Prop) (hx : x_layOrder as W Q) : jf fw_T (d + 3) 266 0 (fw_args 0 as) [] W Q := by
  unfold x_layOrder at hx
  split at hx
  · rename_i s_ frm
    obtain ⟨e_, hpre, hQ⟩ := fw_if_ok hx
    have e_ := Nat.eq_of_beq_eq_true e_
    subst e_
    have hP : ∀ (W2 : fw_W), fw_sm [371, 373] 352 [] W W2 → _ → Q none W2 := fun W2 hs hr => fw_sm_use (Q := fun Z => Q none Z) hs (hQ W2 hr)
    obtain ⟨η, hη⟩ := tr_hashop hpre.1.2.2.1 hpre.2.2.1 hpre.2.2.2.1 hpre.2.2.2.2
    refine s_layOrder_0 ?_
    repeat' (first
      | (exact True.intro)
      | (exact hpre.1)
      | (refine And.intro ?_ ?_)
      | (refine jf_put (S := [371, 373]) (o := 352) (F := []) (W := W) (by repeat (first | exact fw_sm_refl | exact fw_sm_put0 | refine fw_sm_arr ?_ rfl | refine fw_sm_up ?_ rfl | refine fw_sm_put ?_ rfl | refine fw_sm_cp ?_ rfl)) (lm_layOrder_2 (frm := frm) η hη hpre hP _ _ _ rfl ?_); (exact ⟨by omega, fun x x1 x2 => by omega⟩))
      | (refine jf_put (S := [371, 373]) (o := 352) (F := []) (W := W) (by repeat (first | exact fw_sm_refl | exact fw_sm_put0 | refine fw_sm_arr ?_ rfl | refine fw_sm_up ?_ rfl | refine fw_sm_put ?_ rfl | refine fw_sm_cp ?_ rfl)) (lm_layOrder_34 (frm := frm) η hη hpre hP _ _ _ _ rfl ?_); (first | omega | trivial | (simp (config := { decide := true }) only [fg_in, fg_fin, fg_out, fg_fout, fg_up, fg_same, true_and, and_true] <;> omega)))
      | (refine jf_put (S := [371, 373]) (o := 352) (F := []) (W := W) (by repeat (first | exact fw_sm_refl | exact fw_sm_put0 | refine fw_sm_arr ?_ rfl | refine fw_sm_up ?_ rfl | refine fw_sm_put ?_ rfl | refine fw_sm_cp ?_ rfl)) (lm_layOrder_42 (frm := frm) η hη hpre hP M34 h34 _ _ _ _ _ rfl ?_ (by omega)); (first | omega | trivial | (simp (config := { decide := true }) only [fg_in, fg_fin, fg_out, fg_fout, fg_up, fg_same, true_and, and_true] <;> omega)))
      | (refine hP _ (by repeat (first | exact fw_sm_refl | exact fw_sm_put0 | refine fw_sm_arr ?_ rfl | refine fw_sm_up ?_ rfl | refine fw_sm_put ?_ rfl | refine fw_sm_cp ?_ rfl)) ?_; (
        obtain ⟨hmn, hfr⟩ := bq_end hη hi.1 (by omega)
        refine ⟨⟨η, fun x x1 x2 => ⟨(hη.2.1 x x1 x2).1, fun xb => hfr x x1 x2 xb⟩⟩, hi.1.2.2.1, fun i i1 i2 => hi.1.2.2.2.1 i i1 (by omega), fun i j i1 i2 i3 => hi.1.2.2.2.2.1 i j i1 i2 (by omega)⟩))
      | omega
      | (intro _))
  · exact hx.elim

