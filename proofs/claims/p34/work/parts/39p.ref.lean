/-! the reference, method by method -/
def fr_304 : fw_P := [(0, 0, 0, 0, 0), (1, 3, 3, 0, 0), (2, 1, 3, 0, 0), (3, 0, 0, 0, 36), (5, 13, 21, 0, 0), (8, 2, 0, 0, 0), (9, 50, 12, 64, 0), (12, 1, 3, 0, 0), (13, 0, 0, 0, 0), (14, 53, 0, 0, 0), (15, 5, 3, 0, 1), (18, 6, 2, 0, 0), (21, 0, 0, 0, 0), (22, 3, 3, 0, 0), (23, 1, 3, 0, 0), (24, 2, 0, 0, 0), (25, 50, 12, 65, 0), (28, 13, 88, 0, 0), (31, 2, 0, 0, 0), (32, 50, 12, 62, 0), (35, 1, 3, 0, 0), (36, 52, 0, 0, 0), (37, 1, 2, 0, 0), (38, 14, 82, 0, 0), (41, 2, 0, 0, 0), (42, 50, 12, 63, 0), (45, 1, 3, 0, 0), (46, 52, 0, 0, 0), (47, 22, 60, 0, 0), (50, 2, 0, 0, 0), (51, 50, 12, 63, 0), (54, 1, 3, 0, 0), (55, 52, 0, 0, 0), (56, 1, 2, 0, 0), (57, 15, 82, 0, 0), (60, 2, 0, 0, 0), (61, 2, 0, 0, 0), (62, 50, 12, 59, 0), (65, 1, 3, 0, 0), (66, 52, 0, 0, 0), (67, 2, 0, 0, 0), (68, 50, 12, 60, 0), (71, 1, 3, 0, 0), (72, 52, 0, 0, 0), (73, 2, 0, 0, 0), (74, 50, 12, 61, 0), (77, 1, 3, 0, 0), (78, 52, 0, 0, 0), (79, 64, 305, 3, 412), (82, 5, 3, 0, 1), (85, 6, 23, 0, 0), (88, 0, 0, 0, 0), (89, 3, 3, 0, 0), (90, 1, 3, 0, 0), (91, 1, 1, 0, 0), (92, 13, 133, 0, 0), (95, 0, 0, 0, 0), (96, 3, 4, 0, 0), (98, 1, 4, 0, 0), (100, 1, 3, 0, 0), (101, 13, 127, 0, 0), (104, 2, 0, 0, 0), (105, 50, 12, 64, 0), (108, 0, 0, 0, 6), (110, 1, 3, 0, 0), (111, 32, 0, 0, 0), (112, 1, 4, 0, 0), (114, 30, 0, 0, 0), (115, 52, 0, 0, 0), (116, 21, 121, 0, 0), (119, 0, 0, 0, 0), (120, 71, 0, 0, 0), (121, 5, 4, 0, 1), (124, 6, 98, 0, 0), (127, 5, 3, 0, 1), (130, 6, 90, 0, 0), (133, 0, 0, 0, 1), (134, 71, 0, 0, 0)]
theorem fr_304_ok : fw_mk 304 5 12 (some .boolean) fr_304 = true := by decide +kernel
def ct_layKnown : List (Nat × fw_X) := [(305, x_set)]
theorem ct_layKnown_ok (d : Nat) : fw_cok fw_T (d + 1) ct_layKnown := by
  intro q hq as W Q h
  simp only [ct_layKnown, List.mem_cons, List.not_mem_nil, or_false] at hq
  rcases hq with rfl
  · exact jc_of (x_set_ok (d + 0) as W Q h)
theorem s_layKnown_0 {Post : Option fw_V → fw_W → Prop} {d : Nat} {W : fw_W} {n k : Int}
    (hw_ : jf fw_T (d + 2) 304 2 [(0, .inr (.inl 352)), (1, .inl n), (2, .inl k), (3, .inl (0 : Int))] [] W Post) :
    jf fw_T (d + 2) 304 0 [(0, .inr (.inl 352)), (1, .inl n), (2, .inl k)] [] W Post := fw_ok (n := 3) (ss := [(2, [0, 1, 2, 3]), (23, [0, 1, 2, 3]), (90, [0, 1, 3]), (98, [0, 1, 3, 4])]) (hv := []) fr_304_ok fm_ok (ct_layKnown_ok d) hw_

theorem s_layKnown_98 {Post : Option fw_V → fw_W → Prop} {d : Nat} {W : fw_W} {n a b : Int} {f : fw_W}
    (hw_ : ((a ≤ b → -2147483648 ≤ a + (1 : Int) ∧ a + (1 : Int) ≤ 2147483647 ∧ (jf fw_T (d + 2) 304 90 [(0, .inr (.inl 352)), (1, .inl n), (3, .inl (a + (1 : Int)))] [] (fw_put [396] 352 [] W f) Post)) ∧ (b < a → -2147483648 ≤ (6 : Int) * a ∧ (6 : Int) * a ≤ 2147483647 ∧ (-2147483648 ≤ ((6 : Int) * a) + b ∧ ((6 : Int) * a) + b ≤ 2147483647 ∧ (0 ≤ (((6 : Int) * a) + b) ∧ (((6 : Int) * a) + b) < 36 ∧ (-2147483648 ≤ (fw_g f 396 (((6 : Int) * a) + b)) → (fw_g f 396 (((6 : Int) * a) + b)) ≤ 2147483647 → ((¬ (fw_g f 396 (((6 : Int) * a) + b)) = 0 → -2147483648 ≤ b + (1 : Int) ∧ b + (1 : Int) ≤ 2147483647 ∧ (jf fw_T (d + 2) 304 98 [(0, .inr (.inl 352)), (1, .inl n), (3, .inl a), (4, .inl (b + (1 : Int)))] [] (fw_put [396] 352 [] W f) Post)) ∧ ((fw_g f 396 (((6 : Int) * a) + b)) = 0 → 0 ≤ (0 : Int) ∧ (0 : Int) ≤ 1 ∧ Post (some (.inl (0 : Int))) (fw_put [396] 352 [] W f))))))))) :
    jf fw_T (d + 2) 304 98 [(0, .inr (.inl 352)), (1, .inl n), (3, .inl a), (4, .inl b)] [] (fw_put [396] 352 [] W f) Post := fw_ok (n := 15) (ss := [(2, [0, 1, 2, 3]), (23, [0, 1, 2, 3]), (90, [0, 1, 3]), (98, [0, 1, 3, 4])]) (hv := []) fr_304_ok fm_ok (ct_layKnown_ok d) hw_

theorem s_layKnown_90 {Post : Option fw_V → fw_W → Prop} {d : Nat} {W : fw_W} {n a : Int} {f : fw_W}
    (hw_ : ((n ≤ a → 0 ≤ (1 : Int) ∧ (1 : Int) ≤ 1 ∧ Post (some (.inl (1 : Int))) (fw_put [396] 352 [] W f)) ∧ (a < n → jf fw_T (d + 2) 304 98 [(0, .inr (.inl 352)), (1, .inl n), (3, .inl a), (4, .inl (0 : Int))] [] (fw_put [396] 352 [] W f) Post))) :
    jf fw_T (d + 2) 304 90 [(0, .inr (.inl 352)), (1, .inl n), (3, .inl a)] [] (fw_put [396] 352 [] W f) Post := fw_ok (n := 6) (ss := [(2, [0, 1, 2, 3]), (23, [0, 1, 2, 3]), (90, [0, 1, 3]), (98, [0, 1, 3, 4])]) (hv := []) fr_304_ok fm_ok (ct_layKnown_ok d) hw_

theorem s_layKnown_23 {Post : Option fw_V → fw_W → Prop} {d : Nat} {W : fw_W} {n k a : Int} {f : fw_W}
    (hw_ : (0 ≤ (fw_g W 352 65) → (fw_g W 352 65) ≤ 40 → (((fw_g W 352 65) ≤ a → jf fw_T (d + 2) 304 90 [(0, .inr (.inl 352)), (1, .inl n), (3, .inl (0 : Int))] [] (fw_put [396] 352 [] W f) Post) ∧ (a < (fw_g W 352 65) → 0 ≤ a ∧ a < 40 ∧ (-2147483648 ≤ (fw_g W 394 a) → (fw_g W 394 a) ≤ 2147483647 → ((k < (fw_g W 394 a) → -2147483648 ≤ a + (1 : Int) ∧ a + (1 : Int) ≤ 2147483647 ∧ (jf fw_T (d + 2) 304 23 [(0, .inr (.inl 352)), (1, .inl n), (2, .inl k), (3, .inl (a + (1 : Int)))] [] (fw_put [396] 352 [] W f) Post)) ∧ ((fw_g W 394 a) ≤ k → 0 ≤ a ∧ a < 40 ∧ (-2147483648 ≤ (fw_g W 395 a) → (fw_g W 395 a) ≤ 2147483647 → (((fw_g W 395 a) < 0 → 0 ≤ a ∧ a < 40 ∧ (0 ≤ (fw_g W 391 a) → (fw_g W 391 a) ≤ 5 → 0 ≤ a ∧ a < 40 ∧ (0 ≤ (fw_g W 392 a) → (fw_g W 392 a) ≤ 5 → 0 ≤ a ∧ a < 40 ∧ (0 ≤ (fw_g W 393 a) → (fw_g W 393 a) ≤ 999 → (0 ≤ (fw_g W 391 a) ∧ (fw_g W 391 a) < 6 ∧ 0 ≤ (fw_g W 392 a) ∧ (fw_g W 392 a) < 6) ∧ (∀ (f1 : fw_W), ((∀ i, 0 ≤ i → (fw_g f1 396 i) = (if 6 * (fw_g W 392 a) + (fw_g W 391 a) = i then (fw_g W 393 a) else if 6 * (fw_g W 391 a) + (fw_g W 392 a) = i then (fw_g W 393 a) else (fw_g f 396 i)))) → -2147483648 ≤ a + (1 : Int) ∧ a + (1 : Int) ≤ 2147483647 ∧ (jf fw_T (d + 2) 304 23 [(0, .inr (.inl 352)), (1, .inl n), (2, .inl k), (3, .inl (a + (1 : Int)))] [] (fw_put [396] 352 [] (fw_put [396] 352 [] W f) f1) Post)))))) ∧ (0 ≤ (fw_g W 395 a) → 0 ≤ a ∧ a < 40 ∧ (-2147483648 ≤ (fw_g W 395 a) → (fw_g W 395 a) ≤ 2147483647 → (((fw_g W 395 a) ≤ k → -2147483648 ≤ a + (1 : Int) ∧ a + (1 : Int) ≤ 2147483647 ∧ (jf fw_T (d + 2) 304 23 [(0, .inr (.inl 352)), (1, .inl n), (2, .inl k), (3, .inl (a + (1 : Int)))] [] (fw_put [396] 352 [] W f) Post)) ∧ (k < (fw_g W 395 a) → 0 ≤ a ∧ a < 40 ∧ (0 ≤ (fw_g W 391 a) → (fw_g W 391 a) ≤ 5 → 0 ≤ a ∧ a < 40 ∧ (0 ≤ (fw_g W 392 a) → (fw_g W 392 a) ≤ 5 → 0 ≤ a ∧ a < 40 ∧ (0 ≤ (fw_g W 393 a) → (fw_g W 393 a) ≤ 999 → (0 ≤ (fw_g W 391 a) ∧ (fw_g W 391 a) < 6 ∧ 0 ≤ (fw_g W 392 a) ∧ (fw_g W 392 a) < 6) ∧ (∀ (f2 : fw_W), ((∀ i, 0 ≤ i → (fw_g f2 396 i) = (if 6 * (fw_g W 392 a) + (fw_g W 391 a) = i then (fw_g W 393 a) else if 6 * (fw_g W 391 a) + (fw_g W 392 a) = i then (fw_g W 393 a) else (fw_g f 396 i)))) → -2147483648 ≤ a + (1 : Int) ∧ a + (1 : Int) ≤ 2147483647 ∧ (jf fw_T (d + 2) 304 23 [(0, .inr (.inl 352)), (1, .inl n), (2, .inl k), (3, .inl (a + (1 : Int)))] [] (fw_put [396] 352 [] (fw_put [396] 352 [] W f) f2) Post)))))))))))))))))) :
    jf fw_T (d + 2) 304 23 [(0, .inr (.inl 352)), (1, .inl n), (2, .inl k), (3, .inl a)] [] (fw_put [396] 352 [] W f) Post := fw_ok (n := 38) (ss := [(2, [0, 1, 2, 3]), (23, [0, 1, 2, 3]), (90, [0, 1, 3]), (98, [0, 1, 3, 4])]) (hv := []) fr_304_ok fm_ok (ct_layKnown_ok d) hw_

theorem s_layKnown_2 {Post : Option fw_V → fw_W → Prop} {d : Nat} {W : fw_W} {n k a : Int} {f : fw_W}
    (hw_ : (((36 : Int) ≤ a → jf fw_T (d + 2) 304 23 [(0, .inr (.inl 352)), (1, .inl n), (2, .inl k), (3, .inl (0 : Int))] [] (fw_put [396] 352 [] W f) Post) ∧ (a < (36 : Int) → 0 ≤ a ∧ a < 36 ∧ -2147483648 ≤ (0 : Int) ∧ (0 : Int) ≤ 2147483647 ∧ (-2147483648 ≤ a + (1 : Int) ∧ a + (1 : Int) ≤ 2147483647 ∧ (jf fw_T (d + 2) 304 2 [(0, .inr (.inl 352)), (1, .inl n), (2, .inl k), (3, .inl (a + (1 : Int)))] [] (fw_up (fw_put [396] 352 [] W f) 396 a (0 : Int)) Post))))) :
    jf fw_T (d + 2) 304 2 [(0, .inr (.inl 352)), (1, .inl n), (2, .inl k), (3, .inl a)] [] (fw_put [396] 352 [] W f) Post := fw_ok (n := 11) (ss := [(2, [0, 1, 2, 3]), (23, [0, 1, 2, 3]), (90, [0, 1, 3]), (98, [0, 1, 3, 4])]) (hv := []) fr_304_ok fm_ok (ct_layKnown_ok d) hw_

theorem lm_layKnown_98 {Post : Option fw_V → fw_W → Prop} {d : Nat} {W : fw_W} {n k : Int} (hpre : 0 ≤ n ∧ n ≤ 6) (hP : ∀ (v : Int) (W2 : fw_W), fw_sm [396] 352 [] W W2 → (0 ≤ v ∧ v ≤ 1 ∧ ((∀ i, 0 ≤ i → i < 36 → 0 ≤ (fw_g W2 396 i) ∧ (fw_g W2 396 i) ≤ 999))) → Post (some (.inl v)) W2) (M90 : Int) (h90 : ∀ (a : Int) (f : fw_W), (0 ≤ a ∧ (∀ i, 0 ≤ i → i < 36 → 0 ≤ (fw_g f 396 i) ∧ (fw_g f 396 i) ≤ 999)) → (n - a) < M90 → jf fw_T (d + 2) 304 90 [(0, .inr (.inl 352)), (1, .inl n), (3, .inl a)] [] (fw_put [396] 352 [] W f) Post) : ∀ (m : Nat) (a b : Int) (f : fw_W), (a - b).toNat = m → (0 ≤ b ∧ (0 ≤ a ∧ a < n) ∧ (∀ i, 0 ≤ i → i < 36 → 0 ≤ (fw_g f 396 i) ∧ (fw_g f 396 i) ≤ 999)) → (n - a) ≤ M90 → jf fw_T (d + 2) 304 98 [(0, .inr (.inl 352)), (1, .inl n), (3, .inl a), (4, .inl b)] [] (fw_put [396] 352 [] W f) Post := by
  intro m
  induction m using Nat.strongRecOn with
  | ind m ih =>
    intro a b f hm hi e90
    refine jf_rng (fun hrg => ?_)
    have hrg : -2147483648 ≤ n ∧ n ≤ 2147483647 ∧ -2147483648 ≤ a ∧ a ≤ 2147483647 ∧ -2147483648 ≤ b ∧ b ≤ 2147483647 ∧ True := hrg
    refine s_layKnown_98 ?_
    have hi1 := hi.1
    have hi2 := hi.2.1
    repeat' (first
      | (exact True.intro)
      | (exact hpre.1)
      | (refine And.intro ?_ ?_)
      | (refine (h90 _ _ ?_ (by omega)); (exact ⟨by omega, hi.2.2⟩))
      | (refine jf_put (S := [396]) (o := 352) (F := []) (W := W) (by repeat (first | exact fw_sm_refl | exact fw_sm_put0 | refine fw_sm_arr ?_ rfl | refine fw_sm_up ?_ rfl | refine fw_sm_put ?_ rfl | refine fw_sm_cp ?_ rfl)) (h90 _ _ ?_ (by omega)); (exact ⟨by omega, hi.2.2⟩))
      | (refine (ih _ (by omega) _ _ _ rfl ?_ (by omega)); (exact ⟨by omega, by omega, hi.2.2⟩))
      | (refine jf_put (S := [396]) (o := 352) (F := []) (W := W) (by repeat (first | exact fw_sm_refl | exact fw_sm_put0 | refine fw_sm_arr ?_ rfl | refine fw_sm_up ?_ rfl | refine fw_sm_put ?_ rfl | refine fw_sm_cp ?_ rfl)) (ih _ (by omega) _ _ _ rfl ?_ (by omega)); (exact ⟨by omega, by omega, hi.2.2⟩))
      | (refine hP _ _ (by repeat (first | exact fw_sm_refl | exact fw_sm_put0 | refine fw_sm_arr ?_ rfl | refine fw_sm_up ?_ rfl | refine fw_sm_put ?_ rfl | refine fw_sm_cp ?_ rfl)) ?_; (refine ⟨by omega, by omega, ?_⟩; (first | exact hi.2.2 | exact hi.2)))
      | omega
      | (intro _))
theorem lm_layKnown_90 {Post : Option fw_V → fw_W → Prop} {d : Nat} {W : fw_W} {n k : Int} (hpre : 0 ≤ n ∧ n ≤ 6) (hP : ∀ (v : Int) (W2 : fw_W), fw_sm [396] 352 [] W W2 → (0 ≤ v ∧ v ≤ 1 ∧ ((∀ i, 0 ≤ i → i < 36 → 0 ≤ (fw_g W2 396 i) ∧ (fw_g W2 396 i) ≤ 999))) → Post (some (.inl v)) W2)  : ∀ (m : Nat) (a : Int) (f : fw_W), (n - a).toNat = m → (0 ≤ a ∧ (∀ i, 0 ≤ i → i < 36 → 0 ≤ (fw_g f 396 i) ∧ (fw_g f 396 i) ≤ 999)) → jf fw_T (d + 2) 304 90 [(0, .inr (.inl 352)), (1, .inl n), (3, .inl a)] [] (fw_put [396] 352 [] W f) Post := by
  intro m
  induction m using Nat.strongRecOn with
  | ind m ih =>
    intro a f hm hi
    refine jf_rng (fun hrg => ?_)
    have hrg : -2147483648 ≤ n ∧ n ≤ 2147483647 ∧ -2147483648 ≤ a ∧ a ≤ 2147483647 ∧ True := hrg
    refine s_layKnown_90 ?_
    have hi1 := hi.1
    repeat' (first
      | (exact True.intro)
      | (exact hpre.1)
      | (refine And.intro ?_ ?_)
      | (refine (ih _ (by omega) _ _ rfl ?_); (first | omega | trivial | (simp (config := { decide := true }) only [fg_in, fg_fin, fg_out, fg_fout, fg_up, fg_same, true_and, and_true] <;> omega)))
      | (refine jf_put (S := [396]) (o := 352) (F := []) (W := W) (by repeat (first | exact fw_sm_refl | exact fw_sm_put0 | refine fw_sm_arr ?_ rfl | refine fw_sm_up ?_ rfl | refine fw_sm_put ?_ rfl | refine fw_sm_cp ?_ rfl)) (ih _ (by omega) _ _ rfl ?_); (first | omega | trivial | (simp (config := { decide := true }) only [fg_in, fg_fin, fg_out, fg_fout, fg_up, fg_same, true_and, and_true] <;> omega)))
      | (refine (lm_layKnown_98 (n := n) (k := k) hpre hP (n - a) (fun a0 af hi hl => ih _ (by omega) a0 af rfl hi) _ _ _ _ rfl ?_ (by omega)); (exact ⟨by omega, by omega, hi.2⟩))
      | (refine jf_put (S := [396]) (o := 352) (F := []) (W := W) (by repeat (first | exact fw_sm_refl | exact fw_sm_put0 | refine fw_sm_arr ?_ rfl | refine fw_sm_up ?_ rfl | refine fw_sm_put ?_ rfl | refine fw_sm_cp ?_ rfl)) (lm_layKnown_98 (n := n) (k := k) hpre hP (n - a) (fun a0 af hi hl => ih _ (by omega) a0 af rfl hi) _ _ _ _ rfl ?_ (by omega)); (exact ⟨by omega, by omega, hi.2⟩))
      | (refine hP _ _ (by repeat (first | exact fw_sm_refl | exact fw_sm_put0 | refine fw_sm_arr ?_ rfl | refine fw_sm_up ?_ rfl | refine fw_sm_put ?_ rfl | refine fw_sm_cp ?_ rfl)) ?_; (refine ⟨by omega, by omega, ?_⟩; (first | exact hi.2.2 | exact hi.2)))
      | omega
      | (intro _))
theorem lm_layKnown_23 {Post : Option fw_V → fw_W → Prop} {d : Nat} {W : fw_W} {n k : Int} (hpre : 0 ≤ n ∧ n ≤ 6) (hP : ∀ (v : Int) (W2 : fw_W), fw_sm [396] 352 [] W W2 → (0 ≤ v ∧ v ≤ 1 ∧ ((∀ i, 0 ≤ i → i < 36 → 0 ≤ (fw_g W2 396 i) ∧ (fw_g W2 396 i) ≤ 999))) → Post (some (.inl v)) W2)  : ∀ (m : Nat) (a : Int) (f : fw_W), ((fw_g W 352 65) - a).toNat = m → (0 ≤ a ∧ (∀ i, 0 ≤ i → i < 36 → 0 ≤ (fw_g f 396 i) ∧ (fw_g f 396 i) ≤ 999)) → jf fw_T (d + 2) 304 23 [(0, .inr (.inl 352)), (1, .inl n), (2, .inl k), (3, .inl a)] [] (fw_put [396] 352 [] W f) Post := by
  intro m
  induction m using Nat.strongRecOn with
  | ind m ih =>
    intro a f hm hi
    refine jf_rng (fun hrg => ?_)
    have hrg : -2147483648 ≤ n ∧ n ≤ 2147483647 ∧ -2147483648 ≤ k ∧ k ≤ 2147483647 ∧ -2147483648 ≤ a ∧ a ≤ 2147483647 ∧ True := hrg
    refine s_layKnown_23 ?_
    have hi1 := hi.1
    repeat' (first
      | (exact True.intro)
      | (exact hpre.1)
      | (refine And.intro ?_ ?_)
      | (refine (ih _ (by omega) _ _ rfl ?_); (first
        | exact ⟨by omega, hi.2⟩
        | (rename_i f1 hs
           refine ⟨by omega, fun i j1 j2 => ?_⟩
           rw [fg_in rfl, hs i j1]
           have h3 := hi.2 i j1 j2
           split
           · omega
           · split
             · omega
             · exact h3)))
      | (refine jf_put (S := [396]) (o := 352) (F := []) (W := W) (by repeat (first | exact fw_sm_refl | exact fw_sm_put0 | refine fw_sm_arr ?_ rfl | refine fw_sm_up ?_ rfl | refine fw_sm_put ?_ rfl | refine fw_sm_cp ?_ rfl)) (ih _ (by omega) _ _ rfl ?_); (first
        | exact ⟨by omega, hi.2⟩
        | (rename_i f1 hs
           refine ⟨by omega, fun i j1 j2 => ?_⟩
           rw [fg_in rfl, hs i j1]
           have h3 := hi.2 i j1 j2
           split
           · omega
           · split
             · omega
             · exact h3)))
      | (refine (lm_layKnown_90 (n := n) (k := k) hpre hP _ _ _ rfl ?_); (exact ⟨by omega, hi.2⟩))
      | (refine jf_put (S := [396]) (o := 352) (F := []) (W := W) (by repeat (first | exact fw_sm_refl | exact fw_sm_put0 | refine fw_sm_arr ?_ rfl | refine fw_sm_up ?_ rfl | refine fw_sm_put ?_ rfl | refine fw_sm_cp ?_ rfl)) (lm_layKnown_90 (n := n) (k := k) hpre hP _ _ _ rfl ?_); (exact ⟨by omega, hi.2⟩))
      | (refine hP _ _ (by repeat (first | exact fw_sm_refl | exact fw_sm_put0 | refine fw_sm_arr ?_ rfl | refine fw_sm_up ?_ rfl | refine fw_sm_put ?_ rfl | refine fw_sm_cp ?_ rfl)) ?_; (refine ⟨by omega, by omega, ?_⟩; (first | exact hi.2.2 | exact hi.2)))
      | omega
      | (intro _))
theorem lm_layKnown_2 {Post : Option fw_V → fw_W → Prop} {d : Nat} {W : fw_W} {n k : Int} (hpre : 0 ≤ n ∧ n ≤ 6) (hP : ∀ (v : Int) (W2 : fw_W), fw_sm [396] 352 [] W W2 → (0 ≤ v ∧ v ≤ 1 ∧ ((∀ i, 0 ≤ i → i < 36 → 0 ≤ (fw_g W2 396 i) ∧ (fw_g W2 396 i) ≤ 999))) → Post (some (.inl v)) W2)  : ∀ (m : Nat) (a : Int) (f : fw_W), ((36 : Int) - a).toNat = m → (0 ≤ a ∧ (a ≤ 36 ∧ ∀ i, 0 ≤ i → i < a → 0 ≤ (fw_g f 396 i) ∧ (fw_g f 396 i) ≤ 999)) → jf fw_T (d + 2) 304 2 [(0, .inr (.inl 352)), (1, .inl n), (2, .inl k), (3, .inl a)] [] (fw_put [396] 352 [] W f) Post := by
  intro m
  induction m using Nat.strongRecOn with
  | ind m ih =>
    intro a f hm hi
    refine jf_rng (fun hrg => ?_)
    have hrg : -2147483648 ≤ n ∧ n ≤ 2147483647 ∧ -2147483648 ≤ k ∧ k ≤ 2147483647 ∧ -2147483648 ≤ a ∧ a ≤ 2147483647 ∧ True := hrg
    refine s_layKnown_2 ?_
    have hi1 := hi.1
    have hi2 := hi.2.1
    repeat' (first
      | (exact True.intro)
      | (exact hpre.1)
      | (refine And.intro ?_ ?_)
      | (refine (ih _ (by omega) _ _ rfl ?_); (
        refine ⟨by omega, by omega, fun i j1 j2 => ?_⟩
        rw [fg_if (by omega) (by omega) (by omega) (by omega)]
        by_cases e : a = i
        · rw [if_pos e]; omega
        · rw [if_neg e]; exact hi.2.2 i j1 (by omega)))
      | (refine jf_put (S := [396]) (o := 352) (F := []) (W := W) (by repeat (first | exact fw_sm_refl | exact fw_sm_put0 | refine fw_sm_arr ?_ rfl | refine fw_sm_up ?_ rfl | refine fw_sm_put ?_ rfl | refine fw_sm_cp ?_ rfl)) (ih _ (by omega) _ _ rfl ?_); (
        refine ⟨by omega, by omega, fun i j1 j2 => ?_⟩
        rw [fg_if (by omega) (by omega) (by omega) (by omega)]
        by_cases e : a = i
        · rw [if_pos e]; omega
        · rw [if_neg e]; exact hi.2.2 i j1 (by omega)))
      | (refine (lm_layKnown_23 (n := n) (k := k) hpre hP _ _ _ rfl ?_); (exact ⟨by omega, fun i j1 j2 => hi.2.2 i j1 (by omega)⟩))
      | (refine jf_put (S := [396]) (o := 352) (F := []) (W := W) (by repeat (first | exact fw_sm_refl | exact fw_sm_put0 | refine fw_sm_arr ?_ rfl | refine fw_sm_up ?_ rfl | refine fw_sm_put ?_ rfl | refine fw_sm_cp ?_ rfl)) (lm_layKnown_23 (n := n) (k := k) hpre hP _ _ _ rfl ?_); (exact ⟨by omega, fun i j1 j2 => hi.2.2 i j1 (by omega)⟩))
      | (refine hP _ _ (by repeat (first | exact fw_sm_refl | exact fw_sm_put0 | refine fw_sm_arr ?_ rfl | refine fw_sm_up ?_ rfl | refine fw_sm_put ?_ rfl | refine fw_sm_cp ?_ rfl)) ?_; (refine ⟨by omega, by omega, ?_⟩; (first | exact hi.2.2 | exact hi.2)))
      | omega
      | (intro _))
def x_layKnown : fw_X := fun as W Q => match as with
  | [.inr (.inl s_), .inl n, .inl k] => fw_if (Nat.beq s_ 352) ((0 ≤ n ∧ n ≤ 6) ∧ (∀ (v : Int) (f : fw_W), (0 ≤ v ∧ v ≤ 1 ∧ ((∀ i, 0 ≤ i → i < 36 → 0 ≤ (fw_g f 396 i) ∧ (fw_g f 396 i) ≤ 999))) → Q (some (.inl v)) (fw_put [396] 352 [] W f)))
  | _ => False
theorem x_layKnown_ok (d : Nat) (as : List fw_V) (W : fw_W) (Q : Option fw_V → fw_W → Prop) (hx : x_layKnown as W Q) : jf fw_T (d + 2) 304 0 (fw_args 0 as) [] W Q := by
  unfold x_layKnown at hx
  split at hx
  · rename_i s_ n k
    obtain ⟨e_, hpre, hQ⟩ := fw_if_ok hx
    have e_ := Nat.eq_of_beq_eq_true e_
    subst e_
    have hP : ∀ (v : Int) (W2 : fw_W), fw_sm [396] 352 [] W W2 → _ → Q (some (.inl v)) W2 := fun v W2 hs hr => fw_sm_use (Q := fun Z => Q (some (.inl v)) Z) hs (hQ v W2 hr)
    refine s_layKnown_0 ?_
    repeat' (first
      | (exact True.intro)
      | (exact hpre.1)
      | (refine And.intro ?_ ?_)
      | (refine jf_put (S := [396]) (o := 352) (F := []) (W := W) (by repeat (first | exact fw_sm_refl | exact fw_sm_put0 | refine fw_sm_arr ?_ rfl | refine fw_sm_up ?_ rfl | refine fw_sm_put ?_ rfl | refine fw_sm_cp ?_ rfl)) (lm_layKnown_2 (n := n) (k := k) hpre hP _ _ _ rfl ?_); (exact ⟨by omega, by omega, fun i i1 i2 => by omega⟩))
      | (refine jf_put (S := [396]) (o := 352) (F := []) (W := W) (by repeat (first | exact fw_sm_refl | exact fw_sm_put0 | refine fw_sm_arr ?_ rfl | refine fw_sm_up ?_ rfl | refine fw_sm_put ?_ rfl | refine fw_sm_cp ?_ rfl)) (lm_layKnown_23 (n := n) (k := k) hpre hP _ _ _ rfl ?_); (first | omega | trivial | (simp (config := { decide := true }) only [fg_in, fg_fin, fg_out, fg_fout, fg_up, fg_same, true_and, and_true] <;> omega)))
      | (refine jf_put (S := [396]) (o := 352) (F := []) (W := W) (by repeat (first | exact fw_sm_refl | exact fw_sm_put0 | refine fw_sm_arr ?_ rfl | refine fw_sm_up ?_ rfl | refine fw_sm_put ?_ rfl | refine fw_sm_cp ?_ rfl)) (lm_layKnown_90 (n := n) (k := k) hpre hP _ _ _ rfl ?_); (first | omega | trivial | (simp (config := { decide := true }) only [fg_in, fg_fin, fg_out, fg_fout, fg_up, fg_same, true_and, and_true] <;> omega)))
      | (refine jf_put (S := [396]) (o := 352) (F := []) (W := W) (by repeat (first | exact fw_sm_refl | exact fw_sm_put0 | refine fw_sm_arr ?_ rfl | refine fw_sm_up ?_ rfl | refine fw_sm_put ?_ rfl | refine fw_sm_cp ?_ rfl)) (lm_layKnown_98 (n := n) (k := k) hpre hP M90 h90 _ _ _ _ rfl ?_ (by omega)); (first | omega | trivial | (simp (config := { decide := true }) only [fg_in, fg_fin, fg_out, fg_fout, fg_up, fg_same, true_and, and_true] <;> omega)))
      | (refine hP _ _ (by repeat (first | exact fw_sm_refl | exact fw_sm_put0 | refine fw_sm_arr ?_ rfl | refine fw_sm_up ?_ rfl | refine fw_sm_put ?_ rfl | refine fw_sm_cp ?_ rfl)) ?_; (refine ⟨by omega, by omega, ?_⟩; (first | exact hi.2.2 | exact hi.2)))
      | omega
      | (intro _))
  · exact hx.elim

def fr_303 : fw_P := [(0, 1, 1, 0, 0), (1, 0, 0, 0, 2), (2, 0, 0, 0, 6), (4, 65, 214, 3, 300), (7, 21, 12, 0, 0), (10, 0, 0, 0, -1), (11, 70, 0, 0, 0), (12, 2, 0, 0, 0), (13, 1, 1, 0, 0), (14, 1, 2, 0, 0), (15, 64, 304, 2, 512), (18, 20, 29, 0, 0), (21, 2, 0, 0, 0), (22, 1, 1, 0, 0), (23, 64, 306, 1, 712), (26, 6, 31, 0, 0), (29, 0, 0, 0, -2), (31, 70, 0, 0, 0)]
theorem fr_303_ok : fw_mk 303 3 12 (some .int) fr_303 = true := by decide +kernel
def ct_wrong : List (Nat × fw_X) := [(214, x_isIn), (304, x_layKnown), (306, x_wrongOf)]
theorem ct_wrong_ok (d : Nat) : fw_cok fw_T (d + 3) ct_wrong := by
  intro q hq as W Q h
  simp only [ct_wrong, List.mem_cons, List.not_mem_nil, or_false] at hq
  rcases hq with rfl | rfl | rfl
  · exact jc_of (x_isIn_ok (d + 2) as W Q h)
  · exact jc_of (x_layKnown_ok (d + 1) as W Q h)
  · exact jc_of (x_wrongOf_ok (d + 0) as W Q h)
theorem s_wrong_0 {Post : Option fw_V → fw_W → Prop} {d : Nat} {W : fw_W} {n k : Int}
    (hw_ : (True) ∧ (∀ (r1 : Int), ((0 ≤ r1 ∧ r1 ≤ 1 ∧ ((r1 = 1 ∧ (2 : Int) ≤ n ∧ n ≤ (6 : Int)) ∨ (r1 = 0 ∧ (n < (2 : Int) ∨ (6 : Int) < n))))) → ((¬ r1 = 0 → (0 ≤ n ∧ n ≤ 6) ∧ (∀ (r2 : Int) (f3 : fw_W), ((0 ≤ r2 ∧ r2 ≤ 1 ∧ ((∀ i, 0 ≤ i → i < 36 → 0 ≤ (fw_g f3 396 i) ∧ (fw_g f3 396 i) ≤ 999)))) → ((r2 = 0 → (-2147483648 ≤ (-2 : Int) → (-2 : Int) ≤ 2147483647 → Post (some (.inl (-2 : Int))) (fw_put [396] 352 [] W f3))) ∧ (¬ r2 = 0 → (2 ≤ n ∧ n ≤ 6) ∧ (∀ (r4 : Int), ((-2147483648 ≤ r4 ∧ r4 ≤ 2147483647 ∧ (True))) → (-2147483648 ≤ r4 → r4 ≤ 2147483647 → Post (some (.inl r4)) (fw_put [396] 352 [] W f3))))))) ∧ (r1 = 0 → (-2147483648 ≤ (-1 : Int) → (-1 : Int) ≤ 2147483647 → Post (some (.inl (-1 : Int))) W))))) :
    jf fw_T (d + 4) 303 0 [(0, .inr (.inl 352)), (1, .inl n), (2, .inl k)] [] W Post := fw_ok (n := 16) (ss := []) (hv := []) fr_303_ok fm_ok (ct_wrong_ok d) hw_

def x_wrong : fw_X := fun as W Q => match as with
  | [.inr (.inl s_), .inl n, .inl k] => fw_if (Nat.beq s_ 352) ((True) ∧ (∀ (v : Int) (f : fw_W), (-2147483648 ≤ v ∧ v ≤ 2147483647 ∧ (True)) → Q (some (.inl v)) (fw_put [396] 352 [] W f)))
  | _ => False
theorem x_wrong_ok (d : Nat) (as : List fw_V) (W : fw_W) (Q : Option fw_V → fw_W → Prop) (hx : x_wrong as W Q) : jf fw_T (d + 4) 303 0 (fw_args 0 as) [] W Q := by
  unfold x_wrong at hx
  split at hx
  · rename_i s_ n k
    obtain ⟨e_, hpre, hQ⟩ := fw_if_ok hx
    have e_ := Nat.eq_of_beq_eq_true e_
    subst e_
    have hP : ∀ (v : Int) (W2 : fw_W), fw_sm [396] 352 [] W W2 → _ → Q (some (.inl v)) W2 := fun v W2 hs hr => fw_sm_use (Q := fun Z => Q (some (.inl v)) Z) hs (hQ v W2 hr)
    refine s_wrong_0 ?_
    repeat' (first
      | (exact True.intro)
      | (exact hpre.1)
      | (refine And.intro ?_ ?_)
      | (refine hP _ _ (by repeat (first | exact fw_sm_refl | exact fw_sm_put0 | refine fw_sm_arr ?_ rfl | refine fw_sm_up ?_ rfl | refine fw_sm_put ?_ rfl | refine fw_sm_cp ?_ rfl)) ?_; (refine ⟨by omega, by omega, ?_⟩; (first | trivial | omega)))
      | omega
      | (intro _))
  · exact hx.elim

