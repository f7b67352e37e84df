/-! the reference, method by method -/
def ct_tried3 : List (Nat × fw_X) := [(289, x_growsFrom), (214, x_isIn), (293, x_isSo3)]
theorem ct_tried3_ok (d : Nat) : fw_cok fw_T (d + 7) ct_tried3 := by
  intro q hq as W Q h
  simp only [ct_tried3, List.mem_cons, List.not_mem_nil, or_false] at hq
  rcases hq with rfl | rfl | rfl
  · exact jc_of (x_growsFrom_ok (d + 4) as W Q h)
  · exact jc_of (x_isIn_ok (d + 6) as W Q h)
  · exact jc_of (x_isSo3_ok (d + 0) as W Q h)
theorem s_tried3_0 {Post : Option fw_V → fw_W → Prop} {d : Nat} {W : fw_W} {law nn : Int}
    (hw_ : (True) ∧ (∀ (r1 : Int), ((0 ≤ r1 ∧ r1 ≤ 1 ∧ ((r1 = 1 ∧ (0 : Int) ≤ law ∧ law ≤ (2 : Int)) ∨ (r1 = 0 ∧ (law < (0 : Int) ∨ (2 : Int) < law))))) → ((r1 = 0 → (-2147483648 ≤ (-1 : Int) → (-1 : Int) ≤ 2147483647 → Post (some (.inl (-1 : Int))) W)) ∧ (¬ r1 = 0 → (True) ∧ (∀ (r2 : Int), ((0 ≤ r2 ∧ r2 ≤ 1 ∧ ((r2 = 1 ∧ (2 : Int) ≤ nn ∧ nn ≤ (6 : Int)) ∨ (r2 = 0 ∧ (nn < (2 : Int) ∨ (6 : Int) < nn))))) → ((¬ r2 = 0 → jf fw_T (d + 8) 292 23 [(0, .inr (.inl 352)), (1, .inl law), (2, .inl nn), (3, .inl (0 : Int))] [] W Post) ∧ (r2 = 0 → (-2147483648 ≤ (-1 : Int) → (-1 : Int) ≤ 2147483647 → Post (some (.inl (-1 : Int))) W)))))))) :
    jf fw_T (d + 8) 292 0 [(0, .inr (.inl 352)), (1, .inl law), (2, .inl nn)] [] W Post := fw_ok (n := 13) (ss := [(23, [0, 1, 2, 3]), (52, [0, 1, 2, 3, 4]), (76, [0, 1, 2, 3, 4, 5]), (89, [0, 1, 2, 3, 4, 5, 6, 7]), (152, [0, 4, 5])]) (hv := [62]) fr_292_ok fm_ok (ct_tried3_ok d) hw_

theorem s_tried3_89 {Post : Option fw_V → fw_W → Prop} {d : Nat} {W : fw_W} {law nn rows not_ v_ rest i : Int} {f : fw_W}
    (hw_ : -2147483648 ≤ nn - (2 : Int) ∧ nn - (2 : Int) ≤ 2147483647 ∧ ((((nn - (2 : Int)) ≤ i → ((2 ≤ nn ∧ nn ≤ 14) ∧ (∀ i_, 0 ≤ i_ → i_ < nn - 2 → 0 ≤ (fw_g f 387 i_) ∧ (fw_g f 387 i_) < nn) ∧ 0 ≤ (fw_g f 366 1) ∧ (fw_g f 366 1) ≤ 999) ∧ (∀ (f1 : fw_W), ((mt (fw_put [389, 388, 366, 371] 352 [] (fw_put [385, 366, 387, 389, 388, 371, 367, 370] 352 [] W f) f1) ∧ (fw_g f1 366 0) = nn ∧ ∀ x_, 1 ≤ x_ → x_ < nn → (fw_g f1 366 (3 + 3 * x_)) = 1)) → ∃ (q_2 : List Nat), ∃ (u_3 : Nat), (qok ((fw_g f1 366 0)).toNat q_2 = true ∧ 2 ≤ (fw_g f1 366 0) ∧ (fw_g f1 366 0) ≤ 6 ∧ (∀ x_, 1 ≤ x_ → x_ < (fw_g f1 366 0) → (fw_g f1 366 (2 + 3 * x_)) = ((qp q_2 x_.toNat : Nat) : Int)) ∧ q2 ((fw_g f1 366 0)).toNat u_3 q_2 = true) ∧ (mt (fw_put [389, 388, 366, 371] 352 [] (fw_put [385, 366, 387, 389, 388, 371, 367, 370] 352 [] W f) f1) ∧ 0 ≤ (fw_g f1 366 0) ∧ (fw_g f1 366 0) ≤ 14 ∧ (∀ x_, 1 ≤ x_ → x_ < (fw_g f1 366 0) → (fw_g f1 366 (3 + 3 * x_)) = 1)) ∧ (∀ (r4 : Int) (f5 : fw_W), ((0 ≤ r4 ∧ r4 ≤ 1 ∧ (r4 = 1))) → ((r4 = 0 → -2147483648 ≤ not_ + (1 : Int) ∧ not_ + (1 : Int) ≤ 2147483647 ∧ (-2147483648 ≤ v_ + (1 : Int) ∧ v_ + (1 : Int) ≤ 2147483647 ∧ (jf fw_T (d + 8) 292 76 [(0, .inr (.inl 352)), (1, .inl law), (2, .inl nn), (3, .inl rows), (4, .inl (not_ + (1 : Int))), (5, .inl (v_ + (1 : Int)))] [] (fw_put [367, 370] 352 [] (fw_put [389, 388, 366, 371] 352 [] (fw_put [385, 366, 387, 389, 388, 371, 367, 370] 352 [] W f) f1) f5) Post))) ∧ (¬ r4 = 0 → -2147483648 ≤ not_ + (0 : Int) ∧ not_ + (0 : Int) ≤ 2147483647 ∧ (-2147483648 ≤ v_ + (1 : Int) ∧ v_ + (1 : Int) ≤ 2147483647 ∧ (jf fw_T (d + 8) 292 76 [(0, .inr (.inl 352)), (1, .inl law), (2, .inl nn), (3, .inl rows), (4, .inl (not_ + (0 : Int))), (5, .inl (v_ + (1 : Int)))] [] (fw_put [367, 370] 352 [] (fw_put [389, 388, 366, 371] 352 [] (fw_put [385, 366, 387, 389, 388, 371, 367, 370] 352 [] W f) f1) f5) Post))))))) ∧ (i < (nn - (2 : Int)) → 0 ≤ rest ∧ 0 < nn ∧ (0 ≤ i ∧ i < 14 ∧ 0 ≤ (rest % nn) ∧ (rest % nn) ≤ 15 ∧ (0 ≤ rest ∧ 0 < nn ∧ (-2147483648 ≤ i + (1 : Int) ∧ i + (1 : Int) ≤ 2147483647 ∧ (jf fw_T (d + 8) 292 89 [(0, .inr (.inl 352)), (1, .inl law), (2, .inl nn), (3, .inl rows), (4, .inl not_), (5, .inl v_), (6, .inl (rest / nn)), (7, .inl (i + (1 : Int)))] [] (fw_up (fw_put [385, 366, 387, 389, 388, 371, 367, 370] 352 [] W f) 387 i (rest % nn)) Post)))))))) :
    jf fw_T (d + 8) 292 89 [(0, .inr (.inl 352)), (1, .inl law), (2, .inl nn), (3, .inl rows), (4, .inl not_), (5, .inl v_), (6, .inl rest), (7, .inl i)] [] (fw_put [385, 366, 387, 389, 388, 371, 367, 370] 352 [] W f) Post := fw_ok (n := 20) (ss := [(23, [0, 1, 2, 3]), (52, [0, 1, 2, 3, 4]), (76, [0, 1, 2, 3, 4, 5]), (89, [0, 1, 2, 3, 4, 5, 6, 7]), (152, [0, 4, 5])]) (hv := [62]) fr_292_ok fm_ok (ct_tried3_ok d) hw_

theorem s_tried3_152 {Post : Option fw_V → fw_W → Prop} {d : Nat} {W : fw_W} {not_ v_ : Int} {f : fw_W}
    (hw_ : (((44 : Int) ≤ v_ → (-2147483648 ≤ not_ → not_ ≤ 2147483647 → Post (some (.inl not_)) (fw_put [385, 366, 387, 389, 388, 371, 367, 370] 352 [] W f))) ∧ (v_ < (44 : Int) → 0 ≤ v_ ∧ v_ < 44 ∧ (-2147483648 ≤ (fw_g f 385 v_) → (fw_g f 385 v_) ≤ 2147483647 → 0 ≤ v_ ∧ v_ < 44 ∧ -2147483648 ≤ (fw_g f 385 v_) ∧ (fw_g f 385 v_) ≤ 2147483647 ∧ (-2147483648 ≤ v_ + (1 : Int) ∧ v_ + (1 : Int) ≤ 2147483647 ∧ (jf fw_T (d + 8) 292 152 [(0, .inr (.inl 352)), (4, .inl not_), (5, .inl (v_ + (1 : Int)))] [] (fw_up (fw_put [385, 366, 387, 389, 388, 371, 367, 370] 352 [] W f) 366 v_ (fw_g f 385 v_)) Post)))))) :
    jf fw_T (d + 8) 292 152 [(0, .inr (.inl 352)), (4, .inl not_), (5, .inl v_)] [] (fw_put [385, 366, 387, 389, 388, 371, 367, 370] 352 [] W f) Post := fw_ok (n := 14) (ss := [(23, [0, 1, 2, 3]), (52, [0, 1, 2, 3, 4]), (76, [0, 1, 2, 3, 4, 5]), (89, [0, 1, 2, 3, 4, 5, 6, 7]), (152, [0, 4, 5])]) (hv := [62]) fr_292_ok fm_ok (ct_tried3_ok d) hw_

theorem s_tried3_76 {Post : Option fw_V → fw_W → Prop} {d : Nat} {W : fw_W} {law nn rows not_ v_ : Int} {f : fw_W}
    (hw_ : ((rows ≤ v_ → jf fw_T (d + 8) 292 152 [(0, .inr (.inl 352)), (4, .inl not_), (5, .inl (0 : Int))] [] (fw_put [385, 366, 387, 389, 388, 371, 367, 370] 352 [] W f) Post) ∧ (v_ < rows → jf fw_T (d + 8) 292 89 [(0, .inr (.inl 352)), (1, .inl law), (2, .inl nn), (3, .inl rows), (4, .inl not_), (5, .inl v_), (6, .inl v_), (7, .inl (0 : Int))] [] (fw_put [385, 366, 387, 389, 388, 371, 367, 370] 352 [] W f) Post))) :
    jf fw_T (d + 8) 292 76 [(0, .inr (.inl 352)), (1, .inl law), (2, .inl nn), (3, .inl rows), (4, .inl not_), (5, .inl v_)] [] (fw_put [385, 366, 387, 389, 388, 371, 367, 370] 352 [] W f) Post := fw_ok (n := 8) (ss := [(23, [0, 1, 2, 3]), (52, [0, 1, 2, 3, 4]), (76, [0, 1, 2, 3, 4, 5]), (89, [0, 1, 2, 3, 4, 5, 6, 7]), (152, [0, 4, 5])]) (hv := [62]) fr_292_ok fm_ok (ct_tried3_ok d) hw_

theorem s_tried3_52 {Post : Option fw_V → fw_W → Prop} {d : Nat} {W : fw_W} {law nn rows not_ : Int} {f : fw_W}
    (hw_ : -2147483648 ≤ nn - (2 : Int) ∧ nn - (2 : Int) ≤ 2147483647 ∧ ((((nn - (2 : Int)) ≤ not_ → jf fw_T (d + 8) 292 76 [(0, .inr (.inl 352)), (1, .inl law), (2, .inl nn), (3, .inl rows), (4, .inl (0 : Int)), (5, .inl (0 : Int))] [] (fw_put [385, 366, 387, 389, 388, 371, 367, 370] 352 [] W f) Post) ∧ (not_ < (nn - (2 : Int)) → ∀ v1 : Int, -2147483648 ≤ v1 → v1 ≤ 2147483647 → -2147483648 ≤ not_ + (1 : Int) ∧ not_ + (1 : Int) ≤ 2147483647 ∧ (jf fw_T (d + 8) 292 52 [(0, .inr (.inl 352)), (1, .inl law), (2, .inl nn), (3, .inl v1), (4, .inl (not_ + (1 : Int)))] [] (fw_put [385, 366, 387, 389, 388, 371, 367, 370] 352 [] W f) Post))))) :
    jf fw_T (d + 8) 292 52 [(0, .inr (.inl 352)), (1, .inl law), (2, .inl nn), (3, .inl rows), (4, .inl not_)] [] (fw_put [385, 366, 387, 389, 388, 371, 367, 370] 352 [] W f) Post := fw_ok (n := 12) (ss := [(23, [0, 1, 2, 3]), (52, [0, 1, 2, 3, 4]), (76, [0, 1, 2, 3, 4, 5]), (89, [0, 1, 2, 3, 4, 5, 6, 7]), (152, [0, 4, 5])]) (hv := [62]) fr_292_ok fm_ok (ct_tried3_ok d) hw_

theorem s_tried3_23 {Post : Option fw_V → fw_W → Prop} {d : Nat} {W : fw_W} {law nn rows : Int} {f : fw_W}
    (hw_ : (((44 : Int) ≤ rows → jf fw_T (d + 8) 292 52 [(0, .inr (.inl 352)), (1, .inl law), (2, .inl nn), (3, .inl (1 : Int)), (4, .inl (0 : Int))] [] (fw_put [385, 366, 387, 389, 388, 371, 367, 370] 352 [] W f) Post) ∧ (rows < (44 : Int) → 0 ≤ rows ∧ rows < 44 ∧ (-2147483648 ≤ (fw_g f 366 rows) → (fw_g f 366 rows) ≤ 2147483647 → 0 ≤ rows ∧ rows < 44 ∧ -2147483648 ≤ (fw_g f 366 rows) ∧ (fw_g f 366 rows) ≤ 2147483647 ∧ (-2147483648 ≤ rows + (1 : Int) ∧ rows + (1 : Int) ≤ 2147483647 ∧ (jf fw_T (d + 8) 292 23 [(0, .inr (.inl 352)), (1, .inl law), (2, .inl nn), (3, .inl (rows + (1 : Int)))] [] (fw_up (fw_put [385, 366, 387, 389, 388, 371, 367, 370] 352 [] W f) 385 rows (fw_g f 366 rows)) Post)))))) :
    jf fw_T (d + 8) 292 23 [(0, .inr (.inl 352)), (1, .inl law), (2, .inl nn), (3, .inl rows)] [] (fw_put [385, 366, 387, 389, 388, 371, 367, 370] 352 [] W f) Post := fw_ok (n := 14) (ss := [(23, [0, 1, 2, 3]), (52, [0, 1, 2, 3, 4]), (76, [0, 1, 2, 3, 4, 5]), (89, [0, 1, 2, 3, 4, 5, 6, 7]), (152, [0, 4, 5])]) (hv := [62]) fr_292_ok fm_ok (ct_tried3_ok d) hw_

theorem lm_tried3_89 {Post : Option fw_V → fw_W → Prop} {d : Nat} {W : fw_W} {law nn : Int} (hpre : mt W ∧ 0 ≤ (fw_g W 366 0) ∧ (fw_g W 366 0) ≤ 14 ∧ mi W ∧ 0 ≤ (fw_g W 352 29) ∧ 0 ≤ (fw_g W 352 30) ∧ (fw_g W 352 29) + (fw_g W 352 30) ≤ 40) (hP : ∀ (v : Int) (W2 : fw_W), fw_sm [385, 366, 387, 389, 388, 371, 367, 370] 352 [] W W2 → (-2147483648 ≤ v ∧ v ≤ 2147483647 ∧ (mi W2 ∧ (((0 ≤ law ∧ law ≤ 2 ∧ 2 ≤ nn ∧ nn ≤ 6) ∧ v = 0) ∨ (¬ (0 ≤ law ∧ law ≤ 2 ∧ 2 ≤ nn ∧ nn ≤ 6) ∧ v = -1)))) → Post (some (.inl v)) W2) (M76 : Int) (h76 : ∀ (rows not_ v_ : Int) (f : fw_W), (((0 ≤ law ∧ law ≤ 2 ∧ 2 ≤ nn ∧ nn ≤ 6) ∧ 0 ≤ v_ ∧ not_ = 0) ∧ (∀ i_, 0 ≤ i_ → i_ < 44 → (fw_g f 385 i_) = fw_g W 366 i_) ∧ (0 ≤ (fw_g f 366 1) ∧ (fw_g f 366 1) ≤ 999)) → (rows - v_) < M76 → jf fw_T (d + 8) 292 76 [(0, .inr (.inl 352)), (1, .inl law), (2, .inl nn), (3, .inl rows), (4, .inl not_), (5, .inl v_)] [] (fw_put [385, 366, 387, 389, 388, 371, 367, 370] 352 [] W f) Post) : ∀ (m : Nat) (rows not_ v_ rest i : Int) (f : fw_W), (nn - i).toNat = m → (((0 ≤ law ∧ law ≤ 2 ∧ 2 ≤ nn ∧ nn ≤ 6) ∧ 0 ≤ v_ ∧ v_ < rows ∧ 0 ≤ rest ∧ 0 ≤ i ∧ i ≤ nn - 2 ∧ not_ = 0) ∧ (∀ i_, 0 ≤ i_ → i_ < 44 → (fw_g f 385 i_) = fw_g W 366 i_) ∧ (0 ≤ (fw_g f 366 1) ∧ (fw_g f 366 1) ≤ 999) ∧ (∀ i_, 0 ≤ i_ → i_ < i → 0 ≤ (fw_g f 387 i_) ∧ (fw_g f 387 i_) < nn)) → (rows - v_) ≤ M76 → jf fw_T (d + 8) 292 89 [(0, .inr (.inl 352)), (1, .inl law), (2, .inl nn), (3, .inl rows), (4, .inl not_), (5, .inl v_), (6, .inl rest), (7, .inl i)] [] (fw_put [385, 366, 387, 389, 388, 371, 367, 370] 352 [] W f) Post := by
  intro m
  induction m using Nat.strongRecOn with
  | ind m ih =>
    intro rows not_ v_ rest i f hm hi e76
    refine jf_rng (fun hrg => ?_)
    have hrg : -2147483648 ≤ law ∧ law ≤ 2147483647 ∧ -2147483648 ≤ nn ∧ nn ≤ 2147483647 ∧ -2147483648 ≤ rows ∧ rows ≤ 2147483647 ∧ -2147483648 ≤ not_ ∧ not_ ≤ 2147483647 ∧ -2147483648 ≤ v_ ∧ v_ ≤ 2147483647 ∧ -2147483648 ≤ rest ∧ rest ≤ 2147483647 ∧ -2147483648 ≤ i ∧ i ≤ 2147483647 ∧ True := hrg
    refine s_tried3_89 ?_
    have hi1 := hi.1
    have hd : 0 ≤ rest % nn ∧ rest % nn < nn ∧ 0 ≤ rest / nn := ⟨Int.emod_nonneg _ (by omega), Int.emod_lt_of_pos _ (by omega), Int.ediv_nonneg (by omega) (by omega)⟩
    repeat' (first
      | (exact fun x x1 x2 => hi.2.2.2 x x1 (by omega))
      | (rename_i f3 hf3
         have ht : tr (fw_g f3 366 0) (fun h => fw_g f3 366 (2 + 3 * h)) := hf3.1.2.2.1
         have e : fw_g f3 366 0 = nn := hf3.2.1
         obtain ⟨q, k1, k2, k3⟩ := q_of ht (by omega) (by omega)
         have k4 := q_ok (by omega) (by omega) k1 k2
         obtain ⟨u, hu⟩ := q2_u k4
         refine ⟨q, u, ⟨k4, by show (2 : Int) ≤ fw_g f3 366 0; omega, by show fw_g f3 366 0 ≤ (6 : Int); omega, fun x x1 x2 => k3 x x1 x2, hu⟩, ⟨hf3.1, hf3.1.1, hf3.1.2.1, fun x x1 x2 => hf3.2.2 x x1 (by have x3 : x < fw_g f3 366 0 := x2; omega)⟩, ?_⟩)
      | (exact True.intro)
      | (exact hpre.1)
      | (refine And.intro ?_ ?_)
      | (refine (h76 _ _ _ _ ?_ (by omega)); (
        rename_i f3 hf3 r4 f4 hr4 hc4
        have h9 := hf3.1.2.2.2.2
        exact ⟨by omega, hi.2.1, h9⟩))
      | (refine jf_put (S := [385, 366, 387, 389, 388, 371, 367, 370]) (o := 352) (F := []) (W := W) (by repeat (first | exact fw_sm_refl | exact fw_sm_put0 | refine fw_sm_arr ?_ rfl | refine fw_sm_up ?_ rfl | refine fw_sm_put ?_ rfl | refine fw_sm_cp ?_ rfl)) (h76 _ _ _ _ ?_ (by omega)); (
        rename_i f3 hf3 r4 f4 hr4 hc4
        have h9 := hf3.1.2.2.2.2
        exact ⟨by omega, hi.2.1, h9⟩))
      | (refine (ih _ (by omega) _ _ _ _ _ _ rfl ?_ (by omega)); (
        refine ⟨by omega, hi.2.1, hi.2.2.1, fun x x1 x2 => ?_⟩
        rw [fg_if (by omega) (by omega) (by omega) (by omega)]
        by_cases e : i = x
        · rw [if_pos e]; omega
        · rw [if_neg e]; exact hi.2.2.2 x x1 (by omega)))
      | (refine jf_put (S := [385, 366, 387, 389, 388, 371, 367, 370]) (o := 352) (F := []) (W := W) (by repeat (first | exact fw_sm_refl | exact fw_sm_put0 | refine fw_sm_arr ?_ rfl | refine fw_sm_up ?_ rfl | refine fw_sm_put ?_ rfl | refine fw_sm_cp ?_ rfl)) (ih _ (by omega) _ _ _ _ _ _ rfl ?_ (by omega)); (
        refine ⟨by omega, hi.2.1, hi.2.2.1, fun x x1 x2 => ?_⟩
        rw [fg_if (by omega) (by omega) (by omega) (by omega)]
        by_cases e : i = x
        · rw [if_pos e]; omega
        · rw [if_neg e]; exact hi.2.2.2 x x1 (by omega)))
      | (refine hP _ _ (by repeat (first | exact fw_sm_refl | exact fw_sm_put0 | refine fw_sm_arr ?_ rfl | refine fw_sm_up ?_ rfl | refine fw_sm_put ?_ rfl | refine fw_sm_cp ?_ rfl)) ?_; (refine ⟨by omega, by omega, ?_⟩; (first
          | (exact ⟨hpre.2.2.2.1, Or.inr ⟨by omega, rfl⟩⟩)
          | (obtain ⟨i1, i2, i3⟩ := hi
             refine ⟨⟨tw_c hpre.2.2.2.1.1 (fun z z1 z2 => ?_), hpre.2.2.2.1.2⟩, Or.inl ⟨by omega, by omega⟩⟩
             exact i2 z z1 (by omega)))))
      | omega
      | (intro _))
theorem lm_tried3_152 {Post : Option fw_V → fw_W → Prop} {d : Nat} {W : fw_W} {law nn : Int} (hpre : mt W ∧ 0 ≤ (fw_g W 366 0) ∧ (fw_g W 366 0) ≤ 14 ∧ mi W ∧ 0 ≤ (fw_g W 352 29) ∧ 0 ≤ (fw_g W 352 30) ∧ (fw_g W 352 29) + (fw_g W 352 30) ≤ 40) (hP : ∀ (v : Int) (W2 : fw_W), fw_sm [385, 366, 387, 389, 388, 371, 367, 370] 352 [] W W2 → (-2147483648 ≤ v ∧ v ≤ 2147483647 ∧ (mi W2 ∧ (((0 ≤ law ∧ law ≤ 2 ∧ 2 ≤ nn ∧ nn ≤ 6) ∧ v = 0) ∨ (¬ (0 ≤ law ∧ law ≤ 2 ∧ 2 ≤ nn ∧ nn ≤ 6) ∧ v = -1)))) → Post (some (.inl v)) W2)  : ∀ (m : Nat) (not_ v_ : Int) (f : fw_W), (44 - v_).toNat = m → ((0 ≤ v_ ∧ (0 ≤ law ∧ law ≤ 2 ∧ 2 ≤ nn ∧ nn ≤ 6) ∧ not_ = 0) ∧ (∀ i_, 0 ≤ i_ → i_ < v_ → (fw_g f 366 i_) = fw_g W 366 i_) ∧ (∀ i_, 0 ≤ i_ → i_ < 44 → (fw_g f 385 i_) = fw_g W 366 i_)) → jf fw_T (d + 8) 292 152 [(0, .inr (.inl 352)), (4, .inl not_), (5, .inl v_)] [] (fw_put [385, 366, 387, 389, 388, 371, 367, 370] 352 [] W f) Post := by
  intro m
  induction m using Nat.strongRecOn with
  | ind m ih =>
    intro not_ v_ f hm hi
    refine jf_rng (fun hrg => ?_)
    have hrg : -2147483648 ≤ not_ ∧ not_ ≤ 2147483647 ∧ -2147483648 ≤ v_ ∧ v_ ≤ 2147483647 ∧ True := hrg
    refine s_tried3_152 ?_
    have hi1 := hi.1
    repeat' (first
      | (exact True.intro)
      | (exact hpre.1)
      | (refine And.intro ?_ ?_)
      | (refine (ih _ (by omega) _ _ _ rfl ?_); (
        refine ⟨by omega, fun x x1 x2 => ?_, hi.2.2⟩
        rw [fg_if (by omega) (by omega) (by omega) (by omega)]
        by_cases e : v_ = x
        · rw [if_pos e, e]; exact hi.2.2 x x1 (by omega)
        · rw [if_neg e]; exact hi.2.1 x x1 (by omega)))
      | (refine jf_put (S := [385, 366, 387, 389, 388, 371, 367, 370]) (o := 352) (F := []) (W := W) (by repeat (first | exact fw_sm_refl | exact fw_sm_put0 | refine fw_sm_arr ?_ rfl | refine fw_sm_up ?_ rfl | refine fw_sm_put ?_ rfl | refine fw_sm_cp ?_ rfl)) (ih _ (by omega) _ _ _ rfl ?_); (
        refine ⟨by omega, fun x x1 x2 => ?_, hi.2.2⟩
        rw [fg_if (by omega) (by omega) (by omega) (by omega)]
        by_cases e : v_ = x
        · rw [if_pos e, e]; exact hi.2.2 x x1 (by omega)
        · rw [if_neg e]; exact hi.2.1 x x1 (by omega)))
      | (refine hP _ _ (by repeat (first | exact fw_sm_refl | exact fw_sm_put0 | refine fw_sm_arr ?_ rfl | refine fw_sm_up ?_ rfl | refine fw_sm_put ?_ rfl | refine fw_sm_cp ?_ rfl)) ?_; (refine ⟨by omega, by omega, ?_⟩; (first
          | (exact ⟨hpre.2.2.2.1, Or.inr ⟨by omega, rfl⟩⟩)
          | (obtain ⟨i1, i2, i3⟩ := hi
             refine ⟨⟨tw_c hpre.2.2.2.1.1 (fun z z1 z2 => ?_), hpre.2.2.2.1.2⟩, Or.inl ⟨by omega, by omega⟩⟩
             exact i2 z z1 (by omega)))))
      | omega
      | (intro _))
theorem lm_tried3_76 {Post : Option fw_V → fw_W → Prop} {d : Nat} {W : fw_W} {law nn : Int} (hpre : mt W ∧ 0 ≤ (fw_g W 366 0) ∧ (fw_g W 366 0) ≤ 14 ∧ mi W ∧ 0 ≤ (fw_g W 352 29) ∧ 0 ≤ (fw_g W 352 30) ∧ (fw_g W 352 29) + (fw_g W 352 30) ≤ 40) (hP : ∀ (v : Int) (W2 : fw_W), fw_sm [385, 366, 387, 389, 388, 371, 367, 370] 352 [] W W2 → (-2147483648 ≤ v ∧ v ≤ 2147483647 ∧ (mi W2 ∧ (((0 ≤ law ∧ law ≤ 2 ∧ 2 ≤ nn ∧ nn ≤ 6) ∧ v = 0) ∨ (¬ (0 ≤ law ∧ law ≤ 2 ∧ 2 ≤ nn ∧ nn ≤ 6) ∧ v = -1)))) → Post (some (.inl v)) W2)  : ∀ (m : Nat) (rows not_ v_ : Int) (f : fw_W), (rows - v_).toNat = m → (((0 ≤ law ∧ law ≤ 2 ∧ 2 ≤ nn ∧ nn ≤ 6) ∧ 0 ≤ v_ ∧ not_ = 0) ∧ (∀ i_, 0 ≤ i_ → i_ < 44 → (fw_g f 385 i_) = fw_g W 366 i_) ∧ (0 ≤ (fw_g f 366 1) ∧ (fw_g f 366 1) ≤ 999)) → jf fw_T (d + 8) 292 76 [(0, .inr (.inl 352)), (1, .inl law), (2, .inl nn), (3, .inl rows), (4, .inl not_), (5, .inl v_)] [] (fw_put [385, 366, 387, 389, 388, 371, 367, 370] 352 [] W f) Post := by
  intro m
  induction m using Nat.strongRecOn with
  | ind m ih =>
    intro rows not_ v_ f hm hi
    refine jf_rng (fun hrg => ?_)
    have hrg : -2147483648 ≤ law ∧ law ≤ 2147483647 ∧ -2147483648 ≤ nn ∧ nn ≤ 2147483647 ∧ -2147483648 ≤ rows ∧ rows ≤ 2147483647 ∧ -2147483648 ≤ not_ ∧ not_ ≤ 2147483647 ∧ -2147483648 ≤ v_ ∧ v_ ≤ 2147483647 ∧ True := hrg
    refine s_tried3_76 ?_
    have hi1 := hi.1
    repeat' (first
      | (exact True.intro)
      | (exact hpre.1)
      | (refine And.intro ?_ ?_)
      | (refine (ih _ (by omega) _ _ _ _ rfl ?_); (first | omega | trivial | (simp (config := { decide := true }) only [fg_in, fg_fin, fg_out, fg_fout, fg_up, fg_same, true_and, and_true] <;> omega)))
      | (refine jf_put (S := [385, 366, 387, 389, 388, 371, 367, 370]) (o := 352) (F := []) (W := W) (by repeat (first | exact fw_sm_refl | exact fw_sm_put0 | refine fw_sm_arr ?_ rfl | refine fw_sm_up ?_ rfl | refine fw_sm_put ?_ rfl | refine fw_sm_cp ?_ rfl)) (ih _ (by omega) _ _ _ _ rfl ?_); (first | omega | trivial | (simp (config := { decide := true }) only [fg_in, fg_fin, fg_out, fg_fout, fg_up, fg_same, true_and, and_true] <;> omega)))
      | (refine (lm_tried3_89 (law := law) (nn := nn) hpre hP (rows - v_) (fun a0 a1 a2 af hi hl => ih _ (by omega) a0 a1 a2 af rfl hi) _ _ _ _ _ _ _ rfl ?_ (by omega)); (exact ⟨by omega, hi.2.1, hi.2.2, fun x x1 x2 => by omega⟩))
      | (refine jf_put (S := [385, 366, 387, 389, 388, 371, 367, 370]) (o := 352) (F := []) (W := W) (by repeat (first | exact fw_sm_refl | exact fw_sm_put0 | refine fw_sm_arr ?_ rfl | refine fw_sm_up ?_ rfl | refine fw_sm_put ?_ rfl | refine fw_sm_cp ?_ rfl)) (lm_tried3_89 (law := law) (nn := nn) hpre hP (rows - v_) (fun a0 a1 a2 af hi hl => ih _ (by omega) a0 a1 a2 af rfl hi) _ _ _ _ _ _ _ rfl ?_ (by omega)); (exact ⟨by omega, hi.2.1, hi.2.2, fun x x1 x2 => by omega⟩))
      | (refine (lm_tried3_152 (law := law) (nn := nn) hpre hP _ _ _ _ rfl ?_); (exact ⟨by omega, fun x x1 x2 => by omega, hi.2.1⟩))
      | (refine jf_put (S := [385, 366, 387, 389, 388, 371, 367, 370]) (o := 352) (F := []) (W := W) (by repeat (first | exact fw_sm_refl | exact fw_sm_put0 | refine fw_sm_arr ?_ rfl | refine fw_sm_up ?_ rfl | refine fw_sm_put ?_ rfl | refine fw_sm_cp ?_ rfl)) (lm_tried3_152 (law := law) (nn := nn) hpre hP _ _ _ _ rfl ?_); (exact ⟨by omega, fun x x1 x2 => by omega, hi.2.1⟩))
      | (refine hP _ _ (by repeat (first | exact fw_sm_refl | exact fw_sm_put0 | refine fw_sm_arr ?_ rfl | refine fw_sm_up ?_ rfl | refine fw_sm_put ?_ rfl | refine fw_sm_cp ?_ rfl)) ?_; (refine ⟨by omega, by omega, ?_⟩; (first
          | (exact ⟨hpre.2.2.2.1, Or.inr ⟨by omega, rfl⟩⟩)
          | (obtain ⟨i1, i2, i3⟩ := hi
             refine ⟨⟨tw_c hpre.2.2.2.1.1 (fun z z1 z2 => ?_), hpre.2.2.2.1.2⟩, Or.inl ⟨by omega, by omega⟩⟩
             exact i2 z z1 (by omega)))))
      | omega
      | (intro _))
theorem lm_tried3_52 {Post : Option fw_V → fw_W → Prop} {d : Nat} {W : fw_W} {law nn : Int} (hpre : mt W ∧ 0 ≤ (fw_g W 366 0) ∧ (fw_g W 366 0) ≤ 14 ∧ mi W ∧ 0 ≤ (fw_g W 352 29) ∧ 0 ≤ (fw_g W 352 30) ∧ (fw_g W 352 29) + (fw_g W 352 30) ≤ 40) (hP : ∀ (v : Int) (W2 : fw_W), fw_sm [385, 366, 387, 389, 388, 371, 367, 370] 352 [] W W2 → (-2147483648 ≤ v ∧ v ≤ 2147483647 ∧ (mi W2 ∧ (((0 ≤ law ∧ law ≤ 2 ∧ 2 ≤ nn ∧ nn ≤ 6) ∧ v = 0) ∨ (¬ (0 ≤ law ∧ law ≤ 2 ∧ 2 ≤ nn ∧ nn ≤ 6) ∧ v = -1)))) → Post (some (.inl v)) W2)  : ∀ (m : Nat) (rows not_ : Int) (f : fw_W), (nn - not_).toNat = m → (((0 ≤ law ∧ law ≤ 2 ∧ 2 ≤ nn ∧ nn ≤ 6) ∧ 0 ≤ not_) ∧ (∀ i_, 0 ≤ i_ → i_ < 44 → (fw_g f 385 i_) = fw_g W 366 i_) ∧ (0 ≤ (fw_g f 366 1) ∧ (fw_g f 366 1) ≤ 999)) → jf fw_T (d + 8) 292 52 [(0, .inr (.inl 352)), (1, .inl law), (2, .inl nn), (3, .inl rows), (4, .inl not_)] [] (fw_put [385, 366, 387, 389, 388, 371, 367, 370] 352 [] W f) Post := by
  intro m
  induction m using Nat.strongRecOn with
  | ind m ih =>
    intro rows not_ f hm hi
    refine jf_rng (fun hrg => ?_)
    have hrg : -2147483648 ≤ law ∧ law ≤ 2147483647 ∧ -2147483648 ≤ nn ∧ nn ≤ 2147483647 ∧ -2147483648 ≤ rows ∧ rows ≤ 2147483647 ∧ -2147483648 ≤ not_ ∧ not_ ≤ 2147483647 ∧ True := hrg
    refine s_tried3_52 ?_
    have hi1 := hi.1
    repeat' (first
      | (exact True.intro)
      | (exact hpre.1)
      | (refine And.intro ?_ ?_)
      | (refine (ih _ (by omega) _ _ _ rfl ?_); (exact ⟨by omega, hi.2⟩))
      | (refine jf_put (S := [385, 366, 387, 389, 388, 371, 367, 370]) (o := 352) (F := []) (W := W) (by repeat (first | exact fw_sm_refl | exact fw_sm_put0 | refine fw_sm_arr ?_ rfl | refine fw_sm_up ?_ rfl | refine fw_sm_put ?_ rfl | refine fw_sm_cp ?_ rfl)) (ih _ (by omega) _ _ _ rfl ?_); (exact ⟨by omega, hi.2⟩))
      | (refine (lm_tried3_76 (law := law) (nn := nn) hpre hP _ _ _ _ _ rfl ?_); (exact ⟨by omega, hi.2⟩))
      | (refine jf_put (S := [385, 366, 387, 389, 388, 371, 367, 370]) (o := 352) (F := []) (W := W) (by repeat (first | exact fw_sm_refl | exact fw_sm_put0 | refine fw_sm_arr ?_ rfl | refine fw_sm_up ?_ rfl | refine fw_sm_put ?_ rfl | refine fw_sm_cp ?_ rfl)) (lm_tried3_76 (law := law) (nn := nn) hpre hP _ _ _ _ _ rfl ?_); (exact ⟨by omega, hi.2⟩))
      | (refine hP _ _ (by repeat (first | exact fw_sm_refl | exact fw_sm_put0 | refine fw_sm_arr ?_ rfl | refine fw_sm_up ?_ rfl | refine fw_sm_put ?_ rfl | refine fw_sm_cp ?_ rfl)) ?_; (refine ⟨by omega, by omega, ?_⟩; (first
          | (exact ⟨hpre.2.2.2.1, Or.inr ⟨by omega, rfl⟩⟩)
          | (obtain ⟨i1, i2, i3⟩ := hi
             refine ⟨⟨tw_c hpre.2.2.2.1.1 (fun z z1 z2 => ?_), hpre.2.2.2.1.2⟩, Or.inl ⟨by omega, by omega⟩⟩
             exact i2 z z1 (by omega)))))
      | omega
      | (intro _))
theorem lm_tried3_23 {Post : Option fw_V → fw_W → Prop} {d : Nat} {W : fw_W} {law nn : Int} (hpre : mt W ∧ 0 ≤ (fw_g W 366 0) ∧ (fw_g W 366 0) ≤ 14 ∧ mi W ∧ 0 ≤ (fw_g W 352 29) ∧ 0 ≤ (fw_g W 352 30) ∧ (fw_g W 352 29) + (fw_g W 352 30) ≤ 40) (hP : ∀ (v : Int) (W2 : fw_W), fw_sm [385, 366, 387, 389, 388, 371, 367, 370] 352 [] W W2 → (-2147483648 ≤ v ∧ v ≤ 2147483647 ∧ (mi W2 ∧ (((0 ≤ law ∧ law ≤ 2 ∧ 2 ≤ nn ∧ nn ≤ 6) ∧ v = 0) ∨ (¬ (0 ≤ law ∧ law ≤ 2 ∧ 2 ≤ nn ∧ nn ≤ 6) ∧ v = -1)))) → Post (some (.inl v)) W2)  : ∀ (m : Nat) (rows : Int) (f : fw_W), (44 - rows).toNat = m → ((0 ≤ rows ∧ (0 ≤ law ∧ law ≤ 2 ∧ 2 ≤ nn ∧ nn ≤ 6)) ∧ (∀ i_, 0 ≤ i_ → i_ < rows → (fw_g f 385 i_) = fw_g W 366 i_) ∧ (fw_g f 366 1) = fw_g W 366 1 ∧ (∀ i_, 0 ≤ i_ → (fw_g f 366 i_) = fw_g W 366 i_)) → jf fw_T (d + 8) 292 23 [(0, .inr (.inl 352)), (1, .inl law), (2, .inl nn), (3, .inl rows)] [] (fw_put [385, 366, 387, 389, 388, 371, 367, 370] 352 [] W f) Post := by
  intro m
  induction m using Nat.strongRecOn with
  | ind m ih =>
    intro rows f hm hi
    refine jf_rng (fun hrg => ?_)
    have hrg : -2147483648 ≤ law ∧ law ≤ 2147483647 ∧ -2147483648 ≤ nn ∧ nn ≤ 2147483647 ∧ -2147483648 ≤ rows ∧ rows ≤ 2147483647 ∧ True := hrg
    refine s_tried3_23 ?_
    have hi1 := hi.1
    repeat' (first
      | (exact True.intro)
      | (exact hpre.1)
      | (refine And.intro ?_ ?_)
      | (refine (ih _ (by omega) _ _ rfl ?_); (
        refine ⟨by omega, fun x x1 x2 => ?_, (fg_up rfl).trans hi.2.2.1, fun x x1 => (fg_up rfl).trans (hi.2.2.2 x x1)⟩
        rw [fg_if (by omega) (by omega) (by omega) (by omega)]
        by_cases e : rows = x
        · rw [if_pos e, e]; exact hi.2.2.2 x x1
        · rw [if_neg e]; exact hi.2.1 x x1 (by omega)))
      | (refine jf_put (S := [385, 366, 387, 389, 388, 371, 367, 370]) (o := 352) (F := []) (W := W) (by repeat (first | exact fw_sm_refl | exact fw_sm_put0 | refine fw_sm_arr ?_ rfl | refine fw_sm_up ?_ rfl | refine fw_sm_put ?_ rfl | refine fw_sm_cp ?_ rfl)) (ih _ (by omega) _ _ rfl ?_); (
        refine ⟨by omega, fun x x1 x2 => ?_, (fg_up rfl).trans hi.2.2.1, fun x x1 => (fg_up rfl).trans (hi.2.2.2 x x1)⟩
        rw [fg_if (by omega) (by omega) (by omega) (by omega)]
        by_cases e : rows = x
        · rw [if_pos e, e]; exact hi.2.2.2 x x1
        · rw [if_neg e]; exact hi.2.1 x x1 (by omega)))
      | (refine (lm_tried3_52 (law := law) (nn := nn) hpre hP _ _ _ _ rfl ?_); (
        have h9 := hpre.1.2.2.2.2
        have h8 := hi.2.2.1
        exact ⟨by omega, fun x x1 x2 => hi.2.1 x x1 (by omega), by omega⟩))
      | (refine jf_put (S := [385, 366, 387, 389, 388, 371, 367, 370]) (o := 352) (F := []) (W := W) (by repeat (first | exact fw_sm_refl | exact fw_sm_put0 | refine fw_sm_arr ?_ rfl | refine fw_sm_up ?_ rfl | refine fw_sm_put ?_ rfl | refine fw_sm_cp ?_ rfl)) (lm_tried3_52 (law := law) (nn := nn) hpre hP _ _ _ _ rfl ?_); (
        have h9 := hpre.1.2.2.2.2
        have h8 := hi.2.2.1
        exact ⟨by omega, fun x x1 x2 => hi.2.1 x x1 (by omega), by omega⟩))
      | (refine hP _ _ (by repeat (first | exact fw_sm_refl | exact fw_sm_put0 | refine fw_sm_arr ?_ rfl | refine fw_sm_up ?_ rfl | refine fw_sm_put ?_ rfl | refine fw_sm_cp ?_ rfl)) ?_; (refine ⟨by omega, by omega, ?_⟩; (first
          | (exact ⟨hpre.2.2.2.1, Or.inr ⟨by omega, rfl⟩⟩)
          | (obtain ⟨i1, i2, i3⟩ := hi
             refine ⟨⟨tw_c hpre.2.2.2.1.1 (fun z z1 z2 => ?_), hpre.2.2.2.1.2⟩, Or.inl ⟨by omega, by omega⟩⟩
             exact i2 z z1 (by omega)))))
      | omega
      | (intro _))
def x_tried3 : fw_X := fun as W Q => match as with
  | [.inr (.inl s_), .inl law, .inl nn] => fw_if (Nat.beq s_ 352) ((mt W ∧ 0 ≤ (fw_g W 366 0) ∧ (fw_g W 366 0) ≤ 14 ∧ mi W ∧ 0 ≤ (fw_g W 352 29) ∧ 0 ≤ (fw_g W 352 30) ∧ (fw_g W 352 29) + (fw_g W 352 30) ≤ 40) ∧ (∀ (v : Int) (f : fw_W), (-2147483648 ≤ v ∧ v ≤ 2147483647 ∧ (mi (fw_put [385, 366, 387, 389, 388, 371, 367, 370] 352 [] W f) ∧ (((0 ≤ law ∧ law ≤ 2 ∧ 2 ≤ nn ∧ nn ≤ 6) ∧ v = 0) ∨ (¬ (0 ≤ law ∧ law ≤ 2 ∧ 2 ≤ nn ∧ nn ≤ 6) ∧ v = -1)))) → Q (some (.inl v)) (fw_put [385, 366, 387, 389, 388, 371, 367, 370] 352 [] W f)))
  | _ => False
theorem x_tried3_ok (d : Nat) (as : List fw_V) (W : fw_W) (Q : Option fw_V → fw_W → Prop) (hx : x_tried3 as W Q) : jf fw_T (d + 8) 292 0 (fw_args 0 as) [] W Q := by
  unfold x_tried3 at hx
  split at hx
  · rename_i s_ law nn
    obtain ⟨e_, hpre, hQ⟩ := fw_if_ok hx
    have e_ := Nat.eq_of_beq_eq_true e_
    subst e_
    have hP : ∀ (v : Int) (W2 : fw_W), fw_sm [385, 366, 387, 389, 388, 371, 367, 370] 352 [] W W2 → (-2147483648 ≤ v ∧ v ≤ 2147483647 ∧ (mi W2 ∧ (((0 ≤ law ∧ law ≤ 2 ∧ 2 ≤ nn ∧ nn ≤ 6) ∧ v = 0) ∨ (¬ (0 ≤ law ∧ law ≤ 2 ∧ 2 ≤ nn ∧ nn ≤ 6) ∧ v = -1)))) → Q (some (.inl v)) W2 := fun v W2 hs hr => fw_sm_use (Q := fun Z => Q (some (.inl v)) Z) hs (hQ v W2 (by rw [fw_sm_eq hs]; exact hr))
    refine s_tried3_0 ?_
    repeat' (first
      | (exact True.intro)
      | (exact hpre.1)
      | (refine And.intro ?_ ?_)
      | (refine jf_put (S := [385, 366, 387, 389, 388, 371, 367, 370]) (o := 352) (F := []) (W := W) (by repeat (first | exact fw_sm_refl | exact fw_sm_put0 | refine fw_sm_arr ?_ rfl | refine fw_sm_up ?_ rfl | refine fw_sm_put ?_ rfl | refine fw_sm_cp ?_ rfl)) (lm_tried3_23 (law := law) (nn := nn) hpre hP _ _ _ rfl ?_); (exact ⟨by omega, fun x x1 x2 => by omega, rfl, fun x x1 => rfl⟩))
      | (refine jf_put (S := [385, 366, 387, 389, 388, 371, 367, 370]) (o := 352) (F := []) (W := W) (by repeat (first | exact fw_sm_refl | exact fw_sm_put0 | refine fw_sm_arr ?_ rfl | refine fw_sm_up ?_ rfl | refine fw_sm_put ?_ rfl | refine fw_sm_cp ?_ rfl)) (lm_tried3_52 (law := law) (nn := nn) hpre hP _ _ _ _ rfl ?_); (first | omega | trivial | (simp (config := { decide := true }) only [fg_in, fg_fin, fg_out, fg_fout, fg_up, fg_same, true_and, and_true] <;> omega)))
      | (refine jf_put (S := [385, 366, 387, 389, 388, 371, 367, 370]) (o := 352) (F := []) (W := W) (by repeat (first | exact fw_sm_refl | exact fw_sm_put0 | refine fw_sm_arr ?_ rfl | refine fw_sm_up ?_ rfl | refine fw_sm_put ?_ rfl | refine fw_sm_cp ?_ rfl)) (lm_tried3_76 (law := law) (nn := nn) hpre hP _ _ _ _ _ rfl ?_); (first | omega | trivial | (simp (config := { decide := true }) only [fg_in, fg_fin, fg_out, fg_fout, fg_up, fg_same, true_and, and_true] <;> omega)))
      | (refine jf_put (S := [385, 366, 387, 389, 388, 371, 367, 370]) (o := 352) (F := []) (W := W) (by repeat (first | exact fw_sm_refl | exact fw_sm_put0 | refine fw_sm_arr ?_ rfl | refine fw_sm_up ?_ rfl | refine fw_sm_put ?_ rfl | refine fw_sm_cp ?_ rfl)) (lm_tried3_89 (law := law) (nn := nn) hpre hP M76 h76 _ _ _ _ _ _ _ rfl ?_ (by omega)); (first | omega | trivial | (simp (config := { decide := true }) only [fg_in, fg_fin, fg_out, fg_fout, fg_up, fg_same, true_and, and_true] <;> omega)))
      | (refine jf_put (S := [385, 366, 387, 389, 388, 371, 367, 370]) (o := 352) (F := []) (W := W) (by repeat (first | exact fw_sm_refl | exact fw_sm_put0 | refine fw_sm_arr ?_ rfl | refine fw_sm_up ?_ rfl | refine fw_sm_put ?_ rfl | refine fw_sm_cp ?_ rfl)) (lm_tried3_152 (law := law) (nn := nn) hpre hP _ _ _ _ rfl ?_); (first | omega | trivial | (simp (config := { decide := true }) only [fg_in, fg_fin, fg_out, fg_fout, fg_up, fg_same, true_and, and_true] <;> omega)))
      | (refine hP _ _ (by repeat (first | exact fw_sm_refl | exact fw_sm_put0 | refine fw_sm_arr ?_ rfl | refine fw_sm_up ?_ rfl | refine fw_sm_put ?_ rfl | refine fw_sm_cp ?_ rfl)) ?_; (refine ⟨by omega, by omega, ?_⟩; (first
          | (exact ⟨hpre.2.2.2.1, Or.inr ⟨by omega, rfl⟩⟩)
          | (obtain ⟨i1, i2, i3⟩ := hi
             refine ⟨⟨tw_c hpre.2.2.2.1.1 (fun z z1 z2 => ?_), hpre.2.2.2.1.2⟩, Or.inl ⟨by omega, by omega⟩⟩
             exact i2 z z1 (by omega)))))
      | omega
      | (intro _))
  · exact hx.elim

