/-! the reference, method by method -/
def fr_225 : fw_P := [(0, 2, 0, 0, 0), (1, 50, 12, 26, 0), (4, 2, 0, 0, 0), (5, 50, 12, 27, 0), (8, 1, 1, 0, 0), (9, 53, 0, 0, 0), (10, 2, 0, 0, 0), (11, 43, 0, 0, 0), (12, 50, 12, 27, 0), (15, 0, 0, 0, 1), (16, 30, 0, 0, 0), (17, 51, 12, 27, 0), (20, 72, 0, 0, 0)]
theorem fr_225_ok : fw_mk 225 2 12 none fr_225 = true := by decide +kernel
theorem s_add_0 {Post : Option fw_V → fw_W → Prop} {d : Nat} {W : fw_W} {z : Int}
    (hw_ : (0 ≤ (fw_g W 352 27) → (fw_g W 352 27) ≤ 16 → 0 ≤ (fw_g W 352 27) ∧ (fw_g W 352 27) < 16 ∧ -2147483648 ≤ z ∧ z ≤ 2147483647 ∧ ((0 ≤ (fw_g W 352 27) → (fw_g W 352 27) ≤ 16 → -2147483648 ≤ (fw_g W 352 27) + (1 : Int) ∧ (fw_g W 352 27) + (1 : Int) ≤ 2147483647 ∧ (0 ≤ ((fw_g W 352 27) + (1 : Int)) ∧ ((fw_g W 352 27) + (1 : Int)) ≤ 16 ∧ (Post none (fw_up (fw_up W 368 (fw_g W 352 27) z) 352 27 ((fw_g W 352 27) + (1 : Int))))))))) :
    jf fw_T (d + 1) 225 0 [(0, .inr (.inl 352)), (1, .inl z)] [] W Post := fw_ok (n := 14) (ss := []) (hv := []) fr_225_ok fm_ok (fw_c0 _ _) hw_

def x_add : fw_X := fun as W Q => match as with
  | [.inr (.inl s_), .inl z] => fw_if (Nat.beq s_ 352) ((0 ≤ (fw_g W 352 27) ∧ (fw_g W 352 27) ≤ 15) ∧ (∀ (f : fw_W), ((fw_g f 352 27) = (fw_g W 352 27) + 1) → Q none (fw_put [368] 352 [27] W f)))
  | _ => False
theorem x_add_ok (d : Nat) (as : List fw_V) (W : fw_W) (Q : Option fw_V → fw_W → Prop) (hx : x_add as W Q) : jf fw_T (d + 1) 225 0 (fw_args 0 as) [] W Q := by
  unfold x_add at hx
  split at hx
  · rename_i s_ z
    obtain ⟨e_, hpre, hQ⟩ := fw_if_ok hx
    have e_ := Nat.eq_of_beq_eq_true e_
    subst e_
    have hP : ∀ (W2 : fw_W), fw_sm [368] 352 [27] W W2 → _ → Q none W2 := fun W2 hs hr => fw_sm_use (Q := fun Z => Q none Z) hs (hQ W2 hr)
    refine jf_rng (fun hrg => ?_)
    have hrg : -2147483648 ≤ z ∧ z ≤ 2147483647 ∧ True := hrg
    refine s_add_0 ?_
    repeat' (first
      | (exact True.intro)
      | (exact hpre.1)
      | (refine And.intro ?_ ?_)
      | (refine hP _ (by repeat (first | exact fw_sm_refl | exact fw_sm_put0 | refine fw_sm_arr ?_ rfl | refine fw_sm_up ?_ rfl | refine fw_sm_put ?_ rfl | refine fw_sm_cp ?_ rfl)) ?_; (rw [fg_same (by omega) (by omega)]))
      | omega
      | (intro _))
  · exact hx.elim

def fr_235 : fw_P := [(0, 2, 0, 0, 0), (1, 0, 0, 0, 0), (2, 51, 12, 27, 0), (5, 2, 0, 0, 0), (6, 1, 1, 0, 0), (7, 64, 213, 1, 212), (10, 21, 15, 0, 0), (13, 0, 0, 0, -1), (14, 70, 0, 0, 0), (15, 2, 0, 0, 0), (16, 64, 222, 0, 312), (19, 0, 0, 0, 0), (20, 3, 2, 0, 0), (21, 1, 2, 0, 0), (22, 2, 0, 0, 0), (23, 64, 188, 0, 112), (26, 13, 59, 0, 0), (29, 1, 2, 0, 0), (30, 1, 1, 0, 0), (31, 10, 53, 0, 0), (34, 2, 0, 0, 0), (35, 1, 1, 0, 0), (36, 1, 2, 0, 0), (37, 64, 219, 2, 312), (40, 20, 53, 0, 0), (43, 2, 0, 0, 0), (44, 2, 0, 0, 0), (45, 1, 2, 0, 0), (46, 1, 1, 0, 0), (47, 64, 231, 2, 512), (50, 64, 225, 1, 212), (53, 5, 2, 0, 1), (56, 6, 21, 0, 0), (59, 2, 0, 0, 0), (60, 50, 12, 27, 0), (63, 70, 0, 0, 0)]
theorem fr_235_ok : fw_mk 235 3 12 (some .int) fr_235 = true := by decide +kernel
def ct_quarters : List (Nat × fw_X) := [(225, x_add), (219, x_areNext), (213, x_isHouse), (222, x_layWays), (188, x_many), (231, x_peopleBehind)]
theorem ct_quarters_ok (d : Nat) : fw_cok fw_T (d + 4) ct_quarters := by
  intro q hq as W Q h
  simp only [ct_quarters, List.mem_cons, List.not_mem_nil, or_false] at hq
  rcases hq with rfl | rfl | rfl | rfl | rfl | rfl
  · exact jc_of (x_add_ok (d + 3) as W Q h)
  · exact jc_of (x_areNext_ok (d + 2) as W Q h)
  · exact jc_of (x_isHouse_ok (d + 2) as W Q h)
  · exact jc_of (x_layWays_ok (d + 0) as W Q h)
  · exact jc_of (x_many_ok (d + 3) as W Q h)
  · exact jc_of (x_peopleBehind_ok (d + 2) as W Q h)
theorem s_quarters_0 {Post : Option fw_V → fw_W → Prop} {d : Nat} {W : fw_W} {h : Int}
    (hw_ : 0 ≤ (0 : Int) ∧ (0 : Int) ≤ 16 ∧ ((mt (fw_up W 352 27 (0 : Int)) ∧ 0 ≤ (fw_g W 366 0) ∧ (fw_g W 366 0) ≤ 14) ∧ (∀ (r1 : Int), ((0 ≤ r1 ∧ r1 ≤ 1 ∧ ((r1 = 1 ∧ 0 ≤ h ∧ h < (fw_g W 366 0)) ∨ (r1 = 0 ∧ (h < 0 ∨ (fw_g W 366 0) ≤ h))))) → ((¬ r1 = 0 → (mt (fw_up W 352 27 (0 : Int)) ∧ 0 ≤ (fw_g W 366 0) ∧ (fw_g W 366 0) ≤ 14) ∧ (∀ (f2 : fw_W), ((True)) → jf fw_T (d + 5) 235 21 [(0, .inr (.inl 352)), (1, .inl h), (2, .inl (0 : Int))] [] (fw_put [367] 352 [] (fw_up W 352 27 (0 : Int)) f2) Post)) ∧ (r1 = 0 → (-2147483648 ≤ (-1 : Int) → (-1 : Int) ≤ 2147483647 → Post (some (.inl (-1 : Int))) (fw_up W 352 27 (0 : Int)))))))) :
    jf fw_T (d + 5) 235 0 [(0, .inr (.inl 352)), (1, .inl h)] [] W Post := fw_ok (n := 12) (ss := [(21, [0, 1, 2])]) (hv := []) fr_235_ok fm_ok (ct_quarters_ok d) hw_

theorem s_quarters_21 {Post : Option fw_V → fw_W → Prop} {d : Nat} {W : fw_W} {h k : Int} {f : fw_W}
    (hw_ : (True) ∧ ((((fw_g W 366 0) ≤ k → (0 ≤ (fw_g f 352 27) → (fw_g f 352 27) ≤ 16 → (-2147483648 ≤ (fw_g f 352 27) → (fw_g f 352 27) ≤ 2147483647 → Post (some (.inl (fw_g f 352 27))) (fw_put [367, 368] 352 [27] W f)))) ∧ (k < (fw_g W 366 0) → ((k = h → -2147483648 ≤ k + (1 : Int) ∧ k + (1 : Int) ≤ 2147483647 ∧ (jf fw_T (d + 5) 235 21 [(0, .inr (.inl 352)), (1, .inl h), (2, .inl (k + (1 : Int)))] [] (fw_put [367, 368] 352 [27] W f) Post)) ∧ (¬ k = h → (0 ≤ h ∧ h < 14 ∧ 0 ≤ k ∧ k < 14) ∧ (∀ (r1 : Int), ((0 ≤ r1 ∧ r1 ≤ 1 ∧ ((r1 = 1 ∧ ((fw_g W 366 (2 + 3 * h)) = k ∨ (fw_g W 366 (2 + 3 * k)) = h)) ∨ (r1 = 0 ∧ ¬ (fw_g W 366 (2 + 3 * h)) = k ∧ ¬ (fw_g W 366 (2 + 3 * k)) = h)))) → ((r1 = 0 → -2147483648 ≤ k + (1 : Int) ∧ k + (1 : Int) ≤ 2147483647 ∧ (jf fw_T (d + 5) 235 21 [(0, .inr (.inl 352)), (1, .inl h), (2, .inl (k + (1 : Int)))] [] (fw_put [367, 368] 352 [27] W f) Post)) ∧ (¬ r1 = 0 → (mt (fw_put [367, 368] 352 [27] W f) ∧ 0 ≤ (fw_g W 366 0) ∧ (fw_g W 366 0) ≤ 14 ∧ 0 ≤ k ∧ k < 14 ∧ 0 ≤ h ∧ h < 14) ∧ (∀ (r2 : Int), ((-2147483648 ≤ r2 ∧ r2 ≤ 2147483647 ∧ (True))) → (0 ≤ (fw_g f 352 27) ∧ (fw_g f 352 27) ≤ 15) ∧ (∀ (f3 : fw_W), (((fw_g f3 352 27) = (fw_g f 352 27) + 1)) → -2147483648 ≤ k + (1 : Int) ∧ k + (1 : Int) ≤ 2147483647 ∧ (jf fw_T (d + 5) 235 21 [(0, .inr (.inl 352)), (1, .inl h), (2, .inl (k + (1 : Int)))] [] (fw_put [368] 352 [27] (fw_put [367, 368] 352 [27] W f) f3) Post)))))))))))) :
    jf fw_T (d + 5) 235 21 [(0, .inr (.inl 352)), (1, .inl h), (2, .inl k)] [] (fw_put [367, 368] 352 [27] W f) Post := fw_ok (n := 21) (ss := [(21, [0, 1, 2])]) (hv := []) fr_235_ok fm_ok (ct_quarters_ok d) hw_

theorem lm_quarters_21 {Post : Option fw_V → fw_W → Prop} {d : Nat} {W : fw_W} {h : Int} (hpre : mt W ∧ 0 ≤ (fw_g W 366 0) ∧ (fw_g W 366 0) ≤ 14) (hP : ∀ (v : Int) (W2 : fw_W), fw_sm [367, 368] 352 [27] W W2 → (-2147483648 ≤ v ∧ v ≤ 2147483647 ∧ (True)) → Post (some (.inl v)) W2)  : ∀ (m : Nat) (k : Int) (f : fw_W), ((fw_g W 366 0) - k).toNat = m → 0 ≤ k ∧ 0 ≤ h ∧ h < (fw_g W 366 0) ∧ 0 ≤ (fw_g f 352 27) ∧ (fw_g f 352 27) ≤ k → jf fw_T (d + 5) 235 21 [(0, .inr (.inl 352)), (1, .inl h), (2, .inl k)] [] (fw_put [367, 368] 352 [27] W f) Post := by
  intro m
  induction m using Nat.strongRecOn with
  | ind m ih =>
    intro k f hm hi
    refine jf_rng (fun hrg => ?_)
    have hrg : -2147483648 ≤ h ∧ h ≤ 2147483647 ∧ -2147483648 ≤ k ∧ k ≤ 2147483647 ∧ True := hrg
    refine s_quarters_21 ?_
    repeat' (first
      | (exact True.intro)
      | (exact hpre.1)
      | (refine And.intro ?_ ?_)
      | (refine jf_put (S := [367, 368]) (o := 352) (F := [27]) (W := W) (by repeat (first | exact fw_sm_refl | exact fw_sm_put0 | refine fw_sm_arr ?_ rfl | refine fw_sm_up ?_ rfl | refine fw_sm_put ?_ rfl | refine fw_sm_cp ?_ rfl)) (ih _ (by omega) _ _ rfl ?_); (first | omega | trivial | (simp (config := { decide := true }) only [fg_in, fg_fin, fg_out, fg_fout, fg_up, fg_same, true_and, and_true] <;> omega)))
      | (refine hP _ _ (by repeat (first | exact fw_sm_refl | exact fw_sm_put0 | refine fw_sm_arr ?_ rfl | refine fw_sm_up ?_ rfl | refine fw_sm_put ?_ rfl | refine fw_sm_cp ?_ rfl)) ?_; (refine ⟨by omega, by omega, ?_⟩; (first | trivial | omega)))
      | omega
      | (intro _))
def x_quarters : fw_X := fun as W Q => match as with
  | [.inr (.inl s_), .inl h] => fw_if (Nat.beq s_ 352) ((mt W ∧ 0 ≤ (fw_g W 366 0) ∧ (fw_g W 366 0) ≤ 14) ∧ (∀ (v : Int) (f : fw_W), (-2147483648 ≤ v ∧ v ≤ 2147483647 ∧ (True)) → Q (some (.inl v)) (fw_put [367, 368] 352 [27] W f)))
  | _ => False
theorem x_quarters_ok (d : Nat) (as : List fw_V) (W : fw_W) (Q : Option fw_V → fw_W → Prop) (hx : x_quarters as W Q) : jf fw_T (d + 5) 235 0 (fw_args 0 as) [] W Q := by
  unfold x_quarters at hx
  split at hx
  · rename_i s_ h
    obtain ⟨e_, hpre, hQ⟩ := fw_if_ok hx
    have e_ := Nat.eq_of_beq_eq_true e_
    subst e_
    have hP : ∀ (v : Int) (W2 : fw_W), fw_sm [367, 368] 352 [27] W W2 → _ → Q (some (.inl v)) W2 := fun v W2 hs hr => fw_sm_use (Q := fun Z => Q (some (.inl v)) Z) hs (hQ v W2 hr)
    refine s_quarters_0 ?_
    repeat' (first
      | (exact True.intro)
      | (exact hpre.1)
      | (refine And.intro ?_ ?_)
      | (refine jf_put (S := [367, 368]) (o := 352) (F := [27]) (W := W) (by repeat (first | exact fw_sm_refl | exact fw_sm_put0 | refine fw_sm_arr ?_ rfl | refine fw_sm_up ?_ rfl | refine fw_sm_put ?_ rfl | refine fw_sm_cp ?_ rfl)) (lm_quarters_21 (h := h) hpre hP _ _ _ rfl ?_); (first | omega | trivial | (simp (config := { decide := true }) only [fg_in, fg_fin, fg_out, fg_fout, fg_up, fg_same, true_and, and_true] <;> omega)))
      | (refine hP _ _ (by repeat (first | exact fw_sm_refl | exact fw_sm_put0 | refine fw_sm_arr ?_ rfl | refine fw_sm_up ?_ rfl | refine fw_sm_put ?_ rfl | refine fw_sm_cp ?_ rfl)) ?_; (refine ⟨by omega, by omega, ?_⟩; (first | trivial | omega)))
      | omega
      | (intro _))
  · exact hx.elim

def fr_259 : fw_P := [(0, 2, 0, 0, 0), (1, 0, 0, 0, 0), (2, 51, 12, 27, 0), (5, 1, 1, 0, 0), (6, 0, 0, 0, 1), (7, 0, 0, 0, 4), (8, 65, 214, 3, 300), (11, 20, 21, 0, 0), (14, 2, 0, 0, 0), (15, 64, 188, 0, 112), (18, 21, 23, 0, 0), (21, 0, 0, 0, -1), (22, 70, 0, 0, 0), (23, 2, 0, 0, 0), (24, 64, 222, 0, 312), (27, 1, 1, 0, 0), (28, 2, 0, 0, 0), (29, 64, 188, 0, 112), (32, 13, 39, 0, 0), (35, 1, 1, 0, 0), (36, 6, 43, 0, 0), (39, 2, 0, 0, 0), (40, 64, 188, 0, 112), (43, 3, 2, 0, 0), (44, 0, 0, 0, -1), (45, 3, 3, 0, 0), (46, 0, 0, 0, 0), (47, 3, 4, 0, 0), (49, 0, 0, 0, 1), (50, 3, 5, 0, 0), (52, 1, 5, 0, 0), (54, 2, 0, 0, 0), (55, 64, 250, 0, 112), (58, 13, 124, 0, 0), (61, 1, 5, 0, 0), (63, 65, 251, 1, 300), (66, 1, 2, 0, 0), (67, 10, 73, 0, 0), (70, 6, 118, 0, 0), (73, 2, 0, 0, 0), (74, 1, 5, 0, 0), (76, 64, 260, 1, 612), (79, 3, 6, 0, 0), (81, 1, 3, 0, 0), (82, 22, 111, 0, 0), (85, 1, 6, 0, 0), (87, 1, 4, 0, 0), (89, 14, 118, 0, 0), (92, 1, 6, 0, 0), (94, 1, 4, 0, 0), (96, 11, 111, 0, 0), (99, 1, 5, 0, 0), (101, 1, 3, 0, 0), (102, 65, 252, 2, 300), (105, 21, 111, 0, 0), (108, 6, 118, 0, 0), (111, 1, 5, 0, 0), (113, 3, 3, 0, 0), (114, 1, 6, 0, 0), (116, 3, 4, 0, 0), (118, 5, 5, 0, 1), (121, 6, 52, 0, 0), (124, 0, 0, 0, 0), (125, 3, 5, 0, 0), (127, 1, 5, 0, 0), (129, 2, 0, 0, 0), (130, 64, 188, 0, 112), (133, 13, 158, 0, 0), (136, 1, 3, 0, 0), (137, 1, 5, 0, 0), (139, 40, 0, 0, 0), (140, 0, 0, 0, 1), (141, 36, 0, 0, 0), (142, 0, 0, 0, 1), (143, 11, 152, 0, 0), (146, 2, 0, 0, 0), (147, 1, 5, 0, 0), (149, 64, 225, 1, 212), (152, 5, 5, 0, 1), (155, 6, 127, 0, 0), (158, 1, 4, 0, 0), (160, 70, 0, 0, 0)]
theorem fr_259_ok : fw_mk 259 7 12 (some .int) fr_259 = true := by decide +kernel
def ct_shops : List (Nat × fw_X) := [(225, x_add), (251, x_bitsOf), (252, x_isFirst), (214, x_isIn), (222, x_layWays), (188, x_many), (250, x_sets), (260, x_shopsBy)]
theorem ct_shops_ok (d : Nat) : fw_cok fw_T (d + 4) ct_shops := by
  intro q hq as W Q h
  simp only [ct_shops, List.mem_cons, List.not_mem_nil, or_false] at hq
  rcases hq with rfl | rfl | rfl | rfl | rfl | rfl | rfl | rfl
  · exact jc_of (x_add_ok (d + 3) as W Q h)
  · exact jc_of (x_bitsOf_ok (d + 3) as W Q h)
  · exact jc_of (x_isFirst_ok (d + 3) as W Q h)
  · exact jc_of (x_isIn_ok (d + 3) as W Q h)
  · exact jc_of (x_layWays_ok (d + 0) as W Q h)
  · exact jc_of (x_many_ok (d + 3) as W Q h)
  · exact jc_of (x_sets_ok (d + 2) as W Q h)
  · exact jc_of (x_shopsBy_ok (d + 2) as W Q h)
theorem s_shops_0 {Post : Option fw_V → fw_W → Prop} {d : Nat} {W : fw_W} {k_ : Int}
    (hw_ : 0 ≤ (0 : Int) ∧ (0 : Int) ≤ 16 ∧ ((True) ∧ (∀ (r1 : Int), ((0 ≤ r1 ∧ r1 ≤ 1 ∧ ((r1 = 1 ∧ (1 : Int) ≤ k_ ∧ k_ ≤ (4 : Int)) ∨ (r1 = 0 ∧ (k_ < (1 : Int) ∨ (4 : Int) < k_))))) → ((r1 = 0 → (-2147483648 ≤ (-1 : Int) → (-1 : Int) ≤ 2147483647 → Post (some (.inl (-1 : Int))) (fw_up W 352 27 (0 : Int)))) ∧ (¬ r1 = 0 → (True) ∧ (((¬ (fw_g W 366 0) = 0 → (mt (fw_up W 352 27 (0 : Int)) ∧ 0 ≤ (fw_g W 366 0) ∧ (fw_g W 366 0) ≤ 14) ∧ (∀ (f2 : fw_W), ((True)) → (True) ∧ ((((fw_g W 366 0) ≤ k_ → (True) ∧ (jf fw_T (d + 5) 259 52 [(0, .inr (.inl 352)), (2, .inl (fw_g W 366 0)), (3, .inl (-1 : Int)), (4, .inl (0 : Int)), (5, .inl (1 : Int))] [] (fw_put [367] 352 [] (fw_up W 352 27 (0 : Int)) f2) Post)) ∧ (k_ < (fw_g W 366 0) → jf fw_T (d + 5) 259 52 [(0, .inr (.inl 352)), (2, .inl k_), (3, .inl (-1 : Int)), (4, .inl (0 : Int)), (5, .inl (1 : Int))] [] (fw_put [367] 352 [] (fw_up W 352 27 (0 : Int)) f2) Post))))) ∧ ((fw_g W 366 0) = 0 → (-2147483648 ≤ (-1 : Int) → (-1 : Int) ≤ 2147483647 → Post (some (.inl (-1 : Int))) (fw_up W 352 27 (0 : Int))))))))))) :
    jf fw_T (d + 5) 259 0 [(0, .inr (.inl 352)), (1, .inl k_)] [] W Post := fw_ok (n := 27) (ss := [(52, [0, 2, 3, 4, 5]), (127, [0, 3, 4, 5])]) (hv := []) fr_259_ok fm_ok (ct_shops_ok d) hw_

theorem s_shops_127 {Post : Option fw_V → fw_W → Prop} {d : Nat} {W : fw_W} {best least x : Int} {f : fw_W}
    (hw_ : (True) ∧ ((((fw_g W 366 0) ≤ x → (-2147483648 ≤ least → least ≤ 2147483647 → Post (some (.inl least)) (fw_put [367, 368] 352 [27] W f))) ∧ (x < (fw_g W 366 0) → (-2147483648 ≤ (fw_shr best x) → (fw_shr best x) ≤ 2147483647 → (-2147483648 ≤ (fw_and (fw_shr best x) (1 : Int)) → (fw_and (fw_shr best x) (1 : Int)) ≤ 2147483647 → ((¬ (fw_and (fw_shr best x) (1 : Int)) = (1 : Int) → -2147483648 ≤ x + (1 : Int) ∧ x + (1 : Int) ≤ 2147483647 ∧ (jf fw_T (d + 5) 259 127 [(0, .inr (.inl 352)), (3, .inl best), (4, .inl least), (5, .inl (x + (1 : Int)))] [] (fw_put [367, 368] 352 [27] W f) Post)) ∧ ((fw_and (fw_shr best x) (1 : Int)) = (1 : Int) → (0 ≤ (fw_g f 352 27) ∧ (fw_g f 352 27) ≤ 15) ∧ (∀ (f1 : fw_W), (((fw_g f1 352 27) = (fw_g f 352 27) + 1)) → -2147483648 ≤ x + (1 : Int) ∧ x + (1 : Int) ≤ 2147483647 ∧ (jf fw_T (d + 5) 259 127 [(0, .inr (.inl 352)), (3, .inl best), (4, .inl least), (5, .inl (x + (1 : Int)))] [] (fw_put [368] 352 [27] (fw_put [367, 368] 352 [27] W f) f1) Post)))))))))) :
    jf fw_T (d + 5) 259 127 [(0, .inr (.inl 352)), (3, .inl best), (4, .inl least), (5, .inl x)] [] (fw_put [367, 368] 352 [27] W f) Post := fw_ok (n := 17) (ss := [(52, [0, 2, 3, 4, 5]), (127, [0, 3, 4, 5])]) (hv := []) fr_259_ok fm_ok (ct_shops_ok d) hw_

theorem s_shops_52 {Post : Option fw_V → fw_W → Prop} {d : Nat} {W : fw_W} {n best least x : Int} {f : fw_W}
    (hw_ : (True) ∧ ((((fw_shl 1 (fw_g W 366 0)) ≤ x → jf fw_T (d + 5) 259 127 [(0, .inr (.inl 352)), (3, .inl best), (4, .inl least), (5, .inl (0 : Int))] [] (fw_put [367, 368] 352 [27] W f) Post) ∧ (x < (fw_shl 1 (fw_g W 366 0)) → (0 ≤ x ∧ x ≤ 2147483647) ∧ (∀ (r1 : Int), ((-2147483648 ≤ r1 ∧ r1 ≤ 2147483647 ∧ (0 ≤ r1))) → ((r1 = n → (mt (fw_put [367, 368] 352 [27] W f) ∧ 0 ≤ (fw_g W 366 0) ∧ (fw_g W 366 0) ≤ 14) ∧ (∀ (r2 : Int), ((-2147483648 ≤ r2 ∧ r2 ≤ 2147483647 ∧ (True))) → ((best < 0 → -2147483648 ≤ x + (1 : Int) ∧ x + (1 : Int) ≤ 2147483647 ∧ (jf fw_T (d + 5) 259 52 [(0, .inr (.inl 352)), (2, .inl n), (3, .inl x), (4, .inl r2), (5, .inl (x + (1 : Int)))] [] (fw_put [367, 368] 352 [27] W f) Post)) ∧ (0 ≤ best → ((least < r2 → -2147483648 ≤ x + (1 : Int) ∧ x + (1 : Int) ≤ 2147483647 ∧ (jf fw_T (d + 5) 259 52 [(0, .inr (.inl 352)), (2, .inl n), (3, .inl best), (4, .inl least), (5, .inl (x + (1 : Int)))] [] (fw_put [367, 368] 352 [27] W f) Post)) ∧ (r2 ≤ least → ((¬ r2 = least → -2147483648 ≤ x + (1 : Int) ∧ x + (1 : Int) ≤ 2147483647 ∧ (jf fw_T (d + 5) 259 52 [(0, .inr (.inl 352)), (2, .inl n), (3, .inl x), (4, .inl r2), (5, .inl (x + (1 : Int)))] [] (fw_put [367, 368] 352 [27] W f) Post)) ∧ (r2 = least → (True) ∧ (∀ (r3 : Int), ((0 ≤ r3 ∧ r3 ≤ 1 ∧ (True))) → ((¬ r3 = 0 → -2147483648 ≤ x + (1 : Int) ∧ x + (1 : Int) ≤ 2147483647 ∧ (jf fw_T (d + 5) 259 52 [(0, .inr (.inl 352)), (2, .inl n), (3, .inl x), (4, .inl r2), (5, .inl (x + (1 : Int)))] [] (fw_put [367, 368] 352 [27] W f) Post)) ∧ (r3 = 0 → -2147483648 ≤ x + (1 : Int) ∧ x + (1 : Int) ≤ 2147483647 ∧ (jf fw_T (d + 5) 259 52 [(0, .inr (.inl 352)), (2, .inl n), (3, .inl best), (4, .inl least), (5, .inl (x + (1 : Int)))] [] (fw_put [367, 368] 352 [27] W f) Post)))))))))))) ∧ (¬ r1 = n → -2147483648 ≤ x + (1 : Int) ∧ x + (1 : Int) ≤ 2147483647 ∧ (jf fw_T (d + 5) 259 52 [(0, .inr (.inl 352)), (2, .inl n), (3, .inl best), (4, .inl least), (5, .inl (x + (1 : Int)))] [] (fw_put [367, 368] 352 [27] W f) Post)))))))) :
    jf fw_T (d + 5) 259 52 [(0, .inr (.inl 352)), (2, .inl n), (3, .inl best), (4, .inl least), (5, .inl x)] [] (fw_put [367, 368] 352 [27] W f) Post := fw_ok (n := 31) (ss := [(52, [0, 2, 3, 4, 5]), (127, [0, 3, 4, 5])]) (hv := []) fr_259_ok fm_ok (ct_shops_ok d) hw_

theorem lm_shops_127 {Post : Option fw_V → fw_W → Prop} {d : Nat} {W : fw_W} {k_ : Int} (hpre : mt W ∧ 0 ≤ (fw_g W 366 0) ∧ (fw_g W 366 0) ≤ 14) (hP : ∀ (v : Int) (W2 : fw_W), fw_sm [367, 368] 352 [27] W W2 → (-2147483648 ≤ v ∧ v ≤ 2147483647 ∧ (True)) → Post (some (.inl v)) W2)  : ∀ (m : Nat) (best least x : Int) (f : fw_W), ((fw_g W 366 0) - x).toNat = m → 0 ≤ x ∧ 0 ≤ (fw_g f 352 27) ∧ (fw_g f 352 27) ≤ x → jf fw_T (d + 5) 259 127 [(0, .inr (.inl 352)), (3, .inl best), (4, .inl least), (5, .inl x)] [] (fw_put [367, 368] 352 [27] W f) Post := by
  intro m
  induction m using Nat.strongRecOn with
  | ind m ih =>
    intro best least x f hm hi
    refine jf_rng (fun hrg => ?_)
    have hrg : -2147483648 ≤ best ∧ best ≤ 2147483647 ∧ -2147483648 ≤ least ∧ least ≤ 2147483647 ∧ -2147483648 ≤ x ∧ x ≤ 2147483647 ∧ True := hrg
    refine s_shops_127 ?_
    have s1 := fw_shl1 hpre.2.1 hpre.2.2
    repeat' (first
      | (exact True.intro)
      | (exact hpre.1)
      | (refine And.intro ?_ ?_)
      | (refine jf_put (S := [367, 368]) (o := 352) (F := [27]) (W := W) (by repeat (first | exact fw_sm_refl | exact fw_sm_put0 | refine fw_sm_arr ?_ rfl | refine fw_sm_up ?_ rfl | refine fw_sm_put ?_ rfl | refine fw_sm_cp ?_ rfl)) (ih _ (by omega) _ _ _ _ rfl ?_); (first | omega | trivial | (simp (config := { decide := true }) only [fg_in, fg_fin, fg_out, fg_fout, fg_up, fg_same, true_and, and_true] <;> omega)))
      | (refine hP _ _ (by repeat (first | exact fw_sm_refl | exact fw_sm_put0 | refine fw_sm_arr ?_ rfl | refine fw_sm_up ?_ rfl | refine fw_sm_put ?_ rfl | refine fw_sm_cp ?_ rfl)) ?_; (refine ⟨by omega, by omega, ?_⟩; (first | trivial | omega)))
      | omega
      | (intro _))
theorem lm_shops_52 {Post : Option fw_V → fw_W → Prop} {d : Nat} {W : fw_W} {k_ : Int} (hpre : mt W ∧ 0 ≤ (fw_g W 366 0) ∧ (fw_g W 366 0) ≤ 14) (hP : ∀ (v : Int) (W2 : fw_W), fw_sm [367, 368] 352 [27] W W2 → (-2147483648 ≤ v ∧ v ≤ 2147483647 ∧ (True)) → Post (some (.inl v)) W2)  : ∀ (m : Nat) (n best least x : Int) (f : fw_W), ((fw_shl 1 (fw_g W 366 0)) - x).toNat = m → 1 ≤ x ∧ (fw_g f 352 27) = 0 → jf fw_T (d + 5) 259 52 [(0, .inr (.inl 352)), (2, .inl n), (3, .inl best), (4, .inl least), (5, .inl x)] [] (fw_put [367, 368] 352 [27] W f) Post := by
  intro m
  induction m using Nat.strongRecOn with
  | ind m ih =>
    intro n best least x f hm hi
    refine jf_rng (fun hrg => ?_)
    have hrg : -2147483648 ≤ n ∧ n ≤ 2147483647 ∧ -2147483648 ≤ best ∧ best ≤ 2147483647 ∧ -2147483648 ≤ least ∧ least ≤ 2147483647 ∧ -2147483648 ≤ x ∧ x ≤ 2147483647 ∧ True := hrg
    refine s_shops_52 ?_
    have s1 := fw_shl1 hpre.2.1 hpre.2.2
    repeat' (first
      | (exact True.intro)
      | (exact hpre.1)
      | (refine And.intro ?_ ?_)
      | (refine jf_put (S := [367, 368]) (o := 352) (F := [27]) (W := W) (by repeat (first | exact fw_sm_refl | exact fw_sm_put0 | refine fw_sm_arr ?_ rfl | refine fw_sm_up ?_ rfl | refine fw_sm_put ?_ rfl | refine fw_sm_cp ?_ rfl)) (ih _ (by omega) _ _ _ _ _ rfl ?_); (first | omega | trivial | (simp (config := { decide := true }) only [fg_in, fg_fin, fg_out, fg_fout, fg_up, fg_same, true_and, and_true] <;> omega)))
      | (refine jf_put (S := [367, 368]) (o := 352) (F := [27]) (W := W) (by repeat (first | exact fw_sm_refl | exact fw_sm_put0 | refine fw_sm_arr ?_ rfl | refine fw_sm_up ?_ rfl | refine fw_sm_put ?_ rfl | refine fw_sm_cp ?_ rfl)) (lm_shops_127 (k_ := k_) hpre hP _ _ _ _ _ rfl ?_); (first | omega | trivial | (simp (config := { decide := true }) only [fg_in, fg_fin, fg_out, fg_fout, fg_up, fg_same, true_and, and_true] <;> omega)))
      | (refine hP _ _ (by repeat (first | exact fw_sm_refl | exact fw_sm_put0 | refine fw_sm_arr ?_ rfl | refine fw_sm_up ?_ rfl | refine fw_sm_put ?_ rfl | refine fw_sm_cp ?_ rfl)) ?_; (refine ⟨by omega, by omega, ?_⟩; (first | trivial | omega)))
      | omega
      | (intro _))
def x_shops : fw_X := fun as W Q => match as with
  | [.inr (.inl s_), .inl k_] => fw_if (Nat.beq s_ 352) ((mt W ∧ 0 ≤ (fw_g W 366 0) ∧ (fw_g W 366 0) ≤ 14) ∧ (∀ (v : Int) (f : fw_W), (-2147483648 ≤ v ∧ v ≤ 2147483647 ∧ (True)) → Q (some (.inl v)) (fw_put [367, 368] 352 [27] W f)))
  | _ => False
theorem x_shops_ok (d : Nat) (as : List fw_V) (W : fw_W) (Q : Option fw_V → fw_W → Prop) (hx : x_shops as W Q) : jf fw_T (d + 5) 259 0 (fw_args 0 as) [] W Q := by
  unfold x_shops at hx
  split at hx
  · rename_i s_ k_
    obtain ⟨e_, hpre, hQ⟩ := fw_if_ok hx
    have e_ := Nat.eq_of_beq_eq_true e_
    subst e_
    have hP : ∀ (v : Int) (W2 : fw_W), fw_sm [367, 368] 352 [27] W W2 → _ → Q (some (.inl v)) W2 := fun v W2 hs hr => fw_sm_use (Q := fun Z => Q (some (.inl v)) Z) hs (hQ v W2 hr)
    refine s_shops_0 ?_
    have s1 := fw_shl1 hpre.2.1 hpre.2.2
    repeat' (first
      | (exact True.intro)
      | (exact hpre.1)
      | (refine And.intro ?_ ?_)
      | (refine jf_put (S := [367, 368]) (o := 352) (F := [27]) (W := W) (by repeat (first | exact fw_sm_refl | exact fw_sm_put0 | refine fw_sm_arr ?_ rfl | refine fw_sm_up ?_ rfl | refine fw_sm_put ?_ rfl | refine fw_sm_cp ?_ rfl)) (lm_shops_52 (k_ := k_) hpre hP _ _ _ _ _ _ rfl ?_); (first | omega | trivial | (simp (config := { decide := true }) only [fg_in, fg_fin, fg_out, fg_fout, fg_up, fg_same, true_and, and_true] <;> omega)))
      | (refine jf_put (S := [367, 368]) (o := 352) (F := [27]) (W := W) (by repeat (first | exact fw_sm_refl | exact fw_sm_put0 | refine fw_sm_arr ?_ rfl | refine fw_sm_up ?_ rfl | refine fw_sm_put ?_ rfl | refine fw_sm_cp ?_ rfl)) (lm_shops_127 (k_ := k_) hpre hP _ _ _ _ _ rfl ?_); (first | omega | trivial | (simp (config := { decide := true }) only [fg_in, fg_fin, fg_out, fg_fout, fg_up, fg_same, true_and, and_true] <;> omega)))
      | (refine hP _ _ (by repeat (first | exact fw_sm_refl | exact fw_sm_put0 | refine fw_sm_arr ?_ rfl | refine fw_sm_up ?_ rfl | refine fw_sm_put ?_ rfl | refine fw_sm_cp ?_ rfl)) ?_; (refine ⟨by omega, by omega, ?_⟩; (first | trivial | omega)))
      | omega
      | (intro _))
  · exact hx.elim

def fr_299 : fw_P := [(0, 0, 0, 0, 0), (1, 3, 4, 0, 0), (3, 0, 0, 0, 0), (4, 3, 5, 0, 0), (6, 1, 5, 0, 0), (8, 2, 0, 0, 0), (9, 64, 188, 0, 112), (12, 13, 155, 0, 0), (15, 0, 0, 0, 0), (16, 3, 6, 0, 0), (18, 1, 6, 0, 0), (20, 1, 5, 0, 0), (22, 13, 149, 0, 0), (25, 2, 0, 0, 0), (26, 50, 12, 58, 0), (29, 1, 5, 0, 0), (31, 54, 0, 0, 0), (32, 2, 0, 0, 0), (33, 50, 12, 58, 0), (36, 1, 6, 0, 0), (38, 54, 0, 0, 0), (39, 11, 58, 0, 0), (42, 2, 0, 0, 0), (43, 50, 12, 25, 0), (46, 0, 0, 0, 14), (48, 1, 5, 0, 0), (50, 32, 0, 0, 0), (51, 1, 6, 0, 0), (53, 30, 0, 0, 0), (54, 52, 0, 0, 0), (55, 6, 125, 0, 0), (58, 2, 0, 0, 0), (59, 50, 12, 58, 0), (62, 1, 5, 0, 0), (64, 54, 0, 0, 0), (65, 20, 98, 0, 0), (68, 2, 0, 0, 0), (69, 50, 12, 25, 0), (72, 0, 0, 0, 14), (74, 1, 5, 0, 0), (76, 32, 0, 0, 0), (77, 1, 1, 0, 0), (78, 30, 0, 0, 0), (79, 52, 0, 0, 0), (80, 1, 3, 0, 0), (81, 30, 0, 0, 0), (82, 2, 0, 0, 0), (83, 50, 12, 25, 0), (86, 0, 0, 0, 14), (88, 1, 2, 0, 0), (89, 32, 0, 0, 0), (90, 1, 6, 0, 0), (92, 30, 0, 0, 0), (93, 52, 0, 0, 0), (94, 30, 0, 0, 0), (95, 6, 125, 0, 0), (98, 2, 0, 0, 0), (99, 50, 12, 25, 0), (102, 0, 0, 0, 14), (104, 1, 6, 0, 0), (106, 32, 0, 0, 0), (107, 1, 1, 0, 0), (108, 30, 0, 0, 0), (109, 52, 0, 0, 0), (110, 1, 3, 0, 0), (111, 30, 0, 0, 0), (112, 2, 0, 0, 0), (113, 50, 12, 25, 0), (116, 0, 0, 0, 14), (118, 1, 2, 0, 0), (119, 32, 0, 0, 0), (120, 1, 5, 0, 0), (122, 30, 0, 0, 0), (123, 52, 0, 0, 0), (124, 30, 0, 0, 0), (125, 3, 7, 0, 0), (127, 1, 7, 0, 0), (129, 1, 4, 0, 0), (131, 15, 139, 0, 0), (134, 1, 7, 0, 0), (136, 6, 141, 0, 0), (139, 1, 4, 0, 0), (141, 3, 4, 0, 0), (143, 5, 6, 0, 1), (146, 6, 18, 0, 0), (149, 5, 5, 0, 1), (152, 6, 6, 0, 0), (155, 1, 4, 0, 0), (157, 70, 0, 0, 0)]
theorem fr_299_ok : fw_mk 299 8 12 (some .int) fr_299 = true := by decide +kernel
def ct_longestBy : List (Nat × fw_X) := [(188, x_many)]
theorem ct_longestBy_ok (d : Nat) : fw_cok fw_T (d + 1) ct_longestBy := by
  intro q hq as W Q h
  simp only [ct_longestBy, List.mem_cons, List.not_mem_nil, or_false] at hq
  rcases hq with rfl
  · exact jc_of (x_many_ok (d + 0) as W Q h)
theorem s_longestBy_0 {Post : Option fw_V → fw_W → Prop} {d : Nat} {W : fw_W} {u w len : Int}
    (hw_ : jf fw_T (d + 2) 299 6 [(0, .inr (.inl 352)), (1, .inl u), (2, .inl w), (3, .inl len), (4, .inl (0 : Int)), (5, .inl (0 : Int))] [] W Post) :
    jf fw_T (d + 2) 299 0 [(0, .inr (.inl 352)), (1, .inl u), (2, .inl w), (3, .inl len)] [] W Post := fw_ok (n := 5) (ss := [(6, [0, 1, 2, 3, 4, 5]), (18, [0, 1, 2, 3, 4, 5, 6])]) (hv := [81, 94, 111, 124]) fr_299_ok fm_ok (ct_longestBy_ok d) hw_

theorem s_longestBy_18 {Post : Option fw_V → fw_W → Prop} {d : Nat} {W : fw_W} {u w len most a b : Int}
    (hw_ : ((a ≤ b → -2147483648 ≤ a + (1 : Int) ∧ a + (1 : Int) ≤ 2147483647 ∧ (jf fw_T (d + 2) 299 6 [(0, .inr (.inl 352)), (1, .inl u), (2, .inl w), (3, .inl len), (4, .inl most), (5, .inl (a + (1 : Int)))] [] W Post)) ∧ (b < a → 0 ≤ a ∧ a < 14 ∧ (0 ≤ (fw_g W 390 a) → (fw_g W 390 a) ≤ 1 → 0 ≤ b ∧ b < 14 ∧ (0 ≤ (fw_g W 390 b) → (fw_g W 390 b) ≤ 1 → ((¬ (fw_g W 390 a) = (fw_g W 390 b) → 0 ≤ a ∧ a < 14 ∧ (0 ≤ (fw_g W 390 a) → (fw_g W 390 a) ≤ 1 → (((fw_g W 390 a) = 0 → -2147483648 ≤ (14 : Int) * b ∧ (14 : Int) * b ≤ 2147483647 ∧ (-2147483648 ≤ ((14 : Int) * b) + u ∧ ((14 : Int) * b) + u ≤ 2147483647 ∧ (0 ≤ (((14 : Int) * b) + u) ∧ (((14 : Int) * b) + u) < 196 ∧ (-2147483648 ≤ (fw_g W 367 (((14 : Int) * b) + u)) → (fw_g W 367 (((14 : Int) * b) + u)) ≤ 2147483647 → ∀ v1 : Int, -2147483648 ≤ v1 → v1 ≤ 2147483647 → -2147483648 ≤ (14 : Int) * w ∧ (14 : Int) * w ≤ 2147483647 ∧ (-2147483648 ≤ ((14 : Int) * w) + a ∧ ((14 : Int) * w) + a ≤ 2147483647 ∧ (0 ≤ (((14 : Int) * w) + a) ∧ (((14 : Int) * w) + a) < 196 ∧ (-2147483648 ≤ (fw_g W 367 (((14 : Int) * w) + a)) → (fw_g W 367 (((14 : Int) * w) + a)) ≤ 2147483647 → ∀ v2 : Int, -2147483648 ≤ v2 → v2 ≤ 2147483647 → ((v2 ≤ most → -2147483648 ≤ b + (1 : Int) ∧ b + (1 : Int) ≤ 2147483647 ∧ (jf fw_T (d + 2) 299 18 [(0, .inr (.inl 352)), (1, .inl u), (2, .inl w), (3, .inl len), (4, .inl most), (5, .inl a), (6, .inl (b + (1 : Int)))] [] W Post)) ∧ (most < v2 → -2147483648 ≤ b + (1 : Int) ∧ b + (1 : Int) ≤ 2147483647 ∧ (jf fw_T (d + 2) 299 18 [(0, .inr (.inl 352)), (1, .inl u), (2, .inl w), (3, .inl len), (4, .inl v2), (5, .inl a), (6, .inl (b + (1 : Int)))] [] W Post)))))))))) ∧ (¬ (fw_g W 390 a) = 0 → -2147483648 ≤ (14 : Int) * a ∧ (14 : Int) * a ≤ 2147483647 ∧ (-2147483648 ≤ ((14 : Int) * a) + u ∧ ((14 : Int) * a) + u ≤ 2147483647 ∧ (0 ≤ (((14 : Int) * a) + u) ∧ (((14 : Int) * a) + u) < 196 ∧ (-2147483648 ≤ (fw_g W 367 (((14 : Int) * a) + u)) → (fw_g W 367 (((14 : Int) * a) + u)) ≤ 2147483647 → ∀ v3 : Int, -2147483648 ≤ v3 → v3 ≤ 2147483647 → -2147483648 ≤ (14 : Int) * w ∧ (14 : Int) * w ≤ 2147483647 ∧ (-2147483648 ≤ ((14 : Int) * w) + b ∧ ((14 : Int) * w) + b ≤ 2147483647 ∧ (0 ≤ (((14 : Int) * w) + b) ∧ (((14 : Int) * w) + b) < 196 ∧ (-2147483648 ≤ (fw_g W 367 (((14 : Int) * w) + b)) → (fw_g W 367 (((14 : Int) * w) + b)) ≤ 2147483647 → ∀ v4 : Int, -2147483648 ≤ v4 → v4 ≤ 2147483647 → ((v4 ≤ most → -2147483648 ≤ b + (1 : Int) ∧ b + (1 : Int) ≤ 2147483647 ∧ (jf fw_T (d + 2) 299 18 [(0, .inr (.inl 352)), (1, .inl u), (2, .inl w), (3, .inl len), (4, .inl most), (5, .inl a), (6, .inl (b + (1 : Int)))] [] W Post)) ∧ (most < v4 → -2147483648 ≤ b + (1 : Int) ∧ b + (1 : Int) ≤ 2147483647 ∧ (jf fw_T (d + 2) 299 18 [(0, .inr (.inl 352)), (1, .inl u), (2, .inl w), (3, .inl len), (4, .inl v4), (5, .inl a), (6, .inl (b + (1 : Int)))] [] W Post))))))))))))) ∧ ((fw_g W 390 a) = (fw_g W 390 b) → -2147483648 ≤ (14 : Int) * a ∧ (14 : Int) * a ≤ 2147483647 ∧ (-2147483648 ≤ ((14 : Int) * a) + b ∧ ((14 : Int) * a) + b ≤ 2147483647 ∧ (0 ≤ (((14 : Int) * a) + b) ∧ (((14 : Int) * a) + b) < 196 ∧ (-2147483648 ≤ (fw_g W 367 (((14 : Int) * a) + b)) → (fw_g W 367 (((14 : Int) * a) + b)) ≤ 2147483647 → (((fw_g W 367 (((14 : Int) * a) + b)) ≤ most → -2147483648 ≤ b + (1 : Int) ∧ b + (1 : Int) ≤ 2147483647 ∧ (jf fw_T (d + 2) 299 18 [(0, .inr (.inl 352)), (1, .inl u), (2, .inl w), (3, .inl len), (4, .inl most), (5, .inl a), (6, .inl (b + (1 : Int)))] [] W Post)) ∧ (most < (fw_g W 367 (((14 : Int) * a) + b)) → -2147483648 ≤ b + (1 : Int) ∧ b + (1 : Int) ≤ 2147483647 ∧ (jf fw_T (d + 2) 299 18 [(0, .inr (.inl 352)), (1, .inl u), (2, .inl w), (3, .inl len), (4, .inl (fw_g W 367 (((14 : Int) * a) + b))), (5, .inl a), (6, .inl (b + (1 : Int)))] [] W Post))))))))))))) :
    jf fw_T (d + 2) 299 18 [(0, .inr (.inl 352)), (1, .inl u), (2, .inl w), (3, .inl len), (4, .inl most), (5, .inl a), (6, .inl b)] [] W Post := fw_ok (n := 47) (ss := [(6, [0, 1, 2, 3, 4, 5]), (18, [0, 1, 2, 3, 4, 5, 6])]) (hv := [81, 94, 111, 124]) fr_299_ok fm_ok (ct_longestBy_ok d) hw_

theorem s_longestBy_6 {Post : Option fw_V → fw_W → Prop} {d : Nat} {W : fw_W} {u w len most a : Int}
    (hw_ : (True) ∧ ((((fw_g W 366 0) ≤ a → (-2147483648 ≤ most → most ≤ 2147483647 → Post (some (.inl most)) W)) ∧ (a < (fw_g W 366 0) → jf fw_T (d + 2) 299 18 [(0, .inr (.inl 352)), (1, .inl u), (2, .inl w), (3, .inl len), (4, .inl most), (5, .inl a), (6, .inl (0 : Int))] [] W Post)))) :
    jf fw_T (d + 2) 299 6 [(0, .inr (.inl 352)), (1, .inl u), (2, .inl w), (3, .inl len), (4, .inl most), (5, .inl a)] [] W Post := fw_ok (n := 7) (ss := [(6, [0, 1, 2, 3, 4, 5]), (18, [0, 1, 2, 3, 4, 5, 6])]) (hv := [81, 94, 111, 124]) fr_299_ok fm_ok (ct_longestBy_ok d) hw_

theorem lm_longestBy_18 {Post : Option fw_V → fw_W → Prop} {d : Nat} {W : fw_W} {u w len : Int} (hpre : mt W ∧ 0 ≤ (fw_g W 366 0) ∧ (fw_g W 366 0) ≤ 14 ∧ 0 ≤ u ∧ u < 14 ∧ 0 ≤ w ∧ w < 14) (hP : ∀ (v : Int) , (-2147483648 ≤ v ∧ v ≤ 2147483647 ∧ (True)) → Post (some (.inl v)) W) (M6 : Int) (h6 : ∀ (most a : Int), 0 ≤ a → ((fw_g W 366 0) - a) < M6 → jf fw_T (d + 2) 299 6 [(0, .inr (.inl 352)), (1, .inl u), (2, .inl w), (3, .inl len), (4, .inl most), (5, .inl a)] [] W Post) : ∀ (m : Nat) (most a b : Int), (a - b).toNat = m → 0 ≤ b ∧ 0 ≤ a ∧ a < (fw_g W 366 0) → ((fw_g W 366 0) - a) ≤ M6 → jf fw_T (d + 2) 299 18 [(0, .inr (.inl 352)), (1, .inl u), (2, .inl w), (3, .inl len), (4, .inl most), (5, .inl a), (6, .inl b)] [] W Post := by
  intro m
  induction m using Nat.strongRecOn with
  | ind m ih =>
    intro most a b hm hi e6
    refine jf_rng (fun hrg => ?_)
    have hrg : -2147483648 ≤ u ∧ u ≤ 2147483647 ∧ -2147483648 ≤ w ∧ w ≤ 2147483647 ∧ -2147483648 ≤ len ∧ len ≤ 2147483647 ∧ -2147483648 ≤ most ∧ most ≤ 2147483647 ∧ -2147483648 ≤ a ∧ a ≤ 2147483647 ∧ -2147483648 ≤ b ∧ b ≤ 2147483647 ∧ True := hrg
    refine s_longestBy_18 ?_
    repeat' (first
      | (exact True.intro)
      | (exact hpre.1)
      | (refine And.intro ?_ ?_)
      | (refine (h6 _ _ ?_ (by omega)); (first | omega | trivial))
      | (refine (ih _ (by omega) _ _ _ rfl ?_ (by omega)); (first | omega | trivial))
      | (refine hP _ ?_; (refine ⟨by omega, by omega, ?_⟩; (first | trivial | omega)))
      | omega
      | (intro _))
theorem lm_longestBy_6 {Post : Option fw_V → fw_W → Prop} {d : Nat} {W : fw_W} {u w len : Int} (hpre : mt W ∧ 0 ≤ (fw_g W 366 0) ∧ (fw_g W 366 0) ≤ 14 ∧ 0 ≤ u ∧ u < 14 ∧ 0 ≤ w ∧ w < 14) (hP : ∀ (v : Int) , (-2147483648 ≤ v ∧ v ≤ 2147483647 ∧ (True)) → Post (some (.inl v)) W)  : ∀ (m : Nat) (most a : Int), ((fw_g W 366 0) - a).toNat = m → 0 ≤ a → jf fw_T (d + 2) 299 6 [(0, .inr (.inl 352)), (1, .inl u), (2, .inl w), (3, .inl len), (4, .inl most), (5, .inl a)] [] W Post := by
  intro m
  induction m using Nat.strongRecOn with
  | ind m ih =>
    intro most a hm hi
    refine jf_rng (fun hrg => ?_)
    have hrg : -2147483648 ≤ u ∧ u ≤ 2147483647 ∧ -2147483648 ≤ w ∧ w ≤ 2147483647 ∧ -2147483648 ≤ len ∧ len ≤ 2147483647 ∧ -2147483648 ≤ most ∧ most ≤ 2147483647 ∧ -2147483648 ≤ a ∧ a ≤ 2147483647 ∧ True := hrg
    refine s_longestBy_6 ?_
    repeat' (first
      | (exact True.intro)
      | (exact hpre.1)
      | (refine And.intro ?_ ?_)
      | (refine (ih _ (by omega) _ _ rfl ?_); (first | omega | trivial))
      | (refine (lm_longestBy_18 (u := u) (w := w) (len := len) hpre hP ((fw_g W 366 0) - a) (fun a0 a1 hi hl => ih _ (by omega) a0 a1 rfl hi) _ _ _ _ rfl ?_ (by omega)); (first | omega | trivial))
      | (refine hP _ ?_; (refine ⟨by omega, by omega, ?_⟩; (first | trivial | omega)))
      | omega
      | (intro _))
def x_longestBy : fw_X := fun as W Q => match as with
  | [.inr (.inl s_), .inl u, .inl w, .inl len] => fw_if (Nat.beq s_ 352) ((mt W ∧ 0 ≤ (fw_g W 366 0) ∧ (fw_g W 366 0) ≤ 14 ∧ 0 ≤ u ∧ u < 14 ∧ 0 ≤ w ∧ w < 14) ∧ (∀ (v : Int), (-2147483648 ≤ v ∧ v ≤ 2147483647 ∧ (True)) → Q (some (.inl v)) W))
  | _ => False
theorem x_longestBy_ok (d : Nat) (as : List fw_V) (W : fw_W) (Q : Option fw_V → fw_W → Prop) (hx : x_longestBy as W Q) : jf fw_T (d + 2) 299 0 (fw_args 0 as) [] W Q := by
  unfold x_longestBy at hx
  split at hx
  · rename_i s_ u w len
    obtain ⟨e_, hpre, hQ⟩ := fw_if_ok hx
    have e_ := Nat.eq_of_beq_eq_true e_
    subst e_
    have hP := hQ
    refine s_longestBy_0 ?_
    repeat' (first
      | (exact True.intro)
      | (exact hpre.1)
      | (refine And.intro ?_ ?_)
      | (refine (lm_longestBy_6 (u := u) (w := w) (len := len) hpre hP _ _ _ rfl ?_); (first | omega | trivial))
      | (refine (lm_longestBy_18 (u := u) (w := w) (len := len) hpre hP M6 h6 _ _ _ _ rfl ?_ (by omega)); (first | omega | trivial))
      | (refine hP _ ?_; (refine ⟨by omega, by omega, ?_⟩; (first | trivial | omega)))
      | omega
      | (intro _))
  · exact hx.elim

def fr_298 : fw_P := [(0, 2, 0, 0, 0), (1, 1, 1, 0, 0), (2, 64, 213, 1, 212), (5, 20, 21, 0, 0), (8, 1, 1, 0, 0), (9, 20, 21, 0, 0), (12, 1, 2, 0, 0), (13, 0, 0, 0, 0), (14, 0, 0, 0, 2), (15, 65, 214, 3, 300), (18, 21, 23, 0, 0), (21, 0, 0, 0, -1), (22, 70, 0, 0, 0), (23, 2, 0, 0, 0), (24, 64, 222, 0, 312), (27, 0, 0, 0, 0), (28, 3, 3, 0, 0), (29, 1, 3, 0, 0), (30, 2, 0, 0, 0), (31, 64, 188, 0, 112), (34, 13, 55, 0, 0), (37, 2, 0, 0, 0), (38, 50, 12, 58, 0), (41, 1, 3, 0, 0), (42, 2, 0, 0, 0), (43, 1, 3, 0, 0), (44, 1, 1, 0, 0), (45, 64, 240, 2, 412), (48, 55, 0, 0, 0), (49, 5, 3, 0, 1), (52, 6, 29, 0, 0), (55, 0, 0, 0, -1), (56, 3, 3, 0, 0), (57, 0, 0, 0, 0), (58, 3, 4, 0, 0), (60, 0, 0, 0, 0), (61, 3, 5, 0, 0), (63, 1, 5, 0, 0), (65, 2, 0, 0, 0), (66, 64, 188, 0, 112), (69, 13, 161, 0, 0), (72, 0, 0, 0, 0), (73, 3, 6, 0, 0), (75, 1, 6, 0, 0), (77, 2, 0, 0, 0), (78, 64, 188, 0, 112), (81, 13, 155, 0, 0), (84, 2, 0, 0, 0), (85, 50, 12, 58, 0), (88, 1, 5, 0, 0), (90, 54, 0, 0, 0), (91, 20, 149, 0, 0), (94, 2, 0, 0, 0), (95, 50, 12, 58, 0), (98, 1, 6, 0, 0), (100, 54, 0, 0, 0), (101, 20, 107, 0, 0), (104, 6, 149, 0, 0), (107, 2, 0, 0, 0), (108, 1, 5, 0, 0), (110, 1, 6, 0, 0), (112, 2, 0, 0, 0), (113, 1, 1, 0, 0), (114, 64, 216, 1, 212), (117, 64, 299, 3, 812), (120, 3, 7, 0, 0), (122, 1, 3, 0, 0), (123, 22, 136, 0, 0), (126, 1, 7, 0, 0), (128, 1, 4, 0, 0), (130, 12, 136, 0, 0), (133, 6, 149, 0, 0), (136, 0, 0, 0, 14), (138, 1, 5, 0, 0), (140, 32, 0, 0, 0), (141, 1, 6, 0, 0), (143, 30, 0, 0, 0), (144, 3, 3, 0, 0), (145, 1, 7, 0, 0), (147, 3, 4, 0, 0), (149, 5, 6, 0, 1), (152, 6, 75, 0, 0), (155, 5, 5, 0, 1), (158, 6, 63, 0, 0), (161, 1, 2, 0, 0), (162, 21, 170, 0, 0), (165, 1, 4, 0, 0), (167, 6, 186, 0, 0), (170, 1, 2, 0, 0), (171, 0, 0, 0, 1), (172, 11, 182, 0, 0), (175, 1, 3, 0, 0), (176, 0, 0, 0, 14), (178, 33, 0, 0, 0), (179, 6, 186, 0, 0), (182, 1, 3, 0, 0), (183, 0, 0, 0, 14), (185, 34, 0, 0, 0), (186, 70, 0, 0, 0)]
theorem fr_298_ok : fw_mk 298 8 12 (some .int) fr_298 = true := by decide +kernel
def ct_joined : List (Nat × fw_X) := [(240, x_isBehind), (213, x_isHouse), (214, x_isIn), (222, x_layWays), (299, x_longestBy), (188, x_many), (216, x_streetOf)]
theorem ct_joined_ok (d : Nat) : fw_cok fw_T (d + 4) ct_joined := by
  intro q hq as W Q h
  simp only [ct_joined, List.mem_cons, List.not_mem_nil, or_false] at hq
  rcases hq with rfl | rfl | rfl | rfl | rfl | rfl | rfl
  · exact jc_of (x_isBehind_ok (d + 2) as W Q h)
  · exact jc_of (x_isHouse_ok (d + 2) as W Q h)
  · exact jc_of (x_isIn_ok (d + 3) as W Q h)
  · exact jc_of (x_layWays_ok (d + 0) as W Q h)
  · exact jc_of (x_longestBy_ok (d + 2) as W Q h)
  · exact jc_of (x_many_ok (d + 3) as W Q h)
  · exact jc_of (x_streetOf_ok (d + 3) as W Q h)
theorem s_joined_0 {Post : Option fw_V → fw_W → Prop} {d : Nat} {W : fw_W} {h w : Int}
    (hw_ : (mt W ∧ 0 ≤ (fw_g W 366 0) ∧ (fw_g W 366 0) ≤ 14) ∧ (∀ (r1 : Int), ((0 ≤ r1 ∧ r1 ≤ 1 ∧ ((r1 = 1 ∧ 0 ≤ h ∧ h < (fw_g W 366 0)) ∨ (r1 = 0 ∧ (h < 0 ∨ (fw_g W 366 0) ≤ h))))) → ((r1 = 0 → (-2147483648 ≤ (-1 : Int) → (-1 : Int) ≤ 2147483647 → Post (some (.inl (-1 : Int))) W)) ∧ (¬ r1 = 0 → ((h = 0 → (-2147483648 ≤ (-1 : Int) → (-1 : Int) ≤ 2147483647 → Post (some (.inl (-1 : Int))) W)) ∧ (¬ h = 0 → (True) ∧ (∀ (r2 : Int), ((0 ≤ r2 ∧ r2 ≤ 1 ∧ ((r2 = 1 ∧ (0 : Int) ≤ w ∧ w ≤ (2 : Int)) ∨ (r2 = 0 ∧ (w < (0 : Int) ∨ (2 : Int) < w))))) → ((¬ r2 = 0 → (mt W ∧ 0 ≤ (fw_g W 366 0) ∧ (fw_g W 366 0) ≤ 14) ∧ (∀ (f3 : fw_W), ((True)) → jf fw_T (d + 5) 298 29 [(0, .inr (.inl 352)), (1, .inl h), (2, .inl w), (3, .inl (0 : Int))] [] (fw_put [367] 352 [] W f3) Post)) ∧ (r2 = 0 → (-2147483648 ≤ (-1 : Int) → (-1 : Int) ≤ 2147483647 → Post (some (.inl (-1 : Int))) W)))))))))) :
    jf fw_T (d + 5) 298 0 [(0, .inr (.inl 352)), (1, .inl h), (2, .inl w)] [] W Post := fw_ok (n := 16) (ss := [(29, [0, 1, 2, 3]), (63, [0, 1, 2, 3, 4, 5]), (75, [0, 1, 2, 3, 4, 5, 6])]) (hv := [178, 185]) fr_298_ok fm_ok (ct_joined_ok d) hw_

theorem s_joined_75 {Post : Option fw_V → fw_W → Prop} {d : Nat} {W : fw_W} {h w best least u x : Int} {f : fw_W}
    (hw_ : (True) ∧ ((((fw_g W 366 0) ≤ x → -2147483648 ≤ u + (1 : Int) ∧ u + (1 : Int) ≤ 2147483647 ∧ (jf fw_T (d + 5) 298 63 [(0, .inr (.inl 352)), (1, .inl h), (2, .inl w), (3, .inl best), (4, .inl least), (5, .inl (u + (1 : Int)))] [] (fw_put [367, 390] 352 [] W f) Post)) ∧ (x < (fw_g W 366 0) → 0 ≤ u ∧ u < 14 ∧ (0 ≤ (fw_g f 390 u) → (fw_g f 390 u) ≤ 1 → (((fw_g f 390 u) = 0 → -2147483648 ≤ x + (1 : Int) ∧ x + (1 : Int) ≤ 2147483647 ∧ (jf fw_T (d + 5) 298 75 [(0, .inr (.inl 352)), (1, .inl h), (2, .inl w), (3, .inl best), (4, .inl least), (5, .inl u), (6, .inl (x + (1 : Int)))] [] (fw_put [367, 390] 352 [] W f) Post)) ∧ (¬ (fw_g f 390 u) = 0 → 0 ≤ x ∧ x < 14 ∧ (0 ≤ (fw_g f 390 x) → (fw_g f 390 x) ≤ 1 → (((fw_g f 390 x) = 0 → (0 ≤ h ∧ h < 14) ∧ ((mt (fw_put [367, 390] 352 [] W f) ∧ 0 ≤ (fw_g W 366 0) ∧ (fw_g W 366 0) ≤ 14 ∧ 0 ≤ u ∧ u < 14 ∧ 0 ≤ x ∧ x < 14) ∧ (∀ (r1 : Int), ((-2147483648 ≤ r1 ∧ r1 ≤ 2147483647 ∧ (True))) → ((best < 0 → -2147483648 ≤ (14 : Int) * u ∧ (14 : Int) * u ≤ 2147483647 ∧ (-2147483648 ≤ ((14 : Int) * u) + x ∧ ((14 : Int) * u) + x ≤ 2147483647 ∧ (-2147483648 ≤ x + (1 : Int) ∧ x + (1 : Int) ≤ 2147483647 ∧ (jf fw_T (d + 5) 298 75 [(0, .inr (.inl 352)), (1, .inl h), (2, .inl w), (3, .inl (((14 : Int) * u) + x)), (4, .inl r1), (5, .inl u), (6, .inl (x + (1 : Int)))] [] (fw_put [367, 390] 352 [] W f) Post)))) ∧ (0 ≤ best → ((r1 < least → -2147483648 ≤ (14 : Int) * u ∧ (14 : Int) * u ≤ 2147483647 ∧ (-2147483648 ≤ ((14 : Int) * u) + x ∧ ((14 : Int) * u) + x ≤ 2147483647 ∧ (-2147483648 ≤ x + (1 : Int) ∧ x + (1 : Int) ≤ 2147483647 ∧ (jf fw_T (d + 5) 298 75 [(0, .inr (.inl 352)), (1, .inl h), (2, .inl w), (3, .inl (((14 : Int) * u) + x)), (4, .inl r1), (5, .inl u), (6, .inl (x + (1 : Int)))] [] (fw_put [367, 390] 352 [] W f) Post)))) ∧ (least ≤ r1 → -2147483648 ≤ x + (1 : Int) ∧ x + (1 : Int) ≤ 2147483647 ∧ (jf fw_T (d + 5) 298 75 [(0, .inr (.inl 352)), (1, .inl h), (2, .inl w), (3, .inl best), (4, .inl least), (5, .inl u), (6, .inl (x + (1 : Int)))] [] (fw_put [367, 390] 352 [] W f) Post)))))))) ∧ (¬ (fw_g f 390 x) = 0 → -2147483648 ≤ x + (1 : Int) ∧ x + (1 : Int) ≤ 2147483647 ∧ (jf fw_T (d + 5) 298 75 [(0, .inr (.inl 352)), (1, .inl h), (2, .inl w), (3, .inl best), (4, .inl least), (5, .inl u), (6, .inl (x + (1 : Int)))] [] (fw_put [367, 390] 352 [] W f) Post))))))))))) :
    jf fw_T (d + 5) 298 75 [(0, .inr (.inl 352)), (1, .inl h), (2, .inl w), (3, .inl best), (4, .inl least), (5, .inl u), (6, .inl x)] [] (fw_put [367, 390] 352 [] W f) Post := fw_ok (n := 38) (ss := [(29, [0, 1, 2, 3]), (63, [0, 1, 2, 3, 4, 5]), (75, [0, 1, 2, 3, 4, 5, 6])]) (hv := [178, 185]) fr_298_ok fm_ok (ct_joined_ok d) hw_

theorem s_joined_63 {Post : Option fw_V → fw_W → Prop} {d : Nat} {W : fw_W} {h w best least u : Int} {f : fw_W}
    (hw_ : (True) ∧ ((((fw_g W 366 0) ≤ u → ((¬ w = 0 → ((¬ w = (1 : Int) → ¬ (14 : Int) = 0 ∧ (∀ v1 : Int, -2147483648 ≤ v1 → v1 ≤ 2147483647 → (-2147483648 ≤ v1 → v1 ≤ 2147483647 → Post (some (.inl v1)) (fw_put [367, 390] 352 [] W f)))) ∧ (w = (1 : Int) → ¬ (14 : Int) = 0 ∧ (∀ v2 : Int, -2147483648 ≤ v2 → v2 ≤ 2147483647 → (-2147483648 ≤ v2 → v2 ≤ 2147483647 → Post (some (.inl v2)) (fw_put [367, 390] 352 [] W f)))))) ∧ (w = 0 → (-2147483648 ≤ least → least ≤ 2147483647 → Post (some (.inl least)) (fw_put [367, 390] 352 [] W f))))) ∧ (u < (fw_g W 366 0) → jf fw_T (d + 5) 298 75 [(0, .inr (.inl 352)), (1, .inl h), (2, .inl w), (3, .inl best), (4, .inl least), (5, .inl u), (6, .inl (0 : Int))] [] (fw_put [367, 390] 352 [] W f) Post)))) :
    jf fw_T (d + 5) 298 63 [(0, .inr (.inl 352)), (1, .inl h), (2, .inl w), (3, .inl best), (4, .inl least), (5, .inl u)] [] (fw_put [367, 390] 352 [] W f) Post := fw_ok (n := 15) (ss := [(29, [0, 1, 2, 3]), (63, [0, 1, 2, 3, 4, 5]), (75, [0, 1, 2, 3, 4, 5, 6])]) (hv := [178, 185]) fr_298_ok fm_ok (ct_joined_ok d) hw_

theorem s_joined_29 {Post : Option fw_V → fw_W → Prop} {d : Nat} {W : fw_W} {h w best : Int} {f : fw_W}
    (hw_ : (True) ∧ ((((fw_g W 366 0) ≤ best → jf fw_T (d + 5) 298 63 [(0, .inr (.inl 352)), (1, .inl h), (2, .inl w), (3, .inl (-1 : Int)), (4, .inl (0 : Int)), (5, .inl (0 : Int))] [] (fw_put [367, 390] 352 [] W f) Post) ∧ (best < (fw_g W 366 0) → (mt (fw_put [367, 390] 352 [] W f) ∧ 0 ≤ (fw_g W 366 0) ∧ (fw_g W 366 0) ≤ 14 ∧ 0 ≤ best ∧ best < (fw_g W 366 0)) ∧ (∀ (r1 : Int), ((0 ≤ r1 ∧ r1 ≤ 1 ∧ (∀ B, tr_beh ((fw_g W 366 0)) (fun z_ => (fw_g W 366 (2 + 3 * z_))) h B → 0 ≤ h → (r1 = 1 ↔ B best)))) → 0 ≤ best ∧ best < 14 ∧ 0 ≤ r1 ∧ r1 ≤ 1 ∧ 0 ≤ r1 ∧ r1 ≤ 1 ∧ (-2147483648 ≤ best + (1 : Int) ∧ best + (1 : Int) ≤ 2147483647 ∧ (jf fw_T (d + 5) 298 29 [(0, .inr (.inl 352)), (1, .inl h), (2, .inl w), (3, .inl (best + (1 : Int)))] [] (fw_up (fw_put [367, 390] 352 [] W f) 390 best r1) Post))))))) :
    jf fw_T (d + 5) 298 29 [(0, .inr (.inl 352)), (1, .inl h), (2, .inl w), (3, .inl best)] [] (fw_put [367, 390] 352 [] W f) Post := fw_ok (n := 15) (ss := [(29, [0, 1, 2, 3]), (63, [0, 1, 2, 3, 4, 5]), (75, [0, 1, 2, 3, 4, 5, 6])]) (hv := [178, 185]) fr_298_ok fm_ok (ct_joined_ok d) hw_

theorem lm_joined_75 {Post : Option fw_V → fw_W → Prop} {d : Nat} {W : fw_W} {h w : Int} (hpre : mt W ∧ 0 ≤ (fw_g W 366 0) ∧ (fw_g W 366 0) ≤ 14) (hP : ∀ (v : Int) (W2 : fw_W), fw_sm [367, 390] 352 [] W W2 → (-2147483648 ≤ v ∧ v ≤ 2147483647 ∧ (True)) → Post (some (.inl v)) W2) (M63 : Int) (h63 : ∀ (best least u : Int) (f : fw_W), 0 ≤ u ∧ 1 ≤ h ∧ h < (fw_g W 366 0) → ((fw_g W 366 0) - u) < M63 → jf fw_T (d + 5) 298 63 [(0, .inr (.inl 352)), (1, .inl h), (2, .inl w), (3, .inl best), (4, .inl least), (5, .inl u)] [] (fw_put [367, 390] 352 [] W f) Post) : ∀ (m : Nat) (best least u x : Int) (f : fw_W), ((fw_g W 366 0) - x).toNat = m → 0 ≤ x ∧ 1 ≤ h ∧ h < (fw_g W 366 0) ∧ 0 ≤ u ∧ u < (fw_g W 366 0) → ((fw_g W 366 0) - u) ≤ M63 → jf fw_T (d + 5) 298 75 [(0, .inr (.inl 352)), (1, .inl h), (2, .inl w), (3, .inl best), (4, .inl least), (5, .inl u), (6, .inl x)] [] (fw_put [367, 390] 352 [] W f) Post := by
  intro m
  induction m using Nat.strongRecOn with
  | ind m ih =>
    intro best least u x f hm hi e63
    refine jf_rng (fun hrg => ?_)
    have hrg : -2147483648 ≤ h ∧ h ≤ 2147483647 ∧ -2147483648 ≤ w ∧ w ≤ 2147483647 ∧ -2147483648 ≤ best ∧ best ≤ 2147483647 ∧ -2147483648 ≤ least ∧ least ≤ 2147483647 ∧ -2147483648 ≤ u ∧ u ≤ 2147483647 ∧ -2147483648 ≤ x ∧ x ≤ 2147483647 ∧ True := hrg
    refine s_joined_75 ?_
    repeat' (first
      | (exact True.intro)
      | (exact hpre.1)
      | (refine And.intro ?_ ?_)
      | (refine jf_put (S := [367, 390]) (o := 352) (F := []) (W := W) (by repeat (first | exact fw_sm_refl | exact fw_sm_put0 | refine fw_sm_arr ?_ rfl | refine fw_sm_up ?_ rfl | refine fw_sm_put ?_ rfl | refine fw_sm_cp ?_ rfl)) (h63 _ _ _ _ ?_ (by omega)); (first | omega | trivial | (simp (config := { decide := true }) only [fg_in, fg_fin, fg_out, fg_fout, fg_up, fg_same, true_and, and_true] <;> omega)))
      | (refine jf_put (S := [367, 390]) (o := 352) (F := []) (W := W) (by repeat (first | exact fw_sm_refl | exact fw_sm_put0 | refine fw_sm_arr ?_ rfl | refine fw_sm_up ?_ rfl | refine fw_sm_put ?_ rfl | refine fw_sm_cp ?_ rfl)) (ih _ (by omega) _ _ _ _ _ rfl ?_ (by omega)); (first | omega | trivial | (simp (config := { decide := true }) only [fg_in, fg_fin, fg_out, fg_fout, fg_up, fg_same, true_and, and_true] <;> omega)))
      | (refine hP _ _ (by repeat (first | exact fw_sm_refl | exact fw_sm_put0 | refine fw_sm_arr ?_ rfl | refine fw_sm_up ?_ rfl | refine fw_sm_put ?_ rfl | refine fw_sm_cp ?_ rfl)) ?_; (refine ⟨by omega, by omega, ?_⟩; (first | trivial | omega)))
      | omega
      | (intro _))
theorem lm_joined_63 {Post : Option fw_V → fw_W → Prop} {d : Nat} {W : fw_W} {h w : Int} (hpre : mt W ∧ 0 ≤ (fw_g W 366 0) ∧ (fw_g W 366 0) ≤ 14) (hP : ∀ (v : Int) (W2 : fw_W), fw_sm [367, 390] 352 [] W W2 → (-2147483648 ≤ v ∧ v ≤ 2147483647 ∧ (True)) → Post (some (.inl v)) W2)  : ∀ (m : Nat) (best least u : Int) (f : fw_W), ((fw_g W 366 0) - u).toNat = m → 0 ≤ u ∧ 1 ≤ h ∧ h < (fw_g W 366 0) → jf fw_T (d + 5) 298 63 [(0, .inr (.inl 352)), (1, .inl h), (2, .inl w), (3, .inl best), (4, .inl least), (5, .inl u)] [] (fw_put [367, 390] 352 [] W f) Post := by
  intro m
  induction m using Nat.strongRecOn with
  | ind m ih =>
    intro best least u f hm hi
    refine jf_rng (fun hrg => ?_)
    have hrg : -2147483648 ≤ h ∧ h ≤ 2147483647 ∧ -2147483648 ≤ w ∧ w ≤ 2147483647 ∧ -2147483648 ≤ best ∧ best ≤ 2147483647 ∧ -2147483648 ≤ least ∧ least ≤ 2147483647 ∧ -2147483648 ≤ u ∧ u ≤ 2147483647 ∧ True := hrg
    refine s_joined_63 ?_
    repeat' (first
      | (exact True.intro)
      | (exact hpre.1)
      | (refine And.intro ?_ ?_)
      | (refine jf_put (S := [367, 390]) (o := 352) (F := []) (W := W) (by repeat (first | exact fw_sm_refl | exact fw_sm_put0 | refine fw_sm_arr ?_ rfl | refine fw_sm_up ?_ rfl | refine fw_sm_put ?_ rfl | refine fw_sm_cp ?_ rfl)) (ih _ (by omega) _ _ _ _ rfl ?_); (first | omega | trivial | (simp (config := { decide := true }) only [fg_in, fg_fin, fg_out, fg_fout, fg_up, fg_same, true_and, and_true] <;> omega)))
      | (refine jf_put (S := [367, 390]) (o := 352) (F := []) (W := W) (by repeat (first | exact fw_sm_refl | exact fw_sm_put0 | refine fw_sm_arr ?_ rfl | refine fw_sm_up ?_ rfl | refine fw_sm_put ?_ rfl | refine fw_sm_cp ?_ rfl)) (lm_joined_75 (h := h) (w := w) hpre hP ((fw_g W 366 0) - u) (fun a0 a1 a2 af hi hl => ih _ (by omega) a0 a1 a2 af rfl hi) _ _ _ _ _ _ rfl ?_ (by omega)); (first | omega | trivial | (simp (config := { decide := true }) only [fg_in, fg_fin, fg_out, fg_fout, fg_up, fg_same, true_and, and_true] <;> omega)))
      | (refine hP _ _ (by repeat (first | exact fw_sm_refl | exact fw_sm_put0 | refine fw_sm_arr ?_ rfl | refine fw_sm_up ?_ rfl | refine fw_sm_put ?_ rfl | refine fw_sm_cp ?_ rfl)) ?_; (refine ⟨by omega, by omega, ?_⟩; (first | trivial | omega)))
      | omega
      | (intro _))
theorem lm_joined_29 {Post : Option fw_V → fw_W → Prop} {d : Nat} {W : fw_W} {h w : Int} (hpre : mt W ∧ 0 ≤ (fw_g W 366 0) ∧ (fw_g W 366 0) ≤ 14) (hP : ∀ (v : Int) (W2 : fw_W), fw_sm [367, 390] 352 [] W W2 → (-2147483648 ≤ v ∧ v ≤ 2147483647 ∧ (True)) → Post (some (.inl v)) W2)  : ∀ (m : Nat) (best : Int) (f : fw_W), ((fw_g W 366 0) - best).toNat = m → 0 ≤ best ∧ 1 ≤ h ∧ h < (fw_g W 366 0) → jf fw_T (d + 5) 298 29 [(0, .inr (.inl 352)), (1, .inl h), (2, .inl w), (3, .inl best)] [] (fw_put [367, 390] 352 [] W f) Post := by
  intro m
  induction m using Nat.strongRecOn with
  | ind m ih =>
    intro best f hm hi
    refine jf_rng (fun hrg => ?_)
    have hrg : -2147483648 ≤ h ∧ h ≤ 2147483647 ∧ -2147483648 ≤ w ∧ w ≤ 2147483647 ∧ -2147483648 ≤ best ∧ best ≤ 2147483647 ∧ True := hrg
    refine s_joined_29 ?_
    repeat' (first
      | (exact True.intro)
      | (exact hpre.1)
      | (refine And.intro ?_ ?_)
      | (refine jf_put (S := [367, 390]) (o := 352) (F := []) (W := W) (by repeat (first | exact fw_sm_refl | exact fw_sm_put0 | refine fw_sm_arr ?_ rfl | refine fw_sm_up ?_ rfl | refine fw_sm_put ?_ rfl | refine fw_sm_cp ?_ rfl)) (ih _ (by omega) _ _ rfl ?_); (first | omega | trivial | (simp (config := { decide := true }) only [fg_in, fg_fin, fg_out, fg_fout, fg_up, fg_same, true_and, and_true] <;> omega)))
      | (refine jf_put (S := [367, 390]) (o := 352) (F := []) (W := W) (by repeat (first | exact fw_sm_refl | exact fw_sm_put0 | refine fw_sm_arr ?_ rfl | refine fw_sm_up ?_ rfl | refine fw_sm_put ?_ rfl | refine fw_sm_cp ?_ rfl)) (lm_joined_63 (h := h) (w := w) hpre hP _ _ _ _ _ rfl ?_); (first | omega | trivial | (simp (config := { decide := true }) only [fg_in, fg_fin, fg_out, fg_fout, fg_up, fg_same, true_and, and_true] <;> omega)))
      | (refine hP _ _ (by repeat (first | exact fw_sm_refl | exact fw_sm_put0 | refine fw_sm_arr ?_ rfl | refine fw_sm_up ?_ rfl | refine fw_sm_put ?_ rfl | refine fw_sm_cp ?_ rfl)) ?_; (refine ⟨by omega, by omega, ?_⟩; (first | trivial | omega)))
      | omega
      | (intro _))
def x_joined : fw_X := fun as W Q => match as with
  | [.inr (.inl s_), .inl h, .inl w] => fw_if (Nat.beq s_ 352) ((mt W ∧ 0 ≤ (fw_g W 366 0) ∧ (fw_g W 366 0) ≤ 14) ∧ (∀ (v : Int) (f : fw_W), (-2147483648 ≤ v ∧ v ≤ 2147483647 ∧ (True)) → Q (some (.inl v)) (fw_put [367, 390] 352 [] W f)))
  | _ => False
theorem x_joined_ok (d : Nat) (as : List fw_V) (W : fw_W) (Q : Option fw_V → fw_W → Prop) (hx : x_joined as W Q) : jf fw_T (d + 5) 298 0 (fw_args 0 as) [] W Q := by
  unfold x_joined at hx
  split at hx
  · rename_i s_ h w
    obtain ⟨e_, hpre, hQ⟩ := fw_if_ok hx
    have e_ := Nat.eq_of_beq_eq_true e_
    subst e_
    have hP : ∀ (v : Int) (W2 : fw_W), fw_sm [367, 390] 352 [] W W2 → _ → Q (some (.inl v)) W2 := fun v W2 hs hr => fw_sm_use (Q := fun Z => Q (some (.inl v)) Z) hs (hQ v W2 hr)
    refine s_joined_0 ?_
    repeat' (first
      | (exact True.intro)
      | (exact hpre.1)
      | (refine And.intro ?_ ?_)
      | (refine jf_put (S := [367, 390]) (o := 352) (F := []) (W := W) (by repeat (first | exact fw_sm_refl | exact fw_sm_put0 | refine fw_sm_arr ?_ rfl | refine fw_sm_up ?_ rfl | refine fw_sm_put ?_ rfl | refine fw_sm_cp ?_ rfl)) (lm_joined_29 (h := h) (w := w) hpre hP _ _ _ rfl ?_); (first | omega | trivial | (simp (config := { decide := true }) only [fg_in, fg_fin, fg_out, fg_fout, fg_up, fg_same, true_and, and_true] <;> omega)))
      | (refine jf_put (S := [367, 390]) (o := 352) (F := []) (W := W) (by repeat (first | exact fw_sm_refl | exact fw_sm_put0 | refine fw_sm_arr ?_ rfl | refine fw_sm_up ?_ rfl | refine fw_sm_put ?_ rfl | refine fw_sm_cp ?_ rfl)) (lm_joined_63 (h := h) (w := w) hpre hP _ _ _ _ _ rfl ?_); (first | omega | trivial | (simp (config := { decide := true }) only [fg_in, fg_fin, fg_out, fg_fout, fg_up, fg_same, true_and, and_true] <;> omega)))
      | (refine jf_put (S := [367, 390]) (o := 352) (F := []) (W := W) (by repeat (first | exact fw_sm_refl | exact fw_sm_put0 | refine fw_sm_arr ?_ rfl | refine fw_sm_up ?_ rfl | refine fw_sm_put ?_ rfl | refine fw_sm_cp ?_ rfl)) (lm_joined_75 (h := h) (w := w) hpre hP M63 h63 _ _ _ _ _ _ rfl ?_ (by omega)); (first | omega | trivial | (simp (config := { decide := true }) only [fg_in, fg_fin, fg_out, fg_fout, fg_up, fg_same, true_and, and_true] <;> omega)))
      | (refine hP _ _ (by repeat (first | exact fw_sm_refl | exact fw_sm_put0 | refine fw_sm_arr ?_ rfl | refine fw_sm_up ?_ rfl | refine fw_sm_put ?_ rfl | refine fw_sm_cp ?_ rfl)) ?_; (refine ⟨by omega, by omega, ?_⟩; (first | trivial | omega)))
      | omega
      | (intro _))
  · exact hx.elim

