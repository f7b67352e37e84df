/-! the reference, method by method -/
def fr_294 : fw_P := [(0, 0, 0, 0, -1), (1, 3, 1, 0, 0), (2, 0, 0, 0, -1), (3, 3, 2, 0, 0), (4, 0, 0, 0, 0), (5, 3, 3, 0, 0), (6, 2, 0, 0, 0), (7, 0, 0, 0, 0), (8, 64, 227, 1, 412), (11, 3, 4, 0, 0), (13, 0, 0, 0, 1), (14, 3, 5, 0, 0), (16, 1, 5, 0, 0), (18, 2, 0, 0, 0), (19, 64, 188, 0, 112), (22, 13, 55, 0, 0), (25, 2, 0, 0, 0), (26, 1, 5, 0, 0), (28, 64, 227, 1, 412), (31, 1, 4, 0, 0), (33, 13, 45, 0, 0), (36, 2, 0, 0, 0), (37, 1, 5, 0, 0), (39, 64, 227, 1, 412), (42, 6, 47, 0, 0), (45, 1, 4, 0, 0), (47, 3, 4, 0, 0), (49, 5, 5, 0, 1), (52, 6, 16, 0, 0), (55, 0, 0, 0, 0), (56, 3, 5, 0, 0), (58, 1, 5, 0, 0), (60, 2, 0, 0, 0), (61, 64, 188, 0, 112), (64, 13, 95, 0, 0), (67, 2, 0, 0, 0), (68, 1, 5, 0, 0), (70, 64, 227, 1, 412), (73, 1, 4, 0, 0), (75, 15, 81, 0, 0), (78, 6, 89, 0, 0), (81, 5, 3, 0, 1), (84, 1, 2, 0, 0), (85, 3, 1, 0, 0), (86, 1, 5, 0, 0), (88, 3, 2, 0, 0), (89, 5, 5, 0, 1), (92, 6, 58, 0, 0), (95, 1, 3, 0, 0), (96, 0, 0, 0, 1), (97, 10, 114, 0, 0), (100, 1, 3, 0, 0), (101, 0, 0, 0, 2), (102, 11, 118, 0, 0), (105, 2, 0, 0, 0), (106, 1, 1, 0, 0), (107, 1, 2, 0, 0), (108, 64, 219, 2, 312), (111, 20, 118, 0, 0), (114, 0, 0, 0, 1), (115, 6, 119, 0, 0), (118, 0, 0, 0, 0), (119, 71, 0, 0, 0)]
theorem fr_294_ok : fw_mk 294 6 12 (some .boolean) fr_294 = true := by decide +kernel
def ct_isSoByFar : List (Nat × fw_X) := [(219, x_areNext), (227, x_farOf), (188, x_many)]
theorem ct_isSoByFar_ok (d : Nat) : fw_cok fw_T (d + 2) ct_isSoByFar := by
  intro q hq as W Q h
  simp only [ct_isSoByFar, List.mem_cons, List.not_mem_nil, or_false] at hq
  rcases hq with rfl | rfl | rfl
  · exact jc_of (x_areNext_ok (d + 0) as W Q h)
  · exact jc_of (x_farOf_ok (d + 0) as W Q h)
  · exact jc_of (x_many_ok (d + 1) as W Q h)
theorem s_isSoByFar_0 {Post : Option fw_V → fw_W → Prop} {d : Nat} {W : fw_W}
    (hw_ : (mt W ∧ 0 ≤ (fw_g W 366 0) ∧ (fw_g W 366 0) ≤ 14 ∧ 0 ≤ (0 : Int) ∧ (0 : Int) < 14) ∧ (∀ (r1 : Int), ((-2147483648 ≤ r1 ∧ r1 ≤ 2147483647 ∧ (True))) → jf fw_T (d + 3) 294 16 [(0, .inr (.inl 352)), (1, .inl (-1 : Int)), (2, .inl (-1 : Int)), (3, .inl (0 : Int)), (4, .inl r1), (5, .inl (1 : Int))] [] W Post)) :
    jf fw_T (d + 3) 294 0 [(0, .inr (.inl 352))] [] W Post := fw_ok (n := 13) (ss := [(16, [0, 1, 2, 3, 4, 5]), (58, [0, 1, 2, 3, 4, 5])]) (hv := []) fr_294_ok fm_ok (ct_isSoByFar_ok d) hw_

theorem s_isSoByFar_58 {Post : Option fw_V → fw_W → Prop} {d : Nat} {W : fw_W} {one two n least h : Int}
    (hw_ : (True) ∧ ((((fw_g W 366 0) ≤ h → ((n = (1 : Int) → 0 ≤ (1 : Int) ∧ (1 : Int) ≤ 1 ∧ Post (some (.inl (1 : Int))) W) ∧ (¬ n = (1 : Int) → ((¬ n = (2 : Int) → 0 ≤ (0 : Int) ∧ (0 : Int) ≤ 1 ∧ Post (some (.inl (0 : Int))) W) ∧ (n = (2 : Int) → (0 ≤ one ∧ one < 14 ∧ 0 ≤ two ∧ two < 14) ∧ (∀ (r1 : Int), ((0 ≤ r1 ∧ r1 ≤ 1 ∧ ((r1 = 1 ∧ ((fw_g W 366 (2 + 3 * one)) = two ∨ (fw_g W 366 (2 + 3 * two)) = one)) ∨ (r1 = 0 ∧ ¬ (fw_g W 366 (2 + 3 * one)) = two ∧ ¬ (fw_g W 366 (2 + 3 * two)) = one)))) → ((r1 = 0 → 0 ≤ (0 : Int) ∧ (0 : Int) ≤ 1 ∧ Post (some (.inl (0 : Int))) W) ∧ (¬ r1 = 0 → 0 ≤ (1 : Int) ∧ (1 : Int) ≤ 1 ∧ Post (some (.inl (1 : Int))) W)))))))) ∧ (h < (fw_g W 366 0) → (mt W ∧ 0 ≤ (fw_g W 366 0) ∧ (fw_g W 366 0) ≤ 14 ∧ 0 ≤ h ∧ h < 14) ∧ (∀ (r2 : Int), ((-2147483648 ≤ r2 ∧ r2 ≤ 2147483647 ∧ (True))) → ((r2 ≤ least → -2147483648 ≤ n + (1 : Int) ∧ n + (1 : Int) ≤ 2147483647 ∧ (-2147483648 ≤ h + (1 : Int) ∧ h + (1 : Int) ≤ 2147483647 ∧ (jf fw_T (d + 3) 294 58 [(0, .inr (.inl 352)), (1, .inl two), (2, .inl h), (3, .inl (n + (1 : Int))), (4, .inl least), (5, .inl (h + (1 : Int)))] [] W Post))) ∧ (least < r2 → -2147483648 ≤ h + (1 : Int) ∧ h + (1 : Int) ≤ 2147483647 ∧ (jf fw_T (d + 3) 294 58 [(0, .inr (.inl 352)), (1, .inl one), (2, .inl two), (3, .inl n), (4, .inl least), (5, .inl (h + (1 : Int)))] [] W Post)))))))) :
    jf fw_T (d + 3) 294 58 [(0, .inr (.inl 352)), (1, .inl one), (2, .inl two), (3, .inl n), (4, .inl least), (5, .inl h)] [] W Post := fw_ok (n := 19) (ss := [(16, [0, 1, 2, 3, 4, 5]), (58, [0, 1, 2, 3, 4, 5])]) (hv := []) fr_294_ok fm_ok (ct_isSoByFar_ok d) hw_

theorem s_isSoByFar_16 {Post : Option fw_V → fw_W → Prop} {d : Nat} {W : fw_W} {one two n least h : Int}
    (hw_ : (True) ∧ ((((fw_g W 366 0) ≤ h → jf fw_T (d + 3) 294 58 [(0, .inr (.inl 352)), (1, .inl one), (2, .inl two), (3, .inl n), (4, .inl least), (5, .inl (0 : Int))] [] W Post) ∧ (h < (fw_g W 366 0) → (mt W ∧ 0 ≤ (fw_g W 366 0) ∧ (fw_g W 366 0) ≤ 14 ∧ 0 ≤ h ∧ h < 14) ∧ (∀ (r1 : Int), ((-2147483648 ≤ r1 ∧ r1 ≤ 2147483647 ∧ (True))) → ((least ≤ r1 → -2147483648 ≤ h + (1 : Int) ∧ h + (1 : Int) ≤ 2147483647 ∧ (jf fw_T (d + 3) 294 16 [(0, .inr (.inl 352)), (1, .inl one), (2, .inl two), (3, .inl n), (4, .inl least), (5, .inl (h + (1 : Int)))] [] W Post)) ∧ (r1 < least → (mt W ∧ 0 ≤ (fw_g W 366 0) ∧ (fw_g W 366 0) ≤ 14 ∧ 0 ≤ h ∧ h < 14) ∧ (∀ (r2 : Int), ((-2147483648 ≤ r2 ∧ r2 ≤ 2147483647 ∧ (True))) → -2147483648 ≤ h + (1 : Int) ∧ h + (1 : Int) ≤ 2147483647 ∧ (jf fw_T (d + 3) 294 16 [(0, .inr (.inl 352)), (1, .inl one), (2, .inl two), (3, .inl n), (4, .inl r2), (5, .inl (h + (1 : Int)))] [] W Post))))))))) :
    jf fw_T (d + 3) 294 16 [(0, .inr (.inl 352)), (1, .inl one), (2, .inl two), (3, .inl n), (4, .inl least), (5, .inl h)] [] W Post := fw_ok (n := 17) (ss := [(16, [0, 1, 2, 3, 4, 5]), (58, [0, 1, 2, 3, 4, 5])]) (hv := []) fr_294_ok fm_ok (ct_isSoByFar_ok d) hw_

theorem lm_isSoByFar_58 {Post : Option fw_V → fw_W → Prop} {d : Nat} {W : fw_W} (hpre : mt W ∧ 0 ≤ (fw_g W 366 0) ∧ (fw_g W 366 0) ≤ 14) (hP : ∀ (v : Int) , (0 ≤ v ∧ v ≤ 1 ∧ (True)) → Post (some (.inl v)) W)  : ∀ (m : Nat) (one two n least h : Int), ((fw_g W 366 0) - h).toNat = m → 0 ≤ h ∧ 0 ≤ n ∧ (1 ≤ n → 0 ≤ two ∧ two < 14) ∧ (2 ≤ n → 0 ≤ one ∧ one < 14) ∧ n ≤ h → jf fw_T (d + 3) 294 58 [(0, .inr (.inl 352)), (1, .inl one), (2, .inl two), (3, .inl n), (4, .inl least), (5, .inl h)] [] W Post := by
  intro m
  induction m using Nat.strongRecOn with
  | ind m ih =>
    intro one two n least h hm hi
    refine jf_rng (fun hrg => ?_)
    have hrg : -2147483648 ≤ one ∧ one ≤ 2147483647 ∧ -2147483648 ≤ two ∧ two ≤ 2147483647 ∧ -2147483648 ≤ n ∧ n ≤ 2147483647 ∧ -2147483648 ≤ least ∧ least ≤ 2147483647 ∧ -2147483648 ≤ h ∧ h ≤ 2147483647 ∧ True := hrg
    refine s_isSoByFar_58 ?_
    repeat' (first
      | (exact True.intro)
      | (exact hpre.1)
      | (refine And.intro ?_ ?_)
      | (refine (ih _ (by omega) _ _ _ _ _ rfl ?_); (first | omega | trivial))
      | (refine hP _ ?_; (refine ⟨by omega, by omega, ?_⟩; (first | trivial | omega)))
      | omega
      | (intro _))
theorem lm_isSoByFar_16 {Post : Option fw_V → fw_W → Prop} {d : Nat} {W : fw_W} (hpre : mt W ∧ 0 ≤ (fw_g W 366 0) ∧ (fw_g W 366 0) ≤ 14) (hP : ∀ (v : Int) , (0 ≤ v ∧ v ≤ 1 ∧ (True)) → Post (some (.inl v)) W)  : ∀ (m : Nat) (one two n least h : Int), ((fw_g W 366 0) - h).toNat = m → 1 ≤ h ∧ n = 0 → jf fw_T (d + 3) 294 16 [(0, .inr (.inl 352)), (1, .inl one), (2, .inl two), (3, .inl n), (4, .inl least), (5, .inl h)] [] W Post := by
  intro m
  induction m using Nat.strongRecOn with
  | ind m ih =>
    intro one two n least h hm hi
    refine jf_rng (fun hrg => ?_)
    have hrg : -2147483648 ≤ one ∧ one ≤ 2147483647 ∧ -2147483648 ≤ two ∧ two ≤ 2147483647 ∧ -2147483648 ≤ n ∧ n ≤ 2147483647 ∧ -2147483648 ≤ least ∧ least ≤ 2147483647 ∧ -2147483648 ≤ h ∧ h ≤ 2147483647 ∧ True := hrg
    refine s_isSoByFar_16 ?_
    repeat' (first
      | (exact True.intro)
      | (exact hpre.1)
      | (refine And.intro ?_ ?_)
      | (refine (ih _ (by omega) _ _ _ _ _ rfl ?_); (first | omega | trivial))
      | (refine (lm_isSoByFar_58 hpre hP _ _ _ _ _ _ rfl ?_); (first | omega | trivial))
      | (refine hP _ ?_; (refine ⟨by omega, by omega, ?_⟩; (first | trivial | omega)))
      | omega
      | (intro _))
def x_isSoByFar : fw_X := fun as W Q => match as with
  | [.inr (.inl s_)] => fw_if (Nat.beq s_ 352) ((mt W ∧ 0 ≤ (fw_g W 366 0) ∧ (fw_g W 366 0) ≤ 14) ∧ (∀ (v : Int), (0 ≤ v ∧ v ≤ 1 ∧ (True)) → Q (some (.inl v)) W))
  | _ => False
theorem x_isSoByFar_ok (d : Nat) (as : List fw_V) (W : fw_W) (Q : Option fw_V → fw_W → Prop) (hx : x_isSoByFar as W Q) : jf fw_T (d + 3) 294 0 (fw_args 0 as) [] W Q := by
  unfold x_isSoByFar at hx
  split at hx
  · rename_i s_
    obtain ⟨e_, hpre, hQ⟩ := fw_if_ok hx
    have e_ := Nat.eq_of_beq_eq_true e_
    subst e_
    have hP := hQ
    refine s_isSoByFar_0 ?_
    repeat' (first
      | (exact True.intro)
      | (exact hpre.1)
      | (refine And.intro ?_ ?_)
      | (refine (lm_isSoByFar_16 hpre hP _ _ _ _ _ _ rfl ?_); (first | omega | trivial))
      | (refine (lm_isSoByFar_58 hpre hP _ _ _ _ _ _ rfl ?_); (first | omega | trivial))
      | (refine hP _ ?_; (refine ⟨by omega, by omega, ?_⟩; (first | trivial | omega)))
      | omega
      | (intro _))
  · exact hx.elim

def fr_295 : fw_P := [(0, 0, 0, 0, 0), (1, 3, 1, 0, 0), (2, 1, 1, 0, 0), (3, 2, 0, 0, 0), (4, 64, 188, 0, 112), (7, 13, 152, 0, 0), (10, 1, 1, 0, 0), (11, 0, 0, 0, 1), (12, 30, 0, 0, 0), (13, 3, 2, 0, 0), (14, 1, 2, 0, 0), (15, 2, 0, 0, 0), (16, 64, 188, 0, 112), (19, 13, 146, 0, 0), (22, 1, 2, 0, 0), (23, 0, 0, 0, 1), (24, 30, 0, 0, 0), (25, 3, 3, 0, 0), (26, 1, 3, 0, 0), (27, 2, 0, 0, 0), (28, 64, 188, 0, 112), (31, 13, 140, 0, 0), (34, 1, 3, 0, 0), (35, 0, 0, 0, 1), (36, 30, 0, 0, 0), (37, 3, 4, 0, 0), (39, 1, 4, 0, 0), (41, 2, 0, 0, 0), (42, 64, 188, 0, 112), (45, 13, 134, 0, 0), (48, 2, 0, 0, 0), (49, 50, 12, 25, 0), (52, 0, 0, 0, 14), (54, 1, 1, 0, 0), (55, 32, 0, 0, 0), (56, 1, 2, 0, 0), (57, 30, 0, 0, 0), (58, 52, 0, 0, 0), (59, 2, 0, 0, 0), (60, 50, 12, 25, 0), (63, 0, 0, 0, 14), (65, 1, 3, 0, 0), (66, 32, 0, 0, 0), (67, 1, 4, 0, 0), (69, 30, 0, 0, 0), (70, 52, 0, 0, 0), (71, 30, 0, 0, 0), (72, 2, 0, 0, 0), (73, 50, 12, 25, 0), (76, 0, 0, 0, 14), (78, 1, 1, 0, 0), (79, 32, 0, 0, 0), (80, 1, 3, 0, 0), (81, 30, 0, 0, 0), (82, 52, 0, 0, 0), (83, 2, 0, 0, 0), (84, 50, 12, 25, 0), (87, 0, 0, 0, 14), (89, 1, 2, 0, 0), (90, 32, 0, 0, 0), (91, 1, 4, 0, 0), (93, 30, 0, 0, 0), (94, 52, 0, 0, 0), (95, 30, 0, 0, 0), (96, 2, 0, 0, 0), (97, 50, 12, 25, 0), (100, 0, 0, 0, 14), (102, 1, 1, 0, 0), (103, 32, 0, 0, 0), (104, 1, 4, 0, 0), (106, 30, 0, 0, 0), (107, 52, 0, 0, 0), (108, 2, 0, 0, 0), (109, 50, 12, 25, 0), (112, 0, 0, 0, 14), (114, 1, 2, 0, 0), (115, 32, 0, 0, 0), (116, 1, 3, 0, 0), (117, 30, 0, 0, 0), (118, 52, 0, 0, 0), (119, 30, 0, 0, 0), (120, 65, 296, 3, 300), (123, 21, 128, 0, 0), (126, 0, 0, 0, 0), (127, 71, 0, 0, 0), (128, 5, 4, 0, 1), (131, 6, 39, 0, 0), (134, 5, 3, 0, 1), (137, 6, 26, 0, 0), (140, 5, 2, 0, 1), (143, 6, 14, 0, 0), (146, 5, 1, 0, 1), (149, 6, 2, 0, 0), (152, 0, 0, 0, 1), (153, 71, 0, 0, 0)]
theorem fr_295_ok : fw_mk 295 5 12 (some .boolean) fr_295 = true := by decide +kernel
def ct_isSoByFour : List (Nat × fw_X) := [(296, x_isFourSo), (188, x_many)]
theorem ct_isSoByFour_ok (d : Nat) : fw_cok fw_T (d + 1) ct_isSoByFour := by
  intro q hq as W Q h
  simp only [ct_isSoByFour, List.mem_cons, List.not_mem_nil, or_false] at hq
  rcases hq with rfl | rfl
  · exact jc_of (x_isFourSo_ok (d + 0) as W Q h)
  · exact jc_of (x_many_ok (d + 0) as W Q h)
theorem s_isSoByFour_0 {Post : Option fw_V → fw_W → Prop} {d : Nat} {W : fw_W}
    (hw_ : jf fw_T (d + 2) 295 2 [(0, .inr (.inl 352)), (1, .inl (0 : Int))] [] W Post) :
    jf fw_T (d + 2) 295 0 [(0, .inr (.inl 352))] [] W Post := fw_ok (n := 3) (ss := [(2, [0, 1]), (14, [0, 1, 2]), (26, [0, 1, 2, 3]), (39, [0, 1, 2, 3, 4])]) (hv := [71, 95, 119]) fr_295_ok fm_ok (ct_isSoByFour_ok d) hw_

set_option maxRecDepth 10000 in
theorem s_isSoByFour_39 {Post : Option fw_V → fw_W → Prop} {d : Nat} {W : fw_W} {a b c e : Int}
    (hw_ : (True) ∧ ((((fw_g W 366 0) ≤ e → -2147483648 ≤ c + (1 : Int) ∧ c + (1 : Int) ≤ 2147483647 ∧ (jf fw_T (d + 2) 295 26 [(0, .inr (.inl 352)), (1, .inl a), (2, .inl b), (3, .inl (c + (1 : Int)))] [] W Post)) ∧ (e < (fw_g W 366 0) → -2147483648 ≤ (14 : Int) * a ∧ (14 : Int) * a ≤ 2147483647 ∧ (-2147483648 ≤ ((14 : Int) * a) + b ∧ ((14 : Int) * a) + b ≤ 2147483647 ∧ (0 ≤ (((14 : Int) * a) + b) ∧ (((14 : Int) * a) + b) < 196 ∧ (-2147483648 ≤ (fw_g W 367 (((14 : Int) * a) + b)) → (fw_g W 367 (((14 : Int) * a) + b)) ≤ 2147483647 → -2147483648 ≤ (14 : Int) * c ∧ (14 : Int) * c ≤ 2147483647 ∧ (-2147483648 ≤ ((14 : Int) * c) + e ∧ ((14 : Int) * c) + e ≤ 2147483647 ∧ (0 ≤ (((14 : Int) * c) + e) ∧ (((14 : Int) * c) + e) < 196 ∧ (-2147483648 ≤ (fw_g W 367 (((14 : Int) * c) + e)) → (fw_g W 367 (((14 : Int) * c) + e)) ≤ 2147483647 → ∀ v1 : Int, -2147483648 ≤ v1 → v1 ≤ 2147483647 → -2147483648 ≤ (14 : Int) * a ∧ (14 : Int) * a ≤ 2147483647 ∧ (-2147483648 ≤ ((14 : Int) * a) + c ∧ ((14 : Int) * a) + c ≤ 2147483647 ∧ (0 ≤ (((14 : Int) * a) + c) ∧ (((14 : Int) * a) + c) < 196 ∧ (-2147483648 ≤ (fw_g W 367 (((14 : Int) * a) + c)) → (fw_g W 367 (((14 : Int) * a) + c)) ≤ 2147483647 → -2147483648 ≤ (14 : Int) * b ∧ (14 : Int) * b ≤ 2147483647 ∧ (-2147483648 ≤ ((14 : Int) * b) + e ∧ ((14 : Int) * b) + e ≤ 2147483647 ∧ (0 ≤ (((14 : Int) * b) + e) ∧ (((14 : Int) * b) + e) < 196 ∧ (-2147483648 ≤ (fw_g W 367 (((14 : Int) * b) + e)) → (fw_g W 367 (((14 : Int) * b) + e)) ≤ 2147483647 → ∀ v2 : Int, -2147483648 ≤ v2 → v2 ≤ 2147483647 → -2147483648 ≤ (14 : Int) * a ∧ (14 : Int) * a ≤ 2147483647 ∧ (-2147483648 ≤ ((14 : Int) * a) + e ∧ ((14 : Int) * a) + e ≤ 2147483647 ∧ (0 ≤ (((14 : Int) * a) + e) ∧ (((14 : Int) * a) + e) < 196 ∧ (-2147483648 ≤ (fw_g W 367 (((14 : Int) * a) + e)) → (fw_g W 367 (((14 : Int) * a) + e)) ≤ 2147483647 → -2147483648 ≤ (14 : Int) * b ∧ (14 : Int) * b ≤ 2147483647 ∧ (-2147483648 ≤ ((14 : Int) * b) + c ∧ ((14 : Int) * b) + c ≤ 2147483647 ∧ (0 ≤ (((14 : Int) * b) + c) ∧ (((14 : Int) * b) + c) < 196 ∧ (-2147483648 ≤ (fw_g W 367 (((14 : Int) * b) + c)) → (fw_g W 367 (((14 : Int) * b) + c)) ≤ 2147483647 → ∀ v3 : Int, -2147483648 ≤ v3 → v3 ≤ 2147483647 → (True) ∧ (∀ (r4 : Int), ((0 ≤ r4 ∧ r4 ≤ 1 ∧ (True))) → ((¬ r4 = 0 → -2147483648 ≤ e + (1 : Int) ∧ e + (1 : Int) ≤ 2147483647 ∧ (jf fw_T (d + 2) 295 39 [(0, .inr (.inl 352)), (1, .inl a), (2, .inl b), (3, .inl c), (4, .inl (e + (1 : Int)))] [] W Post)) ∧ (r4 = 0 → 0 ≤ (0 : Int) ∧ (0 : Int) ≤ 1 ∧ Post (some (.inl (0 : Int))) W))))))))))))))))))))))))) :
    jf fw_T (d + 2) 295 39 [(0, .inr (.inl 352)), (1, .inl a), (2, .inl b), (3, .inl c), (4, .inl e)] [] W Post := fw_ok (n := 60) (ss := [(2, [0, 1]), (14, [0, 1, 2]), (26, [0, 1, 2, 3]), (39, [0, 1, 2, 3, 4])]) (hv := [71, 95, 119]) fr_295_ok fm_ok (ct_isSoByFour_ok d) hw_

theorem s_isSoByFour_26 {Post : Option fw_V → fw_W → Prop} {d : Nat} {W : fw_W} {a b c : Int}
    (hw_ : (True) ∧ ((((fw_g W 366 0) ≤ c → -2147483648 ≤ b + (1 : Int) ∧ b + (1 : Int) ≤ 2147483647 ∧ (jf fw_T (d + 2) 295 14 [(0, .inr (.inl 352)), (1, .inl a), (2, .inl (b + (1 : Int)))] [] W Post)) ∧ (c < (fw_g W 366 0) → -2147483648 ≤ c + (1 : Int) ∧ c + (1 : Int) ≤ 2147483647 ∧ (jf fw_T (d + 2) 295 39 [(0, .inr (.inl 352)), (1, .inl a), (2, .inl b), (3, .inl c), (4, .inl (c + (1 : Int)))] [] W Post))))) :
    jf fw_T (d + 2) 295 26 [(0, .inr (.inl 352)), (1, .inl a), (2, .inl b), (3, .inl c)] [] W Post := fw_ok (n := 9) (ss := [(2, [0, 1]), (14, [0, 1, 2]), (26, [0, 1, 2, 3]), (39, [0, 1, 2, 3, 4])]) (hv := [71, 95, 119]) fr_295_ok fm_ok (ct_isSoByFour_ok d) hw_

theorem s_isSoByFour_14 {Post : Option fw_V → fw_W → Prop} {d : Nat} {W : fw_W} {a b : Int}
    (hw_ : (True) ∧ ((((fw_g W 366 0) ≤ b → -2147483648 ≤ a + (1 : Int) ∧ a + (1 : Int) ≤ 2147483647 ∧ (jf fw_T (d + 2) 295 2 [(0, .inr (.inl 352)), (1, .inl (a + (1 : Int)))] [] W Post)) ∧ (b < (fw_g W 366 0) → -2147483648 ≤ b + (1 : Int) ∧ b + (1 : Int) ≤ 2147483647 ∧ (jf fw_T (d + 2) 295 26 [(0, .inr (.inl 352)), (1, .inl a), (2, .inl b), (3, .inl (b + (1 : Int)))] [] W Post))))) :
    jf fw_T (d + 2) 295 14 [(0, .inr (.inl 352)), (1, .inl a), (2, .inl b)] [] W Post := fw_ok (n := 9) (ss := [(2, [0, 1]), (14, [0, 1, 2]), (26, [0, 1, 2, 3]), (39, [0, 1, 2, 3, 4])]) (hv := [71, 95, 119]) fr_295_ok fm_ok (ct_isSoByFour_ok d) hw_

theorem s_isSoByFour_2 {Post : Option fw_V → fw_W → Prop} {d : Nat} {W : fw_W} {a : Int}
    (hw_ : (True) ∧ ((((fw_g W 366 0) ≤ a → 0 ≤ (1 : Int) ∧ (1 : Int) ≤ 1 ∧ Post (some (.inl (1 : Int))) W) ∧ (a < (fw_g W 366 0) → -2147483648 ≤ a + (1 : Int) ∧ a + (1 : Int) ≤ 2147483647 ∧ (jf fw_T (d + 2) 295 14 [(0, .inr (.inl 352)), (1, .inl a), (2, .inl (a + (1 : Int)))] [] W Post))))) :
    jf fw_T (d + 2) 295 2 [(0, .inr (.inl 352)), (1, .inl a)] [] W Post := fw_ok (n := 9) (ss := [(2, [0, 1]), (14, [0, 1, 2]), (26, [0, 1, 2, 3]), (39, [0, 1, 2, 3, 4])]) (hv := [71, 95, 119]) fr_295_ok fm_ok (ct_isSoByFour_ok d) hw_

theorem lm_isSoByFour_39 {Post : Option fw_V → fw_W → Prop} {d : Nat} {W : fw_W} (hpre : mt W ∧ 0 ≤ (fw_g W 366 0) ∧ (fw_g W 366 0) ≤ 14) (hP : ∀ (v : Int) , (0 ≤ v ∧ v ≤ 1 ∧ (True)) → Post (some (.inl v)) W) (M2 : Int) (h2 : ∀ (a : Int), 0 ≤ a → ((fw_g W 366 0) - a) < M2 → jf fw_T (d + 2) 295 2 [(0, .inr (.inl 352)), (1, .inl a)] [] W Post) (M14 : Int) (h14 : ∀ (a b : Int), 0 ≤ a ∧ a < b ∧ a < (fw_g W 366 0) → ((fw_g W 366 0) - b) < M14 → ((fw_g W 366 0) - a) ≤ M2 → jf fw_T (d + 2) 295 14 [(0, .inr (.inl 352)), (1, .inl a), (2, .inl b)] [] W Post) (M26 : Int) (h26 : ∀ (a b c : Int), 0 ≤ a ∧ a < b ∧ b < c ∧ b < (fw_g W 366 0) → ((fw_g W 366 0) - c) < M26 → ((fw_g W 366 0) - b) ≤ M14 → ((fw_g W 366 0) - a) ≤ M2 → jf fw_T (d + 2) 295 26 [(0, .inr (.inl 352)), (1, .inl a), (2, .inl b), (3, .inl c)] [] W Post) : ∀ (m : Nat) (a b c e : Int), ((fw_g W 366 0) - e).toNat = m → 0 ≤ a ∧ a < b ∧ b < c ∧ c < e ∧ c < (fw_g W 366 0) → ((fw_g W 366 0) - c) ≤ M26 → ((fw_g W 366 0) - b) ≤ M14 → ((fw_g W 366 0) - a) ≤ M2 → jf fw_T (d + 2) 295 39 [(0, .inr (.inl 352)), (1, .inl a), (2, .inl b), (3, .inl c), (4, .inl e)] [] W Post := by
  intro m
  induction m using Nat.strongRecOn with
  | ind m ih =>
    intro a b c e hm hi e26 e14 e2
    refine jf_rng (fun hrg => ?_)
    have hrg : -2147483648 ≤ a ∧ a ≤ 2147483647 ∧ -2147483648 ≤ b ∧ b ≤ 2147483647 ∧ -2147483648 ≤ c ∧ c ≤ 2147483647 ∧ -2147483648 ≤ e ∧ e ≤ 2147483647 ∧ True := hrg
    refine s_isSoByFour_39 ?_
    repeat' (first
      | (exact True.intro)
      | (exact hpre.1)
      | (refine And.intro ?_ ?_)
      | (refine (h2 _ ?_ (by omega)); (first | omega | trivial))
      | (refine (h14 _ _ ?_ (by omega) (by omega)); (first | omega | trivial))
      | (refine (h26 _ _ _ ?_ (by omega) (by omega) (by omega)); (first | omega | trivial))
      | (refine (ih _ (by omega) _ _ _ _ rfl ?_ (by omega) (by omega) (by omega)); (first | omega | trivial))
      | (refine hP _ ?_; (refine ⟨by omega, by omega, ?_⟩; (first | trivial | omega)))
      | omega
      | (intro _))
theorem lm_isSoByFour_26 {Post : Option fw_V → fw_W → Prop} {d : Nat} {W : fw_W} (hpre : mt W ∧ 0 ≤ (fw_g W 366 0) ∧ (fw_g W 366 0) ≤ 14) (hP : ∀ (v : Int) , (0 ≤ v ∧ v ≤ 1 ∧ (True)) → Post (some (.inl v)) W) (M2 : Int) (h2 : ∀ (a : Int), 0 ≤ a → ((fw_g W 366 0) - a) < M2 → jf fw_T (d + 2) 295 2 [(0, .inr (.inl 352)), (1, .inl a)] [] W Post) (M14 : Int) (h14 : ∀ (a b : Int), 0 ≤ a ∧ a < b ∧ a < (fw_g W 366 0) → ((fw_g W 366 0) - b) < M14 → ((fw_g W 366 0) - a) ≤ M2 → jf fw_T (d + 2) 295 14 [(0, .inr (.inl 352)), (1, .inl a), (2, .inl b)] [] W Post) : ∀ (m : Nat) (a b c : Int), ((fw_g W 366 0) - c).toNat = m → 0 ≤ a ∧ a < b ∧ b < c ∧ b < (fw_g W 366 0) → ((fw_g W 366 0) - b) ≤ M14 → ((fw_g W 366 0) - a) ≤ M2 → jf fw_T (d + 2) 295 26 [(0, .inr (.inl 352)), (1, .inl a), (2, .inl b), (3, .inl c)] [] W Post := by
  intro m
  induction m using Nat.strongRecOn with
  | ind m ih =>
    intro a b c hm hi e14 e2
    refine jf_rng (fun hrg => ?_)
    have hrg : -2147483648 ≤ a ∧ a ≤ 2147483647 ∧ -2147483648 ≤ b ∧ b ≤ 2147483647 ∧ -2147483648 ≤ c ∧ c ≤ 2147483647 ∧ True := hrg
    refine s_isSoByFour_26 ?_
    repeat' (first
      | (exact True.intro)
      | (exact hpre.1)
      | (refine And.intro ?_ ?_)
      | (refine (h2 _ ?_ (by omega)); (first | omega | trivial))
      | (refine (h14 _ _ ?_ (by omega) (by omega)); (first | omega | trivial))
      | (refine (ih _ (by omega) _ _ _ rfl ?_ (by omega) (by omega)); (first | omega | trivial))
      | (refine (lm_isSoByFour_39 hpre hP M2 h2 M14 h14 ((fw_g W 366 0) - c) (fun a0 a1 a2 hi hl e14 e2 => ih _ (by omega) a0 a1 a2 rfl hi e14 e2) _ _ _ _ _ rfl ?_ (by omega) (by omega) (by omega)); (first | omega | trivial))
      | (refine hP _ ?_; (refine ⟨by omega, by omega, ?_⟩; (first | trivial | omega)))
      | omega
      | (intro _))
theorem lm_isSoByFour_14 {Post : Option fw_V → fw_W → Prop} {d : Nat} {W : fw_W} (hpre : mt W ∧ 0 ≤ (fw_g W 366 0) ∧ (fw_g W 366 0) ≤ 14) (hP : ∀ (v : Int) , (0 ≤ v ∧ v ≤ 1 ∧ (True)) → Post (some (.inl v)) W) (M2 : Int) (h2 : ∀ (a : Int), 0 ≤ a → ((fw_g W 366 0) - a) < M2 → jf fw_T (d + 2) 295 2 [(0, .inr (.inl 352)), (1, .inl a)] [] W Post) : ∀ (m : Nat) (a b : Int), ((fw_g W 366 0) - b).toNat = m → 0 ≤ a ∧ a < b ∧ a < (fw_g W 366 0) → ((fw_g W 366 0) - a) ≤ M2 → jf fw_T (d + 2) 295 14 [(0, .inr (.inl 352)), (1, .inl a), (2, .inl b)] [] W Post := by
  intro m
  induction m using Nat.strongRecOn with
  | ind m ih =>
    intro a b hm hi e2
    refine jf_rng (fun hrg => ?_)
    have hrg : -2147483648 ≤ a ∧ a ≤ 2147483647 ∧ -2147483648 ≤ b ∧ b ≤ 2147483647 ∧ True := hrg
    refine s_isSoByFour_14 ?_
    repeat' (first
      | (exact True.intro)
      | (exact hpre.1)
      | (refine And.intro ?_ ?_)
      | (refine (h2 _ ?_ (by omega)); (first | omega | trivial))
      | (refine (ih _ (by omega) _ _ rfl ?_ (by omega)); (first | omega | trivial))
      | (refine (lm_isSoByFour_26 hpre hP M2 h2 ((fw_g W 366 0) - b) (fun a0 a1 hi hl e2 => ih _ (by omega) a0 a1 rfl hi e2) _ _ _ _ rfl ?_ (by omega) (by omega)); (first | omega | trivial))
      | (refine hP _ ?_; (refine ⟨by omega, by omega, ?_⟩; (first | trivial | omega)))
      | omega
      | (intro _))
theorem lm_isSoByFour_2 {Post : Option fw_V → fw_W → Prop} {d : Nat} {W : fw_W} (hpre : mt W ∧ 0 ≤ (fw_g W 366 0) ∧ (fw_g W 366 0) ≤ 14) (hP : ∀ (v : Int) , (0 ≤ v ∧ v ≤ 1 ∧ (True)) → Post (some (.inl v)) W)  : ∀ (m : Nat) (a : Int), ((fw_g W 366 0) - a).toNat = m → 0 ≤ a → jf fw_T (d + 2) 295 2 [(0, .inr (.inl 352)), (1, .inl a)] [] W Post := by
  intro m
  induction m using Nat.strongRecOn with
  | ind m ih =>
    intro a hm hi
    refine jf_rng (fun hrg => ?_)
    have hrg : -2147483648 ≤ a ∧ a ≤ 2147483647 ∧ True := hrg
    refine s_isSoByFour_2 ?_
    repeat' (first
      | (exact True.intro)
      | (exact hpre.1)
      | (refine And.intro ?_ ?_)
      | (refine (ih _ (by omega) _ rfl ?_); (first | omega | trivial))
      | (refine (lm_isSoByFour_14 hpre hP ((fw_g W 366 0) - a) (fun a0 hi hl => ih _ (by omega) a0 rfl hi) _ _ _ rfl ?_ (by omega)); (first | omega | trivial))
      | (refine hP _ ?_; (refine ⟨by omega, by omega, ?_⟩; (first | trivial | omega)))
      | omega
      | (intro _))
def x_isSoByFour : fw_X := fun as W Q => match as with
  | [.inr (.inl s_)] => fw_if (Nat.beq s_ 352) ((mt W ∧ 0 ≤ (fw_g W 366 0) ∧ (fw_g W 366 0) ≤ 14) ∧ (∀ (v : Int), (0 ≤ v ∧ v ≤ 1 ∧ (True)) → Q (some (.inl v)) W))
  | _ => False
theorem x_isSoByFour_ok (d : Nat) (as : List fw_V) (W : fw_W) (Q : Option fw_V → fw_W → Prop) (hx : x_isSoByFour as W Q) : jf fw_T (d + 2) 295 0 (fw_args 0 as) [] W Q := by
  unfold x_isSoByFour at hx
  split at hx
  · rename_i s_
    obtain ⟨e_, hpre, hQ⟩ := fw_if_ok hx
    have e_ := Nat.eq_of_beq_eq_true e_
    subst e_
    have hP := hQ
    refine s_isSoByFour_0 ?_
    repeat' (first
      | (exact True.intro)
      | (exact hpre.1)
      | (refine And.intro ?_ ?_)
      | (refine (lm_isSoByFour_2 hpre hP _ _ rfl ?_); (first | omega | trivial))
      | (refine (lm_isSoByFour_14 hpre hP M2 h2 _ _ _ rfl ?_ (by omega)); (first | omega | trivial))
      | (refine (lm_isSoByFour_26 hpre hP M2 h2 M14 h14 _ _ _ _ rfl ?_ (by omega) (by omega)); (first | omega | trivial))
      | (refine (lm_isSoByFour_39 hpre hP M2 h2 M14 h14 M26 h26 _ _ _ _ _ rfl ?_ (by omega) (by omega) (by omega)); (first | omega | trivial))
      | (refine hP _ ?_; (refine ⟨by omega, by omega, ?_⟩; (first | trivial | omega)))
      | omega
      | (intro _))
  · exact hx.elim

