/-! the reference, method by method -/
def fr_305 : fw_P := [(0, 2, 0, 0, 0), (1, 50, 12, 64, 0), (4, 0, 0, 0, 6), (6, 1, 1, 0, 0), (7, 32, 0, 0, 0), (8, 1, 2, 0, 0), (9, 30, 0, 0, 0), (10, 1, 3, 0, 0), (11, 53, 0, 0, 0), (12, 2, 0, 0, 0), (13, 50, 12, 64, 0), (16, 0, 0, 0, 6), (18, 1, 2, 0, 0), (19, 32, 0, 0, 0), (20, 1, 1, 0, 0), (21, 30, 0, 0, 0), (22, 1, 3, 0, 0), (23, 53, 0, 0, 0), (24, 72, 0, 0, 0)]
theorem fr_305_ok : fw_mk 305 4 12 none fr_305 = true := by decide +kernel
theorem s_set_0 {Post : Option fw_V → fw_W → Prop} {d : Nat} {W : fw_W} {a b so : Int}
    (hw_ : -2147483648 ≤ (6 : Int) * a ∧ (6 : Int) * a ≤ 2147483647 ∧ (-2147483648 ≤ ((6 : Int) * a) + b ∧ ((6 : Int) * a) + b ≤ 2147483647 ∧ (0 ≤ (((6 : Int) * a) + b) ∧ (((6 : Int) * a) + b) < 36 ∧ -2147483648 ≤ so ∧ so ≤ 2147483647 ∧ (-2147483648 ≤ (6 : Int) * b ∧ (6 : Int) * b ≤ 2147483647 ∧ (-2147483648 ≤ ((6 : Int) * b) + a ∧ ((6 : Int) * b) + a ≤ 2147483647 ∧ (0 ≤ (((6 : Int) * b) + a) ∧ (((6 : Int) * b) + a) < 36 ∧ -2147483648 ≤ so ∧ so ≤ 2147483647 ∧ (Post none (fw_up (fw_up W 396 (((6 : Int) * a) + b) so) 396 (((6 : Int) * b) + a) so)))))))) :
    jf fw_T (d + 1) 305 0 [(0, .inr (.inl 352)), (1, .inl a), (2, .inl b), (3, .inl so)] [] W Post := fw_ok (n := 20) (ss := []) (hv := []) fr_305_ok fm_ok (fw_c0 _ _) hw_

def x_set : fw_X := fun as W Q => match as with
  | [.inr (.inl s_), .inl a, .inl b, .inl so] => fw_if (Nat.beq s_ 352) ((0 ≤ a ∧ a < 6 ∧ 0 ≤ b ∧ b < 6) ∧ (∀ (f : fw_W), (∀ i, 0 ≤ i → (fw_g f 396 i) = (if 6 * b + a = i then so else if 6 * a + b = i then so else (fw_g W 396 i))) → Q none (fw_put [396] 352 [] W f)))
  | _ => False
theorem x_set_ok (d : Nat) (as : List fw_V) (W : fw_W) (Q : Option fw_V → fw_W → Prop) (hx : x_set as W Q) : jf fw_T (d + 1) 305 0 (fw_args 0 as) [] W Q := by
  unfold x_set at hx
  split at hx
  · rename_i s_ a b so
    obtain ⟨e_, hpre, hQ⟩ := fw_if_ok hx
    have e_ := Nat.eq_of_beq_eq_true e_
    subst e_
    have hP : ∀ (W2 : fw_W), fw_sm [396] 352 [] W W2 → _ → Q none W2 := fun W2 hs hr => fw_sm_use (Q := fun Z => Q none Z) hs (hQ W2 hr)
    refine jf_rng (fun hrg => ?_)
    have hrg : -2147483648 ≤ a ∧ a ≤ 2147483647 ∧ -2147483648 ≤ b ∧ b ≤ 2147483647 ∧ -2147483648 ≤ so ∧ so ≤ 2147483647 ∧ True := hrg
    refine s_set_0 ?_
    repeat' (first
      | (exact True.intro)
      | (exact hpre.1)
      | (refine And.intro ?_ ?_)
      | (refine hP _ (by repeat (first | exact fw_sm_refl | exact fw_sm_put0 | refine fw_sm_arr ?_ rfl | refine fw_sm_up ?_ rfl | refine fw_sm_put ?_ rfl | refine fw_sm_cp ?_ rfl)) ?_; (
        intro i i1
        rw [fg_if (by omega) (by omega) (by omega) (by omega), fg_if (by omega) (by omega) (by omega) (by omega)]))
      | omega
      | (intro _))
  · exact hx.elim

def fr_296 : fw_P := [(0, 1, 0, 0, 0), (1, 1, 1, 0, 0), (2, 11, 10, 0, 0), (5, 1, 2, 0, 0), (6, 1, 0, 0, 0), (7, 15, 30, 0, 0), (10, 1, 0, 0, 0), (11, 1, 2, 0, 0), (12, 11, 20, 0, 0), (15, 1, 1, 0, 0), (16, 1, 0, 0, 0), (17, 15, 30, 0, 0), (20, 1, 1, 0, 0), (21, 1, 2, 0, 0), (22, 11, 34, 0, 0), (25, 1, 0, 0, 0), (26, 1, 1, 0, 0), (27, 14, 34, 0, 0), (30, 0, 0, 0, 1), (31, 6, 35, 0, 0), (34, 0, 0, 0, 0), (35, 71, 0, 0, 0)]
theorem fr_296_ok : fw_mk 296 3 12 (some .boolean) fr_296 = true := by decide +kernel
theorem s_isFourSo_0 {Post : Option fw_V → fw_W → Prop} {d : Nat} {W : fw_W} {x y z : Int}
    (hw_ : ((¬ x = y → ((¬ x = z → ((¬ y = z → 0 ≤ (0 : Int) ∧ (0 : Int) ≤ 1 ∧ Post (some (.inl (0 : Int))) W) ∧ (y = z → ((y < x → 0 ≤ (0 : Int) ∧ (0 : Int) ≤ 1 ∧ Post (some (.inl (0 : Int))) W) ∧ (x ≤ y → 0 ≤ (1 : Int) ∧ (1 : Int) ≤ 1 ∧ Post (some (.inl (1 : Int))) W))))) ∧ (x = z → ((y ≤ x → 0 ≤ (1 : Int) ∧ (1 : Int) ≤ 1 ∧ Post (some (.inl (1 : Int))) W) ∧ (x < y → ((¬ y = z → 0 ≤ (0 : Int) ∧ (0 : Int) ≤ 1 ∧ Post (some (.inl (0 : Int))) W) ∧ (y = z → ((y < x → 0 ≤ (0 : Int) ∧ (0 : Int) ≤ 1 ∧ Post (some (.inl (0 : Int))) W) ∧ (x ≤ y → 0 ≤ (1 : Int) ∧ (1 : Int) ≤ 1 ∧ Post (some (.inl (1 : Int))) W))))))))) ∧ (x = y → ((z ≤ x → 0 ≤ (1 : Int) ∧ (1 : Int) ≤ 1 ∧ Post (some (.inl (1 : Int))) W) ∧ (x < z → ((¬ x = z → ((¬ y = z → 0 ≤ (0 : Int) ∧ (0 : Int) ≤ 1 ∧ Post (some (.inl (0 : Int))) W) ∧ (y = z → ((y < x → 0 ≤ (0 : Int) ∧ (0 : Int) ≤ 1 ∧ Post (some (.inl (0 : Int))) W) ∧ (x ≤ y → 0 ≤ (1 : Int) ∧ (1 : Int) ≤ 1 ∧ Post (some (.inl (1 : Int))) W))))) ∧ (x = z → ((y ≤ x → 0 ≤ (1 : Int) ∧ (1 : Int) ≤ 1 ∧ Post (some (.inl (1 : Int))) W) ∧ (x < y → ((¬ y = z → 0 ≤ (0 : Int) ∧ (0 : Int) ≤ 1 ∧ Post (some (.inl (0 : Int))) W) ∧ (y = z → ((y < x → 0 ≤ (0 : Int) ∧ (0 : Int) ≤ 1 ∧ Post (some (.inl (0 : Int))) W) ∧ (x ≤ y → 0 ≤ (1 : Int) ∧ (1 : Int) ≤ 1 ∧ Post (some (.inl (1 : Int))) W))))))))))))) :
    jf fw_T (d + 1) 296 0 [(0, .inl x), (1, .inl y), (2, .inl z)] [] W Post := fw_ok (n := 22) (ss := []) (hv := []) fr_296_ok fm_ok (fw_c0 _ _) hw_

def x_isFourSo : fw_X := fun as W Q => match as with
  | [.inl x, .inl y, .inl z] => (True) ∧ (∀ (v : Int), (0 ≤ v ∧ v ≤ 1 ∧ (True)) → Q (some (.inl v)) W)
  | _ => False
theorem x_isFourSo_ok (d : Nat) (as : List fw_V) (W : fw_W) (Q : Option fw_V → fw_W → Prop) (hx : x_isFourSo as W Q) : jf fw_T (d + 1) 296 0 (fw_args 0 as) [] W Q := by
  unfold x_isFourSo at hx
  split at hx
  · rename_i x y z
    obtain ⟨hpre, hQ⟩ := hx
    have hP := hQ
    refine s_isFourSo_0 ?_
    repeat' (first
      | (exact True.intro)
      | (exact hpre.1)
      | (refine And.intro ?_ ?_)
      | (refine hP _ ?_; (refine ⟨by omega, by omega, ?_⟩; (first | trivial | omega)))
      | omega
      | (intro _))
  · exact hx.elim

def fr_308 : fw_P := [(0, 2, 0, 0, 0), (1, 50, 12, 64, 0), (4, 0, 0, 0, 6), (6, 1, 1, 0, 0), (7, 32, 0, 0, 0), (8, 1, 2, 0, 0), (9, 30, 0, 0, 0), (10, 52, 0, 0, 0), (11, 3, 4, 0, 0), (13, 2, 0, 0, 0), (14, 50, 12, 64, 0), (17, 0, 0, 0, 6), (19, 1, 2, 0, 0), (20, 32, 0, 0, 0), (21, 1, 3, 0, 0), (22, 30, 0, 0, 0), (23, 52, 0, 0, 0), (24, 3, 5, 0, 0), (26, 2, 0, 0, 0), (27, 50, 12, 64, 0), (30, 0, 0, 0, 6), (32, 1, 1, 0, 0), (33, 32, 0, 0, 0), (34, 1, 3, 0, 0), (35, 30, 0, 0, 0), (36, 52, 0, 0, 0), (37, 3, 6, 0, 0), (39, 1, 4, 0, 0), (41, 1, 5, 0, 0), (43, 1, 6, 0, 0), (45, 30, 0, 0, 0), (46, 14, 73, 0, 0), (49, 1, 5, 0, 0), (51, 1, 4, 0, 0), (53, 1, 6, 0, 0), (55, 30, 0, 0, 0), (56, 14, 73, 0, 0), (59, 1, 6, 0, 0), (61, 1, 4, 0, 0), (63, 1, 5, 0, 0), (65, 30, 0, 0, 0), (66, 14, 73, 0, 0), (69, 0, 0, 0, 1), (70, 6, 74, 0, 0), (73, 0, 0, 0, 0), (74, 71, 0, 0, 0)]
theorem fr_308_ok : fw_mk 308 7 12 (some .boolean) fr_308 = true := by decide +kernel
theorem s_isThreeSo_0 {Post : Option fw_V → fw_W → Prop} {d : Nat} {W : fw_W} {a b c : Int}
    (hw_ : -2147483648 ≤ (6 : Int) * a ∧ (6 : Int) * a ≤ 2147483647 ∧ (-2147483648 ≤ ((6 : Int) * a) + b ∧ ((6 : Int) * a) + b ≤ 2147483647 ∧ (0 ≤ (((6 : Int) * a) + b) ∧ (((6 : Int) * a) + b) < 36 ∧ (-2147483648 ≤ (fw_g W 396 (((6 : Int) * a) + b)) → (fw_g W 396 (((6 : Int) * a) + b)) ≤ 2147483647 → -2147483648 ≤ (6 : Int) * b ∧ (6 : Int) * b ≤ 2147483647 ∧ (-2147483648 ≤ ((6 : Int) * b) + c ∧ ((6 : Int) * b) + c ≤ 2147483647 ∧ (0 ≤ (((6 : Int) * b) + c) ∧ (((6 : Int) * b) + c) < 36 ∧ (-2147483648 ≤ (fw_g W 396 (((6 : Int) * b) + c)) → (fw_g W 396 (((6 : Int) * b) + c)) ≤ 2147483647 → -2147483648 ≤ (6 : Int) * a ∧ (6 : Int) * a ≤ 2147483647 ∧ (-2147483648 ≤ ((6 : Int) * a) + c ∧ ((6 : Int) * a) + c ≤ 2147483647 ∧ (0 ≤ (((6 : Int) * a) + c) ∧ (((6 : Int) * a) + c) < 36 ∧ (-2147483648 ≤ (fw_g W 396 (((6 : Int) * a) + c)) → (fw_g W 396 (((6 : Int) * a) + c)) ≤ 2147483647 → ∀ v1 : Int, -2147483648 ≤ v1 → v1 ≤ 2147483647 → ((v1 < (fw_g W 396 (((6 : Int) * a) + b)) → 0 ≤ (0 : Int) ∧ (0 : Int) ≤ 1 ∧ Post (some (.inl (0 : Int))) W) ∧ ((fw_g W 396 (((6 : Int) * a) + b)) ≤ v1 → ∀ v2 : Int, -2147483648 ≤ v2 → v2 ≤ 2147483647 → ((v2 < (fw_g W 396 (((6 : Int) * b) + c)) → 0 ≤ (0 : Int) ∧ (0 : Int) ≤ 1 ∧ Post (some (.inl (0 : Int))) W) ∧ ((fw_g W 396 (((6 : Int) * b) + c)) ≤ v2 → ∀ v3 : Int, -2147483648 ≤ v3 → v3 ≤ 2147483647 → ((v3 < (fw_g W 396 (((6 : Int) * a) + c)) → 0 ≤ (0 : Int) ∧ (0 : Int) ≤ 1 ∧ Post (some (.inl (0 : Int))) W) ∧ ((fw_g W 396 (((6 : Int) * a) + c)) ≤ v3 → 0 ≤ (1 : Int) ∧ (1 : Int) ≤ 1 ∧ Post (some (.inl (1 : Int))) W)))))))))))))))) :
    jf fw_T (d + 1) 308 0 [(0, .inr (.inl 352)), (1, .inl a), (2, .inl b), (3, .inl c)] [] W Post := fw_ok (n := 46) (ss := []) (hv := [45, 55, 65]) fr_308_ok fm_ok (fw_c0 _ _) hw_

def x_isThreeSo : fw_X := fun as W Q => match as with
  | [.inr (.inl s_), .inl a, .inl b, .inl c] => fw_if (Nat.beq s_ 352) ((0 ≤ a ∧ a < 6 ∧ 0 ≤ b ∧ b < 6 ∧ 0 ≤ c ∧ c < 6) ∧ (∀ (v : Int), (0 ≤ v ∧ v ≤ 1 ∧ (True)) → Q (some (.inl v)) W))
  | _ => False
theorem x_isThreeSo_ok (d : Nat) (as : List fw_V) (W : fw_W) (Q : Option fw_V → fw_W → Prop) (hx : x_isThreeSo as W Q) : jf fw_T (d + 1) 308 0 (fw_args 0 as) [] W Q := by
  unfold x_isThreeSo at hx
  split at hx
  · rename_i s_ a b c
    obtain ⟨e_, hpre, hQ⟩ := fw_if_ok hx
    have e_ := Nat.eq_of_beq_eq_true e_
    subst e_
    have hP := hQ
    refine s_isThreeSo_0 ?_
    repeat' (first
      | (exact True.intro)
      | (exact hpre.1)
      | (refine And.intro ?_ ?_)
      | (refine hP _ ?_; (refine ⟨by omega, by omega, ?_⟩; (first | trivial | omega)))
      | omega
      | (intro _))
  · exact hx.elim

def fr_309 : fw_P := [(0, 2, 0, 0, 0), (1, 50, 12, 64, 0), (4, 0, 0, 0, 6), (6, 1, 1, 0, 0), (7, 32, 0, 0, 0), (8, 1, 2, 0, 0), (9, 30, 0, 0, 0), (10, 52, 0, 0, 0), (11, 2, 0, 0, 0), (12, 50, 12, 64, 0), (15, 0, 0, 0, 6), (17, 1, 3, 0, 0), (18, 32, 0, 0, 0), (19, 1, 4, 0, 0), (21, 30, 0, 0, 0), (22, 52, 0, 0, 0), (23, 30, 0, 0, 0), (24, 2, 0, 0, 0), (25, 50, 12, 64, 0), (28, 0, 0, 0, 6), (30, 1, 1, 0, 0), (31, 32, 0, 0, 0), (32, 1, 3, 0, 0), (33, 30, 0, 0, 0), (34, 52, 0, 0, 0), (35, 2, 0, 0, 0), (36, 50, 12, 64, 0), (39, 0, 0, 0, 6), (41, 1, 2, 0, 0), (42, 32, 0, 0, 0), (43, 1, 4, 0, 0), (45, 30, 0, 0, 0), (46, 52, 0, 0, 0), (47, 30, 0, 0, 0), (48, 2, 0, 0, 0), (49, 50, 12, 64, 0), (52, 0, 0, 0, 6), (54, 1, 1, 0, 0), (55, 32, 0, 0, 0), (56, 1, 4, 0, 0), (58, 30, 0, 0, 0), (59, 52, 0, 0, 0), (60, 2, 0, 0, 0), (61, 50, 12, 64, 0), (64, 0, 0, 0, 6), (66, 1, 2, 0, 0), (67, 32, 0, 0, 0), (68, 1, 3, 0, 0), (69, 30, 0, 0, 0), (70, 52, 0, 0, 0), (71, 30, 0, 0, 0), (72, 65, 296, 3, 300), (75, 71, 0, 0, 0)]
theorem fr_309_ok : fw_mk 309 5 12 (some .boolean) fr_309 = true := by decide +kernel
def ct_areDoorsSo : List (Nat × fw_X) := [(296, x_isFourSo)]
theorem ct_areDoorsSo_ok (d : Nat) : fw_cok fw_T (d + 1) ct_areDoorsSo := by
  intro q hq as W Q h
  simp only [ct_areDoorsSo, List.mem_cons, List.not_mem_nil, or_false] at hq
  rcases hq with rfl
  · exact jc_of (x_isFourSo_ok (d + 0) as W Q h)
theorem s_areDoorsSo_0 {Post : Option fw_V → fw_W → Prop} {d : Nat} {W : fw_W} {a b c e : Int}
    (hw_ : -2147483648 ≤ (6 : Int) * a ∧ (6 : Int) * a ≤ 2147483647 ∧ (-2147483648 ≤ ((6 : Int) * a) + b ∧ ((6 : Int) * a) + b ≤ 2147483647 ∧ (0 ≤ (((6 : Int) * a) + b) ∧ (((6 : Int) * a) + b) < 36 ∧ (-2147483648 ≤ (fw_g W 396 (((6 : Int) * a) + b)) → (fw_g W 396 (((6 : Int) * a) + b)) ≤ 2147483647 → -2147483648 ≤ (6 : Int) * c ∧ (6 : Int) * c ≤ 2147483647 ∧ (-2147483648 ≤ ((6 : Int) * c) + e ∧ ((6 : Int) * c) + e ≤ 2147483647 ∧ (0 ≤ (((6 : Int) * c) + e) ∧ (((6 : Int) * c) + e) < 36 ∧ (-2147483648 ≤ (fw_g W 396 (((6 : Int) * c) + e)) → (fw_g W 396 (((6 : Int) * c) + e)) ≤ 2147483647 → ∀ v1 : Int, -2147483648 ≤ v1 → v1 ≤ 2147483647 → -2147483648 ≤ (6 : Int) * a ∧ (6 : Int) * a ≤ 2147483647 ∧ (-2147483648 ≤ ((6 : Int) * a) + c ∧ ((6 : Int) * a) + c ≤ 2147483647 ∧ (0 ≤ (((6 : Int) * a) + c) ∧ (((6 : Int) * a) + c) < 36 ∧ (-2147483648 ≤ (fw_g W 396 (((6 : Int) * a) + c)) → (fw_g W 396 (((6 : Int) * a) + c)) ≤ 2147483647 → -2147483648 ≤ (6 : Int) * b ∧ (6 : Int) * b ≤ 2147483647 ∧ (-2147483648 ≤ ((6 : Int) * b) + e ∧ ((6 : Int) * b) + e ≤ 2147483647 ∧ (0 ≤ (((6 : Int) * b) + e) ∧ (((6 : Int) * b) + e) < 36 ∧ (-2147483648 ≤ (fw_g W 396 (((6 : Int) * b) + e)) → (fw_g W 396 (((6 : Int) * b) + e)) ≤ 2147483647 → ∀ v2 : Int, -2147483648 ≤ v2 → v2 ≤ 2147483647 → -2147483648 ≤ (6 : Int) * a ∧ (6 : Int) * a ≤ 2147483647 ∧ (-2147483648 ≤ ((6 : Int) * a) + e ∧ ((6 : Int) * a) + e ≤ 2147483647 ∧ (0 ≤ (((6 : Int) * a) + e) ∧ (((6 : Int) * a) + e) < 36 ∧ (-2147483648 ≤ (fw_g W 396 (((6 : Int) * a) + e)) → (fw_g W 396 (((6 : Int) * a) + e)) ≤ 2147483647 → -2147483648 ≤ (6 : Int) * b ∧ (6 : Int) * b ≤ 2147483647 ∧ (-2147483648 ≤ ((6 : Int) * b) + c ∧ ((6 : Int) * b) + c ≤ 2147483647 ∧ (0 ≤ (((6 : Int) * b) + c) ∧ (((6 : Int) * b) + c) < 36 ∧ (-2147483648 ≤ (fw_g W 396 (((6 : Int) * b) + c)) → (fw_g W 396 (((6 : Int) * b) + c)) ≤ 2147483647 → ∀ v3 : Int, -2147483648 ≤ v3 → v3 ≤ 2147483647 → (True) ∧ (∀ (r4 : Int), ((0 ≤ r4 ∧ r4 ≤ 1 ∧ (True))) → 0 ≤ r4 ∧ r4 ≤ 1 ∧ Post (some (.inl r4)) W)))))))))))))))))))) :
    jf fw_T (d + 2) 309 0 [(0, .inr (.inl 352)), (1, .inl a), (2, .inl b), (3, .inl c), (4, .inl e)] [] W Post := fw_ok (n := 54) (ss := []) (hv := [23, 47, 71]) fr_309_ok fm_ok (ct_areDoorsSo_ok d) hw_

def x_areDoorsSo : fw_X := fun as W Q => match as with
  | [.inr (.inl s_), .inl a, .inl b, .inl c, .inl e] => fw_if (Nat.beq s_ 352) ((0 ≤ a ∧ a < 6 ∧ 0 ≤ b ∧ b < 6 ∧ 0 ≤ c ∧ c < 6 ∧ 0 ≤ e ∧ e < 6) ∧ (∀ (v : Int), (0 ≤ v ∧ v ≤ 1 ∧ (True)) → Q (some (.inl v)) W))
  | _ => False
theorem x_areDoorsSo_ok (d : Nat) (as : List fw_V) (W : fw_W) (Q : Option fw_V → fw_W → Prop) (hx : x_areDoorsSo as W Q) : jf fw_T (d + 2) 309 0 (fw_args 0 as) [] W Q := by
  unfold x_areDoorsSo at hx
  split at hx
  · rename_i s_ a b c e
    obtain ⟨e_, hpre, hQ⟩ := fw_if_ok hx
    have e_ := Nat.eq_of_beq_eq_true e_
    subst e_
    have hP := hQ
    refine s_areDoorsSo_0 ?_
    repeat' (first
      | (exact True.intro)
      | (exact hpre.1)
      | (refine And.intro ?_ ?_)
      | (refine hP _ ?_; (refine ⟨by omega, by omega, ?_⟩; (first | trivial | omega)))
      | omega
      | (intro _))
  · exact hx.elim

/-- sets of six doors: how many, the next one -/
def nd_f (s : Nat) : Nat → Nat → Nat
  | 0, d => d
  | n + 1, d => if s.testBit d = true then d else nd_f s n (d + 1)
def pc_f (s : Nat) : Nat := (List.range 6).countP (fun i => s.testBit i)
def nd_ok (s : Nat) : Bool := (List.range 8).all (fun d => if nd_f s 8 d < 6 then s.testBit (nd_f s 8 d) else true)
theorem bit6 {s d : Int} (h0 : 0 ≤ s) (h1 : s < 64) (d0 : 0 ≤ d) (d1 : d < 32) : fw_and (fw_shr s d) 1 = 0 ↔ s.toNat.testBit d.toNat = false := by
  rw [fw_bit h0 (by omega) d0 d1]
  cases s.toNat.testBit d.toNat <;> simp
def fr_307 : fw_P := [(0, 1, 1, 0, 0), (1, 3, 2, 0, 0), (2, 1, 0, 0, 0), (3, 1, 2, 0, 0), (4, 40, 0, 0, 0), (5, 0, 0, 0, 1), (6, 36, 0, 0, 0), (7, 21, 16, 0, 0), (10, 5, 2, 0, 1), (13, 6, 2, 0, 0), (16, 1, 2, 0, 0), (17, 70, 0, 0, 0)]
theorem fr_307_ok : fw_mk 307 3 12 (some .int) fr_307 = true := by decide +kernel
theorem s_nextDoor_0 {Post : Option fw_V → fw_W → Prop} {d : Nat} {W : fw_W} {s frm : Int}
    (hw_ : jf fw_T (d + 1) 307 2 [(0, .inl s), (2, .inl frm)] [] W Post) :
    jf fw_T (d + 1) 307 0 [(0, .inl s), (1, .inl frm)] [] W Post := fw_ok (n := 3) (ss := [(2, [0, 2])]) (hv := []) fr_307_ok fm_ok (fw_c0 _ _) hw_

theorem s_nextDoor_2 {Post : Option fw_V → fw_W → Prop} {d : Nat} {W : fw_W} {s x : Int}
    (hw_ : (-2147483648 ≤ (fw_shr s x) → (fw_shr s x) ≤ 2147483647 → (-2147483648 ≤ (fw_and (fw_shr s x) (1 : Int)) → (fw_and (fw_shr s x) (1 : Int)) ≤ 2147483647 → ((¬ (fw_and (fw_shr s x) (1 : Int)) = 0 → (-2147483648 ≤ x → x ≤ 2147483647 → Post (some (.inl x)) W)) ∧ ((fw_and (fw_shr s x) (1 : Int)) = 0 → -2147483648 ≤ x + (1 : Int) ∧ x + (1 : Int) ≤ 2147483647 ∧ (jf fw_T (d + 1) 307 2 [(0, .inl s), (2, .inl (x + (1 : Int)))] [] W Post)))))) :
    jf fw_T (d + 1) 307 2 [(0, .inl s), (2, .inl x)] [] W Post := fw_ok (n := 9) (ss := [(2, [0, 2])]) (hv := []) fr_307_ok fm_ok (fw_c0 _ _) hw_

theorem lm_nextDoor_2 {Post : Option fw_V → fw_W → Prop} {d : Nat} {W : fw_W} {s frm : Int} (hpre : 0 ≤ s ∧ s < 64 ∧ 0 ≤ frm ∧ ∃ e : Int, frm ≤ e ∧ e < 6 ∧ s.toNat.testBit e.toNat = true) (hP : ∀ (v : Int) , (-2147483648 ≤ v ∧ v ≤ 2147483647 ∧ (frm ≤ v ∧ v < 6 ∧ s.toNat.testBit v.toNat = true ∧ ∀ e : Int, frm ≤ e → e < v → s.toNat.testBit e.toNat = false)) → Post (some (.inl v)) W)  : ∀ (m : Nat) (x : Int), (6 - x).toNat = m → (frm ≤ x ∧ (∃ e : Int, x ≤ e ∧ e < 6 ∧ s.toNat.testBit e.toNat = true) ∧ ∀ e : Int, frm ≤ e → e < x → s.toNat.testBit e.toNat = false) → jf fw_T (d + 1) 307 2 [(0, .inl s), (2, .inl x)] [] W Post := by
  intro m
  induction m using Nat.strongRecOn with
  | ind m ih =>
    intro x hm hi
    refine jf_rng (fun hrg => ?_)
    have hrg : -2147483648 ≤ s ∧ s ≤ 2147483647 ∧ -2147483648 ≤ x ∧ x ≤ 2147483647 ∧ True := hrg
    refine s_nextDoor_2 ?_
    have hp4 : 0 ≤ s ∧ s < 64 ∧ 0 ≤ frm := ⟨hpre.1, hpre.2.1, hpre.2.2.1⟩
    have hx5 : frm ≤ x ∧ x < 6 := by
      obtain ⟨i1, ⟨e, e1, e2, e3⟩, i3⟩ := hi
      exact ⟨i1, by omega⟩
    have b6 := bit6 (s := s) (d := x) (by omega) (by omega) (by omega) (by omega)
    repeat' (first
      | (exact True.intro)
      | (exact hpre.1)
      | (refine And.intro ?_ ?_)
      | (refine (ih _ (by omega) _ rfl ?_); (
        obtain ⟨i1, ⟨e, e1, e2, e3⟩, i3⟩ := hi
        have hf := b6.mp (by omega)
        refine ⟨by omega, ⟨e, ?_, e2, e3⟩, fun q h1 h2 => ?_⟩
        · by_cases h : e = x
          · rw [h, hf] at e3; cases e3
          · omega
        · by_cases h : q = x
          · rw [h]; exact hf
          · exact i3 q h1 (by omega)))
      | (refine hP _ ?_; (refine ⟨by omega, by omega, ?_⟩; (
        obtain ⟨i1, ⟨e, e1, e2, e3⟩, i3⟩ := hi
        have b6 := bit6 (s := s) (d := x) (by omega) (by omega) (by omega) (by omega)
        refine ⟨by omega, by omega, ?_, fun e h1 h2 => i3 e h1 (by omega)⟩
        cases hb : s.toNat.testBit x.toNat with
        | true => rfl
        | false => exact absurd (b6.mpr hb) (by omega))))
      | omega
      | (intro _))
def x_nextDoor : fw_X := fun as W Q => match as with
  | [.inl s, .inl frm] => (0 ≤ s ∧ s < 64 ∧ 0 ≤ frm ∧ ∃ e : Int, frm ≤ e ∧ e < 6 ∧ s.toNat.testBit e.toNat = true) ∧ (∀ (v : Int), (-2147483648 ≤ v ∧ v ≤ 2147483647 ∧ (frm ≤ v ∧ v < 6 ∧ s.toNat.testBit v.toNat = true ∧ ∀ e : Int, frm ≤ e → e < v → s.toNat.testBit e.toNat = false)) → Q (some (.inl v)) W)
  | _ => False
theorem x_nextDoor_ok (d : Nat) (as : List fw_V) (W : fw_W) (Q : Option fw_V → fw_W → Prop) (hx : x_nextDoor as W Q) : jf fw_T (d + 1) 307 0 (fw_args 0 as) [] W Q := by
  unfold x_nextDoor at hx
  split at hx
  · rename_i s frm
    obtain ⟨hpre, hQ⟩ := hx
    have hP := hQ
    refine s_nextDoor_0 ?_
    have hp4 : 0 ≤ s ∧ s < 64 ∧ 0 ≤ frm := ⟨hpre.1, hpre.2.1, hpre.2.2.1⟩
    repeat' (first
      | (exact True.intro)
      | (exact hpre.1)
      | (refine And.intro ?_ ?_)
      | (refine (lm_nextDoor_2 (s := s) (frm := frm) hpre hP _ _ rfl ?_); (exact ⟨by omega, hpre.2.2.2, fun e h1 h2 => by omega⟩))
      | (refine hP _ ?_; (refine ⟨by omega, by omega, ?_⟩; (
        obtain ⟨i1, ⟨e, e1, e2, e3⟩, i3⟩ := hi
        have b6 := bit6 (s := s) (d := x) (by omega) (by omega) (by omega) (by omega)
        refine ⟨by omega, by omega, ?_, fun e h1 h2 => i3 e h1 (by omega)⟩
        cases hb : s.toNat.testBit x.toNat with
        | true => rfl
        | false => exact absurd (b6.mpr hb) (by omega))))
      | omega
      | (intro _))
  · exact hx.elim

