/-! the reference, method by method -/
theorem s_isFourSo3_0 {Post : Option fw_V → fw_W → Prop} {d : Nat} {W : fw_W} {x y z : Int}
    (hw_ : ((¬ x = y → ((¬ x = z → ((¬ y = z → 0 ≤ (0 : Int) ∧ (0 : Int) ≤ 1 ∧ Post (some (.inl (0 : Int))) W) ∧ (y = z → ((y < x → 0 ≤ (0 : Int) ∧ (0 : Int) ≤ 1 ∧ Post (some (.inl (0 : Int))) W) ∧ (x ≤ y → 0 ≤ (1 : Int) ∧ (1 : Int) ≤ 1 ∧ Post (some (.inl (1 : Int))) W))))) ∧ (x = z → ((y ≤ x → 0 ≤ (1 : Int) ∧ (1 : Int) ≤ 1 ∧ Post (some (.inl (1 : Int))) W) ∧ (x < y → ((¬ y = z → 0 ≤ (0 : Int) ∧ (0 : Int) ≤ 1 ∧ Post (some (.inl (0 : Int))) W) ∧ (y = z → ((y < x → 0 ≤ (0 : Int) ∧ (0 : Int) ≤ 1 ∧ Post (some (.inl (0 : Int))) W) ∧ (x ≤ y → 0 ≤ (1 : Int) ∧ (1 : Int) ≤ 1 ∧ Post (some (.inl (1 : Int))) W))))))))) ∧ (x = y → ((z ≤ x → 0 ≤ (1 : Int) ∧ (1 : Int) ≤ 1 ∧ Post (some (.inl (1 : Int))) W) ∧ (x < z → ((¬ x = z → ((¬ y = z → 0 ≤ (0 : Int) ∧ (0 : Int) ≤ 1 ∧ Post (some (.inl (0 : Int))) W) ∧ (y = z → ((y < x → 0 ≤ (0 : Int) ∧ (0 : Int) ≤ 1 ∧ Post (some (.inl (0 : Int))) W) ∧ (x ≤ y → 0 ≤ (1 : Int) ∧ (1 : Int) ≤ 1 ∧ Post (some (.inl (1 : Int))) W))))) ∧ (x = z → ((y ≤ x → 0 ≤ (1 : Int) ∧ (1 : Int) ≤ 1 ∧ Post (some (.inl (1 : Int))) W) ∧ (x < y → ((¬ y = z → 0 ≤ (0 : Int) ∧ (0 : Int) ≤ 1 ∧ Post (some (.inl (0 : Int))) W) ∧ (y = z → ((y < x → 0 ≤ (0 : Int) ∧ (0 : Int) ≤ 1 ∧ Post (some (.inl (0 : Int))) W) ∧ (x ≤ y → 0 ≤ (1 : Int) ∧ (1 : Int) ≤ 1 ∧ Post (some (.inl (1 : Int))) W))))))))))))) :
    jf fw_T (d + 1) 296 0 [(0, .inl x), (1, .inl y), (2, .inl z)] [] W Post := fw_ok (n := 22) (ss := []) (hv := []) fr_296_ok fm_ok (fw_c0 _ _) hw_

def x_isFourSo3 : fw_X := fun as W Q => match as with
  | [.inl x, .inl y, .inl z] => (True) ∧ (∀ (v : Int), (0 ≤ v ∧ v ≤ 1 ∧ ((v = 1 ∧ ((x = y ∧ z ≤ x) ∨ (x = z ∧ y ≤ x) ∨ (y = z ∧ x ≤ y))) ∨ (v = 0 ∧ ¬ ((x = y ∧ z ≤ x) ∨ (x = z ∧ y ≤ x) ∨ (y = z ∧ x ≤ y))))) → Q (some (.inl v)) W)
  | _ => False
theorem x_isFourSo3_ok (d : Nat) (as : List fw_V) (W : fw_W) (Q : Option fw_V → fw_W → Prop) (hx : x_isFourSo3 as W Q) : jf fw_T (d + 1) 296 0 (fw_args 0 as) [] W Q := by
  unfold x_isFourSo3 at hx
  split at hx
  · rename_i x y z
    obtain ⟨hpre, hQ⟩ := hx
    have hP := hQ
    refine s_isFourSo3_0 ?_
    repeat' (first
      | (exact True.intro)
      | (exact hpre.1)
      | (refine And.intro ?_ ?_)
      | (refine hP _ ?_; (refine ⟨by omega, by omega, ?_⟩; (first | trivial | omega)))
      | omega
      | (intro _))
  · exact hx.elim

def ct_isSoByFour3 : List (Nat × fw_X) := [(296, x_isFourSo3), (188, x_many)]
theorem ct_isSoByFour3_ok (d : Nat) : fw_cok fw_T (d + 1) ct_isSoByFour3 := by
  intro q hq as W Q h
  simp only [ct_isSoByFour3, List.mem_cons, List.not_mem_nil, or_false] at hq
  rcases hq with rfl | rfl
  · exact jc_of (x_isFourSo3_ok (d + 0) as W Q h)
  · exact jc_of (x_many_ok (d + 0) as W Q h)
theorem s_isSoByFour3_0 {Post : Option fw_V → fw_W → Prop} {d : Nat} {W : fw_W}
    (hw_ : jf fw_T (d + 2) 295 2 [(0, .inr (.inl 352)), (1, .inl (0 : Int))] [] W Post) :
    jf fw_T (d + 2) 295 0 [(0, .inr (.inl 352))] [] W Post := fw_ok (n := 3) (ss := [(2, [0, 1]), (14, [0, 1, 2]), (26, [0, 1, 2, 3]), (39, [0, 1, 2, 3, 4])]) (hv := []) fr_295_ok fm_ok (ct_isSoByFour3_ok d) hw_

set_option maxRecDepth 10000 in
theorem s_isSoByFour3_39 {Post : Option fw_V → fw_W → Prop} {d : Nat} {W : fw_W} {a b c e : Int}
    (hw_ : (True) ∧ ((((fw_g W 366 0) ≤ e → -2147483648 ≤ c + (1 : Int) ∧ c + (1 : Int) ≤ 2147483647 ∧ (jf fw_T (d + 2) 295 26 [(0, .inr (.inl 352)), (1, .inl a), (2, .inl b), (3, .inl (c + (1 : Int)))] [] W Post)) ∧ (e < (fw_g W 366 0) → -2147483648 ≤ (14 : Int) * a ∧ (14 : Int) * a ≤ 2147483647 ∧ (-2147483648 ≤ ((14 : Int) * a) + b ∧ ((14 : Int) * a) + b ≤ 2147483647 ∧ (0 ≤ (((14 : Int) * a) + b) ∧ (((14 : Int) * a) + b) < 196 ∧ (-2147483648 ≤ (fw_g W 367 (((14 : Int) * a) + b)) → (fw_g W 367 (((14 : Int) * a) + b)) ≤ 2147483647 → -2147483648 ≤ (14 : Int) * c ∧ (14 : Int) * c ≤ 2147483647 ∧ (-2147483648 ≤ ((14 : Int) * c) + e ∧ ((14 : Int) * c) + e ≤ 2147483647 ∧ (0 ≤ (((14 : Int) * c) + e) ∧ (((14 : Int) * c) + e) < 196 ∧ (-2147483648 ≤ (fw_g W 367 (((14 : Int) * c) + e)) → (fw_g W 367 (((14 : Int) * c) + e)) ≤ 2147483647 → -2147483648 ≤ (fw_g W 367 (((14 : Int) * a) + b)) + (fw_g W 367 (((14 : Int) * c) + e)) ∧ (fw_g W 367 (((14 : Int) * a) + b)) + (fw_g W 367 (((14 : Int) * c) + e)) ≤ 2147483647 ∧ (-2147483648 ≤ (14 : Int) * a ∧ (14 : Int) * a ≤ 2147483647 ∧ (-2147483648 ≤ ((14 : Int) * a) + c ∧ ((14 : Int) * a) + c ≤ 2147483647 ∧ (0 ≤ (((14 : Int) * a) + c) ∧ (((14 : Int) * a) + c) < 196 ∧ (-2147483648 ≤ (fw_g W 367 (((14 : Int) * a) + c)) → (fw_g W 367 (((14 : Int) * a) + c)) ≤ 2147483647 → -2147483648 ≤ (14 : Int) * b ∧ (14 : Int) * b ≤ 2147483647 ∧ (-2147483648 ≤ ((14 : Int) * b) + e ∧ ((14 : Int) * b) + e ≤ 2147483647 ∧ (0 ≤ (((14 : Int) * b) + e) ∧ (((14 : Int) * b) + e) < 196 ∧ (-2147483648 ≤ (fw_g W 367 (((14 : Int) * b) + e)) → (fw_g W 367 (((14 : Int) * b) + e)) ≤ 2147483647 → -2147483648 ≤ (fw_g W 367 (((14 : Int) * a) + c)) + (fw_g W 367 (((14 : Int) * b) + e)) ∧ (fw_g W 367 (((14 : Int) * a) + c)) + (fw_g W 367 (((14 : Int) * b) + e)) ≤ 2147483647 ∧ (-2147483648 ≤ (14 : Int) * a ∧ (14 : Int) * a ≤ 2147483647 ∧ (-2147483648 ≤ ((14 : Int) * a) + e ∧ ((14 : Int) * a) + e ≤ 2147483647 ∧ (0 ≤ (((14 : Int) * a) + e) ∧ (((14 : Int) * a) + e) < 196 ∧ (-2147483648 ≤ (fw_g W 367 (((14 : Int) * a) + e)) → (fw_g W 367 (((14 : Int) * a) + e)) ≤ 2147483647 → -2147483648 ≤ (14 : Int) * b ∧ (14 : Int) * b ≤ 2147483647 ∧ (-2147483648 ≤ ((14 : Int) * b) + c ∧ ((14 : Int) * b) + c ≤ 2147483647 ∧ (0 ≤ (((14 : Int) * b) + c) ∧ (((14 : Int) * b) + c) < 196 ∧ (-2147483648 ≤ (fw_g W 367 (((14 : Int) * b) + c)) → (fw_g W 367 (((14 : Int) * b) + c)) ≤ 2147483647 → -2147483648 ≤ (fw_g W 367 (((14 : Int) * a) + e)) + (fw_g W 367 (((14 : Int) * b) + c)) ∧ (fw_g W 367 (((14 : Int) * a) + e)) + (fw_g W 367 (((14 : Int) * b) + c)) ≤ 2147483647 ∧ ((True) ∧ (∀ (r1 : Int), ((0 ≤ r1 ∧ r1 ≤ 1 ∧ ((r1 = 1 ∧ ((((fw_g W 367 (((14 : Int) * a) + b)) + (fw_g W 367 (((14 : Int) * c) + e))) = ((fw_g W 367 (((14 : Int) * a) + c)) + (fw_g W 367 (((14 : Int) * b) + e))) ∧ ((fw_g W 367 (((14 : Int) * a) + e)) + (fw_g W 367 (((14 : Int) * b) + c))) ≤ ((fw_g W 367 (((14 : Int) * a) + b)) + (fw_g W 367 (((14 : Int) * c) + e)))) ∨ (((fw_g W 367 (((14 : Int) * a) + b)) + (fw_g W 367 (((14 : Int) * c) + e))) = ((fw_g W 367 (((14 : Int) * a) + e)) + (fw_g W 367 (((14 : Int) * b) + c))) ∧ ((fw_g W 367 (((14 : Int) * a) + c)) + (fw_g W 367 (((14 : Int) * b) + e))) ≤ ((fw_g W 367 (((14 : Int) * a) + b)) + (fw_g W 367 (((14 : Int) * c) + e)))) ∨ (((fw_g W 367 (((14 : Int) * a) + c)) + (fw_g W 367 (((14 : Int) * b) + e))) = ((fw_g W 367 (((14 : Int) * a) + e)) + (fw_g W 367 (((14 : Int) * b) + c))) ∧ ((fw_g W 367 (((14 : Int) * a) + b)) + (fw_g W 367 (((14 : Int) * c) + e))) ≤ ((fw_g W 367 (((14 : Int) * a) + c)) + (fw_g W 367 (((14 : Int) * b) + e)))))) ∨ (r1 = 0 ∧ ¬ ((((fw_g W 367 (((14 : Int) * a) + b)) + (fw_g W 367 (((14 : Int) * c) + e))) = ((fw_g W 367 (((14 : Int) * a) + c)) + (fw_g W 367 (((14 : Int) * b) + e))) ∧ ((fw_g W 367 (((14 : Int) * a) + e)) + (fw_g W 367 (((14 : Int) * b) + c))) ≤ ((fw_g W 367 (((14 : Int) * a) + b)) + (fw_g W 367 (((14 : Int) * c) + e)))) ∨ (((fw_g W 367 (((14 : Int) * a) + b)) + (fw_g W 367 (((14 : Int) * c) + e))) = ((fw_g W 367 (((14 : Int) * a) + e)) + (fw_g W 367 (((14 : Int) * b) + c))) ∧ ((fw_g W 367 (((14 : Int) * a) + c)) + (fw_g W 367 (((14 : Int) * b) + e))) ≤ ((fw_g W 367 (((14 : Int) * a) + b)) + (fw_g W 367 (((14 : Int) * c) + e)))) ∨ (((fw_g W 367 (((14 : Int) * a) + c)) + (fw_g W 367 (((14 : Int) * b) + e))) = ((fw_g W 367 (((14 : Int) * a) + e)) + (fw_g W 367 (((14 : Int) * b) + c))) ∧ ((fw_g W 367 (((14 : Int) * a) + b)) + (fw_g W 367 (((14 : Int) * c) + e))) ≤ ((fw_g W 367 (((14 : Int) * a) + c)) + (fw_g W 367 (((14 : Int) * b) + e))))))))) → ((¬ r1 = 0 → -2147483648 ≤ e + (1 : Int) ∧ e + (1 : Int) ≤ 2147483647 ∧ (jf fw_T (d + 2) 295 39 [(0, .inr (.inl 352)), (1, .inl a), (2, .inl b), (3, .inl c), (4, .inl (e + (1 : Int)))] [] W Post)) ∧ (r1 = 0 → 0 ≤ (0 : Int) ∧ (0 : Int) ≤ 1 ∧ Post (some (.inl (0 : Int))) W)))))))))))))))))))))))))))) :
    jf fw_T (d + 2) 295 39 [(0, .inr (.inl 352)), (1, .inl a), (2, .inl b), (3, .inl c), (4, .inl e)] [] W Post := fw_ok (n := 60) (ss := [(2, [0, 1]), (14, [0, 1, 2]), (26, [0, 1, 2, 3]), (39, [0, 1, 2, 3, 4])]) (hv := []) fr_295_ok fm_ok (ct_isSoByFour3_ok d) hw_

theorem s_isSoByFour3_26 {Post : Option fw_V → fw_W → Prop} {d : Nat} {W : fw_W} {a b c : Int}
    (hw_ : (True) ∧ ((((fw_g W 366 0) ≤ c → -2147483648 ≤ b + (1 : Int) ∧ b + (1 : Int) ≤ 2147483647 ∧ (jf fw_T (d + 2) 295 14 [(0, .inr (.inl 352)), (1, .inl a), (2, .inl (b + (1 : Int)))] [] W Post)) ∧ (c < (fw_g W 366 0) → -2147483648 ≤ c + (1 : Int) ∧ c + (1 : Int) ≤ 2147483647 ∧ (jf fw_T (d + 2) 295 39 [(0, .inr (.inl 352)), (1, .inl a), (2, .inl b), (3, .inl c), (4, .inl (c + (1 : Int)))] [] W Post))))) :
    jf fw_T (d + 2) 295 26 [(0, .inr (.inl 352)), (1, .inl a), (2, .inl b), (3, .inl c)] [] W Post := fw_ok (n := 9) (ss := [(2, [0, 1]), (14, [0, 1, 2]), (26, [0, 1, 2, 3]), (39, [0, 1, 2, 3, 4])]) (hv := []) fr_295_ok fm_ok (ct_isSoByFour3_ok d) hw_

theorem s_isSoByFour3_14 {Post : Option fw_V → fw_W → Prop} {d : Nat} {W : fw_W} {a b : Int}
    (hw_ : (True) ∧ ((((fw_g W 366 0) ≤ b → -2147483648 ≤ a + (1 : Int) ∧ a + (1 : Int) ≤ 2147483647 ∧ (jf fw_T (d + 2) 295 2 [(0, .inr (.inl 352)), (1, .inl (a + (1 : Int)))] [] W Post)) ∧ (b < (fw_g W 366 0) → -2147483648 ≤ b + (1 : Int) ∧ b + (1 : Int) ≤ 2147483647 ∧ (jf fw_T (d + 2) 295 26 [(0, .inr (.inl 352)), (1, .inl a), (2, .inl b), (3, .inl (b + (1 : Int)))] [] W Post))))) :
    jf fw_T (d + 2) 295 14 [(0, .inr (.inl 352)), (1, .inl a), (2, .inl b)] [] W Post := fw_ok (n := 9) (ss := [(2, [0, 1]), (14, [0, 1, 2]), (26, [0, 1, 2, 3]), (39, [0, 1, 2, 3, 4])]) (hv := []) fr_295_ok fm_ok (ct_isSoByFour3_ok d) hw_

theorem s_isSoByFour3_2 {Post : Option fw_V → fw_W → Prop} {d : Nat} {W : fw_W} {a : Int}
    (hw_ : (True) ∧ ((((fw_g W 366 0) ≤ a → 0 ≤ (1 : Int) ∧ (1 : Int) ≤ 1 ∧ Post (some (.inl (1 : Int))) W) ∧ (a < (fw_g W 366 0) → -2147483648 ≤ a + (1 : Int) ∧ a + (1 : Int) ≤ 2147483647 ∧ (jf fw_T (d + 2) 295 14 [(0, .inr (.inl 352)), (1, .inl a), (2, .inl (a + (1 : Int)))] [] W Post))))) :
    jf fw_T (d + 2) 295 2 [(0, .inr (.inl 352)), (1, .inl a)] [] W Post := fw_ok (n := 9) (ss := [(2, [0, 1]), (14, [0, 1, 2]), (26, [0, 1, 2, 3]), (39, [0, 1, 2, 3, 4])]) (hv := []) fr_295_ok fm_ok (ct_isSoByFour3_ok d) hw_

theorem lm_isSoByFour3_39 {Post : Option fw_V → fw_W → Prop} {d : Nat} {W : fw_W} (q : List Nat) (hgh : qok ((fw_g W 366 0)).toNat q = true ∧ 2 ≤ (fw_g W 366 0) ∧ (fw_g W 366 0) ≤ 6 ∧ (∀ x_, 1 ≤ x_ → x_ < (fw_g W 366 0) → (fw_g W 366 (2 + 3 * x_)) = ((qp q x_.toNat : Nat) : Int))) (hpre : mt W ∧ 0 ≤ (fw_g W 366 0) ∧ (fw_g W 366 0) ≤ 14 ∧ (∀ u_ t_, 0 ≤ u_ → u_ < (fw_g W 366 0) → 0 ≤ t_ → t_ < (fw_g W 366 0) → (fw_g W 367 (14 * u_ + t_)) = zD q u_ t_)) (hP : ∀ (v : Int) , (0 ≤ v ∧ v ≤ 1 ∧ (v = 1)) → Post (some (.inl v)) W) (M2 : Int) (h2 : ∀ (a : Int), 0 ≤ a → ((fw_g W 366 0) - a) < M2 → jf fw_T (d + 2) 295 2 [(0, .inr (.inl 352)), (1, .inl a)] [] W Post) (M14 : Int) (h14 : ∀ (a b : Int), 0 ≤ a ∧ a < b ∧ a < (fw_g W 366 0) → ((fw_g W 366 0) - b) < M14 → ((fw_g W 366 0) - a) ≤ M2 → jf fw_T (d + 2) 295 14 [(0, .inr (.inl 352)), (1, .inl a), (2, .inl b)] [] W Post) (M26 : Int) (h26 : ∀ (a b c : Int), 0 ≤ a ∧ a < b ∧ b < c ∧ b < (fw_g W 366 0) → ((fw_g W 366 0) - c) < M26 → ((fw_g W 366 0) - b) ≤ M14 → ((fw_g W 366 0) - a) ≤ M2 → jf fw_T (d + 2) 295 26 [(0, .inr (.inl 352)), (1, .inl a), (2, .inl b), (3, .inl c)] [] W Post) : ∀ (m : Nat) (a b c e : Int), ((fw_g W 366 0) - e).toNat = m → 0 ≤ a ∧ a < b ∧ b < c ∧ c < e ∧ c < (fw_g W 366 0) → ((fw_g W 366 0) - c) ≤ M26 → ((fw_g W 366 0) - b) ≤ M14 → ((fw_g W 366 0) - a) ≤ M2 → jf fw_T (d + 2) 295 39 [(0, .inr (.inl 352)), (1, .inl a), (2, .inl b), (3, .inl c), (4, .inl e)] [] W Post := by
  intro m
  induction m using Nat.strongRecOn with
  | ind m ih =>
    intro a b c e hm hi e26 e14 e2
    refine jf_rng (fun hrg => ?_)
    have hrg : -2147483648 ≤ a ∧ a ≤ 2147483647 ∧ -2147483648 ≤ b ∧ b ≤ 2147483647 ∧ -2147483648 ≤ c ∧ c ≤ 2147483647 ∧ -2147483648 ≤ e ∧ e ≤ 2147483647 ∧ True := hrg
    refine s_isSoByFour3_39 ?_
    have hw : ∀ u t, 0 ≤ u → u < t → t < (fw_g W 366 0) → (fw_g W 367 (14 * u + t)) = zD q u t ∧ 0 ≤ zD q u t ∧ zD q u t ≤ 100 := fun u t u0 ut tn => ⟨hpre.2.2.2 u t u0 (by omega) (by omega) tn, q_D0 q u t⟩
    have w1 := hw a b hi.1 hi.2.1
    have w2 := hw a c hi.1 (by omega)
    have w3 := hw a e hi.1 (by omega)
    have w4 := hw b c (by omega) hi.2.2.1
    have w5 := hw b e (by omega) (by omega)
    have w6 := hw c e (by omega) hi.2.2.2.1
    have q9 := fun z : e < (fw_g W 366 0) => q1_i hgh.1 hi.1 hi.2.1 hi.2.2.1 hi.2.2.2.1 z
    repeat' (first
      | (exact True.intro)
      | (exact hpre.1)
      | (refine And.intro ?_ ?_)
      | (refine (h2 _ ?_ (by omega)); (first | omega | trivial))
      | (refine (h14 _ _ ?_ (by omega) (by omega)); (first | omega | trivial))
      | (refine (h26 _ _ _ ?_ (by omega) (by omega) (by omega)); (first | omega | trivial))
      | (refine (ih _ (by omega) _ _ _ _ rfl ?_ (by omega) (by omega) (by omega)); (first | omega | trivial))
      | (refine hP _ ?_; (refine ⟨by omega, by omega, ?_⟩; (first | trivial | omega)))
      | omega
      | (intro _))
theorem lm_isSoByFour3_26 {Post : Option fw_V → fw_W → Prop} {d : Nat} {W : fw_W} (q : List Nat) (hgh : qok ((fw_g W 366 0)).toNat q = true ∧ 2 ≤ (fw_g W 366 0) ∧ (fw_g W 366 0) ≤ 6 ∧ (∀ x_, 1 ≤ x_ → x_ < (fw_g W 366 0) → (fw_g W 366 (2 + 3 * x_)) = ((qp q x_.toNat : Nat) : Int))) (hpre : mt W ∧ 0 ≤ (fw_g W 366 0) ∧ (fw_g W 366 0) ≤ 14 ∧ (∀ u_ t_, 0 ≤ u_ → u_ < (fw_g W 366 0) → 0 ≤ t_ → t_ < (fw_g W 366 0) → (fw_g W 367 (14 * u_ + t_)) = zD q u_ t_)) (hP : ∀ (v : Int) , (0 ≤ v ∧ v ≤ 1 ∧ (v = 1)) → Post (some (.inl v)) W) (M2 : Int) (h2 : ∀ (a : Int), 0 ≤ a → ((fw_g W 366 0) - a) < M2 → jf fw_T (d + 2) 295 2 [(0, .inr (.inl 352)), (1, .inl a)] [] W Post) (M14 : Int) (h14 : ∀ (a b : Int), 0 ≤ a ∧ a < b ∧ a < (fw_g W 366 0) → ((fw_g W 366 0) - b) < M14 → ((fw_g W 366 0) - a) ≤ M2 → jf fw_T (d + 2) 295 14 [(0, .inr (.inl 352)), (1, .inl a), (2, .inl b)] [] W Post) : ∀ (m : Nat) (a b c : Int), ((fw_g W 366 0) - c).toNat = m → 0 ≤ a ∧ a < b ∧ b < c ∧ b < (fw_g W 366 0) → ((fw_g W 366 0) - b) ≤ M14 → ((fw_g W 366 0) - a) ≤ M2 → jf fw_T (d + 2) 295 26 [(0, .inr (.inl 352)), (1, .inl a), (2, .inl b), (3, .inl c)] [] W Post := by
  intro m
  induction m using Nat.strongRecOn with
  | ind m ih =>
    intro a b c hm hi e14 e2
    refine jf_rng (fun hrg => ?_)
    have hrg : -2147483648 ≤ a ∧ a ≤ 2147483647 ∧ -2147483648 ≤ b ∧ b ≤ 2147483647 ∧ -2147483648 ≤ c ∧ c ≤ 2147483647 ∧ True := hrg
    refine s_isSoByFour3_26 ?_
    repeat' (first
      | (exact True.intro)
      | (exact hpre.1)
      | (refine And.intro ?_ ?_)
      | (refine (h2 _ ?_ (by omega)); (first | omega | trivial))
      | (refine (h14 _ _ ?_ (by omega) (by omega)); (first | omega | trivial))
      | (refine (ih _ (by omega) _ _ _ rfl ?_ (by omega) (by omega)); (first | omega | trivial))
      | (refine (lm_isSoByFour3_39 q hgh hpre hP M2 h2 M14 h14 ((fw_g W 366 0) - c) (fun a0 a1 a2 hi hl e14 e2 => ih _ (by omega) a0 a1 a2 rfl hi e14 e2) _ _ _ _ _ rfl ?_ (by omega) (by omega) (by omega)); (first | omega | trivial))
      | (refine hP _ ?_; (refine ⟨by omega, by omega, ?_⟩; (first | trivial | omega)))
      | omega
      | (intro _))
theorem lm_isSoByFour3_14 {Post : Option fw_V → fw_W → Prop} {d : Nat} {W : fw_W} (q : List Nat) (hgh : qok ((fw_g W 366 0)).toNat q = true ∧ 2 ≤ (fw_g W 366 0) ∧ (fw_g W 366 0) ≤ 6 ∧ (∀ x_, 1 ≤ x_ → x_ < (fw_g W 366 0) → (fw_g W 366 (2 + 3 * x_)) = ((qp q x_.toNat : Nat) : Int))) (hpre : mt W ∧ 0 ≤ (fw_g W 366 0) ∧ (fw_g W 366 0) ≤ 14 ∧ (∀ u_ t_, 0 ≤ u_ → u_ < (fw_g W 366 0) → 0 ≤ t_ → t_ < (fw_g W 366 0) → (fw_g W 367 (14 * u_ + t_)) = zD q u_ t_)) (hP : ∀ (v : Int) , (0 ≤ v ∧ v ≤ 1 ∧ (v = 1)) → Post (some (.inl v)) W) (M2 : Int) (h2 : ∀ (a : Int), 0 ≤ a → ((fw_g W 366 0) - a) < M2 → jf fw_T (d + 2) 295 2 [(0, .inr (.inl 352)), (1, .inl a)] [] W Post) : ∀ (m : Nat) (a b : Int), ((fw_g W 366 0) - b).toNat = m → 0 ≤ a ∧ a < b ∧ a < (fw_g W 366 0) → ((fw_g W 366 0) - a) ≤ M2 → jf fw_T (d + 2) 295 14 [(0, .inr (.inl 352)), (1, .inl a), (2, .inl b)] [] W Post := by
  intro m
  induction m using Nat.strongRecOn with
  | ind m ih =>
    intro a b hm hi e2
    refine jf_rng (fun hrg => ?_)
    have hrg : -2147483648 ≤ a ∧ a ≤ 2147483647 ∧ -2147483648 ≤ b ∧ b ≤ 2147483647 ∧ True := hrg
    refine s_isSoByFour3_14 ?_
    repeat' (first
      | (exact True.intro)
      | (exact hpre.1)
      | (refine And.intro ?_ ?_)
      | (refine (h2 _ ?_ (by omega)); (first | omega | trivial))
      | (refine (ih _ (by omega) _ _ rfl ?_ (by omega)); (first | omega | trivial))
      | (refine (lm_isSoByFour3_26 q hgh hpre hP M2 h2 ((fw_g W 366 0) - b) (fun a0 a1 hi hl e2 => ih _ (by omega) a0 a1 rfl hi e2) _ _ _ _ rfl ?_ (by omega) (by omega)); (first | omega | trivial))
      | (refine hP _ ?_; (refine ⟨by omega, by omega, ?_⟩; (first | trivial | omega)))
      | omega
      | (intro _))
theorem lm_isSoByFour3_2 {Post : Option fw_V → fw_W → Prop} {d : Nat} {W : fw_W} (q : List Nat) (hgh : qok ((fw_g W 366 0)).toNat q = true ∧ 2 ≤ (fw_g W 366 0) ∧ (fw_g W 366 0) ≤ 6 ∧ (∀ x_, 1 ≤ x_ → x_ < (fw_g W 366 0) → (fw_g W 366 (2 + 3 * x_)) = ((qp q x_.toNat : Nat) : Int))) (hpre : mt W ∧ 0 ≤ (fw_g W 366 0) ∧ (fw_g W 366 0) ≤ 14 ∧ (∀ u_ t_, 0 ≤ u_ → u_ < (fw_g W 366 0) → 0 ≤ t_ → t_ < (fw_g W 366 0) → (fw_g W 367 (14 * u_ + t_)) = zD q u_ t_)) (hP : ∀ (v : Int) , (0 ≤ v ∧ v ≤ 1 ∧ (v = 1)) → Post (some (.inl v)) W)  : ∀ (m : Nat) (a : Int), ((fw_g W 366 0) - a).toNat = m → 0 ≤ a → jf fw_T (d + 2) 295 2 [(0, .inr (.inl 352)), (1, .inl a)] [] W Post := by
  intro m
  induction m using Nat.strongRecOn with
  | ind m ih =>
    intro a hm hi
    refine jf_rng (fun hrg => ?_)
    have hrg : -2147483648 ≤ a ∧ a ≤ 2147483647 ∧ True := hrg
    refine s_isSoByFour3_2 ?_
    repeat' (first
      | (exact True.intro)
      | (exact hpre.1)
      | (refine And.intro ?_ ?_)
      | (refine (ih _ (by omega) _ rfl ?_); (first | omega | trivial))
      | (refine (lm_isSoByFour3_14 q hgh hpre hP ((fw_g W 366 0) - a) (fun a0 hi hl => ih _ (by omega) a0 rfl hi) _ _ _ rfl ?_ (by omega)); (first | omega | trivial))
      | (refine hP _ ?_; (refine ⟨by omega, by omega, ?_⟩; (first | trivial | omega)))
      | omega
      | (intro _))
def x_isSoByFour3 : fw_X := fun as W Q => match as with
  | [.inr (.inl s_)] => fw_if (Nat.beq s_ 352) (∃ (q : List Nat), (qok ((fw_g W 366 0)).toNat q = true ∧ 2 ≤ (fw_g W 366 0) ∧ (fw_g W 366 0) ≤ 6 ∧ (∀ x_, 1 ≤ x_ → x_ < (fw_g W 366 0) → (fw_g W 366 (2 + 3 * x_)) = ((qp q x_.toNat : Nat) : Int))) ∧ (mt W ∧ 0 ≤ (fw_g W 366 0) ∧ (fw_g W 366 0) ≤ 14 ∧ (∀ u_ t_, 0 ≤ u_ → u_ < (fw_g W 366 0) → 0 ≤ t_ → t_ < (fw_g W 366 0) → (fw_g W 367 (14 * u_ + t_)) = zD q u_ t_)) ∧ (∀ (v : Int), (0 ≤ v ∧ v ≤ 1 ∧ (v = 1)) → Q (some (.inl v)) W))
  | _ => False
theorem x_isSoByFour3_ok (d : Nat) (as : List fw_V) (W : fw_W) (Q : Option fw_V → fw_W → Prop) (hx : x_isSoByFour3 as W Q) : jf fw_T (d + 2) 295 0 (fw_args 0 as) [] W Q := by
  unfold x_isSoByFour3 at hx
  split at hx
  · rename_i s_
    obtain ⟨e_, q, hgh, hpre, hQ⟩ := fw_if_ok hx
    have e_ := Nat.eq_of_beq_eq_true e_
    subst e_
    have hP := hQ
    refine s_isSoByFour3_0 ?_
    repeat' (first
      | (exact True.intro)
      | (exact hpre.1)
      | (refine And.intro ?_ ?_)
      | (refine (lm_isSoByFour3_2 q hgh hpre hP _ _ rfl ?_); (first | omega | trivial))
      | (refine (lm_isSoByFour3_14 q hgh hpre hP M2 h2 _ _ _ rfl ?_ (by omega)); (first | omega | trivial))
      | (refine (lm_isSoByFour3_26 q hgh hpre hP M2 h2 M14 h14 _ _ _ _ rfl ?_ (by omega) (by omega)); (first | omega | trivial))
      | (refine (lm_isSoByFour3_39 q hgh hpre hP M2 h2 M14 h14 M26 h26 _ _ _ _ _ rfl ?_ (by omega) (by omega) (by omega)); (first | omega | trivial))
      | (refine hP _ ?_; (refine ⟨by omega, by omega, ?_⟩; (first | trivial | omega)))
      | omega
      | (intro _))
  · exact hx.elim

