/-! the laws of the reference, exactly, of a town of at most six houses -/
def ct_farOf3 : List (Nat × fw_X) := [(188, x_many)]
theorem ct_farOf3_ok (d : Nat) : fw_cok fw_T (d + 1) ct_farOf3 := by
  intro q hq as W Q h
  simp only [ct_farOf3, List.mem_cons, List.not_mem_nil, or_false] at hq
  rcases hq with rfl
  · exact jc_of (x_many_ok (d + 0) as W Q h)
theorem s_farOf3_0 {Post : Option fw_V → fw_W → Prop} {d : Nat} {W : fw_W} {h : Int}
    (hw_ : jf fw_T (d + 2) 227 4 [(0, .inr (.inl 352)), (1, .inl h), (2, .inl (0 : Int)), (3, .inl (0 : Int))] [] W Post) :
    jf fw_T (d + 2) 227 0 [(0, .inr (.inl 352)), (1, .inl h)] [] W Post := fw_ok (n := 5) (ss := [(4, [0, 1, 2, 3])]) (hv := []) fr_227_ok fm_ok (ct_farOf3_ok d) hw_

theorem s_farOf3_4 {Post : Option fw_V → fw_W → Prop} {d : Nat} {W : fw_W} {h most k : Int}
    (hw_ : (True) ∧ ((((fw_g W 366 0) ≤ k → (-2147483648 ≤ most → most ≤ 2147483647 → Post (some (.inl most)) W)) ∧ (k < (fw_g W 366 0) → -2147483648 ≤ (14 : Int) * h ∧ (14 : Int) * h ≤ 2147483647 ∧ (-2147483648 ≤ ((14 : Int) * h) + k ∧ ((14 : Int) * h) + k ≤ 2147483647 ∧ (0 ≤ (((14 : Int) * h) + k) ∧ (((14 : Int) * h) + k) < 196 ∧ (-2147483648 ≤ (fw_g W 367 (((14 : Int) * h) + k)) → (fw_g W 367 (((14 : Int) * h) + k)) ≤ 2147483647 → (((fw_g W 367 (((14 : Int) * h) + k)) ≤ most → -2147483648 ≤ k + (1 : Int) ∧ k + (1 : Int) ≤ 2147483647 ∧ (jf fw_T (d + 2) 227 4 [(0, .inr (.inl 352)), (1, .inl h), (2, .inl most), (3, .inl (k + (1 : Int)))] [] W Post)) ∧ (most < (fw_g W 367 (((14 : Int) * h) + k)) → -2147483648 ≤ (14 : Int) * h ∧ (14 : Int) * h ≤ 2147483647 ∧ (-2147483648 ≤ ((14 : Int) * h) + k ∧ ((14 : Int) * h) + k ≤ 2147483647 ∧ (0 ≤ (((14 : Int) * h) + k) ∧ (((14 : Int) * h) + k) < 196 ∧ (-2147483648 ≤ (fw_g W 367 (((14 : Int) * h) + k)) → (fw_g W 367 (((14 : Int) * h) + k)) ≤ 2147483647 → -2147483648 ≤ k + (1 : Int) ∧ k + (1 : Int) ≤ 2147483647 ∧ (jf fw_T (d + 2) 227 4 [(0, .inr (.inl 352)), (1, .inl h), (2, .inl (fw_g W 367 (((14 : Int) * h) + k))), (3, .inl (k + (1 : Int)))] [] W Post))))))))))))) :
    jf fw_T (d + 2) 227 4 [(0, .inr (.inl 352)), (1, .inl h), (2, .inl most), (3, .inl k)] [] W Post := fw_ok (n := 27) (ss := [(4, [0, 1, 2, 3])]) (hv := []) fr_227_ok fm_ok (ct_farOf3_ok d) hw_

theorem lm_farOf3_4 {Post : Option fw_V → fw_W → Prop} {d : Nat} {W : fw_W} {h : Int} (q : List Nat) (hgh : qok ((fw_g W 366 0)).toNat q = true ∧ 2 ≤ (fw_g W 366 0) ∧ (fw_g W 366 0) ≤ 6 ∧ (∀ x_, 1 ≤ x_ → x_ < (fw_g W 366 0) → (fw_g W 366 (2 + 3 * x_)) = ((qp q x_.toNat : Nat) : Int))) (hpre : mt W ∧ 0 ≤ (fw_g W 366 0) ∧ (fw_g W 366 0) ≤ 14 ∧ 0 ≤ h ∧ h < (fw_g W 366 0) ∧ (∀ u_ t_, 0 ≤ u_ → u_ < (fw_g W 366 0) → 0 ≤ t_ → t_ < (fw_g W 366 0) → (fw_g W 367 (14 * u_ + t_)) = zD q u_ t_)) (hP : ∀ (v : Int) , (-2147483648 ≤ v ∧ v ≤ 2147483647 ∧ (v = ((qE q ((fw_g W 366 0)).toNat h.toNat : Nat) : Int))) → Post (some (.inl v)) W)  : ∀ (m : Nat) (most k : Int), ((fw_g W 366 0) - k).toNat = m → 0 ≤ k ∧ k ≤ (fw_g W 366 0) ∧ 0 ≤ most ∧ most = ((qmx (qD q h.toNat) k.toNat : Nat) : Int) → jf fw_T (d + 2) 227 4 [(0, .inr (.inl 352)), (1, .inl h), (2, .inl most), (3, .inl k)] [] W Post := by
  intro m
  induction m using Nat.strongRecOn with
  | ind m ih =>
    intro most k hm hi
    refine jf_rng (fun hrg => ?_)
    have hrg : -2147483648 ≤ h ∧ h ≤ 2147483647 ∧ -2147483648 ≤ most ∧ most ≤ 2147483647 ∧ -2147483648 ≤ k ∧ k ≤ 2147483647 ∧ True := hrg
    refine s_farOf3_4 ?_
    have st := qmx_i (qD q h.toNat) hi.1
    have w1 : k < (fw_g W 366 0) → (fw_g W 367 (14 * h + k)) = ((qD q h.toNat k.toNat : Nat) : Int) := fun z => hpre.2.2.2.2.2 h k hpre.2.2.2.1 hpre.2.2.2.2.1 hi.1 z
    repeat' (first
      | (exact True.intro)
      | (exact hpre.1)
      | (refine And.intro ?_ ?_)
      | (refine (ih _ (by omega) _ _ rfl ?_); (first | omega | trivial))
      | (refine hP _ ?_; (refine ⟨by omega, by omega, ?_⟩; (
        have kN : k = fw_g W 366 0 := by omega
        unfold qE
        rw [← kN]
        omega)))
      | omega
      | (intro _))
def x_farOf3 : fw_X := fun as W Q => match as with
  | [.inr (.inl s_), .inl h] => fw_if (Nat.beq s_ 352) (∃ (q : List Nat), (qok ((fw_g W 366 0)).toNat q = true ∧ 2 ≤ (fw_g W 366 0) ∧ (fw_g W 366 0) ≤ 6 ∧ (∀ x_, 1 ≤ x_ → x_ < (fw_g W 366 0) → (fw_g W 366 (2 + 3 * x_)) = ((qp q x_.toNat : Nat) : Int))) ∧ (mt W ∧ 0 ≤ (fw_g W 366 0) ∧ (fw_g W 366 0) ≤ 14 ∧ 0 ≤ h ∧ h < (fw_g W 366 0) ∧ (∀ u_ t_, 0 ≤ u_ → u_ < (fw_g W 366 0) → 0 ≤ t_ → t_ < (fw_g W 366 0) → (fw_g W 367 (14 * u_ + t_)) = zD q u_ t_)) ∧ (∀ (v : Int), (-2147483648 ≤ v ∧ v ≤ 2147483647 ∧ (v = ((qE q ((fw_g W 366 0)).toNat h.toNat : Nat) : Int))) → Q (some (.inl v)) W))
  | _ => False
theorem x_farOf3_ok (d : Nat) (as : List fw_V) (W : fw_W) (Q : Option fw_V → fw_W → Prop) (hx : x_farOf3 as W Q) : jf fw_T (d + 2) 227 0 (fw_args 0 as) [] W Q := by
  unfold x_farOf3 at hx
  split at hx
  · rename_i s_ h
    obtain ⟨e_, q, hgh, hpre, hQ⟩ := fw_if_ok hx
    have e_ := Nat.eq_of_beq_eq_true e_
    subst e_
    have hP := hQ
    refine s_farOf3_0 ?_
    repeat' (first
      | (exact True.intro)
      | (exact hpre.1)
      | (refine And.intro ?_ ?_)
      | (refine (lm_farOf3_4 (h := h) q hgh hpre hP _ _ _ rfl ?_); (exact ⟨by omega, by omega, by omega, rfl⟩))
      | (refine hP _ ?_; (refine ⟨by omega, by omega, ?_⟩; (
        have kN : k = fw_g W 366 0 := by omega
        unfold qE
        rw [← kN]
        omega)))
      | omega
      | (intro _))
  · exact hx.elim

def ct_isSoByFar3 : List (Nat × fw_X) := [(219, x_areNext), (227, x_farOf3), (188, x_many)]
theorem ct_isSoByFar3_ok (d : Nat) : fw_cok fw_T (d + 2) ct_isSoByFar3 := by
  intro q hq as W Q h
  simp only [ct_isSoByFar3, List.mem_cons, List.not_mem_nil, or_false] at hq
  rcases hq with rfl | rfl | rfl
  · exact jc_of (x_areNext_ok (d + 0) as W Q h)
  · exact jc_of (x_farOf3_ok (d + 0) as W Q h)
  · exact jc_of (x_many_ok (d + 1) as W Q h)
theorem s_isSoByFar3_0 {Post : Option fw_V → fw_W → Prop} {d : Nat} {W : fw_W}
    (hw_ : ∃ (q_1 : List Nat), (qok ((fw_g W 366 0)).toNat q_1 = true ∧ 2 ≤ (fw_g W 366 0) ∧ (fw_g W 366 0) ≤ 6 ∧ (∀ x_, 1 ≤ x_ → x_ < (fw_g W 366 0) → (fw_g W 366 (2 + 3 * x_)) = ((qp q_1 x_.toNat : Nat) : Int))) ∧ (mt W ∧ 0 ≤ (fw_g W 366 0) ∧ (fw_g W 366 0) ≤ 14 ∧ 0 ≤ (0 : Int) ∧ (0 : Int) < (fw_g W 366 0) ∧ (∀ u_ t_, 0 ≤ u_ → u_ < (fw_g W 366 0) → 0 ≤ t_ → t_ < (fw_g W 366 0) → (fw_g W 367 (14 * u_ + t_)) = zD q_1 u_ t_)) ∧ (∀ (r2 : Int), ((-2147483648 ≤ r2 ∧ r2 ≤ 2147483647 ∧ (r2 = ((qE q_1 ((fw_g W 366 0)).toNat (0 : Int).toNat : Nat) : Int)))) → jf fw_T (d + 3) 294 16 [(0, .inr (.inl 352)), (1, .inl (-1 : Int)), (2, .inl (-1 : Int)), (3, .inl (0 : Int)), (4, .inl r2), (5, .inl (1 : Int))] [] W Post)) :
    jf fw_T (d + 3) 294 0 [(0, .inr (.inl 352))] [] W Post := fw_ok (n := 13) (ss := [(16, [0, 1, 2, 3, 4, 5]), (58, [0, 1, 2, 3, 4, 5])]) (hv := []) fr_294_ok fm_ok (ct_isSoByFar3_ok d) hw_

theorem s_isSoByFar3_58 {Post : Option fw_V → fw_W → Prop} {d : Nat} {W : fw_W} {one two n least h : Int}
    (hw_ : (True) ∧ ((((fw_g W 366 0) ≤ h → ((n = (1 : Int) → 0 ≤ (1 : Int) ∧ (1 : Int) ≤ 1 ∧ Post (some (.inl (1 : Int))) W) ∧ (¬ n = (1 : Int) → ((¬ n = (2 : Int) → 0 ≤ (0 : Int) ∧ (0 : Int) ≤ 1 ∧ Post (some (.inl (0 : Int))) W) ∧ (n = (2 : Int) → (0 ≤ one ∧ one < 14 ∧ 0 ≤ two ∧ two < 14) ∧ (∀ (r1 : Int), ((0 ≤ r1 ∧ r1 ≤ 1 ∧ ((r1 = 1 ∧ ((fw_g W 366 (2 + 3 * one)) = two ∨ (fw_g W 366 (2 + 3 * two)) = one)) ∨ (r1 = 0 ∧ ¬ (fw_g W 366 (2 + 3 * one)) = two ∧ ¬ (fw_g W 366 (2 + 3 * two)) = one)))) → ((r1 = 0 → 0 ≤ (0 : Int) ∧ (0 : Int) ≤ 1 ∧ Post (some (.inl (0 : Int))) W) ∧ (¬ r1 = 0 → 0 ≤ (1 : Int) ∧ (1 : Int) ≤ 1 ∧ Post (some (.inl (1 : Int))) W)))))))) ∧ (h < (fw_g W 366 0) → ∃ (q_2 : List Nat), (qok ((fw_g W 366 0)).toNat q_2 = true ∧ 2 ≤ (fw_g W 366 0) ∧ (fw_g W 366 0) ≤ 6 ∧ (∀ x_, 1 ≤ x_ → x_ < (fw_g W 366 0) → (fw_g W 366 (2 + 3 * x_)) = ((qp q_2 x_.toNat : Nat) : Int))) ∧ (mt W ∧ 0 ≤ (fw_g W 366 0) ∧ (fw_g W 366 0) ≤ 14 ∧ 0 ≤ h ∧ h < (fw_g W 366 0) ∧ (∀ u_ t_, 0 ≤ u_ → u_ < (fw_g W 366 0) → 0 ≤ t_ → t_ < (fw_g W 366 0) → (fw_g W 367 (14 * u_ + t_)) = zD q_2 u_ t_)) ∧ (∀ (r3 : Int), ((-2147483648 ≤ r3 ∧ r3 ≤ 2147483647 ∧ (r3 = ((qE q_2 ((fw_g W 366 0)).toNat h.toNat : Nat) : Int)))) → ((r3 ≤ least → -2147483648 ≤ n + (1 : Int) ∧ n + (1 : Int) ≤ 2147483647 ∧ (-2147483648 ≤ h + (1 : Int) ∧ h + (1 : Int) ≤ 2147483647 ∧ (jf fw_T (d + 3) 294 58 [(0, .inr (.inl 352)), (1, .inl two), (2, .inl h), (3, .inl (n + (1 : Int))), (4, .inl least), (5, .inl (h + (1 : Int)))] [] W Post))) ∧ (least < r3 → -2147483648 ≤ h + (1 : Int) ∧ h + (1 : Int) ≤ 2147483647 ∧ (jf fw_T (d + 3) 294 58 [(0, .inr (.inl 352)), (1, .inl one), (2, .inl two), (3, .inl n), (4, .inl least), (5, .inl (h + (1 : Int)))] [] W Post)))))))) :
    jf fw_T (d + 3) 294 58 [(0, .inr (.inl 352)), (1, .inl one), (2, .inl two), (3, .inl n), (4, .inl least), (5, .inl h)] [] W Post := fw_ok (n := 19) (ss := [(16, [0, 1, 2, 3, 4, 5]), (58, [0, 1, 2, 3, 4, 5])]) (hv := []) fr_294_ok fm_ok (ct_isSoByFar3_ok d) hw_

theorem s_isSoByFar3_16 {Post : Option fw_V → fw_W → Prop} {d : Nat} {W : fw_W} {one two n least h : Int}
    (hw_ : (True) ∧ ((((fw_g W 366 0) ≤ h → jf fw_T (d + 3) 294 58 [(0, .inr (.inl 352)), (1, .inl one), (2, .inl two), (3, .inl n), (4, .inl least), (5, .inl (0 : Int))] [] W Post) ∧ (h < (fw_g W 366 0) → ∃ (q_1 : List Nat), (qok ((fw_g W 366 0)).toNat q_1 = true ∧ 2 ≤ (fw_g W 366 0) ∧ (fw_g W 366 0) ≤ 6 ∧ (∀ x_, 1 ≤ x_ → x_ < (fw_g W 366 0) → (fw_g W 366 (2 + 3 * x_)) = ((qp q_1 x_.toNat : Nat) : Int))) ∧ (mt W ∧ 0 ≤ (fw_g W 366 0) ∧ (fw_g W 366 0) ≤ 14 ∧ 0 ≤ h ∧ h < (fw_g W 366 0) ∧ (∀ u_ t_, 0 ≤ u_ → u_ < (fw_g W 366 0) → 0 ≤ t_ → t_ < (fw_g W 366 0) → (fw_g W 367 (14 * u_ + t_)) = zD q_1 u_ t_)) ∧ (∀ (r2 : Int), ((-2147483648 ≤ r2 ∧ r2 ≤ 2147483647 ∧ (r2 = ((qE q_1 ((fw_g W 366 0)).toNat h.toNat : Nat) : Int)))) → ((least ≤ r2 → -2147483648 ≤ h + (1 : Int) ∧ h + (1 : Int) ≤ 2147483647 ∧ (jf fw_T (d + 3) 294 16 [(0, .inr (.inl 352)), (1, .inl one), (2, .inl two), (3, .inl n), (4, .inl least), (5, .inl (h + (1 : Int)))] [] W Post)) ∧ (r2 < least → ∃ (q_3 : List Nat), (qok ((fw_g W 366 0)).toNat q_3 = true ∧ 2 ≤ (fw_g W 366 0) ∧ (fw_g W 366 0) ≤ 6 ∧ (∀ x_, 1 ≤ x_ → x_ < (fw_g W 366 0) → (fw_g W 366 (2 + 3 * x_)) = ((qp q_3 x_.toNat : Nat) : Int))) ∧ (mt W ∧ 0 ≤ (fw_g W 366 0) ∧ (fw_g W 366 0) ≤ 14 ∧ 0 ≤ h ∧ h < (fw_g W 366 0) ∧ (∀ u_ t_, 0 ≤ u_ → u_ < (fw_g W 366 0) → 0 ≤ t_ → t_ < (fw_g W 366 0) → (fw_g W 367 (14 * u_ + t_)) = zD q_3 u_ t_)) ∧ (∀ (r4 : Int), ((-2147483648 ≤ r4 ∧ r4 ≤ 2147483647 ∧ (r4 = ((qE q_3 ((fw_g W 366 0)).toNat h.toNat : Nat) : Int)))) → -2147483648 ≤ h + (1 : Int) ∧ h + (1 : Int) ≤ 2147483647 ∧ (jf fw_T (d + 3) 294 16 [(0, .inr (.inl 352)), (1, .inl one), (2, .inl two), (3, .inl n), (4, .inl r4), (5, .inl (h + (1 : Int)))] [] W Post))))))))) :
    jf fw_T (d + 3) 294 16 [(0, .inr (.inl 352)), (1, .inl one), (2, .inl two), (3, .inl n), (4, .inl least), (5, .inl h)] [] W Post := fw_ok (n := 17) (ss := [(16, [0, 1, 2, 3, 4, 5]), (58, [0, 1, 2, 3, 4, 5])]) (hv := []) fr_294_ok fm_ok (ct_isSoByFar3_ok d) hw_

theorem lm_isSoByFar3_58 {Post : Option fw_V → fw_W → Prop} {d : Nat} {W : fw_W} (q : List Nat) (hgh : qok ((fw_g W 366 0)).toNat q = true ∧ 2 ≤ (fw_g W 366 0) ∧ (fw_g W 366 0) ≤ 6 ∧ (∀ x_, 1 ≤ x_ → x_ < (fw_g W 366 0) → (fw_g W 366 (2 + 3 * x_)) = ((qp q x_.toNat : Nat) : Int))) (c1 c2 : Int) (hc : (0 ≤ c1 ∧ c1 ≤ c2 ∧ c2 < (fw_g W 366 0) ∧ (∀ h_, 0 ≤ h_ → h_ < (fw_g W 366 0) → (((qE q ((fw_g W 366 0)).toNat h_.toNat : Nat) : Int) ≤ ((qL q ((fw_g W 366 0)).toNat : Nat) : Int) ↔ h_ = c1 ∨ h_ = c2)) ∧ (c1 = c2 ∨ (1 ≤ c1 ∧ ((qp q c1.toNat : Nat) : Int) = c2) ∨ (1 ≤ c2 ∧ ((qp q c2.toNat : Nat) : Int) = c1)))) (hpre : mt W ∧ 0 ≤ (fw_g W 366 0) ∧ (fw_g W 366 0) ≤ 14 ∧ (∀ u_ t_, 0 ≤ u_ → u_ < (fw_g W 366 0) → 0 ≤ t_ → t_ < (fw_g W 366 0) → (fw_g W 367 (14 * u_ + t_)) = zD q u_ t_)) (hP : ∀ (v : Int) , (0 ≤ v ∧ v ≤ 1 ∧ (v = 1)) → Post (some (.inl v)) W)  : ∀ (m : Nat) (one two n least h : Int), ((fw_g W 366 0) - h).toNat = m → 0 ≤ h ∧ h ≤ (fw_g W 366 0) ∧ least = ((qL q ((fw_g W 366 0)).toNat : Nat) : Int) ∧ ((n = 0 ∧ h ≤ c1) ∨ (n = 1 ∧ two = c1 ∧ c1 < h ∧ (h ≤ c2 ∨ c1 = c2)) ∨ (n = 2 ∧ one = c1 ∧ two = c2 ∧ c1 < c2 ∧ c2 < h)) → jf fw_T (d + 3) 294 58 [(0, .inr (.inl 352)), (1, .inl one), (2, .inl two), (3, .inl n), (4, .inl least), (5, .inl h)] [] W Post := by
  intro m
  induction m using Nat.strongRecOn with
  | ind m ih =>
    intro one two n least h hm hi
    refine jf_rng (fun hrg => ?_)
    have hrg : -2147483648 ≤ one ∧ one ≤ 2147483647 ∧ -2147483648 ≤ two ∧ two ≤ 2147483647 ∧ -2147483648 ≤ n ∧ n ≤ 2147483647 ∧ -2147483648 ≤ least ∧ least ≤ 2147483647 ∧ -2147483648 ≤ h ∧ h ≤ 2147483647 ∧ True := hrg
    refine s_isSoByFar3_58 ?_
    have hc1 := hc.1
    have hc2 := hc.2.1
    have hc3 := hc.2.2.1
    have hm := hc.2.2.2.1 h hi.1

    repeat' (first
      | (exact hpre.2.2.2)
      | (exact True.intro)
      | (exact hpre.1)
      | (refine And.intro ?_ ?_)
      | (refine (ih _ (by omega) _ _ _ _ _ rfl ?_); (first | omega | trivial))
      | (refine hP _ ?_; (refine ⟨by omega, by omega, ?_⟩; (first
          | omega
          | (exfalso
             have e1 : one = c1 := by omega
             have e2 : two = c2 := by omega
             subst e1
             subst e2
             rcases hc.2.2.2.2 with z | ⟨z1, z2⟩ | ⟨z1, z2⟩
             · omega
             · have := hgh.2.2.2 one z1 (by omega)
               omega
             · have := hgh.2.2.2 two z1 (by omega)
               omega))))
      | (refine ⟨q, hgh, ?_⟩)
      | omega
      | (intro _))
theorem lm_isSoByFar3_16 {Post : Option fw_V → fw_W → Prop} {d : Nat} {W : fw_W} (q : List Nat) (hgh : qok ((fw_g W 366 0)).toNat q = true ∧ 2 ≤ (fw_g W 366 0) ∧ (fw_g W 366 0) ≤ 6 ∧ (∀ x_, 1 ≤ x_ → x_ < (fw_g W 366 0) → (fw_g W 366 (2 + 3 * x_)) = ((qp q x_.toNat : Nat) : Int))) (c1 c2 : Int) (hc : (0 ≤ c1 ∧ c1 ≤ c2 ∧ c2 < (fw_g W 366 0) ∧ (∀ h_, 0 ≤ h_ → h_ < (fw_g W 366 0) → (((qE q ((fw_g W 366 0)).toNat h_.toNat : Nat) : Int) ≤ ((qL q ((fw_g W 366 0)).toNat : Nat) : Int) ↔ h_ = c1 ∨ h_ = c2)) ∧ (c1 = c2 ∨ (1 ≤ c1 ∧ ((qp q c1.toNat : Nat) : Int) = c2) ∨ (1 ≤ c2 ∧ ((qp q c2.toNat : Nat) : Int) = c1)))) (hpre : mt W ∧ 0 ≤ (fw_g W 366 0) ∧ (fw_g W 366 0) ≤ 14 ∧ (∀ u_ t_, 0 ≤ u_ → u_ < (fw_g W 366 0) → 0 ≤ t_ → t_ < (fw_g W 366 0) → (fw_g W 367 (14 * u_ + t_)) = zD q u_ t_)) (hP : ∀ (v : Int) , (0 ≤ v ∧ v ≤ 1 ∧ (v = 1)) → Post (some (.inl v)) W)  : ∀ (m : Nat) (one two n least h : Int), ((fw_g W 366 0) - h).toNat = m → n = 0 ∧ 1 ≤ h ∧ h ≤ (fw_g W 366 0) ∧ 0 ≤ least ∧ least = ((qmn (qE q ((fw_g W 366 0)).toNat) h.toNat : Nat) : Int) → jf fw_T (d + 3) 294 16 [(0, .inr (.inl 352)), (1, .inl one), (2, .inl two), (3, .inl n), (4, .inl least), (5, .inl h)] [] W Post := by
  intro m
  induction m using Nat.strongRecOn with
  | ind m ih =>
    intro one two n least h hm hi
    refine jf_rng (fun hrg => ?_)
    have hrg : -2147483648 ≤ one ∧ one ≤ 2147483647 ∧ -2147483648 ≤ two ∧ two ≤ 2147483647 ∧ -2147483648 ≤ n ∧ n ≤ 2147483647 ∧ -2147483648 ≤ least ∧ least ≤ 2147483647 ∧ -2147483648 ≤ h ∧ h ≤ 2147483647 ∧ True := hrg
    refine s_isSoByFar3_16 ?_
    have st := qmn_i (qE q ((fw_g W 366 0)).toNat) (k := h) (by have := hi.2.1; omega)
    have hc1 := hc.1
    have hi2 := hi.2.1
    have hi3 := hi.2.2.1
    repeat' (first
      | (exact hpre.2.2.2)
      | (exact True.intro)
      | (exact hpre.1)
      | (refine And.intro ?_ ?_)
      | (refine (ih _ (by omega) _ _ _ _ _ rfl ?_); (first | omega | trivial))
      | (refine (lm_isSoByFar3_58 q hgh c1 c2 hc hpre hP _ _ _ _ _ _ rfl ?_); (
        refine ⟨by omega, by omega, ?_, by omega⟩
        have hN : h = (fw_g W 366 0) := by omega
        have q9 := hi.2.2.2.2
        rw [hN] at q9
        exact q9))
      | (refine hP _ ?_; (refine ⟨by omega, by omega, ?_⟩; (first
          | omega
          | (exfalso
             have e1 : one = c1 := by omega
             have e2 : two = c2 := by omega
             subst e1
             subst e2
             rcases hc.2.2.2.2 with z | ⟨z1, z2⟩ | ⟨z1, z2⟩
             · omega
             · have := hgh.2.2.2 one z1 (by omega)
               omega
             · have := hgh.2.2.2 two z1 (by omega)
               omega))))
      | (refine ⟨q, hgh, ?_⟩)
      | omega
      | (intro _))
def x_isSoByFar3 : fw_X := fun as W Q => match as with
  | [.inr (.inl s_)] => fw_if (Nat.beq s_ 352) (∃ (q : List Nat), (qok ((fw_g W 366 0)).toNat q = true ∧ 2 ≤ (fw_g W 366 0) ∧ (fw_g W 366 0) ≤ 6 ∧ (∀ x_, 1 ≤ x_ → x_ < (fw_g W 366 0) → (fw_g W 366 (2 + 3 * x_)) = ((qp q x_.toNat : Nat) : Int))) ∧ (mt W ∧ 0 ≤ (fw_g W 366 0) ∧ (fw_g W 366 0) ≤ 14 ∧ (∀ u_ t_, 0 ≤ u_ → u_ < (fw_g W 366 0) → 0 ≤ t_ → t_ < (fw_g W 366 0) → (fw_g W 367 (14 * u_ + t_)) = zD q u_ t_)) ∧ (∀ (v : Int), (0 ≤ v ∧ v ≤ 1 ∧ (v = 1)) → Q (some (.inl v)) W))
  | _ => False
theorem x_isSoByFar3_ok (d : Nat) (as : List fw_V) (W : fw_W) (Q : Option fw_V → fw_W → Prop) (hx : x_isSoByFar3 as W Q) : jf fw_T (d + 3) 294 0 (fw_args 0 as) [] W Q := by
  unfold x_isSoByFar3 at hx
  split at hx
  · rename_i s_
    obtain ⟨e_, q, hgh, hpre, hQ⟩ := fw_if_ok hx
    have e_ := Nat.eq_of_beq_eq_true e_
    subst e_
    have hP := hQ
    obtain ⟨c1, c2, hc⟩ := q0_i hgh.1
    refine s_isSoByFar3_0 ?_
    repeat' (first
      | (exact hpre.2.2.2)
      | (exact True.intro)
      | (exact hpre.1)
      | (refine And.intro ?_ ?_)
      | (refine (lm_isSoByFar3_16 q hgh c1 c2 hc hpre hP _ _ _ _ _ _ rfl ?_); (rename_i r1 hr1; exact ⟨rfl, by omega, by omega, by omega, by rw [qmn_1]; exact hr1.2.2⟩))
      | (refine (lm_isSoByFar3_58 q hgh c1 c2 hc hpre hP _ _ _ _ _ _ rfl ?_); (first | omega | trivial))
      | (refine hP _ ?_; (refine ⟨by omega, by omega, ?_⟩; (first
          | omega
          | (exfalso
             have e1 : one = c1 := by omega
             have e2 : two = c2 := by omega
             subst e1
             subst e2
             rcases hc.2.2.2.2 with z | ⟨z1, z2⟩ | ⟨z1, z2⟩
             · omega
             · have := hgh.2.2.2 one z1 (by omega)
               omega
             · have := hgh.2.2.2 two z1 (by omega)
               omega))))
      | (refine ⟨q, hgh, ?_⟩)
      | omega
      | (intro _))
  · exact hx.elim

