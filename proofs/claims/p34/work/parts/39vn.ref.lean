/-! the reference, method by method -/
def fr_206 : fw_P := [(0, 2, 0, 0, 0), (1, 64, 196, 0, 112), (4, 21, 8, 0, 0), (7, 72, 0, 0, 0), (8, 1, 1, 0, 0), (9, 20, 19, 0, 0), (12, 2, 0, 0, 0), (13, 64, 191, 0, 312), (16, 6, 23, 0, 0), (19, 2, 0, 0, 0), (20, 64, 200, 0, 112), (23, 72, 0, 0, 0)]
theorem fr_206_ok : fw_mk 206 2 12 none fr_206 = true := by decide +kernel
def ct_must : List (Nat × fw_X) := [(191, x_goOn), (196, x_isGood), (200, x_misplaced)]
theorem ct_must_ok (d : Nat) : fw_cok fw_T (d + 2) ct_must := by
  intro q hq as W Q h
  simp only [ct_must, List.mem_cons, List.not_mem_nil, or_false] at hq
  rcases hq with rfl | rfl | rfl
  · exact jc_of (x_goOn_ok (d + 0) as W Q h)
  · exact jc_of (x_isGood_ok (d + 1) as W Q h)
  · exact jc_of (x_misplaced_ok (d + 0) as W Q h)
theorem s_must_0 {Post : Option fw_V → fw_W → Prop} {d : Nat} {W : fw_W} {is : Int}
    (hw_ : (True) ∧ (∀ (r1 : Int), ((0 ≤ r1 ∧ r1 ≤ 1 ∧ ((r1 = 1 ∧ (fw_g W 352 4) = 0) ∨ (r1 = 0 ∧ ¬ (fw_g W 352 4) = 0)))) → ((¬ r1 = 0 → ((is = 0 → (True) ∧ (∀ (f2 : fw_W), ((0 < (fw_g f2 352 4))) → Post none (fw_put [] 352 [4, 5] W f2))) ∧ (¬ is = 0 → (0 ≤ (fw_g W 352 7) ∧ (fw_g W 352 7) ≤ (fw_g W 352 3) ∧ (fw_g W 352 3) ≤ 1200) ∧ (∀ (f3 : fw_W), ((0 ≤ (fw_g f3 352 7) ∧ (fw_g W 352 7) ≤ (fw_g f3 352 7) ∧ (fw_g f3 352 7) ≤ (fw_g W 352 3) ∧ ((fw_g f3 352 8) = 0 → (fw_g f3 352 7) = (fw_g W 352 3)) ∧ ((fw_g f3 352 8) = 0 ∨ (fw_g W 352 7) < (fw_g f3 352 7)))) → Post none (fw_put [999] 352 [7, 6, 8, 9] W f3))))) ∧ (r1 = 0 → Post none W)))) :
    jf fw_T (d + 3) 206 0 [(0, .inr (.inl 352)), (1, .inl is)] [] W Post := fw_ok (n := 10) (ss := []) (hv := []) fr_206_ok fm_ok (ct_must_ok d) hw_

def x_must : fw_X := fun as W Q => match as with
  | [.inr (.inl s_), .inl is] => fw_if (Nat.beq s_ 352) (((0 ≤ (fw_g W 352 7) ∧ (fw_g W 352 7) ≤ (fw_g W 352 3) ∧ (fw_g W 352 3) ≤ 1200 ∧ ((fw_g W 352 8) = 0 → (fw_g W 352 7) = (fw_g W 352 3)))) ∧ (∀ (f : fw_W), ((0 ≤ (fw_g f 352 7) ∧ (fw_g f 352 7) ≤ (fw_g W 352 3) ∧ ((fw_g f 352 8) = 0 → (fw_g f 352 7) = (fw_g W 352 3))) ∧ ((fw_g W 352 7) ≤ (fw_g f 352 7) ∧ ((fw_g f 352 8) = 0 ∨ (fw_g W 352 7) < (fw_g f 352 7) ∨ (fw_g f 352 8) = (fw_g W 352 8)))) → Q none (fw_put [999] 352 [7, 6, 8, 9, 4, 5] W f)))
  | _ => False
theorem x_must_ok (d : Nat) (as : List fw_V) (W : fw_W) (Q : Option fw_V → fw_W → Prop) (hx : x_must as W Q) : jf fw_T (d + 3) 206 0 (fw_args 0 as) [] W Q := by
  unfold x_must at hx
  split at hx
  · rename_i s_ is
    obtain ⟨e_, hpre, hQ⟩ := fw_if_ok hx
    have e_ := Nat.eq_of_beq_eq_true e_
    subst e_
    have hP : ∀ (W2 : fw_W), fw_sm [999] 352 [7, 6, 8, 9, 4, 5] W W2 → _ → Q none W2 := fun W2 hs hr => fw_sm_use (Q := fun Z => Q none Z) hs (hQ W2 hr)
    refine s_must_0 ?_
    repeat' (first
      | (exact True.intro)
      | (exact hpre.1)
      | (refine And.intro ?_ ?_)
      | (refine hP _ (by repeat (first | exact fw_sm_refl | exact fw_sm_put0 | refine fw_sm_arr ?_ rfl | refine fw_sm_up ?_ rfl | refine fw_sm_put ?_ rfl | refine fw_sm_cp ?_ rfl)) ?_; (first | omega | (simp (disch := first | decide | omega) only [fg_same, fg_lit, fg_in, fg_fin, fg_out, fg_fout, fg_up, true_and, and_true, true_or, or_true, true_implies]; omega) | (simp (disch := first | decide | omega) only [fg_same, fg_lit, fg_in, fg_fin, fg_out, fg_fout, fg_up, true_and, and_true, true_or, or_true, true_implies]; first | done | omega)))
      | omega
      | (intro _))
  · exact hx.elim

def fr_209 : fw_P := [(0, 2, 0, 0, 0), (1, 64, 196, 0, 112), (4, 21, 9, 0, 0), (7, 1, 1, 0, 0), (8, 70, 0, 0, 0), (9, 2, 0, 0, 0), (10, 50, 12, 8, 0), (13, 0, 0, 0, 4), (14, 10, 21, 0, 0), (17, 2, 0, 0, 0), (18, 64, 200, 0, 112), (21, 2, 0, 0, 0), (22, 64, 196, 0, 112), (25, 20, 53, 0, 0), (28, 2, 0, 0, 0), (29, 50, 12, 9, 0), (32, 1, 1, 0, 0), (33, 12, 44, 0, 0), (36, 2, 0, 0, 0), (37, 50, 12, 9, 0), (40, 1, 2, 0, 0), (41, 15, 53, 0, 0), (44, 2, 0, 0, 0), (45, 0, 0, 0, 4), (46, 2, 0, 0, 0), (47, 50, 12, 6, 0), (50, 64, 201, 2, 312), (53, 2, 0, 0, 0), (54, 50, 12, 9, 0), (57, 3, 3, 0, 0), (58, 2, 0, 0, 0), (59, 64, 196, 0, 112), (62, 20, 69, 0, 0), (65, 2, 0, 0, 0), (66, 64, 191, 0, 312), (69, 2, 0, 0, 0), (70, 64, 196, 0, 112), (73, 20, 80, 0, 0), (76, 1, 3, 0, 0), (77, 6, 81, 0, 0), (80, 1, 1, 0, 0), (81, 70, 0, 0, 0)]
theorem fr_209_ok : fw_mk 209 4 12 (some .int) fr_209 = true := by decide +kernel
def ct_numeral : List (Nat × fw_X) := [(201, x_fails), (191, x_goOn), (196, x_isGood), (200, x_misplaced)]
theorem ct_numeral_ok (d : Nat) : fw_cok fw_T (d + 2) ct_numeral := by
  intro q hq as W Q h
  simp only [ct_numeral, List.mem_cons, List.not_mem_nil, or_false] at hq
  rcases hq with rfl | rfl | rfl | rfl
  · exact jc_of (x_fails_ok (d + 1) as W Q h)
  · exact jc_of (x_goOn_ok (d + 0) as W Q h)
  · exact jc_of (x_isGood_ok (d + 1) as W Q h)
  · exact jc_of (x_misplaced_ok (d + 0) as W Q h)
theorem s_numeral_0 {Post : Option fw_V → fw_W → Prop} {d : Nat} {W : fw_W} {l u : Int}
    (hw_ : (True) ∧ (∀ (r1 : Int), ((0 ≤ r1 ∧ r1 ≤ 1 ∧ ((r1 = 1 ∧ (fw_g W 352 4) = 0) ∨ (r1 = 0 ∧ ¬ (fw_g W 352 4) = 0)))) → ((¬ r1 = 0 → (0 ≤ (fw_g W 352 8) → (fw_g W 352 8) ≤ 5 → (((fw_g W 352 8) = (4 : Int) → (True) ∧ (∀ (r2 : Int), ((0 ≤ r2 ∧ r2 ≤ 1 ∧ ((r2 = 1 ∧ (fw_g W 352 4) = 0) ∨ (r2 = 0 ∧ ¬ (fw_g W 352 4) = 0)))) → ((r2 = 0 → (-2147483648 ≤ (fw_g W 352 9) → (fw_g W 352 9) ≤ 2147483647 → (True) ∧ (∀ (r3 : Int), ((0 ≤ r3 ∧ r3 ≤ 1 ∧ ((r3 = 1 ∧ (fw_g W 352 4) = 0) ∨ (r3 = 0 ∧ ¬ (fw_g W 352 4) = 0)))) → ((r3 = 0 → (True) ∧ (∀ (r4 : Int), ((0 ≤ r4 ∧ r4 ≤ 1 ∧ ((r4 = 1 ∧ (fw_g W 352 4) = 0) ∨ (r4 = 0 ∧ ¬ (fw_g W 352 4) = 0)))) → ((r4 = 0 → (-2147483648 ≤ l → l ≤ 2147483647 → Post (some (.inl l)) W)) ∧ (¬ r4 = 0 → (-2147483648 ≤ (fw_g W 352 9) → (fw_g W 352 9) ≤ 2147483647 → Post (some (.inl (fw_g W 352 9))) W))))) ∧ (¬ r3 = 0 → (0 ≤ (fw_g W 352 7) ∧ (fw_g W 352 7) ≤ (fw_g W 352 3) ∧ (fw_g W 352 3) ≤ 1200) ∧ (∀ (f5 : fw_W), ((0 ≤ (fw_g f5 352 7) ∧ (fw_g W 352 7) ≤ (fw_g f5 352 7) ∧ (fw_g f5 352 7) ≤ (fw_g W 352 3) ∧ ((fw_g f5 352 8) = 0 → (fw_g f5 352 7) = (fw_g W 352 3)) ∧ ((fw_g f5 352 8) = 0 ∨ (fw_g W 352 7) < (fw_g f5 352 7)))) → (True) ∧ (∀ (r6 : Int), ((0 ≤ r6 ∧ r6 ≤ 1 ∧ ((r6 = 1 ∧ (fw_g W 352 4) = 0) ∨ (r6 = 0 ∧ ¬ (fw_g W 352 4) = 0)))) → ((r6 = 0 → (-2147483648 ≤ l → l ≤ 2147483647 → Post (some (.inl l)) (fw_put [999] 352 [7, 6, 8, 9] W f5))) ∧ (¬ r6 = 0 → (-2147483648 ≤ (fw_g W 352 9) → (fw_g W 352 9) ≤ 2147483647 → Post (some (.inl (fw_g W 352 9))) (fw_put [999] 352 [7, 6, 8, 9] W f5))))))))))) ∧ (¬ r2 = 0 → (-2147483648 ≤ (fw_g W 352 9) → (fw_g W 352 9) ≤ 2147483647 → (((fw_g W 352 9) < l → (0 ≤ (fw_g W 352 6) → (fw_g W 352 6) ≤ 1200 → (1 ≤ (4 : Int)) ∧ (∀ (f7 : fw_W), (((0 < (fw_g W 352 4) ∧ (fw_g f7 352 4) = (fw_g W 352 4)) ∨ ((fw_g W 352 4) ≤ 0 ∧ (fw_g f7 352 4) = (4 : Int)))) → (-2147483648 ≤ (fw_g W 352 9) → (fw_g W 352 9) ≤ 2147483647 → (True) ∧ (∀ (r8 : Int), ((0 ≤ r8 ∧ r8 ≤ 1 ∧ ((r8 = 1 ∧ (fw_g f7 352 4) = 0) ∨ (r8 = 0 ∧ ¬ (fw_g f7 352 4) = 0)))) → ((r8 = 0 → (True) ∧ (∀ (r9 : Int), ((0 ≤ r9 ∧ r9 ≤ 1 ∧ ((r9 = 1 ∧ (fw_g f7 352 4) = 0) ∨ (r9 = 0 ∧ ¬ (fw_g f7 352 4) = 0)))) → ((r9 = 0 → (-2147483648 ≤ l → l ≤ 2147483647 → Post (some (.inl l)) (fw_put [] 352 [4, 5] W f7))) ∧ (¬ r9 = 0 → (-2147483648 ≤ (fw_g W 352 9) → (fw_g W 352 9) ≤ 2147483647 → Post (some (.inl (fw_g W 352 9))) (fw_put [] 352 [4, 5] W f7)))))) ∧ (¬ r8 = 0 → (0 ≤ (fw_g W 352 7) ∧ (fw_g W 352 7) ≤ (fw_g W 352 3) ∧ (fw_g W 352 3) ≤ 1200) ∧ (∀ (f10 : fw_W), ((0 ≤ (fw_g f10 352 7) ∧ (fw_g W 352 7) ≤ (fw_g f10 352 7) ∧ (fw_g f10 352 7) ≤ (fw_g W 352 3) ∧ ((fw_g f10 352 8) = 0 → (fw_g f10 352 7) = (fw_g W 352 3)) ∧ ((fw_g f10 352 8) = 0 ∨ (fw_g W 352 7) < (fw_g f10 352 7)))) → (True) ∧ (∀ (r11 : Int), ((0 ≤ r11 ∧ r11 ≤ 1 ∧ ((r11 = 1 ∧ (fw_g f7 352 4) = 0) ∨ (r11 = 0 ∧ ¬ (fw_g f7 352 4) = 0)))) → ((r11 = 0 → (-2147483648 ≤ l → l ≤ 2147483647 → Post (some (.inl l)) (fw_put [999] 352 [7, 6, 8, 9] (fw_put [] 352 [4, 5] W f7) f10))) ∧ (¬ r11 = 0 → (-2147483648 ≤ (fw_g W 352 9) → (fw_g W 352 9) ≤ 2147483647 → Post (some (.inl (fw_g W 352 9))) (fw_put [999] 352 [7, 6, 8, 9] (fw_put [] 352 [4, 5] W f7) f10))))))))))))) ∧ (l ≤ (fw_g W 352 9) → (-2147483648 ≤ (fw_g W 352 9) → (fw_g W 352 9) ≤ 2147483647 → (((fw_g W 352 9) ≤ u → (-2147483648 ≤ (fw_g W 352 9) → (fw_g W 352 9) ≤ 2147483647 → (True) ∧ (∀ (r12 : Int), ((0 ≤ r12 ∧ r12 ≤ 1 ∧ ((r12 = 1 ∧ (fw_g W 352 4) = 0) ∨ (r12 = 0 ∧ ¬ (fw_g W 352 4) = 0)))) → ((r12 = 0 → (True) ∧ (∀ (r13 : Int), ((0 ≤ r13 ∧ r13 ≤ 1 ∧ ((r13 = 1 ∧ (fw_g W 352 4) = 0) ∨ (r13 = 0 ∧ ¬ (fw_g W 352 4) = 0)))) → ((r13 = 0 → (-2147483648 ≤ l → l ≤ 2147483647 → Post (some (.inl l)) W)) ∧ (¬ r13 = 0 → (-2147483648 ≤ (fw_g W 352 9) → (fw_g W 352 9) ≤ 2147483647 → Post (some (.inl (fw_g W 352 9))) W))))) ∧ (¬ r12 = 0 → (0 ≤ (fw_g W 352 7) ∧ (fw_g W 352 7) ≤ (fw_g W 352 3) ∧ (fw_g W 352 3) ≤ 1200) ∧ (∀ (f14 : fw_W), ((0 ≤ (fw_g f14 352 7) ∧ (fw_g W 352 7) ≤ (fw_g f14 352 7) ∧ (fw_g f14 352 7) ≤ (fw_g W 352 3) ∧ ((fw_g f14 352 8) = 0 → (fw_g f14 352 7) = (fw_g W 352 3)) ∧ ((fw_g f14 352 8) = 0 ∨ (fw_g W 352 7) < (fw_g f14 352 7)))) → (True) ∧ (∀ (r15 : Int), ((0 ≤ r15 ∧ r15 ≤ 1 ∧ ((r15 = 1 ∧ (fw_g W 352 4) = 0) ∨ (r15 = 0 ∧ ¬ (fw_g W 352 4) = 0)))) → ((r15 = 0 → (-2147483648 ≤ l → l ≤ 2147483647 → Post (some (.inl l)) (fw_put [999] 352 [7, 6, 8, 9] W f14))) ∧ (¬ r15 = 0 → (-2147483648 ≤ (fw_g W 352 9) → (fw_g W 352 9) ≤ 2147483647 → Post (some (.inl (fw_g W 352 9))) (fw_put [999] 352 [7, 6, 8, 9] W f14))))))))))) ∧ (u < (fw_g W 352 9) → (0 ≤ (fw_g W 352 6) → (fw_g W 352 6) ≤ 1200 → (1 ≤ (4 : Int)) ∧ (∀ (f16 : fw_W), (((0 < (fw_g W 352 4) ∧ (fw_g f16 352 4) = (fw_g W 352 4)) ∨ ((fw_g W 352 4) ≤ 0 ∧ (fw_g f16 352 4) = (4 : Int)))) → (-2147483648 ≤ (fw_g W 352 9) → (fw_g W 352 9) ≤ 2147483647 → (True) ∧ (∀ (r17 : Int), ((0 ≤ r17 ∧ r17 ≤ 1 ∧ ((r17 = 1 ∧ (fw_g f16 352 4) = 0) ∨ (r17 = 0 ∧ ¬ (fw_g f16 352 4) = 0)))) → ((r17 = 0 → (True) ∧ (∀ (r18 : Int), ((0 ≤ r18 ∧ r18 ≤ 1 ∧ ((r18 = 1 ∧ (fw_g f16 352 4) = 0) ∨ (r18 = 0 ∧ ¬ (fw_g f16 352 4) = 0)))) → ((r18 = 0 → (-2147483648 ≤ l → l ≤ 2147483647 → Post (some (.inl l)) (fw_put [] 352 [4, 5] W f16))) ∧ (¬ r18 = 0 → (-2147483648 ≤ (fw_g W 352 9) → (fw_g W 352 9) ≤ 2147483647 → Post (some (.inl (fw_g W 352 9))) (fw_put [] 352 [4, 5] W f16)))))) ∧ (¬ r17 = 0 → (0 ≤ (fw_g W 352 7) ∧ (fw_g W 352 7) ≤ (fw_g W 352 3) ∧ (fw_g W 352 3) ≤ 1200) ∧ (∀ (f19 : fw_W), ((0 ≤ (fw_g f19 352 7) ∧ (fw_g W 352 7) ≤ (fw_g f19 352 7) ∧ (fw_g f19 352 7) ≤ (fw_g W 352 3) ∧ ((fw_g f19 352 8) = 0 → (fw_g f19 352 7) = (fw_g W 352 3)) ∧ ((fw_g f19 352 8) = 0 ∨ (fw_g W 352 7) < (fw_g f19 352 7)))) → (True) ∧ (∀ (r20 : Int), ((0 ≤ r20 ∧ r20 ≤ 1 ∧ ((r20 = 1 ∧ (fw_g f16 352 4) = 0) ∨ (r20 = 0 ∧ ¬ (fw_g f16 352 4) = 0)))) → ((r20 = 0 → (-2147483648 ≤ l → l ≤ 2147483647 → Post (some (.inl l)) (fw_put [999] 352 [7, 6, 8, 9] (fw_put [] 352 [4, 5] W f16) f19))) ∧ (¬ r20 = 0 → (-2147483648 ≤ (fw_g W 352 9) → (fw_g W 352 9) ≤ 2147483647 → Post (some (.inl (fw_g W 352 9))) (fw_put [999] 352 [7, 6, 8, 9] (fw_put [] 352 [4, 5] W f16) f19)))))))))))))))))))))) ∧ (¬ (fw_g W 352 8) = (4 : Int) → (True) ∧ (∀ (f21 : fw_W), ((0 < (fw_g f21 352 4))) → (True) ∧ (∀ (r22 : Int), ((0 ≤ r22 ∧ r22 ≤ 1 ∧ ((r22 = 1 ∧ (fw_g f21 352 4) = 0) ∨ (r22 = 0 ∧ ¬ (fw_g f21 352 4) = 0)))) → ((r22 = 0 → (-2147483648 ≤ (fw_g W 352 9) → (fw_g W 352 9) ≤ 2147483647 → (True) ∧ (∀ (r23 : Int), ((0 ≤ r23 ∧ r23 ≤ 1 ∧ ((r23 = 1 ∧ (fw_g f21 352 4) = 0) ∨ (r23 = 0 ∧ ¬ (fw_g f21 352 4) = 0)))) → ((r23 = 0 → (True) ∧ (∀ (r24 : Int), ((0 ≤ r24 ∧ r24 ≤ 1 ∧ ((r24 = 1 ∧ (fw_g f21 352 4) = 0) ∨ (r24 = 0 ∧ ¬ (fw_g f21 352 4) = 0)))) → ((r24 = 0 → (-2147483648 ≤ l → l ≤ 2147483647 → Post (some (.inl l)) (fw_put [] 352 [4, 5] W f21))) ∧ (¬ r24 = 0 → (-2147483648 ≤ (fw_g W 352 9) → (fw_g W 352 9) ≤ 2147483647 → Post (some (.inl (fw_g W 352 9))) (fw_put [] 352 [4, 5] W f21)))))) ∧ (¬ r23 = 0 → (0 ≤ (fw_g W 352 7) ∧ (fw_g W 352 7) ≤ (fw_g W 352 3) ∧ (fw_g W 352 3) ≤ 1200) ∧ (∀ (f25 : fw_W), ((0 ≤ (fw_g f25 352 7) ∧ (fw_g W 352 7) ≤ (fw_g f25 352 7) ∧ (fw_g f25 352 7) ≤ (fw_g W 352 3) ∧ ((fw_g f25 352 8) = 0 → (fw_g f25 352 7) = (fw_g W 352 3)) ∧ ((fw_g f25 352 8) = 0 ∨ (fw_g W 352 7) < (fw_g f25 352 7)))) → (True) ∧ (∀ (r26 : Int), ((0 ≤ r26 ∧ r26 ≤ 1 ∧ ((r26 = 1 ∧ (fw_g f21 352 4) = 0) ∨ (r26 = 0 ∧ ¬ (fw_g f21 352 4) = 0)))) → ((r26 = 0 → (-2147483648 ≤ l → l ≤ 2147483647 → Post (some (.inl l)) (fw_put [999] 352 [7, 6, 8, 9] (fw_put [] 352 [4, 5] W f21) f25))) ∧ (¬ r26 = 0 → (-2147483648 ≤ (fw_g W 352 9) → (fw_g W 352 9) ≤ 2147483647 → Post (some (.inl (fw_g W 352 9))) (fw_put [999] 352 [7, 6, 8, 9] (fw_put [] 352 [4, 5] W f21) f25))))))))))) ∧ (¬ r22 = 0 → (-2147483648 ≤ (fw_g W 352 9) → (fw_g W 352 9) ≤ 2147483647 → (((fw_g W 352 9) < l → (0 ≤ (fw_g W 352 6) → (fw_g W 352 6) ≤ 1200 → (1 ≤ (4 : Int)) ∧ (∀ (f27 : fw_W), (((0 < (fw_g f21 352 4) ∧ (fw_g f27 352 4) = (fw_g f21 352 4)) ∨ ((fw_g f21 352 4) ≤ 0 ∧ (fw_g f27 352 4) = (4 : Int)))) → (-2147483648 ≤ (fw_g W 352 9) → (fw_g W 352 9) ≤ 2147483647 → (True) ∧ (∀ (r28 : Int), ((0 ≤ r28 ∧ r28 ≤ 1 ∧ ((r28 = 1 ∧ (fw_g f27 352 4) = 0) ∨ (r28 = 0 ∧ ¬ (fw_g f27 352 4) = 0)))) → ((r28 = 0 → (True) ∧ (∀ (r29 : Int), ((0 ≤ r29 ∧ r29 ≤ 1 ∧ ((r29 = 1 ∧ (fw_g f27 352 4) = 0) ∨ (r29 = 0 ∧ ¬ (fw_g f27 352 4) = 0)))) → ((r29 = 0 → (-2147483648 ≤ l → l ≤ 2147483647 → Post (some (.inl l)) (fw_put [] 352 [4, 5] (fw_put [] 352 [4, 5] W f21) f27))) ∧ (¬ r29 = 0 → (-2147483648 ≤ (fw_g W 352 9) → (fw_g W 352 9) ≤ 2147483647 → Post (some (.inl (fw_g W 352 9))) (fw_put [] 352 [4, 5] (fw_put [] 352 [4, 5] W f21) f27)))))) ∧ (¬ r28 = 0 → (0 ≤ (fw_g W 352 7) ∧ (fw_g W 352 7) ≤ (fw_g W 352 3) ∧ (fw_g W 352 3) ≤ 1200) ∧ (∀ (f30 : fw_W), ((0 ≤ (fw_g f30 352 7) ∧ (fw_g W 352 7) ≤ (fw_g f30 352 7) ∧ (fw_g f30 352 7) ≤ (fw_g W 352 3) ∧ ((fw_g f30 352 8) = 0 → (fw_g f30 352 7) = (fw_g W 352 3)) ∧ ((fw_g f30 352 8) = 0 ∨ (fw_g W 352 7) < (fw_g f30 352 7)))) → (True) ∧ (∀ (r31 : Int), ((0 ≤ r31 ∧ r31 ≤ 1 ∧ ((r31 = 1 ∧ (fw_g f27 352 4) = 0) ∨ (r31 = 0 ∧ ¬ (fw_g f27 352 4) = 0)))) → ((r31 = 0 → (-2147483648 ≤ l → l ≤ 2147483647 → Post (some (.inl l)) (fw_put [999] 352 [7, 6, 8, 9] (fw_put [] 352 [4, 5] (fw_put [] 352 [4, 5] W f21) f27) f30))) ∧ (¬ r31 = 0 → (-2147483648 ≤ (fw_g W 352 9) → (fw_g W 352 9) ≤ 2147483647 → Post (some (.inl (fw_g W 352 9))) (fw_put [999] 352 [7, 6, 8, 9] (fw_put [] 352 [4, 5] (fw_put [] 352 [4, 5] W f21) f27) f30))))))))))))) ∧ (l ≤ (fw_g W 352 9) → (-2147483648 ≤ (fw_g W 352 9) → (fw_g W 352 9) ≤ 2147483647 → (((fw_g W 352 9) ≤ u → (-2147483648 ≤ (fw_g W 352 9) → (fw_g W 352 9) ≤ 2147483647 → (True) ∧ (∀ (r32 : Int), ((0 ≤ r32 ∧ r32 ≤ 1 ∧ ((r32 = 1 ∧ (fw_g f21 352 4) = 0) ∨ (r32 = 0 ∧ ¬ (fw_g f21 352 4) = 0)))) → ((r32 = 0 → (True) ∧ (∀ (r33 : Int), ((0 ≤ r33 ∧ r33 ≤ 1 ∧ ((r33 = 1 ∧ (fw_g f21 352 4) = 0) ∨ (r33 = 0 ∧ ¬ (fw_g f21 352 4) = 0)))) → ((r33 = 0 → (-2147483648 ≤ l → l ≤ 2147483647 → Post (some (.inl l)) (fw_put [] 352 [4, 5] W f21))) ∧ (¬ r33 = 0 → (-2147483648 ≤ (fw_g W 352 9) → (fw_g W 352 9) ≤ 2147483647 → Post (some (.inl (fw_g W 352 9))) (fw_put [] 352 [4, 5] W f21)))))) ∧ (¬ r32 = 0 → (0 ≤ (fw_g W 352 7) ∧ (fw_g W 352 7) ≤ (fw_g W 352 3) ∧ (fw_g W 352 3) ≤ 1200) ∧ (∀ (f34 : fw_W), ((0 ≤ (fw_g f34 352 7) ∧ (fw_g W 352 7) ≤ (fw_g f34 352 7) ∧ (fw_g f34 352 7) ≤ (fw_g W 352 3) ∧ ((fw_g f34 352 8) = 0 → (fw_g f34 352 7) = (fw_g W 352 3)) ∧ ((fw_g f34 352 8) = 0 ∨ (fw_g W 352 7) < (fw_g f34 352 7)))) → (True) ∧ (∀ (r35 : Int), ((0 ≤ r35 ∧ r35 ≤ 1 ∧ ((r35 = 1 ∧ (fw_g f21 352 4) = 0) ∨ (r35 = 0 ∧ ¬ (fw_g f21 352 4) = 0)))) → ((r35 = 0 → (-2147483648 ≤ l → l ≤ 2147483647 → Post (some (.inl l)) (fw_put [999] 352 [7, 6, 8, 9] (fw_put [] 352 [4, 5] W f21) f34))) ∧ (¬ r35 = 0 → (-2147483648 ≤ (fw_g W 352 9) → (fw_g W 352 9) ≤ 2147483647 → Post (some (.inl (fw_g W 352 9))) (fw_put [999] 352 [7, 6, 8, 9] (fw_put [] 352 [4, 5] W f21) f34))))))))))) ∧ (u < (fw_g W 352 9) → (0 ≤ (fw_g W 352 6) → (fw_g W 352 6) ≤ 1200 → (1 ≤ (4 : Int)) ∧ (∀ (f36 : fw_W), (((0 < (fw_g f21 352 4) ∧ (fw_g f36 352 4) = (fw_g f21 352 4)) ∨ ((fw_g f21 352 4) ≤ 0 ∧ (fw_g f36 352 4) = (4 : Int)))) → (-2147483648 ≤ (fw_g W 352 9) → (fw_g W 352 9) ≤ 2147483647 → (True) ∧ (∀ (r37 : Int), ((0 ≤ r37 ∧ r37 ≤ 1 ∧ ((r37 = 1 ∧ (fw_g f36 352 4) = 0) ∨ (r37 = 0 ∧ ¬ (fw_g f36 352 4) = 0)))) → ((r37 = 0 → (True) ∧ (∀ (r38 : Int), ((0 ≤ r38 ∧ r38 ≤ 1 ∧ ((r38 = 1 ∧ (fw_g f36 352 4) = 0) ∨ (r38 = 0 ∧ ¬ (fw_g f36 352 4) = 0)))) → ((r38 = 0 → (-2147483648 ≤ l → l ≤ 2147483647 → Post (some (.inl l)) (fw_put [] 352 [4, 5] (fw_put [] 352 [4, 5] W f21) f36))) ∧ (¬ r38 = 0 → (-2147483648 ≤ (fw_g W 352 9) → (fw_g W 352 9) ≤ 2147483647 → Post (some (.inl (fw_g W 352 9))) (fw_put [] 352 [4, 5] (fw_put [] 352 [4, 5] W f21) f36)))))) ∧ (¬ r37 = 0 → (0 ≤ (fw_g W 352 7) ∧ (fw_g W 352 7) ≤ (fw_g W 352 3) ∧ (fw_g W 352 3) ≤ 1200) ∧ (∀ (f39 : fw_W), ((0 ≤ (fw_g f39 352 7) ∧ (fw_g W 352 7) ≤ (fw_g f39 352 7) ∧ (fw_g f39 352 7) ≤ (fw_g W 352 3) ∧ ((fw_g f39 352 8) = 0 → (fw_g f39 352 7) = (fw_g W 352 3)) ∧ ((fw_g f39 352 8) = 0 ∨ (fw_g W 352 7) < (fw_g f39 352 7)))) → (True) ∧ (∀ (r40 : Int), ((0 ≤ r40 ∧ r40 ≤ 1 ∧ ((r40 = 1 ∧ (fw_g f36 352 4) = 0) ∨ (r40 = 0 ∧ ¬ (fw_g f36 352 4) = 0)))) → ((r40 = 0 → (-2147483648 ≤ l → l ≤ 2147483647 → Post (some (.inl l)) (fw_put [999] 352 [7, 6, 8, 9] (fw_put [] 352 [4, 5] (fw_put [] 352 [4, 5] W f21) f36) f39))) ∧ (¬ r40 = 0 → (-2147483648 ≤ (fw_g W 352 9) → (fw_g W 352 9) ≤ 2147483647 → Post (some (.inl (fw_g W 352 9))) (fw_put [999] 352 [7, 6, 8, 9] (fw_put [] 352 [4, 5] (fw_put [] 352 [4, 5] W f21) f36) f39)))))))))))))))))))))))))) ∧ (r1 = 0 → (-2147483648 ≤ l → l ≤ 2147483647 → Post (some (.inl l)) W))))) :
    jf fw_T (d + 3) 209 0 [(0, .inr (.inl 352)), (1, .inl l), (2, .inl u)] [] W Post := fw_ok (n := 40) (ss := []) (hv := []) fr_209_ok fm_ok (ct_numeral_ok d) hw_

def x_numeral : fw_X := fun as W Q => match as with
  | [.inr (.inl s_), .inl l, .inl u] => fw_if (Nat.beq s_ 352) (((0 ≤ (fw_g W 352 7) ∧ (fw_g W 352 7) ≤ (fw_g W 352 3) ∧ (fw_g W 352 3) ≤ 1200 ∧ ((fw_g W 352 8) = 0 → (fw_g W 352 7) = (fw_g W 352 3))) ∧ l ≤ u) ∧ (∀ (v : Int) (f : fw_W), (-2147483648 ≤ v ∧ v ≤ 2147483647 ∧ ((0 ≤ (fw_g f 352 7) ∧ (fw_g f 352 7) ≤ (fw_g W 352 3) ∧ ((fw_g f 352 8) = 0 → (fw_g f 352 7) = (fw_g W 352 3))) ∧ ((fw_g W 352 7) ≤ (fw_g f 352 7) ∧ ((fw_g f 352 8) = 0 ∨ (fw_g W 352 7) < (fw_g f 352 7) ∨ (fw_g f 352 8) = (fw_g W 352 8))) ∧ l ≤ v ∧ v ≤ u)) → Q (some (.inl v)) (fw_put [999] 352 [7, 6, 8, 9, 4, 5] W f)))
  | _ => False
theorem x_numeral_ok (d : Nat) (as : List fw_V) (W : fw_W) (Q : Option fw_V → fw_W → Prop) (hx : x_numeral as W Q) : jf fw_T (d + 3) 209 0 (fw_args 0 as) [] W Q := by
  unfold x_numeral at hx
  split at hx
  · rename_i s_ l u
    obtain ⟨e_, hpre, hQ⟩ := fw_if_ok hx
    have e_ := Nat.eq_of_beq_eq_true e_
    subst e_
    have hP : ∀ (v : Int) (W2 : fw_W), fw_sm [999] 352 [7, 6, 8, 9, 4, 5] W W2 → _ → Q (some (.inl v)) W2 := fun v W2 hs hr => fw_sm_use (Q := fun Z => Q (some (.inl v)) Z) hs (hQ v W2 hr)
    refine s_numeral_0 ?_
    repeat' (first
      | (exact True.intro)
      | (exact hpre.1)
      | (refine And.intro ?_ ?_)
      | (refine hP _ _ (by repeat (first | exact fw_sm_refl | exact fw_sm_put0 | refine fw_sm_arr ?_ rfl | refine fw_sm_up ?_ rfl | refine fw_sm_put ?_ rfl | refine fw_sm_cp ?_ rfl)) ?_; (refine ⟨by omega, by omega, ?_⟩; (first | omega | (simp (disch := first | decide | omega) only [fg_same, fg_lit, fg_in, fg_fin, fg_out, fg_fout, fg_up, true_and, and_true, true_or, or_true, true_implies]; omega) | (simp (disch := first | decide | omega) only [fg_same, fg_lit, fg_in, fg_fin, fg_out, fg_fout, fg_up, true_and, and_true, true_or, or_true, true_implies]; first | done | omega))))
      | (simp (disch := first | decide | omega) only [fg_same, fg_lit, fg_in, fg_fin, fg_out, fg_fout, fg_up, true_and, and_true, true_or, or_true, true_implies]; omega)
      | omega
      | (intro _))
  · exact hx.elim

def fr_208 : fw_P := [(0, 2, 0, 0, 0), (1, 2, 0, 0, 0), (2, 81, 1, 0, 0), (3, 64, 199, 1, 312), (6, 64, 206, 1, 212), (9, 2, 0, 0, 0), (10, 1, 3, 0, 0), (11, 1, 4, 0, 0), (13, 64, 209, 2, 412), (16, 70, 0, 0, 0)]
theorem fr_208_ok : fw_mk 208 5 12 (some .int) fr_208 = true := by decide +kernel
def ct_after : List (Nat × fw_X) := [(199, x_isWord), (206, x_must), (209, x_numeral)]
theorem ct_after_ok (d : Nat) : fw_cok fw_T (d + 3) ct_after := by
  intro q hq as W Q h
  simp only [ct_after, List.mem_cons, List.not_mem_nil, or_false] at hq
  rcases hq with rfl | rfl | rfl
  · exact jc_of (x_isWord_ok (d + 2) as W Q h)
  · exact jc_of (x_must_ok (d + 0) as W Q h)
  · exact jc_of (x_numeral_ok (d + 0) as W Q h)
theorem s_after_0 {Post : Option fw_V → fw_W → Prop} {d : Nat} {W : fw_W} {l u : Int}
    (hw_ : (True) ∧ (∀ (r1 : Int), ((0 ≤ r1 ∧ r1 ≤ 1 ∧ (True))) → ((0 ≤ (fw_g W 352 7) ∧ (fw_g W 352 7) ≤ (fw_g W 352 3) ∧ (fw_g W 352 3) ≤ 1200 ∧ ((fw_g W 352 8) = 0 → (fw_g W 352 7) = (fw_g W 352 3)))) ∧ (∀ (f2 : fw_W), (((0 ≤ (fw_g f2 352 7) ∧ (fw_g f2 352 7) ≤ (fw_g W 352 3) ∧ ((fw_g f2 352 8) = 0 → (fw_g f2 352 7) = (fw_g W 352 3))) ∧ ((fw_g W 352 7) ≤ (fw_g f2 352 7) ∧ ((fw_g f2 352 8) = 0 ∨ (fw_g W 352 7) < (fw_g f2 352 7) ∨ (fw_g f2 352 8) = (fw_g W 352 8))))) → ((0 ≤ (fw_g f2 352 7) ∧ (fw_g f2 352 7) ≤ (fw_g W 352 3) ∧ (fw_g W 352 3) ≤ 1200 ∧ ((fw_g f2 352 8) = 0 → (fw_g f2 352 7) = (fw_g W 352 3))) ∧ l ≤ u) ∧ (∀ (r3 : Int) (f4 : fw_W), ((-2147483648 ≤ r3 ∧ r3 ≤ 2147483647 ∧ ((0 ≤ (fw_g f4 352 7) ∧ (fw_g f4 352 7) ≤ (fw_g W 352 3) ∧ ((fw_g f4 352 8) = 0 → (fw_g f4 352 7) = (fw_g W 352 3))) ∧ ((fw_g f2 352 7) ≤ (fw_g f4 352 7) ∧ ((fw_g f4 352 8) = 0 ∨ (fw_g f2 352 7) < (fw_g f4 352 7) ∨ (fw_g f4 352 8) = (fw_g f2 352 8))) ∧ l ≤ r3 ∧ r3 ≤ u))) → (-2147483648 ≤ r3 → r3 ≤ 2147483647 → Post (some (.inl r3)) (fw_put [999] 352 [7, 6, 8, 9, 4, 5] (fw_put [999] 352 [7, 6, 8, 9, 4, 5] W f2) f4)))))) :
    jf fw_T (d + 4) 208 0 [(0, .inr (.inl 352)), (1, .inr (.inr 1000)), (3, .inl l), (4, .inl u)] [] W Post := fw_ok (n := 11) (ss := []) (hv := []) fr_208_ok fm_ok (ct_after_ok d) hw_

def x_after : fw_X := fun as W Q => match as with
  | [.inr (.inl s_), .inr (.inr l0_), .inl l, .inl u] => fw_if (Nat.beq s_ 352) (fw_if (Nat.beq l0_ 1000) (((0 ≤ (fw_g W 352 7) ∧ (fw_g W 352 7) ≤ (fw_g W 352 3) ∧ (fw_g W 352 3) ≤ 1200 ∧ ((fw_g W 352 8) = 0 → (fw_g W 352 7) = (fw_g W 352 3))) ∧ l ≤ u) ∧ (∀ (v : Int) (f : fw_W), (-2147483648 ≤ v ∧ v ≤ 2147483647 ∧ ((0 ≤ (fw_g f 352 7) ∧ (fw_g f 352 7) ≤ (fw_g W 352 3) ∧ ((fw_g f 352 8) = 0 → (fw_g f 352 7) = (fw_g W 352 3))) ∧ ((fw_g W 352 7) ≤ (fw_g f 352 7) ∧ ((fw_g f 352 8) = 0 ∨ (fw_g W 352 7) < (fw_g f 352 7) ∨ (fw_g f 352 8) = (fw_g W 352 8))) ∧ l ≤ v ∧ v ≤ u)) → Q (some (.inl v)) (fw_put [999] 352 [7, 6, 8, 9, 4, 5] W f))))
  | _ => False
theorem x_after_ok (d : Nat) (as : List fw_V) (W : fw_W) (Q : Option fw_V → fw_W → Prop) (hx : x_after as W Q) : jf fw_T (d + 4) 208 0 (fw_args 0 as) [] W Q := by
  unfold x_after at hx
  split at hx
  · rename_i s_ l0_ l u
    obtain ⟨e0_, hx0⟩ := fw_if_ok hx
    have e0_ := Nat.eq_of_beq_eq_true e0_
    clear hx
    subst e0_
    obtain ⟨e1_, hx1⟩ := fw_if_ok hx0
    have e1_ := Nat.eq_of_beq_eq_true e1_
    clear hx0
    subst e1_
    obtain ⟨hpre, hQ⟩ := hx1
    have hP : ∀ (v : Int) (W2 : fw_W), fw_sm [999] 352 [7, 6, 8, 9, 4, 5] W W2 → _ → Q (some (.inl v)) W2 := fun v W2 hs hr => fw_sm_use (Q := fun Z => Q (some (.inl v)) Z) hs (hQ v W2 hr)
    refine s_after_0 ?_
    repeat' (first
      | (exact True.intro)
      | (exact hpre.1)
      | (refine And.intro ?_ ?_)
      | (refine hP _ _ (by repeat (first | exact fw_sm_refl | exact fw_sm_put0 | refine fw_sm_arr ?_ rfl | refine fw_sm_up ?_ rfl | refine fw_sm_put ?_ rfl | refine fw_sm_cp ?_ rfl)) ?_; (refine ⟨by omega, by omega, ?_⟩; (first | omega | (simp (disch := first | decide | omega) only [fg_same, fg_lit, fg_in, fg_fin, fg_out, fg_fout, fg_up, true_and, and_true, true_or, or_true, true_implies]; omega) | (simp (disch := first | decide | omega) only [fg_same, fg_lit, fg_in, fg_fin, fg_out, fg_fout, fg_up, true_and, and_true, true_or, or_true, true_implies]; first | done | omega))))
      | (simp (disch := first | decide | omega) only [fg_same, fg_lit, fg_in, fg_fin, fg_out, fg_fout, fg_up, true_and, and_true, true_or, or_true, true_implies]; omega)
      | omega
      | (intro _))
  · exact hx.elim

def fr_198 : fw_P := [(0, 2, 0, 0, 0), (1, 80, 1301, 0, 0), (4, 64, 199, 1, 312), (7, 20, 30, 0, 0), (10, 2, 0, 0, 0), (11, 50, 12, 11, 0), (14, 2, 0, 0, 0), (15, 50, 12, 23, 0), (18, 52, 0, 0, 0), (19, 0, 0, 0, 14), (21, 11, 28, 0, 0), (24, 0, 0, 0, 1), (25, 6, 29, 0, 0), (28, 0, 0, 0, 0), (29, 71, 0, 0, 0), (30, 2, 0, 0, 0), (31, 80, 1302, 0, 0), (34, 64, 199, 1, 312), (37, 20, 59, 0, 0), (40, 2, 0, 0, 0), (41, 50, 12, 12, 0), (44, 2, 0, 0, 0), (45, 50, 12, 23, 0), (48, 52, 0, 0, 0), (49, 0, 0, 0, 4), (50, 11, 57, 0, 0), (53, 0, 0, 0, 1), (54, 6, 58, 0, 0), (57, 0, 0, 0, 0), (58, 71, 0, 0, 0), (59, 2, 0, 0, 0), (60, 80, 1303, 0, 0), (63, 64, 199, 1, 312), (66, 20, 81, 0, 0), (69, 2, 0, 0, 0), (70, 50, 12, 19, 0), (73, 2, 0, 0, 0), (74, 50, 12, 23, 0), (77, 54, 0, 0, 0), (78, 20, 85, 0, 0), (81, 0, 0, 0, 1), (82, 6, 86, 0, 0), (85, 0, 0, 0, 0), (86, 71, 0, 0, 0)]
theorem fr_198_ok : fw_mk 198 1 12 (some .boolean) fr_198 = true := by decide +kernel
def ct_isFull : List (Nat × fw_X) := [(199, x_isWord)]
theorem ct_isFull_ok (d : Nat) : fw_cok fw_T (d + 1) ct_isFull := by
  intro q hq as W Q h
  simp only [ct_isFull, List.mem_cons, List.not_mem_nil, or_false] at hq
  rcases hq with rfl
  · exact jc_of (x_isWord_ok (d + 0) as W Q h)
theorem s_isFull_0 {Post : Option fw_V → fw_W → Prop} {d : Nat} {W : fw_W}
    (hw_ : (True) ∧ (∀ (r1 : Int), ((0 ≤ r1 ∧ r1 ≤ 1 ∧ ((r1 = 1 ↔ (fw_g W 352 8) = 3 ∧ (fw_g W 999 0) + 1300 = ((1301 : Nat) : Int))))) → ((r1 = 0 → (True) ∧ (∀ (r2 : Int), ((0 ≤ r2 ∧ r2 ≤ 1 ∧ ((r2 = 1 ↔ (fw_g W 352 8) = 3 ∧ (fw_g W 999 0) + 1300 = ((1302 : Nat) : Int))))) → ((r2 = 0 → (True) ∧ (∀ (r3 : Int), ((0 ≤ r3 ∧ r3 ≤ 1 ∧ ((r3 = 1 ↔ (fw_g W 352 8) = 3 ∧ (fw_g W 999 0) + 1300 = ((1303 : Nat) : Int))))) → ((r3 = 0 → 0 ≤ (1 : Int) ∧ (1 : Int) ≤ 1 ∧ Post (some (.inl (1 : Int))) W) ∧ (¬ r3 = 0 → (0 ≤ (fw_g W 352 23) → (fw_g W 352 23) ≤ 1 → 0 ≤ (fw_g W 352 23) ∧ (fw_g W 352 23) < 2 ∧ (0 ≤ (fw_g W 363 (fw_g W 352 23)) → (fw_g W 363 (fw_g W 352 23)) ≤ 1 → (((fw_g W 363 (fw_g W 352 23)) = 0 → 0 ≤ (0 : Int) ∧ (0 : Int) ≤ 1 ∧ Post (some (.inl (0 : Int))) W) ∧ (¬ (fw_g W 363 (fw_g W 352 23)) = 0 → 0 ≤ (1 : Int) ∧ (1 : Int) ≤ 1 ∧ Post (some (.inl (1 : Int))) W)))))))) ∧ (¬ r2 = 0 → (0 ≤ (fw_g W 352 23) → (fw_g W 352 23) ≤ 1 → 0 ≤ (fw_g W 352 23) ∧ (fw_g W 352 23) < 2 ∧ (0 ≤ (fw_g W 356 (fw_g W 352 23)) → (fw_g W 356 (fw_g W 352 23)) ≤ 4 → ((¬ (fw_g W 356 (fw_g W 352 23)) = (4 : Int) → 0 ≤ (0 : Int) ∧ (0 : Int) ≤ 1 ∧ Post (some (.inl (0 : Int))) W) ∧ ((fw_g W 356 (fw_g W 352 23)) = (4 : Int) → 0 ≤ (1 : Int) ∧ (1 : Int) ≤ 1 ∧ Post (some (.inl (1 : Int))) W)))))))) ∧ (¬ r1 = 0 → (0 ≤ (fw_g W 352 23) → (fw_g W 352 23) ≤ 1 → 0 ≤ (fw_g W 352 23) ∧ (fw_g W 352 23) < 2 ∧ (0 ≤ (fw_g W 355 (fw_g W 352 23)) → (fw_g W 355 (fw_g W 352 23)) ≤ 14 → ((¬ (fw_g W 355 (fw_g W 352 23)) = (14 : Int) → 0 ≤ (0 : Int) ∧ (0 : Int) ≤ 1 ∧ Post (some (.inl (0 : Int))) W) ∧ ((fw_g W 355 (fw_g W 352 23)) = (14 : Int) → 0 ≤ (1 : Int) ∧ (1 : Int) ≤ 1 ∧ Post (some (.inl (1 : Int))) W)))))))) :
    jf fw_T (d + 2) 198 0 [(0, .inr (.inl 352))] [] W Post := fw_ok (n := 22) (ss := []) (hv := []) fr_198_ok fm_ok (ct_isFull_ok d) hw_

def x_isFull : fw_X := fun as W Q => match as with
  | [.inr (.inl s_)] => fw_if (Nat.beq s_ 352) ((True) ∧ (∀ (v : Int), (0 ≤ v ∧ v ≤ 1 ∧ (v = 0 → (((fw_g W 352 8) = 3 ∧ (fw_g W 999 0) = 1 → (fw_g W 355 (fw_g W 352 23)) ≤ 13) ∧ ((fw_g W 352 8) = 3 ∧ (fw_g W 999 0) = 2 → (fw_g W 356 (fw_g W 352 23)) ≤ 3)))) → Q (some (.inl v)) W))
  | _ => False
theorem x_isFull_ok (d : Nat) (as : List fw_V) (W : fw_W) (Q : Option fw_V → fw_W → Prop) (hx : x_isFull as W Q) : jf fw_T (d + 2) 198 0 (fw_args 0 as) [] W Q := by
  unfold x_isFull at hx
  split at hx
  · rename_i s_
    obtain ⟨e_, hpre, hQ⟩ := fw_if_ok hx
    have e_ := Nat.eq_of_beq_eq_true e_
    subst e_
    have hP := hQ
    refine s_isFull_0 ?_
    repeat' (first
      | (exact True.intro)
      | (exact hpre.1)
      | (refine And.intro ?_ ?_)
      | (refine hP _ ?_; (refine ⟨by omega, by omega, ?_⟩; (omega)))
      | omega
      | (intro _))
  · exact hx.elim

def fr_204 : fw_P := [(0, 0, 0, 0, 0), (1, 3, 4, 0, 0), (3, 1, 4, 0, 0), (5, 1, 3, 0, 0), (6, 13, 40, 0, 0), (9, 2, 0, 0, 0), (10, 50, 12, 8, 0), (13, 0, 0, 0, 2), (14, 11, 34, 0, 0), (17, 2, 1, 0, 0), (18, 1, 2, 0, 0), (19, 1, 4, 0, 0), (21, 30, 0, 0, 0), (22, 85, 0, 0, 0), (23, 2, 0, 0, 0), (24, 50, 12, 10, 0), (27, 90, 0, 0, 0), (28, 21, 34, 0, 0), (31, 1, 4, 0, 0), (33, 70, 0, 0, 0), (34, 5, 4, 0, 1), (37, 6, 3, 0, 0), (40, 0, 0, 0, -1), (41, 70, 0, 0, 0)]
theorem fr_204_ok : fw_mk 204 5 12 (some .int) fr_204 = true := by decide +kernel
theorem s_hereH_0 {Post : Option fw_V → fw_W → Prop} {d : Nat} {W : fw_W} {fi n_ : Int}
    (hw_ : jf fw_T (d + 1) 204 3 [(0, .inr (.inl 352)), (1, .inr (.inl 364)), (2, .inl fi), (3, .inl n_), (4, .inl (0 : Int))] [] W Post) :
    jf fw_T (d + 1) 204 0 [(0, .inr (.inl 352)), (1, .inr (.inl 364)), (2, .inl fi), (3, .inl n_)] [] W Post := fw_ok (n := 3) (ss := [(3, [0, 1, 2, 3, 4])]) (hv := []) fr_204_ok fm_ok (fw_c0 _ _) hw_

theorem s_hereH_3 {Post : Option fw_V → fw_W → Prop} {d : Nat} {W : fw_W} {fi n_ k : Int}
    (hw_ : ((n_ ≤ k → (-2147483648 ≤ (-1 : Int) → (-1 : Int) ≤ 2147483647 → Post (some (.inl (-1 : Int))) W)) ∧ (k < n_ → (0 ≤ (fw_g W 352 8) → (fw_g W 352 8) ≤ 5 → ((¬ (fw_g W 352 8) = (2 : Int) → -2147483648 ≤ k + (1 : Int) ∧ k + (1 : Int) ≤ 2147483647 ∧ (jf fw_T (d + 1) 204 3 [(0, .inr (.inl 352)), (1, .inr (.inl 364)), (2, .inl fi), (3, .inl n_), (4, .inl (k + (1 : Int)))] [] W Post)) ∧ ((fw_g W 352 8) = (2 : Int) → -2147483648 ≤ fi + k ∧ fi + k ≤ 2147483647 ∧ (0 ≤ (fi + k) ∧ (fi + k) < 28 ∧ (((fw_g W 999 0) = 0 → (∀ v1 : Int, -1 ≤ v1 → v1 ≤ 1 → ((¬ v1 = 0 → -2147483648 ≤ k + (1 : Int) ∧ k + (1 : Int) ≤ 2147483647 ∧ (jf fw_T (d + 1) 204 3 [(0, .inr (.inl 352)), (1, .inr (.inl 364)), (2, .inl fi), (3, .inl n_), (4, .inl (k + (1 : Int)))] [] W Post)) ∧ (v1 = 0 → (-2147483648 ≤ k → k ≤ 2147483647 → Post (some (.inl k)) W))))) ∧ ((fw_g W 999 0) = 1 → (∀ v2 : Int, -1 ≤ v2 → v2 ≤ 1 → ((¬ v2 = 0 → -2147483648 ≤ k + (1 : Int) ∧ k + (1 : Int) ≤ 2147483647 ∧ (jf fw_T (d + 1) 204 3 [(0, .inr (.inl 352)), (1, .inr (.inl 364)), (2, .inl fi), (3, .inl n_), (4, .inl (k + (1 : Int)))] [] W Post)) ∧ (v2 = 0 → (-2147483648 ≤ k → k ≤ 2147483647 → Post (some (.inl k)) W))))) ∧ ((fw_g W 999 0) = 2 → (∀ v3 : Int, -1 ≤ v3 → v3 ≤ 1 → ((¬ v3 = 0 → -2147483648 ≤ k + (1 : Int) ∧ k + (1 : Int) ≤ 2147483647 ∧ (jf fw_T (d + 1) 204 3 [(0, .inr (.inl 352)), (1, .inr (.inl 364)), (2, .inl fi), (3, .inl n_), (4, .inl (k + (1 : Int)))] [] W Post)) ∧ (v3 = 0 → (-2147483648 ≤ k → k ≤ 2147483647 → Post (some (.inl k)) W))))) ∧ ((fw_g W 999 0) = 3 → (∀ v4 : Int, -1 ≤ v4 → v4 ≤ 1 → ((¬ v4 = 0 → -2147483648 ≤ k + (1 : Int) ∧ k + (1 : Int) ≤ 2147483647 ∧ (jf fw_T (d + 1) 204 3 [(0, .inr (.inl 352)), (1, .inr (.inl 364)), (2, .inl fi), (3, .inl n_), (4, .inl (k + (1 : Int)))] [] W Post)) ∧ (v4 = 0 → (-2147483648 ≤ k → k ≤ 2147483647 → Post (some (.inl k)) W))))))))))))) :
    jf fw_T (d + 1) 204 3 [(0, .inr (.inl 352)), (1, .inr (.inl 364)), (2, .inl fi), (3, .inl n_), (4, .inl k)] [] W Post := fw_ok (n := 19) (ss := [(3, [0, 1, 2, 3, 4])]) (hv := []) fr_204_ok fm_ok (fw_c0 _ _) hw_

theorem lm_hereH_3 {Post : Option fw_V → fw_W → Prop} {d : Nat} {W : fw_W} {fi n_ : Int} (hpre : 0 ≤ fi ∧ fi ≤ 14 ∧ n_ ≤ 14) (hP : ∀ (v : Int) , (-2147483648 ≤ v ∧ v ≤ 2147483647 ∧ (-1 ≤ v ∧ (v = -1 ∨ v < n_))) → Post (some (.inl v)) W)  : ∀ (m : Nat) (k : Int), (n_ - k).toNat = m → 0 ≤ k → jf fw_T (d + 1) 204 3 [(0, .inr (.inl 352)), (1, .inr (.inl 364)), (2, .inl fi), (3, .inl n_), (4, .inl k)] [] W Post := by
  intro m
  induction m using Nat.strongRecOn with
  | ind m ih =>
    intro k hm hi
    refine jf_rng (fun hrg => ?_)
    have hrg : -2147483648 ≤ fi ∧ fi ≤ 2147483647 ∧ -2147483648 ≤ n_ ∧ n_ ≤ 2147483647 ∧ -2147483648 ≤ k ∧ k ≤ 2147483647 ∧ True := hrg
    refine s_hereH_3 ?_
    repeat' (first
      | (exact True.intro)
      | (exact hpre.1)
      | (refine And.intro ?_ ?_)
      | (refine (ih _ (by omega) _ rfl ?_); (first | omega | trivial))
      | (refine hP _ ?_; (refine ⟨by omega, by omega, ?_⟩; (omega)))
      | omega
      | (intro _))
def x_hereH : fw_X := fun as W Q => match as with
  | [.inr (.inl s_), .inr (.inl r0_), .inl fi, .inl n_] => fw_if (Nat.beq s_ 352) (fw_if (Nat.beq r0_ 364) ((0 ≤ fi ∧ fi ≤ 14 ∧ n_ ≤ 14) ∧ (∀ (v : Int), (-2147483648 ≤ v ∧ v ≤ 2147483647 ∧ (-1 ≤ v ∧ (v = -1 ∨ v < n_))) → Q (some (.inl v)) W)))
  | _ => False
theorem x_hereH_ok (d : Nat) (as : List fw_V) (W : fw_W) (Q : Option fw_V → fw_W → Prop) (hx : x_hereH as W Q) : jf fw_T (d + 1) 204 0 (fw_args 0 as) [] W Q := by
  unfold x_hereH at hx
  split at hx
  · rename_i s_ r0_ fi n_
    obtain ⟨e0_, hx0⟩ := fw_if_ok hx
    have e0_ := Nat.eq_of_beq_eq_true e0_
    clear hx
    subst e0_
    obtain ⟨e1_, hx1⟩ := fw_if_ok hx0
    have e1_ := Nat.eq_of_beq_eq_true e1_
    clear hx0
    subst e1_
    obtain ⟨hpre, hQ⟩ := hx1
    have hP := hQ
    refine s_hereH_0 ?_
    repeat' (first
      | (exact True.intro)
      | (exact hpre.1)
      | (refine And.intro ?_ ?_)
      | (refine (lm_hereH_3 (fi := fi) (n_ := n_) hpre hP _ _ rfl ?_); (first | omega | trivial))
      | (refine hP _ ?_; (refine ⟨by omega, by omega, ?_⟩; (omega)))
      | omega
      | (intro _))
  · exact hx.elim

theorem s_hereC_0 {Post : Option fw_V → fw_W → Prop} {d : Nat} {W : fw_W} {fi n_ : Int}
    (hw_ : jf fw_T (d + 1) 204 3 [(0, .inr (.inl 352)), (1, .inr (.inl 365)), (2, .inl fi), (3, .inl n_), (4, .inl (0 : Int))] [] W Post) :
    jf fw_T (d + 1) 204 0 [(0, .inr (.inl 352)), (1, .inr (.inl 365)), (2, .inl fi), (3, .inl n_)] [] W Post := fw_ok (n := 3) (ss := [(3, [0, 1, 2, 3, 4])]) (hv := []) fr_204_ok fm_ok (fw_c0 _ _) hw_

theorem s_hereC_3 {Post : Option fw_V → fw_W → Prop} {d : Nat} {W : fw_W} {fi n_ k : Int}
    (hw_ : ((n_ ≤ k → (-2147483648 ≤ (-1 : Int) → (-1 : Int) ≤ 2147483647 → Post (some (.inl (-1 : Int))) W)) ∧ (k < n_ → (0 ≤ (fw_g W 352 8) → (fw_g W 352 8) ≤ 5 → ((¬ (fw_g W 352 8) = (2 : Int) → -2147483648 ≤ k + (1 : Int) ∧ k + (1 : Int) ≤ 2147483647 ∧ (jf fw_T (d + 1) 204 3 [(0, .inr (.inl 352)), (1, .inr (.inl 365)), (2, .inl fi), (3, .inl n_), (4, .inl (k + (1 : Int)))] [] W Post)) ∧ ((fw_g W 352 8) = (2 : Int) → -2147483648 ≤ fi + k ∧ fi + k ≤ 2147483647 ∧ (0 ≤ (fi + k) ∧ (fi + k) < 8 ∧ (((fw_g W 999 0) = 0 → (∀ v1 : Int, -1 ≤ v1 → v1 ≤ 1 → ((¬ v1 = 0 → -2147483648 ≤ k + (1 : Int) ∧ k + (1 : Int) ≤ 2147483647 ∧ (jf fw_T (d + 1) 204 3 [(0, .inr (.inl 352)), (1, .inr (.inl 365)), (2, .inl fi), (3, .inl n_), (4, .inl (k + (1 : Int)))] [] W Post)) ∧ (v1 = 0 → (-2147483648 ≤ k → k ≤ 2147483647 → Post (some (.inl k)) W))))) ∧ ((fw_g W 999 0) = 1 → (∀ v2 : Int, -1 ≤ v2 → v2 ≤ 1 → ((¬ v2 = 0 → -2147483648 ≤ k + (1 : Int) ∧ k + (1 : Int) ≤ 2147483647 ∧ (jf fw_T (d + 1) 204 3 [(0, .inr (.inl 352)), (1, .inr (.inl 365)), (2, .inl fi), (3, .inl n_), (4, .inl (k + (1 : Int)))] [] W Post)) ∧ (v2 = 0 → (-2147483648 ≤ k → k ≤ 2147483647 → Post (some (.inl k)) W))))) ∧ ((fw_g W 999 0) = 2 → (∀ v3 : Int, -1 ≤ v3 → v3 ≤ 1 → ((¬ v3 = 0 → -2147483648 ≤ k + (1 : Int) ∧ k + (1 : Int) ≤ 2147483647 ∧ (jf fw_T (d + 1) 204 3 [(0, .inr (.inl 352)), (1, .inr (.inl 365)), (2, .inl fi), (3, .inl n_), (4, .inl (k + (1 : Int)))] [] W Post)) ∧ (v3 = 0 → (-2147483648 ≤ k → k ≤ 2147483647 → Post (some (.inl k)) W))))) ∧ ((fw_g W 999 0) = 3 → (∀ v4 : Int, -1 ≤ v4 → v4 ≤ 1 → ((¬ v4 = 0 → -2147483648 ≤ k + (1 : Int) ∧ k + (1 : Int) ≤ 2147483647 ∧ (jf fw_T (d + 1) 204 3 [(0, .inr (.inl 352)), (1, .inr (.inl 365)), (2, .inl fi), (3, .inl n_), (4, .inl (k + (1 : Int)))] [] W Post)) ∧ (v4 = 0 → (-2147483648 ≤ k → k ≤ 2147483647 → Post (some (.inl k)) W))))))))))))) :
    jf fw_T (d + 1) 204 3 [(0, .inr (.inl 352)), (1, .inr (.inl 365)), (2, .inl fi), (3, .inl n_), (4, .inl k)] [] W Post := fw_ok (n := 19) (ss := [(3, [0, 1, 2, 3, 4])]) (hv := []) fr_204_ok fm_ok (fw_c0 _ _) hw_

theorem lm_hereC_3 {Post : Option fw_V → fw_W → Prop} {d : Nat} {W : fw_W} {fi n_ : Int} (hpre : 0 ≤ fi ∧ fi ≤ 4 ∧ n_ ≤ 4) (hP : ∀ (v : Int) , (-2147483648 ≤ v ∧ v ≤ 2147483647 ∧ (-1 ≤ v ∧ (v = -1 ∨ v < n_))) → Post (some (.inl v)) W)  : ∀ (m : Nat) (k : Int), (n_ - k).toNat = m → 0 ≤ k → jf fw_T (d + 1) 204 3 [(0, .inr (.inl 352)), (1, .inr (.inl 365)), (2, .inl fi), (3, .inl n_), (4, .inl k)] [] W Post := by
  intro m
  induction m using Nat.strongRecOn with
  | ind m ih =>
    intro k hm hi
    refine jf_rng (fun hrg => ?_)
    have hrg : -2147483648 ≤ fi ∧ fi ≤ 2147483647 ∧ -2147483648 ≤ n_ ∧ n_ ≤ 2147483647 ∧ -2147483648 ≤ k ∧ k ≤ 2147483647 ∧ True := hrg
    refine s_hereC_3 ?_
    repeat' (first
      | (exact True.intro)
      | (exact hpre.1)
      | (refine And.intro ?_ ?_)
      | (refine (ih _ (by omega) _ rfl ?_); (first | omega | trivial))
      | (refine hP _ ?_; (refine ⟨by omega, by omega, ?_⟩; (omega)))
      | omega
      | (intro _))
def x_hereC : fw_X := fun as W Q => match as with
  | [.inr (.inl s_), .inr (.inl r0_), .inl fi, .inl n_] => fw_if (Nat.beq s_ 352) (fw_if (Nat.beq r0_ 365) ((0 ≤ fi ∧ fi ≤ 4 ∧ n_ ≤ 4) ∧ (∀ (v : Int), (-2147483648 ≤ v ∧ v ≤ 2147483647 ∧ (-1 ≤ v ∧ (v = -1 ∨ v < n_))) → Q (some (.inl v)) W)))
  | _ => False
theorem x_hereC_ok (d : Nat) (as : List fw_V) (W : fw_W) (Q : Option fw_V → fw_W → Prop) (hx : x_hereC as W Q) : jf fw_T (d + 1) 204 0 (fw_args 0 as) [] W Q := by
  unfold x_hereC at hx
  split at hx
  · rename_i s_ r0_ fi n_
    obtain ⟨e0_, hx0⟩ := fw_if_ok hx
    have e0_ := Nat.eq_of_beq_eq_true e0_
    clear hx
    subst e0_
    obtain ⟨e1_, hx1⟩ := fw_if_ok hx0
    have e1_ := Nat.eq_of_beq_eq_true e1_
    clear hx0
    subst e1_
    obtain ⟨hpre, hQ⟩ := hx1
    have hP := hQ
    refine s_hereC_0 ?_
    repeat' (first
      | (exact True.intro)
      | (exact hpre.1)
      | (refine And.intro ?_ ?_)
      | (refine (lm_hereC_3 (fi := fi) (n_ := n_) hpre hP _ _ rfl ?_); (first | omega | trivial))
      | (refine hP _ ?_; (refine ⟨by omega, by omega, ?_⟩; (omega)))
      | omega
      | (intro _))
  · exact hx.elim

def fr_203 : fw_P := [(0, 2, 0, 0, 0), (1, 2, 0, 0, 0), (2, 50, 12, 20, 0), (5, 0, 0, 0, 14), (7, 2, 0, 0, 0), (8, 50, 12, 23, 0), (11, 32, 0, 0, 0), (12, 2, 0, 0, 0), (13, 50, 12, 11, 0), (16, 2, 0, 0, 0), (17, 50, 12, 23, 0), (20, 52, 0, 0, 0), (21, 64, 204, 3, 512), (24, 70, 0, 0, 0)]
theorem fr_203_ok : fw_mk 203 1 12 (some .int) fr_203 = true := by decide +kernel
def ct_houseHere : List (Nat × fw_X) := [(204, x_hereH)]
theorem ct_houseHere_ok (d : Nat) : fw_cok fw_T (d + 1) ct_houseHere := by
  intro q hq as W Q h
  simp only [ct_houseHere, List.mem_cons, List.not_mem_nil, or_false] at hq
  rcases hq with rfl
  · exact jc_of (x_hereH_ok (d + 0) as W Q h)
theorem s_houseHere_0 {Post : Option fw_V → fw_W → Prop} {d : Nat} {W : fw_W}
    (hw_ : (0 ≤ (fw_g W 352 23) → (fw_g W 352 23) ≤ 1 → -2147483648 ≤ (14 : Int) * (fw_g W 352 23) ∧ (14 : Int) * (fw_g W 352 23) ≤ 2147483647 ∧ ((0 ≤ (fw_g W 352 23) → (fw_g W 352 23) ≤ 1 → 0 ≤ (fw_g W 352 23) ∧ (fw_g W 352 23) < 2 ∧ (0 ≤ (fw_g W 355 (fw_g W 352 23)) → (fw_g W 355 (fw_g W 352 23)) ≤ 14 → (0 ≤ ((14 : Int) * (fw_g W 352 23)) ∧ ((14 : Int) * (fw_g W 352 23)) ≤ 14 ∧ (fw_g W 355 (fw_g W 352 23)) ≤ 14) ∧ (∀ (r1 : Int), ((-2147483648 ≤ r1 ∧ r1 ≤ 2147483647 ∧ (-1 ≤ r1 ∧ (r1 = -1 ∨ r1 < (fw_g W 355 (fw_g W 352 23)))))) → (-2147483648 ≤ r1 → r1 ≤ 2147483647 → Post (some (.inl r1)) W))))))) :
    jf fw_T (d + 2) 203 0 [(0, .inr (.inl 352))] [] W Post := fw_ok (n := 15) (ss := []) (hv := []) fr_203_ok fm_ok (ct_houseHere_ok d) hw_

def x_houseHere : fw_X := fun as W Q => match as with
  | [.inr (.inl s_)] => fw_if (Nat.beq s_ 352) ((True) ∧ (∀ (v : Int), (-2147483648 ≤ v ∧ v ≤ 2147483647 ∧ (-1 ≤ v ∧ (v = -1 ∨ v < (fw_g W 355 (fw_g W 352 23))) ∧ (fw_g W 355 (fw_g W 352 23)) ≤ 14 ∧ 0 ≤ (fw_g W 355 (fw_g W 352 23)))) → Q (some (.inl v)) W))
  | _ => False
theorem x_houseHere_ok (d : Nat) (as : List fw_V) (W : fw_W) (Q : Option fw_V → fw_W → Prop) (hx : x_houseHere as W Q) : jf fw_T (d + 2) 203 0 (fw_args 0 as) [] W Q := by
  unfold x_houseHere at hx
  split at hx
  · rename_i s_
    obtain ⟨e_, hpre, hQ⟩ := fw_if_ok hx
    have e_ := Nat.eq_of_beq_eq_true e_
    subst e_
    have hP := hQ
    refine s_houseHere_0 ?_
    repeat' (first
      | (exact True.intro)
      | (exact hpre.1)
      | (refine And.intro ?_ ?_)
      | (refine hP _ ?_; (refine ⟨by omega, by omega, ?_⟩; (omega)))
      | omega
      | (intro _))
  · exact hx.elim

def fr_205 : fw_P := [(0, 2, 0, 0, 0), (1, 64, 196, 0, 112), (4, 21, 8, 0, 0), (7, 72, 0, 0, 0), (8, 2, 0, 0, 0), (9, 50, 12, 8, 0), (12, 0, 0, 0, 2), (13, 10, 23, 0, 0), (16, 2, 0, 0, 0), (17, 64, 200, 0, 112), (20, 6, 36, 0, 0), (23, 1, 1, 0, 0), (24, 20, 36, 0, 0), (27, 2, 0, 0, 0), (28, 0, 0, 0, 3), (29, 2, 0, 0, 0), (30, 50, 12, 6, 0), (33, 64, 201, 2, 312), (36, 72, 0, 0, 0)]
theorem fr_205_ok : fw_mk 205 2 12 none fr_205 = true := by decide +kernel
def ct_fresh : List (Nat × fw_X) := [(201, x_fails), (196, x_isGood), (200, x_misplaced)]
theorem ct_fresh_ok (d : Nat) : fw_cok fw_T (d + 2) ct_fresh := by
  intro q hq as W Q h
  simp only [ct_fresh, List.mem_cons, List.not_mem_nil, or_false] at hq
  rcases hq with rfl | rfl | rfl
  · exact jc_of (x_fails_ok (d + 1) as W Q h)
  · exact jc_of (x_isGood_ok (d + 1) as W Q h)
  · exact jc_of (x_misplaced_ok (d + 0) as W Q h)
theorem s_fresh_0 {Post : Option fw_V → fw_W → Prop} {d : Nat} {W : fw_W} {has : Int}
    (hw_ : (True) ∧ (∀ (r1 : Int), ((0 ≤ r1 ∧ r1 ≤ 1 ∧ ((r1 = 1 ∧ (fw_g W 352 4) = 0) ∨ (r1 = 0 ∧ ¬ (fw_g W 352 4) = 0)))) → ((¬ r1 = 0 → (0 ≤ (fw_g W 352 8) → (fw_g W 352 8) ≤ 5 → (((fw_g W 352 8) = (2 : Int) → ((has = 0 → Post none W) ∧ (¬ has = 0 → (0 ≤ (fw_g W 352 6) → (fw_g W 352 6) ≤ 1200 → (1 ≤ (3 : Int)) ∧ (∀ (f2 : fw_W), (((0 < (fw_g W 352 4) ∧ (fw_g f2 352 4) = (fw_g W 352 4)) ∨ ((fw_g W 352 4) ≤ 0 ∧ (fw_g f2 352 4) = (3 : Int)))) → Post none (fw_put [] 352 [4, 5] W f2)))))) ∧ (¬ (fw_g W 352 8) = (2 : Int) → (True) ∧ (∀ (f3 : fw_W), ((0 < (fw_g f3 352 4))) → Post none (fw_put [] 352 [4, 5] W f3)))))) ∧ (r1 = 0 → Post none W)))) :
    jf fw_T (d + 3) 205 0 [(0, .inr (.inl 352)), (1, .inl has)] [] W Post := fw_ok (n := 16) (ss := []) (hv := []) fr_205_ok fm_ok (ct_fresh_ok d) hw_

def x_fresh : fw_X := fun as W Q => match as with
  | [.inr (.inl s_), .inl has] => fw_if (Nat.beq s_ 352) ((True) ∧ (∀ (f : fw_W), (True) → Q none (fw_put [] 352 [4, 5] W f)))
  | _ => False
theorem x_fresh_ok (d : Nat) (as : List fw_V) (W : fw_W) (Q : Option fw_V → fw_W → Prop) (hx : x_fresh as W Q) : jf fw_T (d + 3) 205 0 (fw_args 0 as) [] W Q := by
  unfold x_fresh at hx
  split at hx
  · rename_i s_ has
    obtain ⟨e_, hpre, hQ⟩ := fw_if_ok hx
    have e_ := Nat.eq_of_beq_eq_true e_
    subst e_
    have hP : ∀ (W2 : fw_W), fw_sm [] 352 [4, 5] W W2 → _ → Q none W2 := fun W2 hs hr => fw_sm_use (Q := fun Z => Q none Z) hs (hQ W2 hr)
    refine s_fresh_0 ?_
    repeat' (first
      | (exact True.intro)
      | (exact hpre.1)
      | (refine And.intro ?_ ?_)
      | (refine hP _ (by repeat (first | exact fw_sm_refl | exact fw_sm_put0 | refine fw_sm_arr ?_ rfl | refine fw_sm_up ?_ rfl | refine fw_sm_put ?_ rfl | refine fw_sm_cp ?_ rfl)) ?_; (first | trivial | omega))
      | omega
      | (intro _))
  · exact hx.elim

def fr_207 : fw_P := [(0, 2, 0, 0, 0), (1, 64, 196, 0, 112), (4, 21, 9, 0, 0), (7, 0, 0, 0, 0), (8, 70, 0, 0, 0), (9, 2, 0, 0, 0), (10, 64, 203, 0, 112), (13, 3, 1, 0, 0), (14, 2, 0, 0, 0), (15, 50, 12, 8, 0), (18, 0, 0, 0, 2), (19, 10, 29, 0, 0), (22, 2, 0, 0, 0), (23, 64, 200, 0, 112), (26, 6, 42, 0, 0), (29, 1, 1, 0, 0), (30, 23, 42, 0, 0), (33, 2, 0, 0, 0), (34, 0, 0, 0, 5), (35, 2, 0, 0, 0), (36, 50, 12, 6, 0), (39, 64, 201, 2, 312), (42, 1, 1, 0, 0), (43, 23, 50, 0, 0), (46, 0, 0, 0, 0), (47, 6, 51, 0, 0), (50, 1, 1, 0, 0), (51, 70, 0, 0, 0)]
theorem fr_207_ok : fw_mk 207 2 12 (some .int) fr_207 = true := by decide +kernel
def ct_known : List (Nat × fw_X) := [(201, x_fails), (203, x_houseHere), (196, x_isGood), (200, x_misplaced)]
theorem ct_known_ok (d : Nat) : fw_cok fw_T (d + 2) ct_known := by
  intro q hq as W Q h
  simp only [ct_known, List.mem_cons, List.not_mem_nil, or_false] at hq
  rcases hq with rfl | rfl | rfl | rfl
  · exact jc_of (x_fails_ok (d + 1) as W Q h)
  · exact jc_of (x_houseHere_ok (d + 0) as W Q h)
  · exact jc_of (x_isGood_ok (d + 1) as W Q h)
  · exact jc_of (x_misplaced_ok (d + 0) as W Q h)
theorem s_known_0 {Post : Option fw_V → fw_W → Prop} {d : Nat} {W : fw_W}
    (hw_ : (True) ∧ (∀ (r1 : Int), ((0 ≤ r1 ∧ r1 ≤ 1 ∧ ((r1 = 1 ∧ (fw_g W 352 4) = 0) ∨ (r1 = 0 ∧ ¬ (fw_g W 352 4) = 0)))) → ((¬ r1 = 0 → (True) ∧ (∀ (r2 : Int), ((-2147483648 ≤ r2 ∧ r2 ≤ 2147483647 ∧ (-1 ≤ r2 ∧ (r2 = -1 ∨ r2 < (fw_g W 355 (fw_g W 352 23))) ∧ (fw_g W 355 (fw_g W 352 23)) ≤ 14 ∧ 0 ≤ (fw_g W 355 (fw_g W 352 23))))) → (0 ≤ (fw_g W 352 8) → (fw_g W 352 8) ≤ 5 → (((fw_g W 352 8) = (2 : Int) → ((0 ≤ r2 → ((0 ≤ r2 → (-2147483648 ≤ r2 → r2 ≤ 2147483647 → Post (some (.inl r2)) W)) ∧ (r2 < 0 → (-2147483648 ≤ (0 : Int) → (0 : Int) ≤ 2147483647 → Post (some (.inl (0 : Int))) W)))) ∧ (r2 < 0 → (0 ≤ (fw_g W 352 6) → (fw_g W 352 6) ≤ 1200 → (1 ≤ (5 : Int)) ∧ (∀ (f3 : fw_W), (((0 < (fw_g W 352 4) ∧ (fw_g f3 352 4) = (fw_g W 352 4)) ∨ ((fw_g W 352 4) ≤ 0 ∧ (fw_g f3 352 4) = (5 : Int)))) → ((0 ≤ r2 → (-2147483648 ≤ r2 → r2 ≤ 2147483647 → Post (some (.inl r2)) (fw_put [] 352 [4, 5] W f3))) ∧ (r2 < 0 → (-2147483648 ≤ (0 : Int) → (0 : Int) ≤ 2147483647 → Post (some (.inl (0 : Int))) (fw_put [] 352 [4, 5] W f3))))))))) ∧ (¬ (fw_g W 352 8) = (2 : Int) → (True) ∧ (∀ (f4 : fw_W), ((0 < (fw_g f4 352 4))) → ((0 ≤ r2 → (-2147483648 ≤ r2 → r2 ≤ 2147483647 → Post (some (.inl r2)) (fw_put [] 352 [4, 5] W f4))) ∧ (r2 < 0 → (-2147483648 ≤ (0 : Int) → (0 : Int) ≤ 2147483647 → Post (some (.inl (0 : Int))) (fw_put [] 352 [4, 5] W f4)))))))))) ∧ (r1 = 0 → (-2147483648 ≤ (0 : Int) → (0 : Int) ≤ 2147483647 → Post (some (.inl (0 : Int))) W))))) :
    jf fw_T (d + 3) 207 0 [(0, .inr (.inl 352))] [] W Post := fw_ok (n := 23) (ss := []) (hv := []) fr_207_ok fm_ok (ct_known_ok d) hw_

def x_known : fw_X := fun as W Q => match as with
  | [.inr (.inl s_)] => fw_if (Nat.beq s_ 352) ((True) ∧ (∀ (v : Int) (f : fw_W), (-2147483648 ≤ v ∧ v ≤ 2147483647 ∧ (0 ≤ v ∧ v ≤ 13 ∧ (1 ≤ (fw_g W 355 (fw_g W 352 23)) → v < (fw_g W 355 (fw_g W 352 23))))) → Q (some (.inl v)) (fw_put [] 352 [4, 5] W f)))
  | _ => False
theorem x_known_ok (d : Nat) (as : List fw_V) (W : fw_W) (Q : Option fw_V → fw_W → Prop) (hx : x_known as W Q) : jf fw_T (d + 3) 207 0 (fw_args 0 as) [] W Q := by
  unfold x_known at hx
  split at hx
  · rename_i s_
    obtain ⟨e_, hpre, hQ⟩ := fw_if_ok hx
    have e_ := Nat.eq_of_beq_eq_true e_
    subst e_
    have hP : ∀ (v : Int) (W2 : fw_W), fw_sm [] 352 [4, 5] W W2 → _ → Q (some (.inl v)) W2 := fun v W2 hs hr => fw_sm_use (Q := fun Z => Q (some (.inl v)) Z) hs (hQ v W2 hr)
    refine s_known_0 ?_
    repeat' (first
      | (exact True.intro)
      | (exact hpre.1)
      | (refine And.intro ?_ ?_)
      | (refine hP _ _ (by repeat (first | exact fw_sm_refl | exact fw_sm_put0 | refine fw_sm_arr ?_ rfl | refine fw_sm_up ?_ rfl | refine fw_sm_put ?_ rfl | refine fw_sm_cp ?_ rfl)) ?_; (refine ⟨by omega, by omega, ?_⟩; (omega)))
      | omega
      | (intro _))
  · exact hx.elim

def fr_186 : fw_P := [(0, 2, 0, 0, 0), (1, 50, 12, 11, 0), (4, 2, 0, 0, 0), (5, 50, 12, 23, 0), (8, 0, 0, 0, 0), (9, 53, 0, 0, 0), (10, 2, 0, 0, 0), (11, 50, 12, 12, 0), (14, 2, 0, 0, 0), (15, 50, 12, 23, 0), (18, 0, 0, 0, 0), (19, 53, 0, 0, 0), (20, 2, 0, 0, 0), (21, 50, 12, 13, 0), (24, 2, 0, 0, 0), (25, 50, 12, 23, 0), (28, 0, 0, 0, 0), (29, 53, 0, 0, 0), (30, 2, 0, 0, 0), (31, 50, 12, 19, 0), (34, 2, 0, 0, 0), (35, 50, 12, 23, 0), (38, 0, 0, 0, 0), (39, 55, 0, 0, 0), (40, 72, 0, 0, 0)]
theorem fr_186_ok : fw_mk 186 1 12 none fr_186 = true := by decide +kernel
theorem s_clearBank_0 {Post : Option fw_V → fw_W → Prop} {d : Nat} {W : fw_W}
    (hw_ : (0 ≤ (fw_g W 352 23) → (fw_g W 352 23) ≤ 1 → 0 ≤ (fw_g W 352 23) ∧ (fw_g W 352 23) < 2 ∧ 0 ≤ (0 : Int) ∧ (0 : Int) ≤ 14 ∧ ((0 ≤ (fw_g W 352 23) → (fw_g W 352 23) ≤ 1 → 0 ≤ (fw_g W 352 23) ∧ (fw_g W 352 23) < 2 ∧ 0 ≤ (0 : Int) ∧ (0 : Int) ≤ 4 ∧ ((0 ≤ (fw_g W 352 23) → (fw_g W 352 23) ≤ 1 → 0 ≤ (fw_g W 352 23) ∧ (fw_g W 352 23) < 2 ∧ 0 ≤ (0 : Int) ∧ (0 : Int) ≤ 999 ∧ ((0 ≤ (fw_g W 352 23) → (fw_g W 352 23) ≤ 1 → 0 ≤ (fw_g W 352 23) ∧ (fw_g W 352 23) < 2 ∧ 0 ≤ (0 : Int) ∧ (0 : Int) ≤ 1 ∧ 0 ≤ (0 : Int) ∧ (0 : Int) ≤ 1 ∧ (Post none (fw_up (fw_up (fw_up (fw_up W 355 (fw_g W 352 23) (0 : Int)) 356 (fw_g W 352 23) (0 : Int)) 357 (fw_g W 352 23) (0 : Int)) 363 (fw_g W 352 23) (0 : Int))))))))))) :
    jf fw_T (d + 1) 186 0 [(0, .inr (.inl 352))] [] W Post := fw_ok (n := 26) (ss := []) (hv := []) fr_186_ok fm_ok (fw_c0 _ _) hw_

def x_clearBank : fw_X := fun as W Q => match as with
  | [.inr (.inl s_)] => fw_if (Nat.beq s_ 352) ((0 ≤ (fw_g W 352 23) ∧ (fw_g W 352 23) ≤ 1) ∧ (∀ (f : fw_W), ((fw_g f 355 (fw_g W 352 23)) = 0 ∧ (fw_g f 356 (fw_g W 352 23)) = 0) → Q none (fw_put [355, 356, 357, 363] 352 [] W f)))
  | _ => False
theorem x_clearBank_ok (d : Nat) (as : List fw_V) (W : fw_W) (Q : Option fw_V → fw_W → Prop) (hx : x_clearBank as W Q) : jf fw_T (d + 1) 186 0 (fw_args 0 as) [] W Q := by
  unfold x_clearBank at hx
  split at hx
  · rename_i s_
    obtain ⟨e_, hpre, hQ⟩ := fw_if_ok hx
    have e_ := Nat.eq_of_beq_eq_true e_
    subst e_
    have hP : ∀ (W2 : fw_W), fw_sm [355, 356, 357, 363] 352 [] W W2 → _ → Q none W2 := fun W2 hs hr => fw_sm_use (Q := fun Z => Q none Z) hs (hQ W2 hr)
    refine s_clearBank_0 ?_
    repeat' (first
      | (exact True.intro)
      | (exact hpre.1)
      | (refine And.intro ?_ ?_)
      | (refine hP _ (by repeat (first | exact fw_sm_refl | exact fw_sm_put0 | refine fw_sm_arr ?_ rfl | refine fw_sm_up ?_ rfl | refine fw_sm_put ?_ rfl | refine fw_sm_cp ?_ rfl)) ?_; (
        constructor
        · rw [fg_up rfl, fg_up rfl, fg_up rfl, fg_same (by omega) (by omega)]
        · rw [fg_up rfl, fg_up rfl, fg_same (by omega) (by omega)]))
      | omega
      | (intro _))
  · exact hx.elim

