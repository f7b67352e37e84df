/-! the class, the laws tried, exactly -/
def fr_54 : fw_P := [(0, 1, 1, 0, 0), (1, 21, 9, 0, 0), (4, 2, 0, 0, 0), (5, 64, 55, 0, 604), (8, 71, 0, 0, 0), (9, 1, 1, 0, 0), (10, 0, 0, 0, 1), (11, 11, 21, 0, 0), (14, 2, 0, 0, 0), (15, 64, 56, 0, 204), (18, 6, 41, 0, 0), (21, 2, 0, 0, 0), (22, 50, 4, 5, 0), (25, 0, 0, 0, 1), (26, 64, 76, 1, 206), (29, 2, 0, 0, 0), (30, 64, 58, 0, 604), (33, 11, 40, 0, 0), (36, 0, 0, 0, 1), (37, 6, 41, 0, 0), (40, 0, 0, 0, 0), (41, 71, 0, 0, 0)]
theorem fr_54_ok : fw_mk 54 2 4 (some .boolean) fr_54 = true := by decide +kernel
def ct_k_holdsX : List (Nat × fw_X) := [(55, x_k_isMiddleX), (56, x_k_allFoursX), (76, x_k_leastWX), (58, x_k_wardensByX)]
theorem ct_k_holdsX_ok (d : Nat) : fw_cok fw_T (d + 4) ct_k_holdsX := by
  intro q hq as W Q h
  simp only [ct_k_holdsX, List.mem_cons, List.not_mem_nil, or_false] at hq
  rcases hq with rfl | rfl | rfl | rfl
  · exact jc_of (x_k_isMiddleX_ok (d + 1) as W Q h)
  · exact jc_of (x_k_allFoursX_ok (d + 1) as W Q h)
  · exact jc_of (x_k_leastWX_ok (d + 0) as W Q h)
  · exact jc_of (x_k_wardensByX_ok (d + 2) as W Q h)
theorem s_k_holdsX_0 {Post : Option fw_V → fw_W → Prop} {d : Nat} {W : fw_W} {la : Int}
    (hw_ : ((¬ la = 0 → ((¬ la = (1 : Int) → ∃ (q_1 : List Nat), ((qok ((fw_g W 272 0)).toNat q_1 = true ∧ qk2 ((fw_g W 272 0)).toNat q_1 = true) ∧ 2 ≤ (fw_g W 272 0) ∧ (fw_g W 272 0) ≤ 6 ∧ (∀ x_, 1 ≤ x_ → x_ < (fw_g W 272 0) → (fw_g W 273 x_) = ((qp q_1 x_.toNat : Nat) : Int))) ∧ ((1 : Int) = 1 ∧ (∀ u_ t_, 0 ≤ u_ → u_ < (fw_g W 272 0) → 0 ≤ t_ → t_ < (fw_g W 272 0) → fw_g W (fw_rc 278 u_) t_ = zD q_1 u_ t_) ∧ (fw_g W 273 0) = -1 ∧ (∀ j_, 0 ≤ j_ → j_ < (fw_g W 272 0) → (fw_g W 277 j_) = zo q_1 ((fw_g W 272 0)) j_)) ∧ (∀ (r2 : Int) (f3 : fw_W), ((-2147483648 ≤ r2 ∧ r2 ≤ 2147483647 ∧ (r2 = zfm q_1 ((fw_g W 272 0)) ((fw_g W 272 0) - 1) 0 ((fw_g W 272 0)) + 1))) → ∃ (q_4 : List Nat), ((qok ((fw_g W 272 0)).toNat q_4 = true ∧ qk2 ((fw_g W 272 0)).toNat q_4 = true) ∧ 2 ≤ (fw_g W 272 0) ∧ (fw_g W 272 0) ≤ 6 ∧ (∀ x_, 1 ≤ x_ → x_ < (fw_g W 272 0) → (fw_g W 273 x_) = ((qp q_4 x_.toNat : Nat) : Int))) ∧ ((∀ u_ t_, 0 ≤ u_ → u_ < (fw_g W 272 0) → 0 ≤ t_ → t_ < (fw_g W 272 0) → fw_g (fw_put [297, 301, 303, 304, 305, 306, 307, 308, 309, 310, 311, 312, 313, 314, 315, 316] 0 [] W f3) (fw_rc 278 u_) t_ = zD q_4 u_ t_)) ∧ (∀ (r5 : Int), ((-2147483648 ≤ r5 ∧ r5 ≤ 2147483647 ∧ (r5 = zwe q_4 ((fw_g W 272 0)) ((fw_g W 272 0)) ((2 ^ ((fw_g W 272 0)).toNat - 1 : Nat) : Int)))) → ((¬ r2 = r5 → 0 ≤ (0 : Int) ∧ (0 : Int) ≤ 1 ∧ Post (some (.inl (0 : Int))) (fw_put [297, 301, 303, 304, 305, 306, 307, 308, 309, 310, 311, 312, 313, 314, 315, 316] 0 [] W f3)) ∧ (r2 = r5 → 0 ≤ (1 : Int) ∧ (1 : Int) ≤ 1 ∧ Post (some (.inl (1 : Int))) (fw_put [297, 301, 303, 304, 305, 306, 307, 308, 309, 310, 311, 312, 313, 314, 315, 316] 0 [] W f3)))))) ∧ (la = (1 : Int) → ∃ (q_6 : List Nat), ((qok ((fw_g W 272 0)).toNat q_6 = true ∧ qk2 ((fw_g W 272 0)).toNat q_6 = true) ∧ 2 ≤ (fw_g W 272 0) ∧ (fw_g W 272 0) ≤ 6 ∧ (∀ x_, 1 ≤ x_ → x_ < (fw_g W 272 0) → (fw_g W 273 x_) = ((qp q_6 x_.toNat : Nat) : Int))) ∧ ((∀ u_ t_, 0 ≤ u_ → u_ < (fw_g W 272 0) → 0 ≤ t_ → t_ < (fw_g W 272 0) → fw_g W (fw_rc 278 u_) t_ = zD q_6 u_ t_)) ∧ (∀ (r7 : Int), ((0 ≤ r7 ∧ r7 ≤ 1 ∧ (r7 = 1))) → 0 ≤ r7 ∧ r7 ≤ 1 ∧ Post (some (.inl r7)) W)))) ∧ (la = 0 → ∃ (q_8 : List Nat), ((qok ((fw_g W 272 0)).toNat q_8 = true ∧ qk2 ((fw_g W 272 0)).toNat q_8 = true) ∧ 2 ≤ (fw_g W 272 0) ∧ (fw_g W 272 0) ≤ 6 ∧ (∀ x_, 1 ≤ x_ → x_ < (fw_g W 272 0) → (fw_g W 273 x_) = ((qp q_8 x_.toNat : Nat) : Int))) ∧ ((∀ u_ t_, 0 ≤ u_ → u_ < (fw_g W 272 0) → 0 ≤ t_ → t_ < (fw_g W 272 0) → fw_g W (fw_rc 278 u_) t_ = zD q_8 u_ t_) ∧ (∀ x_, 1 ≤ x_ → x_ < (fw_g W 272 0) → (fw_g W 274 x_) = 1) ∧ (fw_g W 273 0) = -1) ∧ (∀ (r9 : Int), ((0 ≤ r9 ∧ r9 ≤ 1 ∧ (r9 = 1))) → 0 ≤ r9 ∧ r9 ≤ 1 ∧ Post (some (.inl r9)) W)))) :
    jf fw_T (d + 5) 54 0 [(0, .inr (.inl 268)), (1, .inl la)] [] W Post := fw_ok (n := 16) (ss := []) (hv := []) fr_54_ok fv_tryx_ok (ct_k_holdsX_ok d) hw_

def x_k_holdsX : fw_X := fun as W Q => match as with
  | [.inr (.inl s_), .inl la] => fw_if (Nat.beq s_ 268) (∃ (q : List Nat), ((qok ((fw_g W 272 0)).toNat q = true ∧ qk2 ((fw_g W 272 0)).toNat q = true) ∧ 2 ≤ (fw_g W 272 0) ∧ (fw_g W 272 0) ≤ 6 ∧ (∀ x_, 1 ≤ x_ → x_ < (fw_g W 272 0) → (fw_g W 273 x_) = ((qp q x_.toNat : Nat) : Int))) ∧ ((∀ u_ t_, 0 ≤ u_ → u_ < (fw_g W 272 0) → 0 ≤ t_ → t_ < (fw_g W 272 0) → fw_g W (fw_rc 278 u_) t_ = zD q u_ t_) ∧ (∀ x_, 1 ≤ x_ → x_ < (fw_g W 272 0) → (fw_g W 274 x_) = 1) ∧ (fw_g W 273 0) = -1 ∧ (∀ j_, 0 ≤ j_ → j_ < (fw_g W 272 0) → (fw_g W 277 j_) = zo q ((fw_g W 272 0)) j_)) ∧ (∀ (v : Int) (f : fw_W), (0 ≤ v ∧ v ≤ 1 ∧ (v = 1)) → Q (some (.inl v)) (fw_put [297, 301, 303, 304, 305, 306, 307, 308, 309, 310, 311, 312, 313, 314, 315, 316] 0 [] W f)))
  | _ => False
theorem x_k_holdsX_ok (d : Nat) (as : List fw_V) (W : fw_W) (Q : Option fw_V → fw_W → Prop) (hx : x_k_holdsX as W Q) : jf fw_T (d + 5) 54 0 (fw_args 0 as) [] W Q := by
  unfold x_k_holdsX at hx
  split at hx
  · rename_i s_ la
    obtain ⟨e_, q, hgh, hpre, hQ⟩ := fw_if_ok hx
    have e_ := Nat.eq_of_beq_eq_true e_
    subst e_
    have hP : ∀ (v : Int) (W2 : fw_W), fw_sm [297, 301, 303, 304, 305, 306, 307, 308, 309, 310, 311, 312, 313, 314, 315, 316] 0 [] W W2 → _ → Q (some (.inl v)) W2 := fun v W2 hs hr => fw_sm_use (Q := fun Z => Q (some (.inl v)) Z) hs (hQ v W2 hr)
    refine s_k_holdsX_0 ?_
    have n2 := hgh.2.1
    have n6 := hgh.2.2.1
    have zq := zw_eq (n := (fw_g W 272 0)) (by omega) hgh.1.2
    repeat' (first
      | (exact ⟨hpre.1, hpre.2.1, hpre.2.2.1⟩)
      | (exact hpre.1)
      | (exact ⟨rfl, hpre.1, hpre.2.2.1, hpre.2.2.2⟩)
      | (exact fun u t u0 u1 t0 t1 => (fr_out rfl (by omega) (by omega)).trans (hpre.1 u t u0 u1 t0 t1))
      | (exact True.intro)
      | (exact hpre.1)
      | (refine And.intro ?_ ?_)
      | (refine hP _ _ (by repeat (first | exact fw_sm_refl | exact fw_sm_put0 | refine fw_sm_arr ?_ rfl | refine fw_sm_up ?_ rfl | refine fw_sm_put ?_ rfl | refine fw_sm_cp ?_ rfl | refine fw_sm_upr ?_ rfl)) ?_; (refine ⟨by omega, by omega, ?_⟩; (omega)))
      | (refine ⟨q, hgh, ?_⟩)
      | omega
      | (intro _))
  · exact hx.elim

def fr_53 : fw_P := [(0, 0, 0, 0, 1), (1, 3, 3, 0, 0), (2, 0, 0, 0, 0), (3, 3, 4, 0, 0), (5, 1, 4, 0, 0), (7, 1, 2, 0, 0), (8, 0, 0, 0, 2), (9, 31, 0, 0, 0), (10, 13, 23, 0, 0), (13, 1, 3, 0, 0), (14, 1, 2, 0, 0), (15, 32, 0, 0, 0), (16, 3, 3, 0, 0), (17, 5, 4, 0, 1), (20, 6, 5, 0, 0), (23, 0, 0, 0, 0), (24, 3, 4, 0, 0), (26, 0, 0, 0, 0), (27, 3, 5, 0, 0), (29, 1, 5, 0, 0), (31, 1, 3, 0, 0), (32, 13, 106, 0, 0), (35, 1, 5, 0, 0), (37, 3, 6, 0, 0), (39, 0, 0, 0, 0), (40, 3, 7, 0, 0), (42, 1, 7, 0, 0), (44, 1, 2, 0, 0), (45, 0, 0, 0, 2), (46, 31, 0, 0, 0), (47, 13, 73, 0, 0), (50, 2, 0, 0, 0), (51, 50, 4, 0, 0), (54, 1, 7, 0, 0), (56, 1, 6, 0, 0), (58, 1, 2, 0, 0), (59, 34, 0, 0, 0), (60, 53, 0, 0, 0), (61, 1, 6, 0, 0), (63, 1, 2, 0, 0), (64, 33, 0, 0, 0), (65, 3, 6, 0, 0), (67, 5, 7, 0, 1), (70, 6, 42, 0, 0), (73, 2, 0, 0, 0), (74, 1, 2, 0, 0), (75, 2, 0, 0, 0), (76, 50, 4, 3, 0), (79, 64, 45, 2, 404), (82, 2, 0, 0, 0), (83, 50, 4, 4, 0), (86, 64, 120, 0, 610), (89, 2, 0, 0, 0), (90, 1, 1, 0, 0), (91, 64, 54, 1, 204), (94, 21, 100, 0, 0), (97, 5, 4, 0, 1), (100, 5, 5, 0, 1), (103, 6, 29, 0, 0), (106, 1, 4, 0, 0), (108, 70, 0, 0, 0)]
theorem fr_53_ok : fw_mk 53 8 4 (some .int) fr_53 = true := by decide +kernel
def ct_k_countBrokenX : List (Nat × fw_X) := [(45, x_k_plantX), (120, x_k_measureX), (54, x_k_holdsX)]
theorem ct_k_countBrokenX_ok (d : Nat) : fw_cok fw_T (d + 5) ct_k_countBrokenX := by
  intro q hq as W Q h
  simp only [ct_k_countBrokenX, List.mem_cons, List.not_mem_nil, or_false] at hq
  rcases hq with rfl | rfl | rfl
  · exact jc_of (x_k_plantX_ok (d + 2) as W Q h)
  · exact jc_of (x_k_measureX_ok (d + 3) as W Q h)
  · exact jc_of (x_k_holdsX_ok (d + 0) as W Q h)
theorem s_k_countBrokenX_0 {Post : Option fw_V → fw_W → Prop} {d : Nat} {W : fw_W} {la nn : Int}
    (hw_ : jf fw_T (d + 6) 53 5 [(0, .inr (.inl 268)), (1, .inl la), (2, .inl nn), (3, .inl (1 : Int)), (4, .inl (0 : Int))] [] W Post) :
    jf fw_T (d + 6) 53 0 [(0, .inr (.inl 268)), (1, .inl la), (2, .inl nn)] [] W Post := fw_ok (n := 5) (ss := [(5, [0, 1, 2, 3, 4]), (29, [0, 1, 2, 3, 4, 5]), (42, [0, 1, 2, 3, 4, 5, 6, 7])]) (hv := [15]) fr_53_ok fv_tryx_ok (ct_k_countBrokenX_ok d) hw_

theorem s_k_countBrokenX_42 {Post : Option fw_V → fw_W → Prop} {d : Nat} {W : fw_W} {la nn tw_ br nu re i : Int} {f : fw_W}
    (hw_ : -2147483648 ≤ nn - (2 : Int) ∧ nn - (2 : Int) ≤ 2147483647 ∧ ((((nn - (2 : Int)) ≤ i → (2 ≤ nn ∧ nn ≤ 14 ∧ ∀ i_, 0 ≤ i_ → i_ < nn - 2 → 0 ≤ (fw_g f 269 i_) ∧ (fw_g f 269 i_) < nn) ∧ (∀ (f1 : fw_W), (((fw_g f1 272 0) = nn ∧ tr nn (fun z_ => (fw_g f1 273 z_)) ∧ (∀ x_, 1 ≤ x_ → x_ < nn → (fw_g f1 274 x_) = 1))) → ∃ (q_2 : List Nat), ((qok ((fw_g f1 272 0)).toNat q_2 = true ∧ qk2 ((fw_g f1 272 0)).toNat q_2 = true) ∧ 2 ≤ (fw_g f1 272 0) ∧ (fw_g f1 272 0) ≤ 6 ∧ (∀ x_, 1 ≤ x_ → x_ < (fw_g f1 272 0) → (fw_g f1 273 x_) = ((qp q_2 x_.toNat : Nat) : Int))) ∧ ((∀ x_, 1 ≤ x_ → x_ < (fw_g f1 272 0) → (fw_g f1 274 x_) = 1)) ∧ (∀ (f3 : fw_W), (((∀ u_ t_, 0 ≤ u_ → u_ < (fw_g f1 272 0) → 0 ≤ t_ → t_ < (fw_g f1 272 0) → fw_g f3 (fw_rc 278 u_) t_ = zD q_2 u_ t_) ∧ (∀ j_, 0 ≤ j_ → j_ < (fw_g f1 272 0) → (fw_g f3 277 j_) = zo q_2 ((fw_g f1 272 0)) j_))) → ∃ (q_4 : List Nat), ((qok ((fw_g f1 272 0)).toNat q_4 = true ∧ qk2 ((fw_g f1 272 0)).toNat q_4 = true) ∧ 2 ≤ (fw_g f1 272 0) ∧ (fw_g f1 272 0) ≤ 6 ∧ (∀ x_, 1 ≤ x_ → x_ < (fw_g f1 272 0) → (fw_g f1 273 x_) = ((qp q_4 x_.toNat : Nat) : Int))) ∧ ((∀ u_ t_, 0 ≤ u_ → u_ < (fw_g f1 272 0) → 0 ≤ t_ → t_ < (fw_g f1 272 0) → fw_g (fw_put [277, 279, 280, 281, 282, 283, 284, 285, 286, 287, 288, 289, 290, 291, 292] 0 [] (fw_put [270, 271, 273, 274, 275] 0 [272000] (fw_put [269, 270, 271, 273, 274, 275, 277, 297, 301, 279, 280, 281, 282, 283, 284, 285, 286, 287, 288, 289, 290, 291, 292, 303, 304, 305, 306, 307, 308, 309, 310, 311, 312, 313, 314, 315, 316] 0 [272000] W f) f1) f3) (fw_rc 278 u_) t_ = zD q_4 u_ t_) ∧ (∀ x_, 1 ≤ x_ → x_ < (fw_g f1 272 0) → (fw_g f1 274 x_) = 1) ∧ (fw_g f1 273 0) = -1 ∧ (∀ j_, 0 ≤ j_ → j_ < (fw_g f1 272 0) → (fw_g f3 277 j_) = zo q_4 ((fw_g f1 272 0)) j_)) ∧ (∀ (r5 : Int) (f6 : fw_W), ((0 ≤ r5 ∧ r5 ≤ 1 ∧ (r5 = 1))) → ((¬ r5 = 0 → -2147483648 ≤ nu + (1 : Int) ∧ nu + (1 : Int) ≤ 2147483647 ∧ (jf fw_T (d + 6) 53 29 [(0, .inr (.inl 268)), (1, .inl la), (2, .inl nn), (3, .inl tw_), (4, .inl br), (5, .inl (nu + (1 : Int)))] [] (fw_put [297, 301, 303, 304, 305, 306, 307, 308, 309, 310, 311, 312, 313, 314, 315, 316] 0 [] (fw_put [277, 279, 280, 281, 282, 283, 284, 285, 286, 287, 288, 289, 290, 291, 292] 0 [] (fw_put [270, 271, 273, 274, 275] 0 [272000] (fw_put [269, 270, 271, 273, 274, 275, 277, 297, 301, 279, 280, 281, 282, 283, 284, 285, 286, 287, 288, 289, 290, 291, 292, 303, 304, 305, 306, 307, 308, 309, 310, 311, 312, 313, 314, 315, 316] 0 [272000] W f) f1) f3) f6) Post)) ∧ (r5 = 0 → -2147483648 ≤ br + (1 : Int) ∧ br + (1 : Int) ≤ 2147483647 ∧ (-2147483648 ≤ nu + (1 : Int) ∧ nu + (1 : Int) ≤ 2147483647 ∧ (jf fw_T (d + 6) 53 29 [(0, .inr (.inl 268)), (1, .inl la), (2, .inl nn), (3, .inl tw_), (4, .inl (br + (1 : Int))), (5, .inl (nu + (1 : Int)))] [] (fw_put [297, 301, 303, 304, 305, 306, 307, 308, 309, 310, 311, 312, 313, 314, 315, 316] 0 [] (fw_put [277, 279, 280, 281, 282, 283, 284, 285, 286, 287, 288, 289, 290, 291, 292] 0 [] (fw_put [270, 271, 273, 274, 275] 0 [272000] (fw_put [269, 270, 271, 273, 274, 275, 277, 297, 301, 279, 280, 281, 282, 283, 284, 285, 286, 287, 288, 289, 290, 291, 292, 303, 304, 305, 306, 307, 308, 309, 310, 311, 312, 313, 314, 315, 316] 0 [272000] W f) f1) f3) f6) Post)))))))) ∧ (i < (nn - (2 : Int)) → 0 ≤ re ∧ 0 < nn ∧ (0 ≤ i ∧ i < 14 ∧ 0 ≤ (re % nn) ∧ (re % nn) ≤ 15 ∧ (0 ≤ re ∧ 0 < nn ∧ (-2147483648 ≤ i + (1 : Int) ∧ i + (1 : Int) ≤ 2147483647 ∧ (jf fw_T (d + 6) 53 42 [(0, .inr (.inl 268)), (1, .inl la), (2, .inl nn), (3, .inl tw_), (4, .inl br), (5, .inl nu), (6, .inl (re / nn)), (7, .inl (i + (1 : Int)))] [] (fw_up (fw_put [269, 270, 271, 273, 274, 275, 277, 297, 301, 279, 280, 281, 282, 283, 284, 285, 286, 287, 288, 289, 290, 291, 292, 303, 304, 305, 306, 307, 308, 309, 310, 311, 312, 313, 314, 315, 316] 0 [272000] W f) 269 i (re % nn)) Post)))))))) :
    jf fw_T (d + 6) 53 42 [(0, .inr (.inl 268)), (1, .inl la), (2, .inl nn), (3, .inl tw_), (4, .inl br), (5, .inl nu), (6, .inl re), (7, .inl i)] [] (fw_put [269, 270, 271, 273, 274, 275, 277, 297, 301, 279, 280, 281, 282, 283, 284, 285, 286, 287, 288, 289, 290, 291, 292, 303, 304, 305, 306, 307, 308, 309, 310, 311, 312, 313, 314, 315, 316] 0 [272000] W f) Post := fw_ok (n := 21) (ss := [(5, [0, 1, 2, 3, 4]), (29, [0, 1, 2, 3, 4, 5]), (42, [0, 1, 2, 3, 4, 5, 6, 7])]) (hv := [15]) fr_53_ok fv_tryx_ok (ct_k_countBrokenX_ok d) hw_

theorem s_k_countBrokenX_29 {Post : Option fw_V → fw_W → Prop} {d : Nat} {W : fw_W} {la nn tw_ br nu : Int} {f : fw_W}
    (hw_ : ((tw_ ≤ nu → (-2147483648 ≤ br → br ≤ 2147483647 → Post (some (.inl br)) (fw_put [269, 270, 271, 273, 274, 275, 277, 297, 301, 279, 280, 281, 282, 283, 284, 285, 286, 287, 288, 289, 290, 291, 292, 303, 304, 305, 306, 307, 308, 309, 310, 311, 312, 313, 314, 315, 316] 0 [272000] W f))) ∧ (nu < tw_ → jf fw_T (d + 6) 53 42 [(0, .inr (.inl 268)), (1, .inl la), (2, .inl nn), (3, .inl tw_), (4, .inl br), (5, .inl nu), (6, .inl nu), (7, .inl (0 : Int))] [] (fw_put [269, 270, 271, 273, 274, 275, 277, 297, 301, 279, 280, 281, 282, 283, 284, 285, 286, 287, 288, 289, 290, 291, 292, 303, 304, 305, 306, 307, 308, 309, 310, 311, 312, 313, 314, 315, 316] 0 [272000] W f) Post))) :
    jf fw_T (d + 6) 53 29 [(0, .inr (.inl 268)), (1, .inl la), (2, .inl nn), (3, .inl tw_), (4, .inl br), (5, .inl nu)] [] (fw_put [269, 270, 271, 273, 274, 275, 277, 297, 301, 279, 280, 281, 282, 283, 284, 285, 286, 287, 288, 289, 290, 291, 292, 303, 304, 305, 306, 307, 308, 309, 310, 311, 312, 313, 314, 315, 316] 0 [272000] W f) Post := fw_ok (n := 8) (ss := [(5, [0, 1, 2, 3, 4]), (29, [0, 1, 2, 3, 4, 5]), (42, [0, 1, 2, 3, 4, 5, 6, 7])]) (hv := [15]) fr_53_ok fv_tryx_ok (ct_k_countBrokenX_ok d) hw_

theorem s_k_countBrokenX_5 {Post : Option fw_V → fw_W → Prop} {d : Nat} {W : fw_W} {la nn tw_ br : Int} {f : fw_W}
    (hw_ : -2147483648 ≤ nn - (2 : Int) ∧ nn - (2 : Int) ≤ 2147483647 ∧ ((((nn - (2 : Int)) ≤ br → jf fw_T (d + 6) 53 29 [(0, .inr (.inl 268)), (1, .inl la), (2, .inl nn), (3, .inl tw_), (4, .inl (0 : Int)), (5, .inl (0 : Int))] [] (fw_put [269, 270, 271, 273, 274, 275, 277, 297, 301, 279, 280, 281, 282, 283, 284, 285, 286, 287, 288, 289, 290, 291, 292, 303, 304, 305, 306, 307, 308, 309, 310, 311, 312, 313, 314, 315, 316] 0 [272000] W f) Post) ∧ (br < (nn - (2 : Int)) → ∀ v1 : Int, -2147483648 ≤ v1 → v1 ≤ 2147483647 → -2147483648 ≤ br + (1 : Int) ∧ br + (1 : Int) ≤ 2147483647 ∧ (jf fw_T (d + 6) 53 5 [(0, .inr (.inl 268)), (1, .inl la), (2, .inl nn), (3, .inl v1), (4, .inl (br + (1 : Int)))] [] (fw_put [269, 270, 271, 273, 274, 275, 277, 297, 301, 279, 280, 281, 282, 283, 284, 285, 286, 287, 288, 289, 290, 291, 292, 303, 304, 305, 306, 307, 308, 309, 310, 311, 312, 313, 314, 315, 316] 0 [272000] W f) Post))))) :
    jf fw_T (d + 6) 53 5 [(0, .inr (.inl 268)), (1, .inl la), (2, .inl nn), (3, .inl tw_), (4, .inl br)] [] (fw_put [269, 270, 271, 273, 274, 275, 277, 297, 301, 279, 280, 281, 282, 283, 284, 285, 286, 287, 288, 289, 290, 291, 292, 303, 304, 305, 306, 307, 308, 309, 310, 311, 312, 313, 314, 315, 316] 0 [272000] W f) Post := fw_ok (n := 12) (ss := [(5, [0, 1, 2, 3, 4]), (29, [0, 1, 2, 3, 4, 5]), (42, [0, 1, 2, 3, 4, 5, 6, 7])]) (hv := [15]) fr_53_ok fv_tryx_ok (ct_k_countBrokenX_ok d) hw_

theorem lm_k_countBrokenX_42 {Post : Option fw_V → fw_W → Prop} {d : Nat} {W : fw_W} {la nn : Int} (hpre : 2 ≤ nn ∧ nn ≤ 6) (hP : ∀ (v : Int) (W2 : fw_W), fw_sm [269, 270, 271, 273, 274, 275, 277, 297, 301, 279, 280, 281, 282, 283, 284, 285, 286, 287, 288, 289, 290, 291, 292, 303, 304, 305, 306, 307, 308, 309, 310, 311, 312, 313, 314, 315, 316] 0 [272000] W W2 → (-2147483648 ≤ v ∧ v ≤ 2147483647 ∧ (v = 0)) → Post (some (.inl v)) W2) (M29 : Int) (h29 : ∀ (tw_ br nu : Int) (f : fw_W), 0 ≤ nu ∧ br = 0 → (tw_ - nu) < M29 → jf fw_T (d + 6) 53 29 [(0, .inr (.inl 268)), (1, .inl la), (2, .inl nn), (3, .inl tw_), (4, .inl br), (5, .inl nu)] [] (fw_put [269, 270, 271, 273, 274, 275, 277, 297, 301, 279, 280, 281, 282, 283, 284, 285, 286, 287, 288, 289, 290, 291, 292, 303, 304, 305, 306, 307, 308, 309, 310, 311, 312, 313, 314, 315, 316] 0 [272000] W f) Post) : ∀ (m : Nat) (tw_ br nu re i : Int) (f : fw_W), (nn - i).toNat = m → ((0 ≤ i ∧ 0 ≤ re ∧ 0 ≤ nu ∧ nu < tw_ ∧ br = 0) ∧ ∀ j_, 0 ≤ j_ → j_ < i → 0 ≤ (fw_g f 269 j_) ∧ (fw_g f 269 j_) < nn) → (tw_ - nu) ≤ M29 → jf fw_T (d + 6) 53 42 [(0, .inr (.inl 268)), (1, .inl la), (2, .inl nn), (3, .inl tw_), (4, .inl br), (5, .inl nu), (6, .inl re), (7, .inl i)] [] (fw_put [269, 270, 271, 273, 274, 275, 277, 297, 301, 279, 280, 281, 282, 283, 284, 285, 286, 287, 288, 289, 290, 291, 292, 303, 304, 305, 306, 307, 308, 309, 310, 311, 312, 313, 314, 315, 316] 0 [272000] W f) Post := by
  intro m
  induction m using Nat.strongRecOn with
  | ind m ih =>
    intro tw_ br nu re i f hm hi e29
    refine jf_rng (fun hrg => ?_)
    have hrg : -2147483648 ≤ la ∧ la ≤ 2147483647 ∧ -2147483648 ≤ nn ∧ nn ≤ 2147483647 ∧ -2147483648 ≤ tw_ ∧ tw_ ≤ 2147483647 ∧ -2147483648 ≤ br ∧ br ≤ 2147483647 ∧ -2147483648 ≤ nu ∧ nu ≤ 2147483647 ∧ -2147483648 ≤ re ∧ re ≤ 2147483647 ∧ -2147483648 ≤ i ∧ i ≤ 2147483647 ∧ True := hrg
    refine s_k_countBrokenX_42 ?_
    have hi1 := hi.1
    have m1 := Int.emod_nonneg re (show nn ≠ 0 by omega)
    have m2 := Int.emod_lt_of_pos re (show (0 : Int) < nn by omega)
    have m3 := Int.ediv_nonneg hi1.2.1 (show (0 : Int) ≤ nn by omega)
    have m4 := Int.ediv_le_self nn hi1.2.1
    repeat' (first
      | (intro i i1 i2; exact hi.2 i i1 (by omega))
      | (rename_i f2 h2
         have e : fw_g f2 272 0 = nn := h2.1
         have ht : tr nn (fun z_ => fw_g f2 273 z_) := h2.2.1
         obtain ⟨q, k1, k2, k3⟩ := q_of ht (by omega) (by omega)
         have k4 := q_ok (by omega) (by omega) k1 k2
         have k5 := qk_ok (by omega) (by omega) k1 k2
         refine ⟨q, ⟨⟨by show qok (fw_g f2 272 0).toNat q = true; rw [e]; exact k4, by show qk2 (fw_g f2 272 0).toNat q = true; rw [e]; exact k5⟩, by show (2 : Int) ≤ fw_g f2 272 0; omega, by show fw_g f2 272 0 ≤ (6 : Int); omega, fun x x1 x2 => k3 x x1 (by have x3 : x < fw_g f2 272 0 := x2; omega)⟩, fun x x1 x2 => h2.2.2 x x1 (by have x3 : x < fw_g f2 272 0 := x2; omega), ?_⟩)
      | (rename_i f3 h3
         refine ⟨q, ⟨⟨by show qok (fw_g f2 272 0).toNat q = true; rw [e]; exact k4, by show qk2 (fw_g f2 272 0).toNat q = true; rw [e]; exact k5⟩, by show (2 : Int) ≤ fw_g f2 272 0; omega, by show fw_g f2 272 0 ≤ (6 : Int); omega, fun x x1 x2 => k3 x x1 (by have x3 : x < fw_g f2 272 0 := x2; omega)⟩, ⟨fun u t u0 u1 t0 t1 => ?_, fun x x1 x2 => h2.2.2 x x1 (by have x3 : x < fw_g f2 272 0 := x2; omega), ht.1 (by omega), h3.2⟩, ?_⟩
         (have u3 : u < fw_g f2 272 0 := u1; have t3 : t < fw_g f2 272 0 := t1; exact (fr_in rfl (by omega) (by omega)).trans (h3.1 u t u0 u1 t0 t1)))
      | (exact True.intro)
      | (exact hpre.1)
      | (refine And.intro ?_ ?_)
      | (refine (h29 _ _ _ _ ?_ (by omega)); (first | omega | trivial | (simp (config := { decide := true }) only [fg_in, fg_fin, fg_out, fg_fout, fg_up, fg_same, true_and, and_true] <;> omega)))
      | (refine jf_put (S := [269, 270, 271, 273, 274, 275, 277, 297, 301, 279, 280, 281, 282, 283, 284, 285, 286, 287, 288, 289, 290, 291, 292, 303, 304, 305, 306, 307, 308, 309, 310, 311, 312, 313, 314, 315, 316]) (o := 0) (F := [272000]) (W := W) (by repeat (first | exact fw_sm_refl | exact fw_sm_put0 | refine fw_sm_arr ?_ rfl | refine fw_sm_up ?_ rfl | refine fw_sm_put ?_ rfl | refine fw_sm_cp ?_ rfl | refine fw_sm_upr ?_ rfl)) (h29 _ _ _ _ ?_ (by omega)); (first | omega | trivial | (simp (config := { decide := true }) only [fg_in, fg_fin, fg_out, fg_fout, fg_up, fg_same, true_and, and_true] <;> omega)))
      | (refine (ih _ (by omega) _ _ _ _ _ _ rfl ?_ (by omega)); (
        refine ⟨by omega, fun x x1 x2 => ?_⟩
        rw [fg_if (by omega) (by omega) (by omega) (by omega)]
        by_cases e : i = x
        · rw [if_pos e]; omega
        · rw [if_neg e]; exact hi.2 x x1 (by omega)))
      | (refine jf_put (S := [269, 270, 271, 273, 274, 275, 277, 297, 301, 279, 280, 281, 282, 283, 284, 285, 286, 287, 288, 289, 290, 291, 292, 303, 304, 305, 306, 307, 308, 309, 310, 311, 312, 313, 314, 315, 316]) (o := 0) (F := [272000]) (W := W) (by repeat (first | exact fw_sm_refl | exact fw_sm_put0 | refine fw_sm_arr ?_ rfl | refine fw_sm_up ?_ rfl | refine fw_sm_put ?_ rfl | refine fw_sm_cp ?_ rfl | refine fw_sm_upr ?_ rfl)) (ih _ (by omega) _ _ _ _ _ _ rfl ?_ (by omega)); (
        refine ⟨by omega, fun x x1 x2 => ?_⟩
        rw [fg_if (by omega) (by omega) (by omega) (by omega)]
        by_cases e : i = x
        · rw [if_pos e]; omega
        · rw [if_neg e]; exact hi.2 x x1 (by omega)))
      | (refine hP _ _ (by repeat (first | exact fw_sm_refl | exact fw_sm_put0 | refine fw_sm_arr ?_ rfl | refine fw_sm_up ?_ rfl | refine fw_sm_put ?_ rfl | refine fw_sm_cp ?_ rfl | refine fw_sm_upr ?_ rfl)) ?_; (refine ⟨by omega, by omega, ?_⟩; (omega)))
      | omega
      | (intro _))
theorem lm_k_countBrokenX_29 {Post : Option fw_V → fw_W → Prop} {d : Nat} {W : fw_W} {la nn : Int} (hpre : 2 ≤ nn ∧ nn ≤ 6) (hP : ∀ (v : Int) (W2 : fw_W), fw_sm [269, 270, 271, 273, 274, 275, 277, 297, 301, 279, 280, 281, 282, 283, 284, 285, 286, 287, 288, 289, 290, 291, 292, 303, 304, 305, 306, 307, 308, 309, 310, 311, 312, 313, 314, 315, 316] 0 [272000] W W2 → (-2147483648 ≤ v ∧ v ≤ 2147483647 ∧ (v = 0)) → Post (some (.inl v)) W2)  : ∀ (m : Nat) (tw_ br nu : Int) (f : fw_W), (tw_ - nu).toNat = m → 0 ≤ nu ∧ br = 0 → jf fw_T (d + 6) 53 29 [(0, .inr (.inl 268)), (1, .inl la), (2, .inl nn), (3, .inl tw_), (4, .inl br), (5, .inl nu)] [] (fw_put [269, 270, 271, 273, 274, 275, 277, 297, 301, 279, 280, 281, 282, 283, 284, 285, 286, 287, 288, 289, 290, 291, 292, 303, 304, 305, 306, 307, 308, 309, 310, 311, 312, 313, 314, 315, 316] 0 [272000] W f) Post := by
  intro m
  induction m using Nat.strongRecOn with
  | ind m ih =>
    intro tw_ br nu f hm hi
    refine jf_rng (fun hrg => ?_)
    have hrg : -2147483648 ≤ la ∧ la ≤ 2147483647 ∧ -2147483648 ≤ nn ∧ nn ≤ 2147483647 ∧ -2147483648 ≤ tw_ ∧ tw_ ≤ 2147483647 ∧ -2147483648 ≤ br ∧ br ≤ 2147483647 ∧ -2147483648 ≤ nu ∧ nu ≤ 2147483647 ∧ True := hrg
    refine s_k_countBrokenX_29 ?_
    repeat' (first
      | (exact True.intro)
      | (exact hpre.1)
      | (refine And.intro ?_ ?_)
      | (refine (ih _ (by omega) _ _ _ _ rfl ?_); (first | omega | trivial | (simp (config := { decide := true }) only [fg_in, fg_fin, fg_out, fg_fout, fg_up, fg_same, true_and, and_true] <;> omega)))
      | (refine jf_put (S := [269, 270, 271, 273, 274, 275, 277, 297, 301, 279, 280, 281, 282, 283, 284, 285, 286, 287, 288, 289, 290, 291, 292, 303, 304, 305, 306, 307, 308, 309, 310, 311, 312, 313, 314, 315, 316]) (o := 0) (F := [272000]) (W := W) (by repeat (first | exact fw_sm_refl | exact fw_sm_put0 | refine fw_sm_arr ?_ rfl | refine fw_sm_up ?_ rfl | refine fw_sm_put ?_ rfl | refine fw_sm_cp ?_ rfl | refine fw_sm_upr ?_ rfl)) (ih _ (by omega) _ _ _ _ rfl ?_); (first | omega | trivial | (simp (config := { decide := true }) only [fg_in, fg_fin, fg_out, fg_fout, fg_up, fg_same, true_and, and_true] <;> omega)))
      | (refine (lm_k_countBrokenX_42 (la := la) (nn := nn) hpre hP (tw_ - nu) (fun a0 a1 a2 af hi hl => ih _ (by omega) a0 a1 a2 af rfl hi) _ _ _ _ _ _ _ rfl ?_ (by omega)); (exact ⟨by omega, fun x x1 x2 => by omega⟩))
      | (refine jf_put (S := [269, 270, 271, 273, 274, 275, 277, 297, 301, 279, 280, 281, 282, 283, 284, 285, 286, 287, 288, 289, 290, 291, 292, 303, 304, 305, 306, 307, 308, 309, 310, 311, 312, 313, 314, 315, 316]) (o := 0) (F := [272000]) (W := W) (by repeat (first | exact fw_sm_refl | exact fw_sm_put0 | refine fw_sm_arr ?_ rfl | refine fw_sm_up ?_ rfl | refine fw_sm_put ?_ rfl | refine fw_sm_cp ?_ rfl | refine fw_sm_upr ?_ rfl)) (lm_k_countBrokenX_42 (la := la) (nn := nn) hpre hP (tw_ - nu) (fun a0 a1 a2 af hi hl => ih _ (by omega) a0 a1 a2 af rfl hi) _ _ _ _ _ _ _ rfl ?_ (by omega)); (exact ⟨by omega, fun x x1 x2 => by omega⟩))
      | (refine hP _ _ (by repeat (first | exact fw_sm_refl | exact fw_sm_put0 | refine fw_sm_arr ?_ rfl | refine fw_sm_up ?_ rfl | refine fw_sm_put ?_ rfl | refine fw_sm_cp ?_ rfl | refine fw_sm_upr ?_ rfl)) ?_; (refine ⟨by omega, by omega, ?_⟩; (omega)))
      | omega
      | (intro _))
theorem lm_k_countBrokenX_5 {Post : Option fw_V → fw_W → Prop} {d : Nat} {W : fw_W} {la nn : Int} (hpre : 2 ≤ nn ∧ nn ≤ 6) (hP : ∀ (v : Int) (W2 : fw_W), fw_sm [269, 270, 271, 273, 274, 275, 277, 297, 301, 279, 280, 281, 282, 283, 284, 285, 286, 287, 288, 289, 290, 291, 292, 303, 304, 305, 306, 307, 308, 309, 310, 311, 312, 313, 314, 315, 316] 0 [272000] W W2 → (-2147483648 ≤ v ∧ v ≤ 2147483647 ∧ (v = 0)) → Post (some (.inl v)) W2)  : ∀ (m : Nat) (tw_ br : Int) (f : fw_W), (nn - br).toNat = m → 0 ≤ br → jf fw_T (d + 6) 53 5 [(0, .inr (.inl 268)), (1, .inl la), (2, .inl nn), (3, .inl tw_), (4, .inl br)] [] (fw_put [269, 270, 271, 273, 274, 275, 277, 297, 301, 279, 280, 281, 282, 283, 284, 285, 286, 287, 288, 289, 290, 291, 292, 303, 304, 305, 306, 307, 308, 309, 310, 311, 312, 313, 314, 315, 316] 0 [272000] W f) Post := by
  intro m
  induction m using Nat.strongRecOn with
  | ind m ih =>
    intro tw_ br f hm hi
    refine jf_rng (fun hrg => ?_)
    have hrg : -2147483648 ≤ la ∧ la ≤ 2147483647 ∧ -2147483648 ≤ nn ∧ nn ≤ 2147483647 ∧ -2147483648 ≤ tw_ ∧ tw_ ≤ 2147483647 ∧ -2147483648 ≤ br ∧ br ≤ 2147483647 ∧ True := hrg
    refine s_k_countBrokenX_5 ?_
    repeat' (first
      | (exact True.intro)
      | (exact hpre.1)
      | (refine And.intro ?_ ?_)
      | (refine (ih _ (by omega) _ _ _ rfl ?_); (first | omega | trivial | (simp (config := { decide := true }) only [fg_in, fg_fin, fg_out, fg_fout, fg_up, fg_same, true_and, and_true] <;> omega)))
      | (refine jf_put (S := [269, 270, 271, 273, 274, 275, 277, 297, 301, 279, 280, 281, 282, 283, 284, 285, 286, 287, 288, 289, 290, 291, 292, 303, 304, 305, 306, 307, 308, 309, 310, 311, 312, 313, 314, 315, 316]) (o := 0) (F := [272000]) (W := W) (by repeat (first | exact fw_sm_refl | exact fw_sm_put0 | refine fw_sm_arr ?_ rfl | refine fw_sm_up ?_ rfl | refine fw_sm_put ?_ rfl | refine fw_sm_cp ?_ rfl | refine fw_sm_upr ?_ rfl)) (ih _ (by omega) _ _ _ rfl ?_); (first | omega | trivial | (simp (config := { decide := true }) only [fg_in, fg_fin, fg_out, fg_fout, fg_up, fg_same, true_and, and_true] <;> omega)))
      | (refine (lm_k_countBrokenX_29 (la := la) (nn := nn) hpre hP _ _ _ _ _ rfl ?_); (first | omega | trivial | (simp (config := { decide := true }) only [fg_in, fg_fin, fg_out, fg_fout, fg_up, fg_same, true_and, and_true] <;> omega)))
      | (refine jf_put (S := [269, 270, 271, 273, 274, 275, 277, 297, 301, 279, 280, 281, 282, 283, 284, 285, 286, 287, 288, 289, 290, 291, 292, 303, 304, 305, 306, 307, 308, 309, 310, 311, 312, 313, 314, 315, 316]) (o := 0) (F := [272000]) (W := W) (by repeat (first | exact fw_sm_refl | exact fw_sm_put0 | refine fw_sm_arr ?_ rfl | refine fw_sm_up ?_ rfl | refine fw_sm_put ?_ rfl | refine fw_sm_cp ?_ rfl | refine fw_sm_upr ?_ rfl)) (lm_k_countBrokenX_29 (la := la) (nn := nn) hpre hP _ _ _ _ _ rfl ?_); (first | omega | trivial | (simp (config := { decide := true }) only [fg_in, fg_fin, fg_out, fg_fout, fg_up, fg_same, true_and, and_true] <;> omega)))
      | (refine hP _ _ (by repeat (first | exact fw_sm_refl | exact fw_sm_put0 | refine fw_sm_arr ?_ rfl | refine fw_sm_up ?_ rfl | refine fw_sm_put ?_ rfl | refine fw_sm_cp ?_ rfl | refine fw_sm_upr ?_ rfl)) ?_; (refine ⟨by omega, by omega, ?_⟩; (omega)))
      | omega
      | (intro _))
def x_k_countBrokenX : fw_X := fun as W Q => match as with
  | [.inr (.inl s_), .inl la, .inl nn] => fw_if (Nat.beq s_ 268) ((2 ≤ nn ∧ nn ≤ 6) ∧ (∀ (v : Int) (f : fw_W), (-2147483648 ≤ v ∧ v ≤ 2147483647 ∧ (v = 0)) → Q (some (.inl v)) (fw_put [269, 270, 271, 273, 274, 275, 277, 297, 301, 279, 280, 281, 282, 283, 284, 285, 286, 287, 288, 289, 290, 291, 292, 303, 304, 305, 306, 307, 308, 309, 310, 311, 312, 313, 314, 315, 316] 0 [272000] W f)))
  | _ => False
theorem x_k_countBrokenX_ok (d : Nat) (as : List fw_V) (W : fw_W) (Q : Option fw_V → fw_W → Prop) (hx : x_k_countBrokenX as W Q) : jf fw_T (d + 6) 53 0 (fw_args 0 as) [] W Q := by
  unfold x_k_countBrokenX at hx
  split at hx
  · rename_i s_ la nn
    obtain ⟨e_, hpre, hQ⟩ := fw_if_ok hx
    have e_ := Nat.eq_of_beq_eq_true e_
    subst e_
    have hP : ∀ (v : Int) (W2 : fw_W), fw_sm [269, 270, 271, 273, 274, 275, 277, 297, 301, 279, 280, 281, 282, 283, 284, 285, 286, 287, 288, 289, 290, 291, 292, 303, 304, 305, 306, 307, 308, 309, 310, 311, 312, 313, 314, 315, 316] 0 [272000] W W2 → _ → Q (some (.inl v)) W2 := fun v W2 hs hr => fw_sm_use (Q := fun Z => Q (some (.inl v)) Z) hs (hQ v W2 hr)
    refine s_k_countBrokenX_0 ?_
    repeat' (first
      | (exact True.intro)
      | (exact hpre.1)
      | (refine And.intro ?_ ?_)
      | (refine jf_put (S := [269, 270, 271, 273, 274, 275, 277, 297, 301, 279, 280, 281, 282, 283, 284, 285, 286, 287, 288, 289, 290, 291, 292, 303, 304, 305, 306, 307, 308, 309, 310, 311, 312, 313, 314, 315, 316]) (o := 0) (F := [272000]) (W := W) (by repeat (first | exact fw_sm_refl | exact fw_sm_put0 | refine fw_sm_arr ?_ rfl | refine fw_sm_up ?_ rfl | refine fw_sm_put ?_ rfl | refine fw_sm_cp ?_ rfl | refine fw_sm_upr ?_ rfl)) (lm_k_countBrokenX_5 (la := la) (nn := nn) hpre hP _ _ _ _ rfl ?_); (first | omega | trivial | (simp (config := { decide := true }) only [fg_in, fg_fin, fg_out, fg_fout, fg_up, fg_same, true_and, and_true] <;> omega)))
      | (refine jf_put (S := [269, 270, 271, 273, 274, 275, 277, 297, 301, 279, 280, 281, 282, 283, 284, 285, 286, 287, 288, 289, 290, 291, 292, 303, 304, 305, 306, 307, 308, 309, 310, 311, 312, 313, 314, 315, 316]) (o := 0) (F := [272000]) (W := W) (by repeat (first | exact fw_sm_refl | exact fw_sm_put0 | refine fw_sm_arr ?_ rfl | refine fw_sm_up ?_ rfl | refine fw_sm_put ?_ rfl | refine fw_sm_cp ?_ rfl | refine fw_sm_upr ?_ rfl)) (lm_k_countBrokenX_29 (la := la) (nn := nn) hpre hP _ _ _ _ _ rfl ?_); (first | omega | trivial | (simp (config := { decide := true }) only [fg_in, fg_fin, fg_out, fg_fout, fg_up, fg_same, true_and, and_true] <;> omega)))
      | (refine jf_put (S := [269, 270, 271, 273, 274, 275, 277, 297, 301, 279, 280, 281, 282, 283, 284, 285, 286, 287, 288, 289, 290, 291, 292, 303, 304, 305, 306, 307, 308, 309, 310, 311, 312, 313, 314, 315, 316]) (o := 0) (F := [272000]) (W := W) (by repeat (first | exact fw_sm_refl | exact fw_sm_put0 | refine fw_sm_arr ?_ rfl | refine fw_sm_up ?_ rfl | refine fw_sm_put ?_ rfl | refine fw_sm_cp ?_ rfl | refine fw_sm_upr ?_ rfl)) (lm_k_countBrokenX_42 (la := la) (nn := nn) hpre hP M29 h29 _ _ _ _ _ _ _ rfl ?_ (by omega)); (first | omega | trivial | (simp (config := { decide := true }) only [fg_in, fg_fin, fg_out, fg_fout, fg_up, fg_same, true_and, and_true] <;> omega)))
      | (refine hP _ _ (by repeat (first | exact fw_sm_refl | exact fw_sm_put0 | refine fw_sm_arr ?_ rfl | refine fw_sm_up ?_ rfl | refine fw_sm_put ?_ rfl | refine fw_sm_cp ?_ rfl | refine fw_sm_upr ?_ rfl)) ?_; (refine ⟨by omega, by omega, ?_⟩; (omega)))
      | omega
      | (intro _))
  · exact hx.elim

def fr_52 : fw_P := [(0, 1, 1, 0, 0), (1, 0, 0, 0, 7), (3, 32, 0, 0, 0), (4, 1, 2, 0, 0), (5, 30, 0, 0, 0), (6, 3, 3, 0, 0), (7, 2, 0, 0, 0), (8, 50, 4, 6, 0), (11, 1, 3, 0, 0), (12, 52, 0, 0, 0), (13, 21, 30, 0, 0), (16, 2, 0, 0, 0), (17, 50, 4, 6, 0), (20, 1, 3, 0, 0), (21, 0, 0, 0, 1), (22, 2, 0, 0, 0), (23, 1, 1, 0, 0), (24, 1, 2, 0, 0), (25, 64, 53, 2, 804), (28, 30, 0, 0, 0), (29, 53, 0, 0, 0), (30, 2, 0, 0, 0), (31, 50, 4, 6, 0), (34, 1, 3, 0, 0), (35, 52, 0, 0, 0), (36, 0, 0, 0, 1), (37, 31, 0, 0, 0), (38, 70, 0, 0, 0)]
theorem fr_52_ok : fw_mk 52 4 4 (some .int) fr_52 = true := by decide +kernel
def ct_k_tryLawX : List (Nat × fw_X) := [(53, x_k_countBrokenX)]
theorem ct_k_tryLawX_ok (d : Nat) : fw_cok fw_T (d + 6) ct_k_tryLawX := by
  intro q hq as W Q h
  simp only [ct_k_tryLawX, List.mem_cons, List.not_mem_nil, or_false] at hq
  rcases hq with rfl
  · exact jc_of (x_k_countBrokenX_ok (d + 0) as W Q h)
theorem s_k_tryLawX_0 {Post : Option fw_V → fw_W → Prop} {d : Nat} {W : fw_W} {la nn : Int}
    (hw_ : -2147483648 ≤ la * (7 : Int) ∧ la * (7 : Int) ≤ 2147483647 ∧ (-2147483648 ≤ (la * (7 : Int)) + nn ∧ (la * (7 : Int)) + nn ≤ 2147483647 ∧ (0 ≤ ((la * (7 : Int)) + nn) ∧ ((la * (7 : Int)) + nn) < 21 ∧ (0 ≤ (fw_g W 323 ((la * (7 : Int)) + nn)) → (fw_g W 323 ((la * (7 : Int)) + nn)) ≤ 1 → ((¬ (fw_g W 323 ((la * (7 : Int)) + nn)) = 0 → 0 ≤ ((la * (7 : Int)) + nn) ∧ ((la * (7 : Int)) + nn) < 21 ∧ (0 ≤ (fw_g W 323 ((la * (7 : Int)) + nn)) → (fw_g W 323 ((la * (7 : Int)) + nn)) ≤ 1 → -2147483648 ≤ (fw_g W 323 ((la * (7 : Int)) + nn)) - (1 : Int) ∧ (fw_g W 323 ((la * (7 : Int)) + nn)) - (1 : Int) ≤ 2147483647 ∧ ((-2147483648 ≤ ((fw_g W 323 ((la * (7 : Int)) + nn)) - (1 : Int)) → ((fw_g W 323 ((la * (7 : Int)) + nn)) - (1 : Int)) ≤ 2147483647 → Post (some (.inl ((fw_g W 323 ((la * (7 : Int)) + nn)) - (1 : Int)))) W)))) ∧ ((fw_g W 323 ((la * (7 : Int)) + nn)) = 0 → (2 ≤ nn ∧ nn ≤ 6) ∧ (∀ (r1 : Int) (f2 : fw_W), ((-2147483648 ≤ r1 ∧ r1 ≤ 2147483647 ∧ (r1 = 0))) → -2147483648 ≤ (1 : Int) + r1 ∧ (1 : Int) + r1 ≤ 2147483647 ∧ (0 ≤ ((la * (7 : Int)) + nn) ∧ ((la * (7 : Int)) + nn) < 21 ∧ 0 ≤ ((1 : Int) + r1) ∧ ((1 : Int) + r1) ≤ 1 ∧ (0 ≤ ((la * (7 : Int)) + nn) ∧ ((la * (7 : Int)) + nn) < 21 ∧ (0 ≤ (fw_g (fw_up (fw_put [269, 270, 271, 273, 274, 275, 277, 297, 301, 279, 280, 281, 282, 283, 284, 285, 286, 287, 288, 289, 290, 291, 292, 303, 304, 305, 306, 307, 308, 309, 310, 311, 312, 313, 314, 315, 316] 0 [272000] W f2) 323 ((la * (7 : Int)) + nn) ((1 : Int) + r1)) 323 ((la * (7 : Int)) + nn)) → (fw_g (fw_up (fw_put [269, 270, 271, 273, 274, 275, 277, 297, 301, 279, 280, 281, 282, 283, 284, 285, 286, 287, 288, 289, 290, 291, 292, 303, 304, 305, 306, 307, 308, 309, 310, 311, 312, 313, 314, 315, 316] 0 [272000] W f2) 323 ((la * (7 : Int)) + nn) ((1 : Int) + r1)) 323 ((la * (7 : Int)) + nn)) ≤ 1 → -2147483648 ≤ (fw_g (fw_up (fw_put [269, 270, 271, 273, 274, 275, 277, 297, 301, 279, 280, 281, 282, 283, 284, 285, 286, 287, 288, 289, 290, 291, 292, 303, 304, 305, 306, 307, 308, 309, 310, 311, 312, 313, 314, 315, 316] 0 [272000] W f2) 323 ((la * (7 : Int)) + nn) ((1 : Int) + r1)) 323 ((la * (7 : Int)) + nn)) - (1 : Int) ∧ (fw_g (fw_up (fw_put [269, 270, 271, 273, 274, 275, 277, 297, 301, 279, 280, 281, 282, 283, 284, 285, 286, 287, 288, 289, 290, 291, 292, 303, 304, 305, 306, 307, 308, 309, 310, 311, 312, 313, 314, 315, 316] 0 [272000] W f2) 323 ((la * (7 : Int)) + nn) ((1 : Int) + r1)) 323 ((la * (7 : Int)) + nn)) - (1 : Int) ≤ 2147483647 ∧ ((-2147483648 ≤ ((fw_g (fw_up (fw_put [269, 270, 271, 273, 274, 275, 277, 297, 301, 279, 280, 281, 282, 283, 284, 285, 286, 287, 288, 289, 290, 291, 292, 303, 304, 305, 306, 307, 308, 309, 310, 311, 312, 313, 314, 315, 316] 0 [272000] W f2) 323 ((la * (7 : Int)) + nn) ((1 : Int) + r1)) 323 ((la * (7 : Int)) + nn)) - (1 : Int)) → ((fw_g (fw_up (fw_put [269, 270, 271, 273, 274, 275, 277, 297, 301, 279, 280, 281, 282, 283, 284, 285, 286, 287, 288, 289, 290, 291, 292, 303, 304, 305, 306, 307, 308, 309, 310, 311, 312, 313, 314, 315, 316] 0 [272000] W f2) 323 ((la * (7 : Int)) + nn) ((1 : Int) + r1)) 323 ((la * (7 : Int)) + nn)) - (1 : Int)) ≤ 2147483647 → Post (some (.inl ((fw_g (fw_up (fw_put [269, 270, 271, 273, 274, 275, 277, 297, 301, 279, 280, 281, 282, 283, 284, 285, 286, 287, 288, 289, 290, 291, 292, 303, 304, 305, 306, 307, 308, 309, 310, 311, 312, 313, 314, 315, 316] 0 [272000] W f2) 323 ((la * (7 : Int)) + nn) ((1 : Int) + r1)) 323 ((la * (7 : Int)) + nn)) - (1 : Int)))) (fw_up (fw_put [269, 270, 271, 273, 274, 275, 277, 297, 301, 279, 280, 281, 282, 283, 284, 285, 286, 287, 288, 289, 290, 291, 292, 303, 304, 305, 306, 307, 308, 309, 310, 311, 312, 313, 314, 315, 316] 0 [272000] W f2) 323 ((la * (7 : Int)) + nn) ((1 : Int) + r1)))))))))))))) :
    jf fw_T (d + 7) 52 0 [(0, .inr (.inl 268)), (1, .inl la), (2, .inl nn)] [] W Post := fw_ok (n := 29) (ss := []) (hv := []) fr_52_ok fv_tryx_ok (ct_k_tryLawX_ok d) hw_

def x_k_tryLawX : fw_X := fun as W Q => match as with
  | [.inr (.inl s_), .inl la, .inl nn] => fw_if (Nat.beq s_ 268) ((0 ≤ la ∧ la ≤ 2 ∧ 2 ≤ nn ∧ nn ≤ 6) ∧ (∀ (v : Int) (f : fw_W), (-2147483648 ≤ v ∧ v ≤ 2147483647 ∧ (v = 0)) → Q (some (.inl v)) (fw_put [269, 270, 271, 273, 274, 275, 277, 297, 301, 279, 280, 281, 282, 283, 284, 285, 286, 287, 288, 289, 290, 291, 292, 303, 304, 305, 306, 307, 308, 309, 310, 311, 312, 313, 314, 315, 316, 323] 0 [272000] W f)))
  | _ => False
theorem x_k_tryLawX_ok (d : Nat) (as : List fw_V) (W : fw_W) (Q : Option fw_V → fw_W → Prop) (hx : x_k_tryLawX as W Q) : jf fw_T (d + 7) 52 0 (fw_args 0 as) [] W Q := by
  unfold x_k_tryLawX at hx
  split at hx
  · rename_i s_ la nn
    obtain ⟨e_, hpre, hQ⟩ := fw_if_ok hx
    have e_ := Nat.eq_of_beq_eq_true e_
    subst e_
    have hP : ∀ (v : Int) (W2 : fw_W), fw_sm [269, 270, 271, 273, 274, 275, 277, 297, 301, 279, 280, 281, 282, 283, 284, 285, 286, 287, 288, 289, 290, 291, 292, 303, 304, 305, 306, 307, 308, 309, 310, 311, 312, 313, 314, 315, 316, 323] 0 [272000] W W2 → _ → Q (some (.inl v)) W2 := fun v W2 hs hr => fw_sm_use (Q := fun Z => Q (some (.inl v)) Z) hs (hQ v W2 hr)
    refine s_k_tryLawX_0 ?_
    repeat' (first
      | (exact True.intro)
      | (exact hpre.1)
      | (refine And.intro ?_ ?_)
      | (refine hP _ _ (by repeat (first | exact fw_sm_refl | exact fw_sm_put0 | refine fw_sm_arr ?_ rfl | refine fw_sm_up ?_ rfl | refine fw_sm_put ?_ rfl | refine fw_sm_cp ?_ rfl | refine fw_sm_upr ?_ rfl)) ?_; (refine ⟨by omega, by omega, ?_⟩; (first | omega | (simp (disch := first | decide | omega) only [fg_same, fg_lit, fg_in, fg_fin, fg_out, fg_fout, fg_up, true_and, and_true, true_or, or_true, true_implies]; omega))))
      | (simp (disch := first | decide | omega) only [fg_same, fg_lit, fg_in, fg_fin, fg_out, fg_fout, fg_up, true_and, and_true, true_or, or_true, true_implies]; omega)
      | omega
      | (intro _))
  · exact hx.elim

def fv_triedx : List (Nat × ai_C) := [(0, .inr (.inr (.inr (11, [.inr (.inl [1]), .inr (.inl [3]), .inr (.inl [12]), .inr (.inl [16]), .inr (.inl [37]), .inr (.inl [203]), .inr (.inl [223]), .inr (.inl [239]), .inr (.inl [266]), .inr (.inl [268]), .inr (.inl [324]), .inr (.inl [337]), .inr (.inl [338]), .inr (.inl [339]), .inl (0, 14, true)])))), (268, .inr (.inr (.inr (4, [.inr (.inl [269]), .inr (.inl [270]), .inr (.inl [271]), .inr (.inl [272]), .inr (.inl [276]), .inr (.inl [296]), .inr (.inl [323])]))))]
def fg_triedx_G : fw_G := []
theorem fv_triedx_ok : fw_view fw_T fv_triedx fg_triedx_G := fw_vb_ok (by decide +kernel)
def fr_177 : fw_P := [(0, 1, 1, 0, 0), (1, 22, 20, 0, 0), (4, 1, 1, 0, 0), (5, 0, 0, 0, 3), (6, 13, 20, 0, 0), (9, 1, 2, 0, 0), (10, 0, 0, 0, 2), (11, 12, 20, 0, 0), (14, 1, 2, 0, 0), (15, 0, 0, 0, 6), (17, 15, 22, 0, 0), (20, 0, 0, 0, -1), (21, 70, 0, 0, 0), (22, 2, 0, 0, 0), (23, 50, 11, 9, 0), (26, 1, 1, 0, 0), (27, 1, 2, 0, 0), (28, 64, 52, 2, 404), (31, 70, 0, 0, 0)]
theorem fr_177_ok : fw_mk 177 3 11 (some .int) fr_177 = true := by decide +kernel
def ct_k_tried : List (Nat × fw_X) := [(52, x_k_tryLawX)]
theorem ct_k_tried_ok (d : Nat) : fw_cok fw_T (d + 7) ct_k_tried := by
  intro q hq as W Q h
  simp only [ct_k_tried, List.mem_cons, List.not_mem_nil, or_false] at hq
  rcases hq with rfl
  · exact jc_of (x_k_tryLawX_ok (d + 0) as W Q h)
theorem s_k_tried_0 {Post : Option fw_V → fw_W → Prop} {d : Nat} {W : fw_W} {la nn : Int}
    (hw_ : ((la < 0 → (-2147483648 ≤ (-1 : Int) → (-1 : Int) ≤ 2147483647 → Post (some (.inl (-1 : Int))) W)) ∧ (0 ≤ la → (((3 : Int) ≤ la → (-2147483648 ≤ (-1 : Int) → (-1 : Int) ≤ 2147483647 → Post (some (.inl (-1 : Int))) W)) ∧ (la < (3 : Int) → ((nn < (2 : Int) → (-2147483648 ≤ (-1 : Int) → (-1 : Int) ≤ 2147483647 → Post (some (.inl (-1 : Int))) W)) ∧ ((2 : Int) ≤ nn → ((nn ≤ (6 : Int) → (0 ≤ la ∧ la ≤ 2 ∧ 2 ≤ nn ∧ nn ≤ 6) ∧ (∀ (r1 : Int) (f2 : fw_W), ((-2147483648 ≤ r1 ∧ r1 ≤ 2147483647 ∧ (r1 = 0))) → (-2147483648 ≤ r1 → r1 ≤ 2147483647 → Post (some (.inl r1)) (fw_put [269, 270, 271, 273, 274, 275, 277, 297, 301, 279, 280, 281, 282, 283, 284, 285, 286, 287, 288, 289, 290, 291, 292, 303, 304, 305, 306, 307, 308, 309, 310, 311, 312, 313, 314, 315, 316, 323] 0 [272000] W f2)))) ∧ ((6 : Int) < nn → (-2147483648 ≤ (-1 : Int) → (-1 : Int) ≤ 2147483647 → Post (some (.inl (-1 : Int))) W)))))))))) :
    jf fw_T (d + 8) 177 0 [(0, .inr (.inl 0)), (1, .inl la), (2, .inl nn)] [] W Post := fw_ok (n := 18) (ss := []) (hv := []) fr_177_ok fv_triedx_ok (ct_k_tried_ok d) hw_

def x_k_tried : fw_X := fun as W Q => match as with
  | [.inr (.inl s_), .inl la, .inl nn] => fw_if (Nat.beq s_ 0) ((True) ∧ (∀ (v : Int) (f : fw_W), (-2147483648 ≤ v ∧ v ≤ 2147483647 ∧ (((0 ≤ la ∧ la ≤ 2 ∧ 2 ≤ nn ∧ nn ≤ 6) ∧ v = 0) ∨ (¬ (0 ≤ la ∧ la ≤ 2 ∧ 2 ≤ nn ∧ nn ≤ 6) ∧ v = -1))) → Q (some (.inl v)) (fw_put [269, 270, 271, 273, 274, 275, 277, 297, 301, 279, 280, 281, 282, 283, 284, 285, 286, 287, 288, 289, 290, 291, 292, 303, 304, 305, 306, 307, 308, 309, 310, 311, 312, 313, 314, 315, 316, 323] 0 [272000] W f)))
  | _ => False
theorem x_k_tried_ok (d : Nat) (as : List fw_V) (W : fw_W) (Q : Option fw_V → fw_W → Prop) (hx : x_k_tried as W Q) : jf fw_T (d + 8) 177 0 (fw_args 0 as) [] W Q := by
  unfold x_k_tried at hx
  split at hx
  · rename_i s_ la nn
    obtain ⟨e_, hpre, hQ⟩ := fw_if_ok hx
    have e_ := Nat.eq_of_beq_eq_true e_
    subst e_
    have hP : ∀ (v : Int) (W2 : fw_W), fw_sm [269, 270, 271, 273, 274, 275, 277, 297, 301, 279, 280, 281, 282, 283, 284, 285, 286, 287, 288, 289, 290, 291, 292, 303, 304, 305, 306, 307, 308, 309, 310, 311, 312, 313, 314, 315, 316, 323] 0 [272000] W W2 → _ → Q (some (.inl v)) W2 := fun v W2 hs hr => fw_sm_use (Q := fun Z => Q (some (.inl v)) Z) hs (hQ v W2 hr)
    refine s_k_tried_0 ?_
    repeat' (first
      | (exact True.intro)
      | (exact hpre.1)
      | (refine And.intro ?_ ?_)
      | (refine hP _ _ (by repeat (first | exact fw_sm_refl | exact fw_sm_put0 | refine fw_sm_arr ?_ rfl | refine fw_sm_up ?_ rfl | refine fw_sm_put ?_ rfl | refine fw_sm_cp ?_ rfl | refine fw_sm_upr ?_ rfl)) ?_; (refine ⟨by omega, by omega, ?_⟩; (omega)))
      | omega
      | (intro _))
  · exact hx.elim

