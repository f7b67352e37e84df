/-! the reference, method by method -/
def ct_isSo3 : List (Nat × fw_X) := [(251, x_bitsOf2), (297, x_byEnds3), (294, x_isSoByFar3), (295, x_isSoByFour3), (249, x_layNear2), (248, x_wardensBy4)]
theorem ct_isSo3_ok (d : Nat) : fw_cok fw_T (d + 6) ct_isSo3 := by
  intro q hq as W Q h
  simp only [ct_isSo3, List.mem_cons, List.not_mem_nil, or_false] at hq
  rcases hq with rfl | rfl | rfl | rfl | rfl | rfl
  · exact jc_of (x_bitsOf2_ok (d + 5) as W Q h)
  · exact jc_of (x_byEnds3_ok (d + 4) as W Q h)
  · exact jc_of (x_isSoByFar3_ok (d + 3) as W Q h)
  · exact jc_of (x_isSoByFour3_ok (d + 4) as W Q h)
  · exact jc_of (x_layNear2_ok (d + 1) as W Q h)
  · exact jc_of (x_wardensBy4_ok (d + 0) as W Q h)
theorem s_isSo3_0 {Post : Option fw_V → fw_W → Prop} {d : Nat} {W : fw_W} {law : Int}
    (hw_ : ∃ (δ_1 : Int → Int), ∃ (D_2 : Int → Int → Int), (tr_dep ((fw_g W 366 0)) (fun z_ => (fw_g W 366 (2 + 3 * z_))) δ_1 ∧ tr_met ((fw_g W 366 0)) (fun z_ => (fw_g W 366 (2 + 3 * z_))) (fun z_ => (fw_g W 366 (3 + 3 * z_))) δ_1 D_2) ∧ (mt W ∧ 0 ≤ (fw_g W 366 0) ∧ (fw_g W 366 0) ≤ 14) ∧ (∀ (f3 : fw_W), (((∀ u t, 0 ≤ u → u < (fw_g W 366 0) → 0 ≤ t → t < (fw_g W 366 0) → (fw_g f3 367 (14 * u + t)) = D_2 u t) ∧ (∀ x q, 0 ≤ x → x < (fw_g W 366 0) → 0 ≤ q → q < (fw_g W 366 0) → (0 ≤ (fw_g f3 370 x) ∧ (fw_g f3 370 x) < 16384 ∧ ((fw_g f3 370 x).toNat.testBit q.toNat = true ↔ D_2 x q ≤ (1 : Int)))))) → ((¬ law = 0 → ((¬ law = (1 : Int) → ∃ (q_4 : List Nat), ∃ (u_5 : Nat), (qok ((fw_g W 366 0)).toNat q_4 = true ∧ 2 ≤ (fw_g W 366 0) ∧ (fw_g W 366 0) ≤ 6 ∧ (∀ x_, 1 ≤ x_ → x_ < (fw_g W 366 0) → (fw_g W 366 (2 + 3 * x_)) = ((qp q_4 x_.toNat : Nat) : Int)) ∧ q2 ((fw_g W 366 0)).toNat u_5 q_4 = true) ∧ (mt (fw_put [367, 370] 352 [] W f3) ∧ 0 ≤ (fw_g W 366 0) ∧ (fw_g W 366 0) ≤ 14 ∧ (∀ u_ t_, 0 ≤ u_ → u_ < (fw_g W 366 0) → 0 ≤ t_ → t_ < (fw_g W 366 0) → (fw_g f3 367 (14 * u_ + t_)) = zD q_4 u_ t_) ∧ (∀ x_, 0 ≤ x_ → x_ < (fw_g W 366 0) → znr q_4 ((fw_g W 366 0)) x_ ((fw_g f3 370 x_)))) ∧ (∀ (r6 : Int), ((-2147483648 ≤ r6 ∧ r6 ≤ 2147483647 ∧ (r6 = (u_5 : Int)))) → ∃ (q_7 : List Nat), ∃ (u_8 : Nat), (qok ((fw_g W 366 0)).toNat q_7 = true ∧ 2 ≤ (fw_g W 366 0) ∧ (fw_g W 366 0) ≤ 6 ∧ (∀ x_, 1 ≤ x_ → x_ < (fw_g W 366 0) → (fw_g W 366 (2 + 3 * x_)) = ((qp q_7 x_.toNat : Nat) : Int)) ∧ q2 ((fw_g W 366 0)).toNat u_8 q_7 = true) ∧ (mt (fw_put [367, 370] 352 [] W f3) ∧ 0 ≤ (fw_g W 366 0) ∧ (fw_g W 366 0) ≤ 14 ∧ (1 : Int) = 1 ∧ (∀ x_, 1 ≤ x_ → x_ < (fw_g W 366 0) → (fw_g W 366 (3 + 3 * x_)) = 1)) ∧ (∀ (r9 : Int) (f10 : fw_W), ((-2147483648 ≤ r9 ∧ r9 ≤ 2147483647 ∧ (0 ≤ r9 ∧ r9 < 16384 ∧ pcv r9 = (u_8 : Int)))) → (0 ≤ r9 ∧ r9 ≤ 2147483647) ∧ (∀ (r11 : Int), ((-2147483648 ≤ r11 ∧ r11 ≤ 2147483647 ∧ (r11 = pcv r9))) → ((¬ r6 = r11 → 0 ≤ (0 : Int) ∧ (0 : Int) ≤ 1 ∧ Post (some (.inl (0 : Int))) (fw_put [367, 370] 352 [] (fw_put [367, 370] 352 [] W f3) f10)) ∧ (r6 = r11 → 0 ≤ (1 : Int) ∧ (1 : Int) ≤ 1 ∧ Post (some (.inl (1 : Int))) (fw_put [367, 370] 352 [] (fw_put [367, 370] 352 [] W f3) f10))))))) ∧ (law = (1 : Int) → ∃ (q_12 : List Nat), (qok ((fw_g W 366 0)).toNat q_12 = true ∧ 2 ≤ (fw_g W 366 0) ∧ (fw_g W 366 0) ≤ 6 ∧ (∀ x_, 1 ≤ x_ → x_ < (fw_g W 366 0) → (fw_g W 366 (2 + 3 * x_)) = ((qp q_12 x_.toNat : Nat) : Int))) ∧ (mt (fw_put [367, 370] 352 [] W f3) ∧ 0 ≤ (fw_g W 366 0) ∧ (fw_g W 366 0) ≤ 14 ∧ (∀ u_ t_, 0 ≤ u_ → u_ < (fw_g W 366 0) → 0 ≤ t_ → t_ < (fw_g W 366 0) → (fw_g f3 367 (14 * u_ + t_)) = zD q_12 u_ t_)) ∧ (∀ (r13 : Int), ((0 ≤ r13 ∧ r13 ≤ 1 ∧ (r13 = 1))) → 0 ≤ r13 ∧ r13 ≤ 1 ∧ Post (some (.inl r13)) (fw_put [367, 370] 352 [] W f3))))) ∧ (law = 0 → ∃ (q_14 : List Nat), (qok ((fw_g W 366 0)).toNat q_14 = true ∧ 2 ≤ (fw_g W 366 0) ∧ (fw_g W 366 0) ≤ 6 ∧ (∀ x_, 1 ≤ x_ → x_ < (fw_g W 366 0) → (fw_g W 366 (2 + 3 * x_)) = ((qp q_14 x_.toNat : Nat) : Int))) ∧ (mt (fw_put [367, 370] 352 [] W f3) ∧ 0 ≤ (fw_g W 366 0) ∧ (fw_g W 366 0) ≤ 14 ∧ (∀ u_ t_, 0 ≤ u_ → u_ < (fw_g W 366 0) → 0 ≤ t_ → t_ < (fw_g W 366 0) → (fw_g f3 367 (14 * u_ + t_)) = zD q_14 u_ t_)) ∧ (∀ (r15 : Int), ((0 ≤ r15 ∧ r15 ≤ 1 ∧ (r15 = 1))) → 0 ≤ r15 ∧ r15 ≤ 1 ∧ Post (some (.inl r15)) (fw_put [367, 370] 352 [] W f3)))))) :
    jf fw_T (d + 7) 293 0 [(0, .inr (.inl 352)), (1, .inl law)] [] W Post := fw_ok (n := 19) (ss := []) (hv := []) fr_293_ok fm_ok (ct_isSo3_ok d) hw_

def x_isSo3 : fw_X := fun as W Q => match as with
  | [.inr (.inl s_), .inl law] => fw_if (Nat.beq s_ 352) (∃ (q : List Nat), ∃ (u : Nat), (qok ((fw_g W 366 0)).toNat q = true ∧ 2 ≤ (fw_g W 366 0) ∧ (fw_g W 366 0) ≤ 6 ∧ (∀ x_, 1 ≤ x_ → x_ < (fw_g W 366 0) → (fw_g W 366 (2 + 3 * x_)) = ((qp q x_.toNat : Nat) : Int)) ∧ q2 ((fw_g W 366 0)).toNat u q = true) ∧ (mt W ∧ 0 ≤ (fw_g W 366 0) ∧ (fw_g W 366 0) ≤ 14 ∧ (∀ x_, 1 ≤ x_ → x_ < (fw_g W 366 0) → (fw_g W 366 (3 + 3 * x_)) = 1)) ∧ (∀ (v : Int) (f : fw_W), (0 ≤ v ∧ v ≤ 1 ∧ (v = 1)) → Q (some (.inl v)) (fw_put [367, 370] 352 [] W f)))
  | _ => False
theorem x_isSo3_ok (d : Nat) (as : List fw_V) (W : fw_W) (Q : Option fw_V → fw_W → Prop) (hx : x_isSo3 as W Q) : jf fw_T (d + 7) 293 0 (fw_args 0 as) [] W Q := by
  unfold x_isSo3 at hx
  split at hx
  · rename_i s_ law
    obtain ⟨e_, q, u, hgh, hpre, hQ⟩ := fw_if_ok hx
    have e_ := Nat.eq_of_beq_eq_true e_
    subst e_
    have hP : ∀ (v : Int) (W2 : fw_W), fw_sm [367, 370] 352 [] W W2 → _ → Q (some (.inl v)) W2 := fun v W2 hs hr => fw_sm_use (Q := fun Z => Q (some (.inl v)) Z) hs (hQ v W2 hr)
    have hm : tr_dep (fw_g W 366 0) (fun z_ => fw_g W 366 (2 + 3 * z_)) (zd q) ∧ tr_met (fw_g W 366 0) (fun z_ => fw_g W 366 (2 + 3 * z_)) (fun z_ => fw_g W 366 (3 + 3 * z_)) (zd q) (zD q) := ⟨q_dep hgh.2.1 (qok_k hgh.1) (fun x x1 x2 => hgh.2.2.2.1 x x1 x2), q_met hgh.2.1 (qok_k hgh.1) (fun x x1 x2 => hgh.2.2.2.1 x x1 x2) (fun x x1 x2 => hpre.2.2.2 x x1 x2)⟩
    refine s_isSo3_0 ?_
    repeat' (first
      | (refine ⟨zd q, zD q, hm, ?_⟩)
      | (refine ⟨q, ⟨hgh.1, hgh.2.1, hgh.2.2.1, hgh.2.2.2.1⟩, ?_⟩)
      | (refine ⟨q, u, hgh, ?_⟩)
      | (exact hpre.2.2.2)
      | (rename_i f3 h3 c1; exact h3.1)
      | (rename_i f3 h3 c1 c2; exact h3.1)
      | (rename_i f3 h3 c1 c2; exact fun x x1 x2 => ⟨(h3.2 x 0 x1 x2 (by omega) (by omega)).1, (h3.2 x 0 x1 x2 (by omega) (by omega)).2.1, fun k k1 k2 => (h3.2 x k x1 x2 k1 k2).2.2⟩)
      | (exact True.intro)
      | (exact hpre.1)
      | (refine And.intro ?_ ?_)
      | (refine hP _ _ (by repeat (first | exact fw_sm_refl | exact fw_sm_put0 | refine fw_sm_arr ?_ rfl | refine fw_sm_up ?_ rfl | refine fw_sm_put ?_ rfl | refine fw_sm_cp ?_ rfl)) ?_; (refine ⟨by omega, by omega, ?_⟩; (first | trivial | omega)))
      | omega
      | (intro _))
  · exact hx.elim

