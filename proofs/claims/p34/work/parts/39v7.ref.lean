/-! the reference, method by method -/
def fr_293 : fw_P := [(0, 2, 0, 0, 0), (1, 0, 0, 0, 1), (2, 64, 249, 1, 412), (5, 1, 1, 0, 0), (6, 21, 16, 0, 0), (9, 2, 0, 0, 0), (10, 64, 294, 0, 612), (13, 6, 48, 0, 0), (16, 1, 1, 0, 0), (17, 0, 0, 0, 1), (18, 11, 28, 0, 0), (21, 2, 0, 0, 0), (22, 64, 295, 0, 512), (25, 6, 48, 0, 0), (28, 2, 0, 0, 0), (29, 64, 297, 0, 412), (32, 2, 0, 0, 0), (33, 0, 0, 0, 1), (34, 64, 248, 1, 612), (37, 65, 251, 1, 300), (40, 11, 47, 0, 0), (43, 0, 0, 0, 1), (44, 6, 48, 0, 0), (47, 0, 0, 0, 0), (48, 71, 0, 0, 0)]
theorem fr_293_ok : fw_mk 293 2 12 (some .boolean) fr_293 = true := by decide +kernel
def ct_isSo : List (Nat × fw_X) := [(251, x_bitsOf), (297, x_byEnds), (294, x_isSoByFar), (295, x_isSoByFour), (249, x_layNear2), (248, x_wardensBy)]
theorem ct_isSo_ok (d : Nat) : fw_cok fw_T (d + 6) ct_isSo := by
  intro q hq as W Q h
  simp only [ct_isSo, List.mem_cons, List.not_mem_nil, or_false] at hq
  rcases hq with rfl | rfl | rfl | rfl | rfl | rfl
  · exact jc_of (x_bitsOf_ok (d + 5) as W Q h)
  · exact jc_of (x_byEnds_ok (d + 4) as W Q h)
  · exact jc_of (x_isSoByFar_ok (d + 3) as W Q h)
  · exact jc_of (x_isSoByFour_ok (d + 4) as W Q h)
  · exact jc_of (x_layNear2_ok (d + 1) as W Q h)
  · exact jc_of (x_wardensBy_ok (d + 0) as W Q h)
theorem s_isSo_0 {Post : Option fw_V → fw_W → Prop} {d : Nat} {W : fw_W} {law : Int}
    (hw_ : ∃ (δ_1 : Int → Int), ∃ (D_2 : Int → Int → Int), (tr_dep ((fw_g W 366 0)) (fun z_ => (fw_g W 366 (2 + 3 * z_))) δ_1 ∧ tr_met ((fw_g W 366 0)) (fun z_ => (fw_g W 366 (2 + 3 * z_))) (fun z_ => (fw_g W 366 (3 + 3 * z_))) δ_1 D_2) ∧ (mt W ∧ 0 ≤ (fw_g W 366 0) ∧ (fw_g W 366 0) ≤ 14) ∧ (∀ (f3 : fw_W), (((∀ u t, 0 ≤ u → u < (fw_g W 366 0) → 0 ≤ t → t < (fw_g W 366 0) → (fw_g f3 367 (14 * u + t)) = D_2 u t) ∧ (∀ x q, 0 ≤ x → x < (fw_g W 366 0) → 0 ≤ q → q < (fw_g W 366 0) → (0 ≤ (fw_g f3 370 x) ∧ (fw_g f3 370 x) < 16384 ∧ ((fw_g f3 370 x).toNat.testBit q.toNat = true ↔ D_2 x q ≤ (1 : Int)))))) → ((¬ law = 0 → ((¬ law = (1 : Int) → (mt (fw_put [367, 370] 352 [] W f3) ∧ 0 ≤ (fw_g W 366 0) ∧ (fw_g W 366 0) ≤ 14 ∧ ∀ x_, 0 ≤ x_ → x_ < (fw_g W 366 0) → (0 ≤ (fw_g f3 370 x_) ∧ (fw_g f3 370 x_) < 16384 ∧ (x_ = 0 → (fw_g f3 370 x_).toNat.testBit 0 = true) ∧ (1 ≤ x_ → (fw_g f3 370 x_).toNat.testBit ((fw_g W 366 (2 + 3 * x_))).toNat = true))) ∧ (∀ (r4 : Int), ((-2147483648 ≤ r4 ∧ r4 ≤ 2147483647 ∧ (True))) → (mt (fw_put [367, 370] 352 [] W f3) ∧ 0 ≤ (fw_g W 366 0) ∧ (fw_g W 366 0) ≤ 14) ∧ (∀ (r5 : Int) (f6 : fw_W), ((-2147483648 ≤ r5 ∧ r5 ≤ 2147483647 ∧ (0 ≤ r5 ∧ r5 < 16384))) → (0 ≤ r5 ∧ r5 ≤ 2147483647) ∧ (∀ (r7 : Int), ((-2147483648 ≤ r7 ∧ r7 ≤ 2147483647 ∧ (0 ≤ r7))) → ((¬ r4 = r7 → 0 ≤ (0 : Int) ∧ (0 : Int) ≤ 1 ∧ Post (some (.inl (0 : Int))) (fw_put [367, 370] 352 [] (fw_put [367, 370] 352 [] W f3) f6)) ∧ (r4 = r7 → 0 ≤ (1 : Int) ∧ (1 : Int) ≤ 1 ∧ Post (some (.inl (1 : Int))) (fw_put [367, 370] 352 [] (fw_put [367, 370] 352 [] W f3) f6))))))) ∧ (law = (1 : Int) → (mt (fw_put [367, 370] 352 [] W f3) ∧ 0 ≤ (fw_g W 366 0) ∧ (fw_g W 366 0) ≤ 14) ∧ (∀ (r8 : Int), ((0 ≤ r8 ∧ r8 ≤ 1 ∧ (True))) → 0 ≤ r8 ∧ r8 ≤ 1 ∧ Post (some (.inl r8)) (fw_put [367, 370] 352 [] W f3))))) ∧ (law = 0 → (mt (fw_put [367, 370] 352 [] W f3) ∧ 0 ≤ (fw_g W 366 0) ∧ (fw_g W 366 0) ≤ 14) ∧ (∀ (r9 : Int), ((0 ≤ r9 ∧ r9 ≤ 1 ∧ (True))) → 0 ≤ r9 ∧ r9 ≤ 1 ∧ Post (some (.inl r9)) (fw_put [367, 370] 352 [] W f3)))))) :
    jf fw_T (d + 7) 293 0 [(0, .inr (.inl 352)), (1, .inl law)] [] W Post := fw_ok (n := 19) (ss := []) (hv := []) fr_293_ok fm_ok (ct_isSo_ok d) hw_

def x_isSo : fw_X := fun as W Q => match as with
  | [.inr (.inl s_), .inl law] => fw_if (Nat.beq s_ 352) ((mt W ∧ 0 ≤ (fw_g W 366 0) ∧ (fw_g W 366 0) ≤ 14 ∧ ∀ x_, 1 ≤ x_ → x_ < (fw_g W 366 0) → (fw_g W 366 (3 + 3 * x_)) = 1) ∧ (∀ (v : Int) (f : fw_W), (0 ≤ v ∧ v ≤ 1 ∧ (True)) → Q (some (.inl v)) (fw_put [367, 370] 352 [] W f)))
  | _ => False
theorem x_isSo_ok (d : Nat) (as : List fw_V) (W : fw_W) (Q : Option fw_V → fw_W → Prop) (hx : x_isSo as W Q) : jf fw_T (d + 7) 293 0 (fw_args 0 as) [] W Q := by
  unfold x_isSo at hx
  split at hx
  · rename_i s_ law
    obtain ⟨e_, hpre, hQ⟩ := fw_if_ok hx
    have e_ := Nat.eq_of_beq_eq_true e_
    subst e_
    have hP : ∀ (v : Int) (W2 : fw_W), fw_sm [367, 370] 352 [] W W2 → _ → Q (some (.inl v)) W2 := fun v W2 hs hr => fw_sm_use (Q := fun Z => Q (some (.inl v)) Z) hs (hQ v W2 hr)
    obtain ⟨δ, hδ⟩ := tr_has hpre.1.2.2.1
    obtain ⟨D, hD⟩ := tr_hasm hpre.1.2.2.1 hδ hpre.2.2.1 (fun z_ => fw_g W 366 (3 + 3 * z_))
    have hgh : _ ∧ _ := ⟨hδ, hD⟩
    refine s_isSo_0 ?_
    repeat' (first
      | (refine ⟨δ, D, hgh, ?_⟩)
      | (rename_i f1 hn c1 c2
         intro x x1 x2
         have a0 := hn.2 x 0 x1 x2 (by omega) (by omega)
         refine ⟨a0.1, a0.2.1, fun e => ?_, fun e => ?_⟩
         · refine a0.2.2.mpr ?_
           subst e
           have := (hD 0 0 (by omega) x2 (by omega) x2).1 rfl
           omega
         · have hp : 0 ≤ fw_g W 366 (2 + 3 * x) ∧ fw_g W 366 (2 + 3 * x) < fw_g W 366 0 := tr_p hpre.1.2.2.1 e x2
           refine (hn.2 x (fw_g W 366 (2 + 3 * x)) x1 x2 hp.1 hp.2).2.2.mpr ?_
           have dx : δ x = δ (fw_g W 366 (2 + 3 * x)) + 1 := hδ.2.1 x e x2
           have m1 : D x (fw_g W 366 (2 + 3 * x)) = fw_g W 366 (3 + 3 * x) + D (fw_g W 366 (2 + 3 * x)) (fw_g W 366 (2 + 3 * x)) := (hD x (fw_g W 366 (2 + 3 * x)) x1 x2 hp.1 hp.2).2.1 (fun z => tr_ne hpre.1.2.2.1 e x2 z.symm) (by omega)
           have m2 := (hD (fw_g W 366 (2 + 3 * x)) (fw_g W 366 (2 + 3 * x)) hp.1 hp.2 hp.1 hp.2).1 rfl
           have m3 := hpre.2.2.2 x e x2
           omega)
      | (exact True.intro)
      | (exact hpre.1)
      | (refine And.intro ?_ ?_)
      | (refine hP _ _ (by repeat (first | exact fw_sm_refl | exact fw_sm_put0 | refine fw_sm_arr ?_ rfl | refine fw_sm_up ?_ rfl | refine fw_sm_put ?_ rfl | refine fw_sm_cp ?_ rfl)) ?_; (refine ⟨by omega, by omega, ?_⟩; (first | trivial | omega)))
      | omega
      | (intro _))
  · exact hx.elim

