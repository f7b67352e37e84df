/-! the class, method by method -/
def ba (W : fw_W) : Prop := ta W 340 ∧ ta W 344 ∧ ta W 348
theorem ba_cpy {W : fw_W} {s : Nat} (h : s = 340 ∨ s = 344 ∨ s = 348) (a : ta W 12) (b : ba W) : ba (cpy W s 12) := by
  rcases h with rfl | rfl | rfl
  · exact ⟨cpy_ta (by unfold far4; omega) a, cpy_tb (by unfold far4; omega) b.2.1, cpy_tb (by unfold far4; omega) b.2.2⟩
  · exact ⟨cpy_tb (by unfold far4; omega) b.1, cpy_ta (by unfold far4; omega) a, cpy_tb (by unfold far4; omega) b.2.2⟩
  · exact ⟨cpy_tb (by unfold far4; omega) b.1, cpy_tb (by unfold far4; omega) b.2.1, cpy_ta (by unfold far4; omega) a⟩
theorem ba_up {W : fw_W} {c : Nat} {i z : Int} (h : c < 340) (b : ba W) : ba (fw_up W c i z) := ⟨ta_up (by omega) (by omega) b.1, ta_up (by omega) (by omega) b.2.1, ta_up (by omega) (by omega) b.2.2⟩
def fv_boxes : List (Nat × ai_C) := [(0, .inr (.inr (.inr (11, [.inr (.inl [1]), .inr (.inl [3]), .inr (.inl [12]), .inr (.inl [16]), .inr (.inl [37]), .inr (.inl [203]), .inr (.inl [223]), .inr (.inl [239]), .inr (.inl [266]), .inr (.inl [268]), .inr (.inl [324]), .inr (.inl [337]), .inr (.inl [338]), .inr (.inl [339]), .inl (0, 14, true)])))), (12, .inr (.inr (.inr (9, [.inl (0, 14, true), .inl (0, 999, true), .inr (.inl [13]), .inr (.inl [14]), .inr (.inl [15])])))), (13, .inl (.int, 14, -1, 13, true)), (14, .inl (.int, 14, 0, 99, true)), (15, .inl (.int, 14, 0, 99, true)), (337, .inr (.inr (.inl (.object "OneWayTown$Town", [340, 344, 348])))), (338, .inl (.boolean, 3, 0, 1, true)), (340, .inr (.inr (.inr (9, [.inl (0, 14, true), .inl (0, 999, true), .inr (.inl [341]), .inr (.inl [342]), .inr (.inl [343])])))), (344, .inr (.inr (.inr (9, [.inl (0, 14, true), .inl (0, 999, true), .inr (.inl [345]), .inr (.inl [346]), .inr (.inl [347])])))), (348, .inr (.inr (.inr (9, [.inl (0, 14, true), .inl (0, 999, true), .inr (.inl [349]), .inr (.inl [350]), .inr (.inl [351])]))))]
def fg_boxes_G : fw_G := []
theorem fv_boxes_ok : fw_view fw_T fv_boxes fg_boxes_G := fw_vb_ok (by decide +kernel)
def fr_159 : fw_P := [(0, 1, 1, 0, 0), (1, 22, 9, 0, 0), (4, 1, 1, 0, 0), (5, 0, 0, 0, 3), (6, 12, 11, 0, 0), (9, 0, 0, 0, -1), (10, 70, 0, 0, 0), (11, 2, 0, 0, 0), (12, 50, 11, 11, 0), (15, 1, 1, 0, 0), (16, 56, 0, 0, 0), (17, 2, 0, 0, 0), (18, 50, 11, 2, 0), (21, 64, 110, 1, 209), (24, 2, 0, 0, 0), (25, 50, 11, 12, 0), (28, 1, 1, 0, 0), (29, 0, 0, 0, 1), (30, 55, 0, 0, 0), (31, 2, 0, 0, 0), (32, 50, 11, 2, 0), (35, 50, 9, 0, 0), (38, 70, 0, 0, 0)]
theorem fr_159_ok : fw_mk 159 2 11 (some .int) fr_159 = true := by decide +kernel
def ct_k_image : List (Nat × fw_X) := [(110, x_k_copy)]
theorem ct_k_image_ok (d : Nat) : fw_cok fw_T (d + 1) ct_k_image := by
  intro q hq as W Q h
  simp only [ct_k_image, List.mem_cons, List.not_mem_nil, or_false] at hq
  rcases hq with rfl
  · exact jc_of (x_k_copy_ok (d + 0) as W Q h)
theorem s_k_image_0 {Post : Option fw_V → fw_W → Prop} {d : Nat} {W : fw_W} {box : Int}
    (hw_ : ((box < 0 → (-2147483648 ≤ (-1 : Int) → (-1 : Int) ≤ 2147483647 → Post (some (.inl (-1 : Int))) W)) ∧ (0 ≤ box → ((box < (3 : Int) → 0 ≤ box ∧ box < 3 ∧ (((True) ∧ (0 ≤ box ∧ box < 3 ∧ 0 ≤ (1 : Int) ∧ (1 : Int) ≤ 1 ∧ 0 ≤ (1 : Int) ∧ (1 : Int) ≤ 1 ∧ ((0 ≤ (fw_g W 12 0) → (fw_g W 12 0) ≤ 14 → (-2147483648 ≤ (fw_g W 12 0) → (fw_g W 12 0) ≤ 2147483647 → Post (some (.inl (fw_g W 12 0))) (fw_up (cpy W 340 12) 338 box (1 : Int))))))) ∧ (((True) ∧ (0 ≤ box ∧ box < 3 ∧ 0 ≤ (1 : Int) ∧ (1 : Int) ≤ 1 ∧ 0 ≤ (1 : Int) ∧ (1 : Int) ≤ 1 ∧ ((0 ≤ (fw_g W 12 0) → (fw_g W 12 0) ≤ 14 → (-2147483648 ≤ (fw_g W 12 0) → (fw_g W 12 0) ≤ 2147483647 → Post (some (.inl (fw_g W 12 0))) (fw_up (cpy W 344 12) 338 box (1 : Int))))))) ∧ (((True) ∧ (0 ≤ box ∧ box < 3 ∧ 0 ≤ (1 : Int) ∧ (1 : Int) ≤ 1 ∧ 0 ≤ (1 : Int) ∧ (1 : Int) ≤ 1 ∧ ((0 ≤ (fw_g W 12 0) → (fw_g W 12 0) ≤ 14 → (-2147483648 ≤ (fw_g W 12 0) → (fw_g W 12 0) ≤ 2147483647 → Post (some (.inl (fw_g W 12 0))) (fw_up (cpy W 348 12) 338 box (1 : Int))))))) ∧ True)))) ∧ ((3 : Int) ≤ box → (-2147483648 ≤ (-1 : Int) → (-1 : Int) ≤ 2147483647 → Post (some (.inl (-1 : Int))) W)))))) :
    jf fw_T (d + 2) 159 0 [(0, .inr (.inl 0)), (1, .inl box)] [] W Post := fw_ok (n := 22) (ss := []) (hv := []) fr_159_ok fv_boxes_ok (ct_k_image_ok d) hw_

def x_k_image : fw_X := fun as W Q => match as with
  | [.inr (.inl s_), .inl box] => fw_if (Nat.beq s_ 0) ((ta W 12 ∧ ba W) ∧ (∀ (v : Int) (f : fw_W), (-2147483648 ≤ v ∧ v ≤ 2147483647 ∧ (ba (fw_put [338, 341, 342, 343, 345, 346, 347, 349, 350, 351] 0 [340000, 340001, 344000, 344001, 348000, 348001] W f))) → Q (some (.inl v)) (fw_put [338, 341, 342, 343, 345, 346, 347, 349, 350, 351] 0 [340000, 340001, 344000, 344001, 348000, 348001] W f)))
  | _ => False
theorem x_k_image_ok (d : Nat) (as : List fw_V) (W : fw_W) (Q : Option fw_V → fw_W → Prop) (hx : x_k_image as W Q) : jf fw_T (d + 2) 159 0 (fw_args 0 as) [] W Q := by
  unfold x_k_image at hx
  split at hx
  · rename_i s_ box
    obtain ⟨e_, hpre, hQ⟩ := fw_if_ok hx
    have e_ := Nat.eq_of_beq_eq_true e_
    subst e_
    have hP : ∀ (v : Int) (W2 : fw_W), fw_sm [338, 341, 342, 343, 345, 346, 347, 349, 350, 351] 0 [340000, 340001, 344000, 344001, 348000, 348001] W W2 → (-2147483648 ≤ v ∧ v ≤ 2147483647 ∧ (ba W2)) → Q (some (.inl v)) W2 := fun v W2 hs hr => fw_sm_use (Q := fun Z => Q (some (.inl v)) Z) hs (hQ v W2 (by rw [fw_sm_eq hs]; exact hr))
    refine s_k_image_0 ?_
    repeat' (first
      | (exact True.intro)
      | (exact hpre.1)
      | (refine And.intro ?_ ?_)
      | (refine hP _ _ (by repeat (first | exact fw_sm_refl | exact fw_sm_put0 | refine fw_sm_arr ?_ rfl | refine fw_sm_up ?_ rfl | refine fw_sm_put ?_ rfl | refine fw_sm_cp ?_ rfl | refine fw_sm_cpy ?_ rfl rfl rfl rfl rfl)) ?_; (refine ⟨by omega, by omega, ?_⟩; (first
          | exact hpre.2
          | exact ba_up (by decide) (ba_cpy (Or.inl rfl) hpre.1 hpre.2)
          | exact ba_up (by decide) (ba_cpy (Or.inr (Or.inl rfl)) hpre.1 hpre.2)
          | exact ba_up (by decide) (ba_cpy (Or.inr (Or.inr rfl)) hpre.1 hpre.2))))
      | omega
      | (intro _))
  · exact hx.elim

