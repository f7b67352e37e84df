/-! the class, the laws tried, exactly -/
def fr_59 : fw_P := [(0, 0, 0, 0, -1), (1, 3, 2, 0, 0), (2, 0, 0, 0, 0), (3, 3, 3, 0, 0), (4, 1, 3, 0, 0), (5, 2, 0, 0, 0), (6, 50, 4, 3, 0), (9, 50, 9, 0, 0), (12, 13, 73, 0, 0), (15, 1, 1, 0, 0), (16, 1, 3, 0, 0), (17, 40, 0, 0, 0), (18, 0, 0, 0, 1), (19, 36, 0, 0, 0), (20, 20, 27, 0, 0), (23, 0, 0, 0, 1), (24, 6, 28, 0, 0), (27, 0, 0, 0, 0), (28, 3, 4, 0, 0), (30, 1, 4, 0, 0), (32, 20, 67, 0, 0), (35, 1, 2, 0, 0), (36, 0, 0, 0, -1), (37, 10, 65, 0, 0), (40, 2, 0, 0, 0), (41, 50, 4, 4, 0), (44, 50, 10, 1, 0), (47, 0, 0, 0, 0), (48, 56, 0, 0, 0), (49, 1, 3, 0, 0), (50, 52, 0, 0, 0), (51, 2, 0, 0, 0), (52, 50, 4, 4, 0), (55, 50, 10, 1, 0), (58, 0, 0, 0, 0), (59, 56, 0, 0, 0), (60, 1, 2, 0, 0), (61, 52, 0, 0, 0), (62, 15, 67, 0, 0), (65, 1, 3, 0, 0), (66, 3, 2, 0, 0), (67, 5, 3, 0, 1), (70, 6, 4, 0, 0), (73, 1, 2, 0, 0), (74, 0, 0, 0, 0), (75, 60, 0, 0, 0), (78, 70, 0, 0, 0)]
theorem fr_59_ok : fw_mk 59 5 4 (some .int) fr_59 = true := by decide +kernel
theorem s_k_farthestX_0 {Post : Option fw_V → fw_W → Prop} {d : Nat} {W : fw_W} {ma : Int}
    (hw_ : jf fw_T (d + 1) 59 4 [(0, .inr (.inl 268)), (1, .inl ma), (2, .inl (-1 : Int)), (3, .inl (0 : Int))] [] W Post) :
    jf fw_T (d + 1) 59 0 [(0, .inr (.inl 268)), (1, .inl ma)] [] W Post := fw_ok (n := 5) (ss := [(4, [0, 1, 2, 3])]) (hv := []) fr_59_ok fv_tryx_ok (fw_c0 _ _) hw_

theorem s_k_farthestX_4_n8 {Post : Option fw_V → fw_W → Prop} {d : Nat} {W : fw_W} {ma fa h : Int}
    (hw_ : (((fw_g W (fw_rc 278 (0 : Int)) h) ≤ (fw_g W (fw_rc 278 (0 : Int)) fa) → -2147483648 ≤ h + (1 : Int) ∧ h + (1 : Int) ≤ 2147483647 ∧ (jf fw_T (d + 1) 59 4 [(0, .inr (.inl 268)), (1, .inl ma), (2, .inl fa), (3, .inl (h + (1 : Int)))] [] W Post)) ∧ ((fw_g W (fw_rc 278 (0 : Int)) fa) < (fw_g W (fw_rc 278 (0 : Int)) h) → -2147483648 ≤ h + (1 : Int) ∧ h + (1 : Int) ≤ 2147483647 ∧ (jf fw_T (d + 1) 59 4 [(0, .inr (.inl 268)), (1, .inl ma), (2, .inl h), (3, .inl (h + (1 : Int)))] [] W Post)))) :
    jf fw_T (d + 1) 59 62 [(0, .inr (.inl 268)), (1, .inl ma), (2, .inl fa), (3, .inl h), (4, .inl (0 : Int))] [.inl (fw_g W (fw_rc 278 (0 : Int)) fa), .inl (fw_g W (fw_rc 278 (0 : Int)) h)] W Post := fw_ok (n := 6) (ss := [(4, [0, 1, 2, 3])]) (hv := []) fr_59_ok fv_tryx_ok (fw_c0 _ _) hw_

theorem s_k_farthestX_4_l7 {Post : Option fw_V → fw_W → Prop} {d : Nat} {W : fw_W} {ma fa h : Int}
    (hw_ : 0 ≤ (0 : Int) ∧ (0 : Int) < 14 ∧ 0 ≤ fa ∧ fa < 14 ∧ (-2147483648 ≤ (fw_g W (fw_rc 278 (0 : Int)) fa) → (fw_g W (fw_rc 278 (0 : Int)) fa) ≤ 2147483647 → (((fw_g W (fw_rc 278 (0 : Int)) h) ≤ (fw_g W (fw_rc 278 (0 : Int)) fa) → -2147483648 ≤ h + (1 : Int) ∧ h + (1 : Int) ≤ 2147483647 ∧ (jf fw_T (d + 1) 59 4 [(0, .inr (.inl 268)), (1, .inl ma), (2, .inl fa), (3, .inl (h + (1 : Int)))] [] W Post)) ∧ ((fw_g W (fw_rc 278 (0 : Int)) fa) < (fw_g W (fw_rc 278 (0 : Int)) h) → -2147483648 ≤ h + (1 : Int) ∧ h + (1 : Int) ≤ 2147483647 ∧ (jf fw_T (d + 1) 59 4 [(0, .inr (.inl 268)), (1, .inl ma), (2, .inl h), (3, .inl (h + (1 : Int)))] [] W Post))))) :
    jf fw_T (d + 1) 59 61 [(0, .inr (.inl 268)), (1, .inl ma), (2, .inl fa), (3, .inl h), (4, .inl (0 : Int))] [.inl fa, .inr (.inl (fw_rc 278 (0 : Int))), .inl (fw_g W (fw_rc 278 (0 : Int)) h)] W Post := jf_ial (j := 37) kr_278 fr_59_ok rfl ⟨hw_.1, hw_.2.1, hw_.2.2.1, hw_.2.2.2.1, fun g1_ g2_ => s_k_farthestX_4_n8 (hw_.2.2.2.2 g1_ g2_)⟩

theorem s_k_farthestX_4_n6 {Post : Option fw_V → fw_W → Prop} {d : Nat} {W : fw_W} {ma fa h : Int}
    (hw_ : 0 ≤ (0 : Int) ∧ (0 : Int) < 14 ∧ 0 ≤ fa ∧ fa < 14 ∧ (-2147483648 ≤ (fw_g W (fw_rc 278 (0 : Int)) fa) → (fw_g W (fw_rc 278 (0 : Int)) fa) ≤ 2147483647 → (((fw_g W (fw_rc 278 (0 : Int)) h) ≤ (fw_g W (fw_rc 278 (0 : Int)) fa) → -2147483648 ≤ h + (1 : Int) ∧ h + (1 : Int) ≤ 2147483647 ∧ (jf fw_T (d + 1) 59 4 [(0, .inr (.inl 268)), (1, .inl ma), (2, .inl fa), (3, .inl (h + (1 : Int)))] [] W Post)) ∧ ((fw_g W (fw_rc 278 (0 : Int)) fa) < (fw_g W (fw_rc 278 (0 : Int)) h) → -2147483648 ≤ h + (1 : Int) ∧ h + (1 : Int) ≤ 2147483647 ∧ (jf fw_T (d + 1) 59 4 [(0, .inr (.inl 268)), (1, .inl ma), (2, .inl h), (3, .inl (h + (1 : Int)))] [] W Post))))) :
    jf fw_T (d + 1) 59 60 [(0, .inr (.inl 268)), (1, .inl ma), (2, .inl fa), (3, .inl h), (4, .inl (0 : Int))] [.inr (.inl (fw_rc 278 (0 : Int))), .inl (fw_g W (fw_rc 278 (0 : Int)) h)] W Post := by
  refine fw_ok (n := 2) (ss := [(4, [0, 1, 2, 3]), (61, [0, 1, 2, 3, 4])]) (hv := []) fr_59_ok fv_tryx_ok (fw_c0 _ _) ?_
  show jf fw_T (d + 1) 59 61 [(0, .inr (.inl 268)), (1, .inl ma), (2, .inl fa), (3, .inl h), (4, .inl (0 : Int))] [.inl fa, .inr (.inl (fw_rc 278 (0 : Int))), .inl (fw_g W (fw_rc 278 (0 : Int)) h)] W Post
  revert hw_
  repeat' (first | (refine And.imp ?_ ?_) | (refine rw_imp ?_) | (refine rw_all ?_; intro _) | exact s_k_farthestX_4_l7 | exact fun x_ => x_)

theorem s_k_farthestX_4_l5 {Post : Option fw_V → fw_W → Prop} {d : Nat} {W : fw_W} {ma fa h : Int}
    (hw_ : 0 ≤ (0 : Int) ∧ (0 : Int) < 14 ∧ (0 ≤ (0 : Int) ∧ (0 : Int) < 14 ∧ 0 ≤ fa ∧ fa < 14 ∧ (-2147483648 ≤ (fw_g W (fw_rc 278 (0 : Int)) fa) → (fw_g W (fw_rc 278 (0 : Int)) fa) ≤ 2147483647 → (((fw_g W (fw_rc 278 (0 : Int)) h) ≤ (fw_g W (fw_rc 278 (0 : Int)) fa) → -2147483648 ≤ h + (1 : Int) ∧ h + (1 : Int) ≤ 2147483647 ∧ (jf fw_T (d + 1) 59 4 [(0, .inr (.inl 268)), (1, .inl ma), (2, .inl fa), (3, .inl (h + (1 : Int)))] [] W Post)) ∧ ((fw_g W (fw_rc 278 (0 : Int)) fa) < (fw_g W (fw_rc 278 (0 : Int)) h) → -2147483648 ≤ h + (1 : Int) ∧ h + (1 : Int) ≤ 2147483647 ∧ (jf fw_T (d + 1) 59 4 [(0, .inr (.inl 268)), (1, .inl ma), (2, .inl h), (3, .inl (h + (1 : Int)))] [] W Post)))))) :
    jf fw_T (d + 1) 59 59 [(0, .inr (.inl 268)), (1, .inl ma), (2, .inl fa), (3, .inl h), (4, .inl (0 : Int))] [.inl (0 : Int), .inr (.inl 278), .inl (fw_g W (fw_rc 278 (0 : Int)) h)] W Post := jf_aal (j := 35) kr_278 fr_59_ok rfl ⟨hw_.1, hw_.2.1, s_k_farthestX_4_n6 hw_.2.2⟩

theorem s_k_farthestX_4_n4 {Post : Option fw_V → fw_W → Prop} {d : Nat} {W : fw_W} {ma fa h : Int}
    (hw_ : 0 ≤ (0 : Int) ∧ (0 : Int) < 14 ∧ (0 ≤ (0 : Int) ∧ (0 : Int) < 14 ∧ 0 ≤ fa ∧ fa < 14 ∧ (-2147483648 ≤ (fw_g W (fw_rc 278 (0 : Int)) fa) → (fw_g W (fw_rc 278 (0 : Int)) fa) ≤ 2147483647 → (((fw_g W (fw_rc 278 (0 : Int)) h) ≤ (fw_g W (fw_rc 278 (0 : Int)) fa) → -2147483648 ≤ h + (1 : Int) ∧ h + (1 : Int) ≤ 2147483647 ∧ (jf fw_T (d + 1) 59 4 [(0, .inr (.inl 268)), (1, .inl ma), (2, .inl fa), (3, .inl (h + (1 : Int)))] [] W Post)) ∧ ((fw_g W (fw_rc 278 (0 : Int)) fa) < (fw_g W (fw_rc 278 (0 : Int)) h) → -2147483648 ≤ h + (1 : Int) ∧ h + (1 : Int) ≤ 2147483647 ∧ (jf fw_T (d + 1) 59 4 [(0, .inr (.inl 268)), (1, .inl ma), (2, .inl h), (3, .inl (h + (1 : Int)))] [] W Post)))))) :
    jf fw_T (d + 1) 59 51 [(0, .inr (.inl 268)), (1, .inl ma), (2, .inl fa), (3, .inl h), (4, .inl (0 : Int))] [.inl (fw_g W (fw_rc 278 (0 : Int)) h)] W Post := by
  refine fw_ok (n := 5) (ss := [(4, [0, 1, 2, 3]), (59, [0, 1, 2, 3, 4])]) (hv := []) fr_59_ok fv_tryx_ok (fw_c0 _ _) ?_
  show jf fw_T (d + 1) 59 59 [(0, .inr (.inl 268)), (1, .inl ma), (2, .inl fa), (3, .inl h), (4, .inl (0 : Int))] [.inl (0 : Int), .inr (.inl 278), .inl (fw_g W (fw_rc 278 (0 : Int)) h)] W Post
  revert hw_
  repeat' (first | (refine And.imp ?_ ?_) | (refine rw_imp ?_) | (refine rw_all ?_; intro _) | exact s_k_farthestX_4_l5 | exact fun x_ => x_)

theorem s_k_farthestX_4_l3 {Post : Option fw_V → fw_W → Prop} {d : Nat} {W : fw_W} {ma fa h : Int}
    (hw_ : 0 ≤ (0 : Int) ∧ (0 : Int) < 14 ∧ 0 ≤ h ∧ h < 14 ∧ (-2147483648 ≤ (fw_g W (fw_rc 278 (0 : Int)) h) → (fw_g W (fw_rc 278 (0 : Int)) h) ≤ 2147483647 → 0 ≤ (0 : Int) ∧ (0 : Int) < 14 ∧ (0 ≤ (0 : Int) ∧ (0 : Int) < 14 ∧ 0 ≤ fa ∧ fa < 14 ∧ (-2147483648 ≤ (fw_g W (fw_rc 278 (0 : Int)) fa) → (fw_g W (fw_rc 278 (0 : Int)) fa) ≤ 2147483647 → (((fw_g W (fw_rc 278 (0 : Int)) h) ≤ (fw_g W (fw_rc 278 (0 : Int)) fa) → -2147483648 ≤ h + (1 : Int) ∧ h + (1 : Int) ≤ 2147483647 ∧ (jf fw_T (d + 1) 59 4 [(0, .inr (.inl 268)), (1, .inl ma), (2, .inl fa), (3, .inl (h + (1 : Int)))] [] W Post)) ∧ ((fw_g W (fw_rc 278 (0 : Int)) fa) < (fw_g W (fw_rc 278 (0 : Int)) h) → -2147483648 ≤ h + (1 : Int) ∧ h + (1 : Int) ≤ 2147483647 ∧ (jf fw_T (d + 1) 59 4 [(0, .inr (.inl 268)), (1, .inl ma), (2, .inl h), (3, .inl (h + (1 : Int)))] [] W Post))))))) :
    jf fw_T (d + 1) 59 50 [(0, .inr (.inl 268)), (1, .inl ma), (2, .inl fa), (3, .inl h), (4, .inl (0 : Int))] [.inl h, .inr (.inl (fw_rc 278 (0 : Int)))] W Post := jf_ial (j := 30) kr_278 fr_59_ok rfl ⟨hw_.1, hw_.2.1, hw_.2.2.1, hw_.2.2.2.1, fun g1_ g2_ => s_k_farthestX_4_n4 (hw_.2.2.2.2 g1_ g2_)⟩

theorem s_k_farthestX_4_n2 {Post : Option fw_V → fw_W → Prop} {d : Nat} {W : fw_W} {ma fa h : Int}
    (hw_ : 0 ≤ (0 : Int) ∧ (0 : Int) < 14 ∧ 0 ≤ h ∧ h < 14 ∧ (-2147483648 ≤ (fw_g W (fw_rc 278 (0 : Int)) h) → (fw_g W (fw_rc 278 (0 : Int)) h) ≤ 2147483647 → 0 ≤ (0 : Int) ∧ (0 : Int) < 14 ∧ (0 ≤ (0 : Int) ∧ (0 : Int) < 14 ∧ 0 ≤ fa ∧ fa < 14 ∧ (-2147483648 ≤ (fw_g W (fw_rc 278 (0 : Int)) fa) → (fw_g W (fw_rc 278 (0 : Int)) fa) ≤ 2147483647 → (((fw_g W (fw_rc 278 (0 : Int)) h) ≤ (fw_g W (fw_rc 278 (0 : Int)) fa) → -2147483648 ≤ h + (1 : Int) ∧ h + (1 : Int) ≤ 2147483647 ∧ (jf fw_T (d + 1) 59 4 [(0, .inr (.inl 268)), (1, .inl ma), (2, .inl fa), (3, .inl (h + (1 : Int)))] [] W Post)) ∧ ((fw_g W (fw_rc 278 (0 : Int)) fa) < (fw_g W (fw_rc 278 (0 : Int)) h) → -2147483648 ≤ h + (1 : Int) ∧ h + (1 : Int) ≤ 2147483647 ∧ (jf fw_T (d + 1) 59 4 [(0, .inr (.inl 268)), (1, .inl ma), (2, .inl h), (3, .inl (h + (1 : Int)))] [] W Post))))))) :
    jf fw_T (d + 1) 59 49 [(0, .inr (.inl 268)), (1, .inl ma), (2, .inl fa), (3, .inl h), (4, .inl (0 : Int))] [.inr (.inl (fw_rc 278 (0 : Int)))] W Post := by
  refine fw_ok (n := 2) (ss := [(4, [0, 1, 2, 3]), (50, [0, 1, 2, 3, 4])]) (hv := []) fr_59_ok fv_tryx_ok (fw_c0 _ _) ?_
  show jf fw_T (d + 1) 59 50 [(0, .inr (.inl 268)), (1, .inl ma), (2, .inl fa), (3, .inl h), (4, .inl (0 : Int))] [.inl h, .inr (.inl (fw_rc 278 (0 : Int)))] W Post
  revert hw_
  repeat' (first | (refine And.imp ?_ ?_) | (refine rw_imp ?_) | (refine rw_all ?_; intro _) | exact s_k_farthestX_4_l3 | exact fun x_ => x_)

theorem s_k_farthestX_4_l1 {Post : Option fw_V → fw_W → Prop} {d : Nat} {W : fw_W} {ma fa h : Int}
    (hw_ : 0 ≤ (0 : Int) ∧ (0 : Int) < 14 ∧ (0 ≤ (0 : Int) ∧ (0 : Int) < 14 ∧ 0 ≤ h ∧ h < 14 ∧ (-2147483648 ≤ (fw_g W (fw_rc 278 (0 : Int)) h) → (fw_g W (fw_rc 278 (0 : Int)) h) ≤ 2147483647 → 0 ≤ (0 : Int) ∧ (0 : Int) < 14 ∧ (0 ≤ (0 : Int) ∧ (0 : Int) < 14 ∧ 0 ≤ fa ∧ fa < 14 ∧ (-2147483648 ≤ (fw_g W (fw_rc 278 (0 : Int)) fa) → (fw_g W (fw_rc 278 (0 : Int)) fa) ≤ 2147483647 → (((fw_g W (fw_rc 278 (0 : Int)) h) ≤ (fw_g W (fw_rc 278 (0 : Int)) fa) → -2147483648 ≤ h + (1 : Int) ∧ h + (1 : Int) ≤ 2147483647 ∧ (jf fw_T (d + 1) 59 4 [(0, .inr (.inl 268)), (1, .inl ma), (2, .inl fa), (3, .inl (h + (1 : Int)))] [] W Post)) ∧ ((fw_g W (fw_rc 278 (0 : Int)) fa) < (fw_g W (fw_rc 278 (0 : Int)) h) → -2147483648 ≤ h + (1 : Int) ∧ h + (1 : Int) ≤ 2147483647 ∧ (jf fw_T (d + 1) 59 4 [(0, .inr (.inl 268)), (1, .inl ma), (2, .inl h), (3, .inl (h + (1 : Int)))] [] W Post)))))))) :
    jf fw_T (d + 1) 59 48 [(0, .inr (.inl 268)), (1, .inl ma), (2, .inl fa), (3, .inl h), (4, .inl (0 : Int))] [.inl (0 : Int), .inr (.inl 278)] W Post := jf_aal (j := 28) kr_278 fr_59_ok rfl ⟨hw_.1, hw_.2.1, s_k_farthestX_4_n2 hw_.2.2⟩

theorem s_k_farthestX_4_n16 {Post : Option fw_V → fw_W → Prop} {d : Nat} {W : fw_W} {ma fa h : Int}
    (hw_ : (((fw_g W (fw_rc 278 (0 : Int)) h) ≤ (fw_g W (fw_rc 278 (0 : Int)) fa) → -2147483648 ≤ h + (1 : Int) ∧ h + (1 : Int) ≤ 2147483647 ∧ (jf fw_T (d + 1) 59 4 [(0, .inr (.inl 268)), (1, .inl ma), (2, .inl fa), (3, .inl (h + (1 : Int)))] [] W Post)) ∧ ((fw_g W (fw_rc 278 (0 : Int)) fa) < (fw_g W (fw_rc 278 (0 : Int)) h) → -2147483648 ≤ h + (1 : Int) ∧ h + (1 : Int) ≤ 2147483647 ∧ (jf fw_T (d + 1) 59 4 [(0, .inr (.inl 268)), (1, .inl ma), (2, .inl h), (3, .inl (h + (1 : Int)))] [] W Post)))) :
    jf fw_T (d + 1) 59 62 [(0, .inr (.inl 268)), (1, .inl ma), (2, .inl fa), (3, .inl h), (4, .inl (1 : Int))] [.inl (fw_g W (fw_rc 278 (0 : Int)) fa), .inl (fw_g W (fw_rc 278 (0 : Int)) h)] W Post := fw_ok (n := 6) (ss := [(4, [0, 1, 2, 3])]) (hv := []) fr_59_ok fv_tryx_ok (fw_c0 _ _) hw_

theorem s_k_farthestX_4_l15 {Post : Option fw_V → fw_W → Prop} {d : Nat} {W : fw_W} {ma fa h : Int}
    (hw_ : 0 ≤ (0 : Int) ∧ (0 : Int) < 14 ∧ 0 ≤ fa ∧ fa < 14 ∧ (-2147483648 ≤ (fw_g W (fw_rc 278 (0 : Int)) fa) → (fw_g W (fw_rc 278 (0 : Int)) fa) ≤ 2147483647 → (((fw_g W (fw_rc 278 (0 : Int)) h) ≤ (fw_g W (fw_rc 278 (0 : Int)) fa) → -2147483648 ≤ h + (1 : Int) ∧ h + (1 : Int) ≤ 2147483647 ∧ (jf fw_T (d + 1) 59 4 [(0, .inr (.inl 268)), (1, .inl ma), (2, .inl fa), (3, .inl (h + (1 : Int)))] [] W Post)) ∧ ((fw_g W (fw_rc 278 (0 : Int)) fa) < (fw_g W (fw_rc 278 (0 : Int)) h) → -2147483648 ≤ h + (1 : Int) ∧ h + (1 : Int) ≤ 2147483647 ∧ (jf fw_T (d + 1) 59 4 [(0, .inr (.inl 268)), (1, .inl ma), (2, .inl h), (3, .inl (h + (1 : Int)))] [] W Post))))) :
    jf fw_T (d + 1) 59 61 [(0, .inr (.inl 268)), (1, .inl ma), (2, .inl fa), (3, .inl h), (4, .inl (1 : Int))] [.inl fa, .inr (.inl (fw_rc 278 (0 : Int))), .inl (fw_g W (fw_rc 278 (0 : Int)) h)] W Post := jf_ial (j := 37) kr_278 fr_59_ok rfl ⟨hw_.1, hw_.2.1, hw_.2.2.1, hw_.2.2.2.1, fun g1_ g2_ => s_k_farthestX_4_n16 (hw_.2.2.2.2 g1_ g2_)⟩

theorem s_k_farthestX_4_n14 {Post : Option fw_V → fw_W → Prop} {d : Nat} {W : fw_W} {ma fa h : Int}
    (hw_ : 0 ≤ (0 : Int) ∧ (0 : Int) < 14 ∧ 0 ≤ fa ∧ fa < 14 ∧ (-2147483648 ≤ (fw_g W (fw_rc 278 (0 : Int)) fa) → (fw_g W (fw_rc 278 (0 : Int)) fa) ≤ 2147483647 → (((fw_g W (fw_rc 278 (0 : Int)) h) ≤ (fw_g W (fw_rc 278 (0 : Int)) fa) → -2147483648 ≤ h + (1 : Int) ∧ h + (1 : Int) ≤ 2147483647 ∧ (jf fw_T (d + 1) 59 4 [(0, .inr (.inl 268)), (1, .inl ma), (2, .inl fa), (3, .inl (h + (1 : Int)))] [] W Post)) ∧ ((fw_g W (fw_rc 278 (0 : Int)) fa) < (fw_g W (fw_rc 278 (0 : Int)) h) → -2147483648 ≤ h + (1 : Int) ∧ h + (1 : Int) ≤ 2147483647 ∧ (jf fw_T (d + 1) 59 4 [(0, .inr (.inl 268)), (1, .inl ma), (2, .inl h), (3, .inl (h + (1 : Int)))] [] W Post))))) :
    jf fw_T (d + 1) 59 60 [(0, .inr (.inl 268)), (1, .inl ma), (2, .inl fa), (3, .inl h), (4, .inl (1 : Int))] [.inr (.inl (fw_rc 278 (0 : Int))), .inl (fw_g W (fw_rc 278 (0 : Int)) h)] W Post := by
  refine fw_ok (n := 2) (ss := [(4, [0, 1, 2, 3]), (61, [0, 1, 2, 3, 4])]) (hv := []) fr_59_ok fv_tryx_ok (fw_c0 _ _) ?_
  show jf fw_T (d + 1) 59 61 [(0, .inr (.inl 268)), (1, .inl ma), (2, .inl fa), (3, .inl h), (4, .inl (1 : Int))] [.inl fa, .inr (.inl (fw_rc 278 (0 : Int))), .inl (fw_g W (fw_rc 278 (0 : Int)) h)] W Post
  revert hw_
  repeat' (first | (refine And.imp ?_ ?_) | (refine rw_imp ?_) | (refine rw_all ?_; intro _) | exact s_k_farthestX_4_l15 | exact fun x_ => x_)

theorem s_k_farthestX_4_l13 {Post : Option fw_V → fw_W → Prop} {d : Nat} {W : fw_W} {ma fa h : Int}
    (hw_ : 0 ≤ (0 : Int) ∧ (0 : Int) < 14 ∧ (0 ≤ (0 : Int) ∧ (0 : Int) < 14 ∧ 0 ≤ fa ∧ fa < 14 ∧ (-2147483648 ≤ (fw_g W (fw_rc 278 (0 : Int)) fa) → (fw_g W (fw_rc 278 (0 : Int)) fa) ≤ 2147483647 → (((fw_g W (fw_rc 278 (0 : Int)) h) ≤ (fw_g W (fw_rc 278 (0 : Int)) fa) → -2147483648 ≤ h + (1 : Int) ∧ h + (1 : Int) ≤ 2147483647 ∧ (jf fw_T (d + 1) 59 4 [(0, .inr (.inl 268)), (1, .inl ma), (2, .inl fa), (3, .inl (h + (1 : Int)))] [] W Post)) ∧ ((fw_g W (fw_rc 278 (0 : Int)) fa) < (fw_g W (fw_rc 278 (0 : Int)) h) → -2147483648 ≤ h + (1 : Int) ∧ h + (1 : Int) ≤ 2147483647 ∧ (jf fw_T (d + 1) 59 4 [(0, .inr (.inl 268)), (1, .inl ma), (2, .inl h), (3, .inl (h + (1 : Int)))] [] W Post)))))) :
    jf fw_T (d + 1) 59 59 [(0, .inr (.inl 268)), (1, .inl ma), (2, .inl fa), (3, .inl h), (4, .inl (1 : Int))] [.inl (0 : Int), .inr (.inl 278), .inl (fw_g W (fw_rc 278 (0 : Int)) h)] W Post := jf_aal (j := 35) kr_278 fr_59_ok rfl ⟨hw_.1, hw_.2.1, s_k_farthestX_4_n14 hw_.2.2⟩

theorem s_k_farthestX_4_n12 {Post : Option fw_V → fw_W → Prop} {d : Nat} {W : fw_W} {ma fa h : Int}
    (hw_ : 0 ≤ (0 : Int) ∧ (0 : Int) < 14 ∧ (0 ≤ (0 : Int) ∧ (0 : Int) < 14 ∧ 0 ≤ fa ∧ fa < 14 ∧ (-2147483648 ≤ (fw_g W (fw_rc 278 (0 : Int)) fa) → (fw_g W (fw_rc 278 (0 : Int)) fa) ≤ 2147483647 → (((fw_g W (fw_rc 278 (0 : Int)) h) ≤ (fw_g W (fw_rc 278 (0 : Int)) fa) → -2147483648 ≤ h + (1 : Int) ∧ h + (1 : Int) ≤ 2147483647 ∧ (jf fw_T (d + 1) 59 4 [(0, .inr (.inl 268)), (1, .inl ma), (2, .inl fa), (3, .inl (h + (1 : Int)))] [] W Post)) ∧ ((fw_g W (fw_rc 278 (0 : Int)) fa) < (fw_g W (fw_rc 278 (0 : Int)) h) → -2147483648 ≤ h + (1 : Int) ∧ h + (1 : Int) ≤ 2147483647 ∧ (jf fw_T (d + 1) 59 4 [(0, .inr (.inl 268)), (1, .inl ma), (2, .inl h), (3, .inl (h + (1 : Int)))] [] W Post)))))) :
    jf fw_T (d + 1) 59 51 [(0, .inr (.inl 268)), (1, .inl ma), (2, .inl fa), (3, .inl h), (4, .inl (1 : Int))] [.inl (fw_g W (fw_rc 278 (0 : Int)) h)] W Post := by
  refine fw_ok (n := 5) (ss := [(4, [0, 1, 2, 3]), (59, [0, 1, 2, 3, 4])]) (hv := []) fr_59_ok fv_tryx_ok (fw_c0 _ _) ?_
  show jf fw_T (d + 1) 59 59 [(0, .inr (.inl 268)), (1, .inl ma), (2, .inl fa), (3, .inl h), (4, .inl (1 : Int))] [.inl (0 : Int), .inr (.inl 278), .inl (fw_g W (fw_rc 278 (0 : Int)) h)] W Post
  revert hw_
  repeat' (first | (refine And.imp ?_ ?_) | (refine rw_imp ?_) | (refine rw_all ?_; intro _) | exact s_k_farthestX_4_l13 | exact fun x_ => x_)

theorem s_k_farthestX_4_l11 {Post : Option fw_V → fw_W → Prop} {d : Nat} {W : fw_W} {ma fa h : Int}
    (hw_ : 0 ≤ (0 : Int) ∧ (0 : Int) < 14 ∧ 0 ≤ h ∧ h < 14 ∧ (-2147483648 ≤ (fw_g W (fw_rc 278 (0 : Int)) h) → (fw_g W (fw_rc 278 (0 : Int)) h) ≤ 2147483647 → 0 ≤ (0 : Int) ∧ (0 : Int) < 14 ∧ (0 ≤ (0 : Int) ∧ (0 : Int) < 14 ∧ 0 ≤ fa ∧ fa < 14 ∧ (-2147483648 ≤ (fw_g W (fw_rc 278 (0 : Int)) fa) → (fw_g W (fw_rc 278 (0 : Int)) fa) ≤ 2147483647 → (((fw_g W (fw_rc 278 (0 : Int)) h) ≤ (fw_g W (fw_rc 278 (0 : Int)) fa) → -2147483648 ≤ h + (1 : Int) ∧ h + (1 : Int) ≤ 2147483647 ∧ (jf fw_T (d + 1) 59 4 [(0, .inr (.inl 268)), (1, .inl ma), (2, .inl fa), (3, .inl (h + (1 : Int)))] [] W Post)) ∧ ((fw_g W (fw_rc 278 (0 : Int)) fa) < (fw_g W (fw_rc 278 (0 : Int)) h) → -2147483648 ≤ h + (1 : Int) ∧ h + (1 : Int) ≤ 2147483647 ∧ (jf fw_T (d + 1) 59 4 [(0, .inr (.inl 268)), (1, .inl ma), (2, .inl h), (3, .inl (h + (1 : Int)))] [] W Post))))))) :
    jf fw_T (d + 1) 59 50 [(0, .inr (.inl 268)), (1, .inl ma), (2, .inl fa), (3, .inl h), (4, .inl (1 : Int))] [.inl h, .inr (.inl (fw_rc 278 (0 : Int)))] W Post := jf_ial (j := 30) kr_278 fr_59_ok rfl ⟨hw_.1, hw_.2.1, hw_.2.2.1, hw_.2.2.2.1, fun g1_ g2_ => s_k_farthestX_4_n12 (hw_.2.2.2.2 g1_ g2_)⟩

theorem s_k_farthestX_4_n10 {Post : Option fw_V → fw_W → Prop} {d : Nat} {W : fw_W} {ma fa h : Int}
    (hw_ : 0 ≤ (0 : Int) ∧ (0 : Int) < 14 ∧ 0 ≤ h ∧ h < 14 ∧ (-2147483648 ≤ (fw_g W (fw_rc 278 (0 : Int)) h) → (fw_g W (fw_rc 278 (0 : Int)) h) ≤ 2147483647 → 0 ≤ (0 : Int) ∧ (0 : Int) < 14 ∧ (0 ≤ (0 : Int) ∧ (0 : Int) < 14 ∧ 0 ≤ fa ∧ fa < 14 ∧ (-2147483648 ≤ (fw_g W (fw_rc 278 (0 : Int)) fa) → (fw_g W (fw_rc 278 (0 : Int)) fa) ≤ 2147483647 → (((fw_g W (fw_rc 278 (0 : Int)) h) ≤ (fw_g W (fw_rc 278 (0 : Int)) fa) → -2147483648 ≤ h + (1 : Int) ∧ h + (1 : Int) ≤ 2147483647 ∧ (jf fw_T (d + 1) 59 4 [(0, .inr (.inl 268)), (1, .inl ma), (2, .inl fa), (3, .inl (h + (1 : Int)))] [] W Post)) ∧ ((fw_g W (fw_rc 278 (0 : Int)) fa) < (fw_g W (fw_rc 278 (0 : Int)) h) → -2147483648 ≤ h + (1 : Int) ∧ h + (1 : Int) ≤ 2147483647 ∧ (jf fw_T (d + 1) 59 4 [(0, .inr (.inl 268)), (1, .inl ma), (2, .inl h), (3, .inl (h + (1 : Int)))] [] W Post))))))) :
    jf fw_T (d + 1) 59 49 [(0, .inr (.inl 268)), (1, .inl ma), (2, .inl fa), (3, .inl h), (4, .inl (1 : Int))] [.inr (.inl (fw_rc 278 (0 : Int)))] W Post := by
  refine fw_ok (n := 2) (ss := [(4, [0, 1, 2, 3]), (50, [0, 1, 2, 3, 4])]) (hv := []) fr_59_ok fv_tryx_ok (fw_c0 _ _) ?_
  show jf fw_T (d + 1) 59 50 [(0, .inr (.inl 268)), (1, .inl ma), (2, .inl fa), (3, .inl h), (4, .inl (1 : Int))] [.inl h, .inr (.inl (fw_rc 278 (0 : Int)))] W Post
  revert hw_
  repeat' (first | (refine And.imp ?_ ?_) | (refine rw_imp ?_) | (refine rw_all ?_; intro _) | exact s_k_farthestX_4_l11 | exact fun x_ => x_)

theorem s_k_farthestX_4_l9 {Post : Option fw_V → fw_W → Prop} {d : Nat} {W : fw_W} {ma fa h : Int}
    (hw_ : 0 ≤ (0 : Int) ∧ (0 : Int) < 14 ∧ (0 ≤ (0 : Int) ∧ (0 : Int) < 14 ∧ 0 ≤ h ∧ h < 14 ∧ (-2147483648 ≤ (fw_g W (fw_rc 278 (0 : Int)) h) → (fw_g W (fw_rc 278 (0 : Int)) h) ≤ 2147483647 → 0 ≤ (0 : Int) ∧ (0 : Int) < 14 ∧ (0 ≤ (0 : Int) ∧ (0 : Int) < 14 ∧ 0 ≤ fa ∧ fa < 14 ∧ (-2147483648 ≤ (fw_g W (fw_rc 278 (0 : Int)) fa) → (fw_g W (fw_rc 278 (0 : Int)) fa) ≤ 2147483647 → (((fw_g W (fw_rc 278 (0 : Int)) h) ≤ (fw_g W (fw_rc 278 (0 : Int)) fa) → -2147483648 ≤ h + (1 : Int) ∧ h + (1 : Int) ≤ 2147483647 ∧ (jf fw_T (d + 1) 59 4 [(0, .inr (.inl 268)), (1, .inl ma), (2, .inl fa), (3, .inl (h + (1 : Int)))] [] W Post)) ∧ ((fw_g W (fw_rc 278 (0 : Int)) fa) < (fw_g W (fw_rc 278 (0 : Int)) h) → -2147483648 ≤ h + (1 : Int) ∧ h + (1 : Int) ≤ 2147483647 ∧ (jf fw_T (d + 1) 59 4 [(0, .inr (.inl 268)), (1, .inl ma), (2, .inl h), (3, .inl (h + (1 : Int)))] [] W Post)))))))) :
    jf fw_T (d + 1) 59 48 [(0, .inr (.inl 268)), (1, .inl ma), (2, .inl fa), (3, .inl h), (4, .inl (1 : Int))] [.inl (0 : Int), .inr (.inl 278)] W Post := jf_aal (j := 28) kr_278 fr_59_ok rfl ⟨hw_.1, hw_.2.1, s_k_farthestX_4_n10 hw_.2.2⟩

theorem s_k_farthestX_4 {Post : Option fw_V → fw_W → Prop} {d : Nat} {W : fw_W} {ma fa h : Int}
    (hw_ : (0 ≤ (fw_g W 272 0) → (fw_g W 272 0) ≤ 14 → (((fw_g W 272 0) ≤ h → (-2147483648 ≤ (max fa (0 : Int)) → (max fa (0 : Int)) ≤ 2147483647 → Post (some (.inl (max fa (0 : Int)))) W)) ∧ (h < (fw_g W 272 0) → (-2147483648 ≤ (fw_shr ma h) → (fw_shr ma h) ≤ 2147483647 → (-2147483648 ≤ (fw_and (fw_shr ma h) (1 : Int)) → (fw_and (fw_shr ma h) (1 : Int)) ≤ 2147483647 → (((fw_and (fw_shr ma h) (1 : Int)) = 0 → (((0 : Int) = 0 → -2147483648 ≤ h + (1 : Int) ∧ h + (1 : Int) ≤ 2147483647 ∧ (jf fw_T (d + 1) 59 4 [(0, .inr (.inl 268)), (1, .inl ma), (2, .inl fa), (3, .inl (h + (1 : Int)))] [] W Post)) ∧ (¬ (0 : Int) = 0 → ((fa = (-1 : Int) → -2147483648 ≤ h + (1 : Int) ∧ h + (1 : Int) ≤ 2147483647 ∧ (jf fw_T (d + 1) 59 4 [(0, .inr (.inl 268)), (1, .inl ma), (2, .inl h), (3, .inl (h + (1 : Int)))] [] W Post)) ∧ (¬ fa = (-1 : Int) → 0 ≤ (0 : Int) ∧ (0 : Int) < 14 ∧ (0 ≤ (0 : Int) ∧ (0 : Int) < 14 ∧ 0 ≤ h ∧ h < 14 ∧ (-2147483648 ≤ (fw_g W (fw_rc 278 (0 : Int)) h) → (fw_g W (fw_rc 278 (0 : Int)) h) ≤ 2147483647 → 0 ≤ (0 : Int) ∧ (0 : Int) < 14 ∧ (0 ≤ (0 : Int) ∧ (0 : Int) < 14 ∧ 0 ≤ fa ∧ fa < 14 ∧ (-2147483648 ≤ (fw_g W (fw_rc 278 (0 : Int)) fa) → (fw_g W (fw_rc 278 (0 : Int)) fa) ≤ 2147483647 → (((fw_g W (fw_rc 278 (0 : Int)) h) ≤ (fw_g W (fw_rc 278 (0 : Int)) fa) → -2147483648 ≤ h + (1 : Int) ∧ h + (1 : Int) ≤ 2147483647 ∧ (jf fw_T (d + 1) 59 4 [(0, .inr (.inl 268)), (1, .inl ma), (2, .inl fa), (3, .inl (h + (1 : Int)))] [] W Post)) ∧ ((fw_g W (fw_rc 278 (0 : Int)) fa) < (fw_g W (fw_rc 278 (0 : Int)) h) → -2147483648 ≤ h + (1 : Int) ∧ h + (1 : Int) ≤ 2147483647 ∧ (jf fw_T (d + 1) 59 4 [(0, .inr (.inl 268)), (1, .inl ma), (2, .inl h), (3, .inl (h + (1 : Int)))] [] W Post)))))))))))) ∧ (¬ (fw_and (fw_shr ma h) (1 : Int)) = 0 → (((1 : Int) = 0 → -2147483648 ≤ h + (1 : Int) ∧ h + (1 : Int) ≤ 2147483647 ∧ (jf fw_T (d + 1) 59 4 [(0, .inr (.inl 268)), (1, .inl ma), (2, .inl fa), (3, .inl (h + (1 : Int)))] [] W Post)) ∧ (¬ (1 : Int) = 0 → ((fa = (-1 : Int) → -2147483648 ≤ h + (1 : Int) ∧ h + (1 : Int) ≤ 2147483647 ∧ (jf fw_T (d + 1) 59 4 [(0, .inr (.inl 268)), (1, .inl ma), (2, .inl h), (3, .inl (h + (1 : Int)))] [] W Post)) ∧ (¬ fa = (-1 : Int) → 0 ≤ (0 : Int) ∧ (0 : Int) < 14 ∧ (0 ≤ (0 : Int) ∧ (0 : Int) < 14 ∧ 0 ≤ h ∧ h < 14 ∧ (-2147483648 ≤ (fw_g W (fw_rc 278 (0 : Int)) h) → (fw_g W (fw_rc 278 (0 : Int)) h) ≤ 2147483647 → 0 ≤ (0 : Int) ∧ (0 : Int) < 14 ∧ (0 ≤ (0 : Int) ∧ (0 : Int) < 14 ∧ 0 ≤ fa ∧ fa < 14 ∧ (-2147483648 ≤ (fw_g W (fw_rc 278 (0 : Int)) fa) → (fw_g W (fw_rc 278 (0 : Int)) fa) ≤ 2147483647 → (((fw_g W (fw_rc 278 (0 : Int)) h) ≤ (fw_g W (fw_rc 278 (0 : Int)) fa) → -2147483648 ≤ h + (1 : Int) ∧ h + (1 : Int) ≤ 2147483647 ∧ (jf fw_T (d + 1) 59 4 [(0, .inr (.inl 268)), (1, .inl ma), (2, .inl fa), (3, .inl (h + (1 : Int)))] [] W Post)) ∧ ((fw_g W (fw_rc 278 (0 : Int)) fa) < (fw_g W (fw_rc 278 (0 : Int)) h) → -2147483648 ≤ h + (1 : Int) ∧ h + (1 : Int) ≤ 2147483647 ∧ (jf fw_T (d + 1) 59 4 [(0, .inr (.inl 268)), (1, .inl ma), (2, .inl h), (3, .inl (h + (1 : Int)))] [] W Post))))))))))))))))))) :
    jf fw_T (d + 1) 59 4 [(0, .inr (.inl 268)), (1, .inl ma), (2, .inl fa), (3, .inl h)] [] W Post := by
  refine fw_ok (n := 24) (ss := [(4, [0, 1, 2, 3]), (48, [0, 1, 2, 3, 4])]) (hv := []) fr_59_ok fv_tryx_ok (fw_c0 _ _) ?_
  show (0 ≤ (fw_g W 272 0) → (fw_g W 272 0) ≤ 14 → (((fw_g W 272 0) ≤ h → (-2147483648 ≤ (max fa (0 : Int)) → (max fa (0 : Int)) ≤ 2147483647 → Post (some (.inl (max fa (0 : Int)))) W)) ∧ (h < (fw_g W 272 0) → (-2147483648 ≤ (fw_shr ma h) → (fw_shr ma h) ≤ 2147483647 → (-2147483648 ≤ (fw_and (fw_shr ma h) (1 : Int)) → (fw_and (fw_shr ma h) (1 : Int)) ≤ 2147483647 → (((fw_and (fw_shr ma h) (1 : Int)) = 0 → (((0 : Int) = 0 → -2147483648 ≤ h + (1 : Int) ∧ h + (1 : Int) ≤ 2147483647 ∧ (jf fw_T (d + 1) 59 4 [(0, .inr (.inl 268)), (1, .inl ma), (2, .inl fa), (3, .inl (h + (1 : Int)))] [] W Post)) ∧ (¬ (0 : Int) = 0 → ((fa = (-1 : Int) → -2147483648 ≤ h + (1 : Int) ∧ h + (1 : Int) ≤ 2147483647 ∧ (jf fw_T (d + 1) 59 4 [(0, .inr (.inl 268)), (1, .inl ma), (2, .inl h), (3, .inl (h + (1 : Int)))] [] W Post)) ∧ (¬ fa = (-1 : Int) → jf fw_T (d + 1) 59 48 [(0, .inr (.inl 268)), (1, .inl ma), (2, .inl fa), (3, .inl h), (4, .inl (0 : Int))] [.inl (0 : Int), .inr (.inl 278)] W Post))))) ∧ (¬ (fw_and (fw_shr ma h) (1 : Int)) = 0 → (((1 : Int) = 0 → -2147483648 ≤ h + (1 : Int) ∧ h + (1 : Int) ≤ 2147483647 ∧ (jf fw_T (d + 1) 59 4 [(0, .inr (.inl 268)), (1, .inl ma), (2, .inl fa), (3, .inl (h + (1 : Int)))] [] W Post)) ∧ (¬ (1 : Int) = 0 → ((fa = (-1 : Int) → -2147483648 ≤ h + (1 : Int) ∧ h + (1 : Int) ≤ 2147483647 ∧ (jf fw_T (d + 1) 59 4 [(0, .inr (.inl 268)), (1, .inl ma), (2, .inl h), (3, .inl (h + (1 : Int)))] [] W Post)) ∧ (¬ fa = (-1 : Int) → jf fw_T (d + 1) 59 48 [(0, .inr (.inl 268)), (1, .inl ma), (2, .inl fa), (3, .inl h), (4, .inl (1 : Int))] [.inl (0 : Int), .inr (.inl 278)] W Post)))))))))))
  revert hw_
  repeat' (first | (refine And.imp ?_ ?_) | (refine rw_imp ?_) | (refine rw_all ?_; intro _) | exact s_k_farthestX_4_l1 | exact s_k_farthestX_4_l9 | exact fun x_ => x_)

theorem lm_k_farthestX_4 {Post : Option fw_V → fw_W → Prop} {d : Nat} {W : fw_W} {ma : Int} (q : List Nat) (hgh : (qok ((fw_g W 272 0)).toNat q = true ∧ qk2 ((fw_g W 272 0)).toNat q = true) ∧ 2 ≤ (fw_g W 272 0) ∧ (fw_g W 272 0) ≤ 6 ∧ (∀ x_, 1 ≤ x_ → x_ < (fw_g W 272 0) → (fw_g W 273 x_) = ((qp q x_.toNat : Nat) : Int))) (hpre : (0 ≤ ma ∧ ma < 64) ∧ (∀ u_ t_, 0 ≤ u_ → u_ < (fw_g W 272 0) → 0 ≤ t_ → t_ < (fw_g W 272 0) → fw_g W (fw_rc 278 u_) t_ = zD q u_ t_)) (hP : ∀ (v : Int) , (-2147483648 ≤ v ∧ v ≤ 2147483647 ∧ (v = max (zwf q ma ((fw_g W 272 0))) 0)) → Post (some (.inl v)) W)  : ∀ (m : Nat) (fa h : Int), ((fw_g W 272 0) - h).toNat = m → 0 ≤ h ∧ h ≤ (fw_g W 272 0) ∧ fa = zwf q ma h → jf fw_T (d + 1) 59 4 [(0, .inr (.inl 268)), (1, .inl ma), (2, .inl fa), (3, .inl h)] [] W Post := by
  intro m
  induction m using Nat.strongRecOn with
  | ind m ih =>
    intro fa h hm hi
    refine jf_rng (fun hrg => ?_)
    have hrg : -2147483648 ≤ ma ∧ ma ≤ 2147483647 ∧ -2147483648 ≤ fa ∧ fa ≤ 2147483647 ∧ -2147483648 ≤ h ∧ h ≤ 2147483647 ∧ True := hrg
    refine s_k_farthestX_4 ?_
    have hp1 := hpre.1
    have h1 := hi.1
    have h2 := hi.2.1
    have hN := hgh.2.2.1
    have hr := zwf_r q ma (k := h) (by omega)
    rw [← hi.2.2] at hr
    have stU : Unit → (h < (fw_g W 272 0) → (fw_and (fw_shr ma h) 1 = 0 ∨ fw_and (fw_shr ma h) 1 = 1) ∧ (fw_and (fw_shr ma h) 1 = 0 → zwf q ma (h + 1) = fa) ∧ (fw_and (fw_shr ma h) 1 = 1 → fa = -1 → zwf q ma (h + 1) = h) ∧ (fw_and (fw_shr ma h) 1 = 1 → 0 ≤ fa → zD q 0 fa < zD q 0 h → zwf q ma (h + 1) = h) ∧ (fw_and (fw_shr ma h) 1 = 1 → 0 ≤ fa → zD q 0 h ≤ zD q 0 fa → zwf q ma (h + 1) = fa)) := fun _ z => by
      have tb := tbit_i (m := ma) (k := h) hp1.1 hp1.2 h1 (by omega)
      have st := zwf_s q ma (k := h) h1 (by omega)
      rw [← hi.2.2] at st
      refine ⟨?_, fun y => st.1 (tb.2.mpr y), fun y y1 => st.2.1 (tb.1.mpr y) y1, fun y y1 y2 => st.2.2.1 (tb.1.mpr y) y1 y2, fun y y1 y2 => st.2.2.2 (tb.1.mpr y) y1 y2⟩
      cases c : ma.toNat.testBit h.toNat with
      | true => exact Or.inr (tb.1.mp c)
      | false => exact Or.inl (tb.2.mp c)
    have w0 : h < (fw_g W 272 0) → fw_g W (fw_rc 278 (0 : Int)) h = zD q 0 h := fun z => hpre.2 0 h (by omega) (by omega) h1 z
    have w1 : 0 ≤ fa → h < (fw_g W 272 0) → fw_g W (fw_rc 278 (0 : Int)) fa = zD q 0 fa := fun y z => hpre.2 0 fa (by omega) (by omega) y (by omega)
    repeat' (first
      | (exact True.intro)
      | (exact hpre.1)
      | (refine And.intro ?_ ?_)
      | (refine (ih _ (by omega) _ _ rfl ?_); (
        have st := stU () (by omega)
        have hw0 := w0 (by omega)
        have hb := st.1
        refine ⟨by omega, by omega, ?_⟩
        first
          | exact (st.2.1 (by omega)).symm
          | exact (st.2.2.1 (by omega) (by omega)).symm
          | exact (st.2.2.2.1 (by omega) (by omega) (by have := w1 (by omega) (by omega); omega)).symm
          | exact (st.2.2.2.2 (by omega) (by omega) (by have := w1 (by omega) (by omega); omega)).symm))
      | (refine hP _ ?_; (refine ⟨by omega, by omega, ?_⟩; (
        have hN : h = (fw_g W 272 0) := by omega
        have e := hi.2.2
        rw [hN] at e
        omega)))
      | omega
      | (intro _))
def x_k_farthestX : fw_X := fun as W Q => match as with
  | [.inr (.inl s_), .inl ma] => fw_if (Nat.beq s_ 268) (∃ (q : List Nat), ((qok ((fw_g W 272 0)).toNat q = true ∧ qk2 ((fw_g W 272 0)).toNat q = true) ∧ 2 ≤ (fw_g W 272 0) ∧ (fw_g W 272 0) ≤ 6 ∧ (∀ x_, 1 ≤ x_ → x_ < (fw_g W 272 0) → (fw_g W 273 x_) = ((qp q x_.toNat : Nat) : Int))) ∧ ((0 ≤ ma ∧ ma < 64) ∧ (∀ u_ t_, 0 ≤ u_ → u_ < (fw_g W 272 0) → 0 ≤ t_ → t_ < (fw_g W 272 0) → fw_g W (fw_rc 278 u_) t_ = zD q u_ t_)) ∧ (∀ (v : Int), (-2147483648 ≤ v ∧ v ≤ 2147483647 ∧ (v = max (zwf q ma ((fw_g W 272 0))) 0)) → Q (some (.inl v)) W))
  | _ => False
theorem x_k_farthestX_ok (d : Nat) (as : List fw_V) (W : fw_W) (Q : Option fw_V → fw_W → Prop) (hx : x_k_farthestX as W Q) : jf fw_T (d + 1) 59 0 (fw_args 0 as) [] W Q := by
  unfold x_k_farthestX at hx
  split at hx
  · rename_i s_ ma
    obtain ⟨e_, q, hgh, hpre, hQ⟩ := fw_if_ok hx
    have e_ := Nat.eq_of_beq_eq_true e_
    subst e_
    have hP := hQ
    refine s_k_farthestX_0 ?_
    repeat' (first
      | (exact True.intro)
      | (exact hpre.1)
      | (refine And.intro ?_ ?_)
      | (refine (lm_k_farthestX_4 (ma := ma) q hgh hpre hP _ _ _ rfl ?_); (exact ⟨by omega, by omega, (zwf_0 q ma).symm⟩))
      | (refine hP _ ?_; (refine ⟨by omega, by omega, ?_⟩; (
        have hN : h = (fw_g W 272 0) := by omega
        have e := hi.2.2
        rw [hN] at e
        omega)))
      | omega
      | (intro _))
  · exact hx.elim

def fr_58 : fw_P := [(0, 0, 0, 0, 1), (1, 2, 0, 0, 0), (2, 50, 4, 3, 0), (5, 50, 9, 0, 0), (8, 39, 0, 0, 0), (9, 0, 0, 0, 1), (10, 31, 0, 0, 0), (11, 3, 1, 0, 0), (12, 0, 0, 0, 0), (13, 3, 2, 0, 0), (14, 1, 1, 0, 0), (15, 20, 107, 0, 0), (18, 1, 2, 0, 0), (19, 2, 0, 0, 0), (20, 50, 4, 3, 0), (23, 50, 9, 0, 0), (26, 13, 107, 0, 0), (29, 2, 0, 0, 0), (30, 1, 1, 0, 0), (31, 64, 59, 1, 504), (34, 3, 3, 0, 0), (35, 1, 3, 0, 0), (36, 21, 43, 0, 0), (39, 0, 0, 0, 0), (40, 6, 52, 0, 0), (43, 2, 0, 0, 0), (44, 50, 4, 3, 0), (47, 50, 9, 2, 0), (50, 1, 3, 0, 0), (51, 52, 0, 0, 0), (52, 3, 4, 0, 0), (54, 0, 0, 0, 0), (55, 3, 5, 0, 0), (57, 1, 5, 0, 0), (59, 2, 0, 0, 0), (60, 50, 4, 3, 0), (63, 50, 9, 0, 0), (66, 13, 101, 0, 0), (69, 2, 0, 0, 0), (70, 50, 4, 4, 0), (73, 50, 10, 1, 0), (76, 1, 4, 0, 0), (78, 56, 0, 0, 0), (79, 1, 5, 0, 0), (81, 52, 0, 0, 0), (82, 0, 0, 0, 1), (83, 14, 95, 0, 0), (86, 1, 1, 0, 0), (87, 0, 0, 0, 1), (88, 1, 5, 0, 0), (90, 39, 0, 0, 0), (91, 0, 0, 0, -1), (92, 38, 0, 0, 0), (93, 36, 0, 0, 0), (94, 3, 1, 0, 0), (95, 5, 5, 0, 1), (98, 6, 57, 0, 0), (101, 5, 2, 0, 1), (104, 6, 14, 0, 0), (107, 1, 2, 0, 0), (108, 70, 0, 0, 0)]
theorem fr_58_ok : fw_mk 58 6 4 (some .int) fr_58 = true := by decide +kernel
def ct_k_wardensByX : List (Nat × fw_X) := [(59, x_k_farthestX)]
theorem ct_k_wardensByX_ok (d : Nat) : fw_cok fw_T (d + 1) ct_k_wardensByX := by
  intro q hq as W Q h
  simp only [ct_k_wardensByX, List.mem_cons, List.not_mem_nil, or_false] at hq
  rcases hq with rfl
  · exact jc_of (x_k_farthestX_ok (d + 0) as W Q h)
theorem s_k_wardensByX_0 {Post : Option fw_V → fw_W → Prop} {d : Nat} {W : fw_W}
    (hw_ : (0 ≤ (fw_g W 272 0) → (fw_g W 272 0) ≤ 14 → (-2147483648 ≤ (fw_shl (1 : Int) (fw_g W 272 0)) → (fw_shl (1 : Int) (fw_g W 272 0)) ≤ 2147483647 → -2147483648 ≤ (fw_shl (1 : Int) (fw_g W 272 0)) - (1 : Int) ∧ (fw_shl (1 : Int) (fw_g W 272 0)) - (1 : Int) ≤ 2147483647 ∧ (jf fw_T (d + 2) 58 14 [(0, .inr (.inl 268)), (1, .inl ((fw_shl (1 : Int) (fw_g W 272 0)) - (1 : Int))), (2, .inl (0 : Int))] [] W Post)))) :
    jf fw_T (d + 2) 58 0 [(0, .inr (.inl 268))] [] W Post := fw_ok (n := 11) (ss := [(14, [0, 1, 2]), (57, [0, 1, 2, 4, 5])]) (hv := []) fr_58_ok fv_tryx_ok (ct_k_wardensByX_ok d) hw_

theorem s_k_wardensByX_57_n4 {Post : Option fw_V → fw_W → Prop} {d : Nat} {W : fw_W} {ma wa at_ o : Int}
    (hw_ : (((1 : Int) < (fw_g W (fw_rc 278 at_) o) → -2147483648 ≤ o + (1 : Int) ∧ o + (1 : Int) ≤ 2147483647 ∧ (jf fw_T (d + 2) 58 57 [(0, .inr (.inl 268)), (1, .inl ma), (2, .inl wa), (4, .inl at_), (5, .inl (o + (1 : Int)))] [] W Post)) ∧ ((fw_g W (fw_rc 278 at_) o) ≤ (1 : Int) → (-2147483648 ≤ (fw_shl (1 : Int) o) → (fw_shl (1 : Int) o) ≤ 2147483647 → (-2147483648 ≤ (fw_xor (fw_shl (1 : Int) o) (-1 : Int)) → (fw_xor (fw_shl (1 : Int) o) (-1 : Int)) ≤ 2147483647 → (-2147483648 ≤ (fw_and ma (fw_xor (fw_shl (1 : Int) o) (-1 : Int))) → (fw_and ma (fw_xor (fw_shl (1 : Int) o) (-1 : Int))) ≤ 2147483647 → -2147483648 ≤ o + (1 : Int) ∧ o + (1 : Int) ≤ 2147483647 ∧ (jf fw_T (d + 2) 58 57 [(0, .inr (.inl 268)), (1, .inl (fw_and ma (fw_xor (fw_shl (1 : Int) o) (-1 : Int)))), (2, .inl wa), (4, .inl at_), (5, .inl (o + (1 : Int)))] [] W Post))))))) :
    jf fw_T (d + 2) 58 82 [(0, .inr (.inl 268)), (1, .inl ma), (2, .inl wa), (4, .inl at_), (5, .inl o)] [.inl (fw_g W (fw_rc 278 at_) o)] W Post := fw_ok (n := 13) (ss := [(14, [0, 1, 2]), (57, [0, 1, 2, 4, 5])]) (hv := []) fr_58_ok fv_tryx_ok (ct_k_wardensByX_ok d) hw_

theorem s_k_wardensByX_57_l3 {Post : Option fw_V → fw_W → Prop} {d : Nat} {W : fw_W} {ma wa at_ o : Int}
    (hw_ : 0 ≤ at_ ∧ at_ < 14 ∧ 0 ≤ o ∧ o < 14 ∧ (-2147483648 ≤ (fw_g W (fw_rc 278 at_) o) → (fw_g W (fw_rc 278 at_) o) ≤ 2147483647 → (((1 : Int) < (fw_g W (fw_rc 278 at_) o) → -2147483648 ≤ o + (1 : Int) ∧ o + (1 : Int) ≤ 2147483647 ∧ (jf fw_T (d + 2) 58 57 [(0, .inr (.inl 268)), (1, .inl ma), (2, .inl wa), (4, .inl at_), (5, .inl (o + (1 : Int)))] [] W Post)) ∧ ((fw_g W (fw_rc 278 at_) o) ≤ (1 : Int) → (-2147483648 ≤ (fw_shl (1 : Int) o) → (fw_shl (1 : Int) o) ≤ 2147483647 → (-2147483648 ≤ (fw_xor (fw_shl (1 : Int) o) (-1 : Int)) → (fw_xor (fw_shl (1 : Int) o) (-1 : Int)) ≤ 2147483647 → (-2147483648 ≤ (fw_and ma (fw_xor (fw_shl (1 : Int) o) (-1 : Int))) → (fw_and ma (fw_xor (fw_shl (1 : Int) o) (-1 : Int))) ≤ 2147483647 → -2147483648 ≤ o + (1 : Int) ∧ o + (1 : Int) ≤ 2147483647 ∧ (jf fw_T (d + 2) 58 57 [(0, .inr (.inl 268)), (1, .inl (fw_and ma (fw_xor (fw_shl (1 : Int) o) (-1 : Int)))), (2, .inl wa), (4, .inl at_), (5, .inl (o + (1 : Int)))] [] W Post)))))))) :
    jf fw_T (d + 2) 58 81 [(0, .inr (.inl 268)), (1, .inl ma), (2, .inl wa), (4, .inl at_), (5, .inl o)] [.inl o, .inr (.inl (fw_rc 278 at_))] W Post := jf_ial (j := 44) kr_278 fr_58_ok rfl ⟨hw_.1, hw_.2.1, hw_.2.2.1, hw_.2.2.2.1, fun g1_ g2_ => s_k_wardensByX_57_n4 (hw_.2.2.2.2 g1_ g2_)⟩

theorem s_k_wardensByX_57_n2 {Post : Option fw_V → fw_W → Prop} {d : Nat} {W : fw_W} {ma wa at_ o : Int}
    (hw_ : 0 ≤ at_ ∧ at_ < 14 ∧ 0 ≤ o ∧ o < 14 ∧ (-2147483648 ≤ (fw_g W (fw_rc 278 at_) o) → (fw_g W (fw_rc 278 at_) o) ≤ 2147483647 → (((1 : Int) < (fw_g W (fw_rc 278 at_) o) → -2147483648 ≤ o + (1 : Int) ∧ o + (1 : Int) ≤ 2147483647 ∧ (jf fw_T (d + 2) 58 57 [(0, .inr (.inl 268)), (1, .inl ma), (2, .inl wa), (4, .inl at_), (5, .inl (o + (1 : Int)))] [] W Post)) ∧ ((fw_g W (fw_rc 278 at_) o) ≤ (1 : Int) → (-2147483648 ≤ (fw_shl (1 : Int) o) → (fw_shl (1 : Int) o) ≤ 2147483647 → (-2147483648 ≤ (fw_xor (fw_shl (1 : Int) o) (-1 : Int)) → (fw_xor (fw_shl (1 : Int) o) (-1 : Int)) ≤ 2147483647 → (-2147483648 ≤ (fw_and ma (fw_xor (fw_shl (1 : Int) o) (-1 : Int))) → (fw_and ma (fw_xor (fw_shl (1 : Int) o) (-1 : Int))) ≤ 2147483647 → -2147483648 ≤ o + (1 : Int) ∧ o + (1 : Int) ≤ 2147483647 ∧ (jf fw_T (d + 2) 58 57 [(0, .inr (.inl 268)), (1, .inl (fw_and ma (fw_xor (fw_shl (1 : Int) o) (-1 : Int)))), (2, .inl wa), (4, .inl at_), (5, .inl (o + (1 : Int)))] [] W Post)))))))) :
    jf fw_T (d + 2) 58 79 [(0, .inr (.inl 268)), (1, .inl ma), (2, .inl wa), (4, .inl at_), (5, .inl o)] [.inr (.inl (fw_rc 278 at_))] W Post := by
  refine fw_ok (n := 2) (ss := [(14, [0, 1, 2]), (57, [0, 1, 2, 4, 5]), (81, [0, 1, 2, 4, 5])]) (hv := []) fr_58_ok fv_tryx_ok (ct_k_wardensByX_ok d) ?_
  show jf fw_T (d + 2) 58 81 [(0, .inr (.inl 268)), (1, .inl ma), (2, .inl wa), (4, .inl at_), (5, .inl o)] [.inl o, .inr (.inl (fw_rc 278 at_))] W Post
  revert hw_
  repeat' (first | (refine And.imp ?_ ?_) | (refine rw_imp ?_) | (refine rw_all ?_; intro _) | exact s_k_wardensByX_57_l3 | exact fun x_ => x_)

theorem s_k_wardensByX_57_l1 {Post : Option fw_V → fw_W → Prop} {d : Nat} {W : fw_W} {ma wa at_ o : Int}
    (hw_ : 0 ≤ at_ ∧ at_ < 14 ∧ (0 ≤ at_ ∧ at_ < 14 ∧ 0 ≤ o ∧ o < 14 ∧ (-2147483648 ≤ (fw_g W (fw_rc 278 at_) o) → (fw_g W (fw_rc 278 at_) o) ≤ 2147483647 → (((1 : Int) < (fw_g W (fw_rc 278 at_) o) → -2147483648 ≤ o + (1 : Int) ∧ o + (1 : Int) ≤ 2147483647 ∧ (jf fw_T (d + 2) 58 57 [(0, .inr (.inl 268)), (1, .inl ma), (2, .inl wa), (4, .inl at_), (5, .inl (o + (1 : Int)))] [] W Post)) ∧ ((fw_g W (fw_rc 278 at_) o) ≤ (1 : Int) → (-2147483648 ≤ (fw_shl (1 : Int) o) → (fw_shl (1 : Int) o) ≤ 2147483647 → (-2147483648 ≤ (fw_xor (fw_shl (1 : Int) o) (-1 : Int)) → (fw_xor (fw_shl (1 : Int) o) (-1 : Int)) ≤ 2147483647 → (-2147483648 ≤ (fw_and ma (fw_xor (fw_shl (1 : Int) o) (-1 : Int))) → (fw_and ma (fw_xor (fw_shl (1 : Int) o) (-1 : Int))) ≤ 2147483647 → -2147483648 ≤ o + (1 : Int) ∧ o + (1 : Int) ≤ 2147483647 ∧ (jf fw_T (d + 2) 58 57 [(0, .inr (.inl 268)), (1, .inl (fw_and ma (fw_xor (fw_shl (1 : Int) o) (-1 : Int)))), (2, .inl wa), (4, .inl at_), (5, .inl (o + (1 : Int)))] [] W Post))))))))) :
    jf fw_T (d + 2) 58 78 [(0, .inr (.inl 268)), (1, .inl ma), (2, .inl wa), (4, .inl at_), (5, .inl o)] [.inl at_, .inr (.inl 278)] W Post := jf_aal (j := 42) kr_278 fr_58_ok rfl ⟨hw_.1, hw_.2.1, s_k_wardensByX_57_n2 hw_.2.2⟩

theorem s_k_wardensByX_57 {Post : Option fw_V → fw_W → Prop} {d : Nat} {W : fw_W} {ma wa at_ o : Int}
    (hw_ : (0 ≤ (fw_g W 272 0) → (fw_g W 272 0) ≤ 14 → (((fw_g W 272 0) ≤ o → -2147483648 ≤ wa + (1 : Int) ∧ wa + (1 : Int) ≤ 2147483647 ∧ (jf fw_T (d + 2) 58 14 [(0, .inr (.inl 268)), (1, .inl ma), (2, .inl (wa + (1 : Int)))] [] W Post)) ∧ (o < (fw_g W 272 0) → 0 ≤ at_ ∧ at_ < 14 ∧ (0 ≤ at_ ∧ at_ < 14 ∧ 0 ≤ o ∧ o < 14 ∧ (-2147483648 ≤ (fw_g W (fw_rc 278 at_) o) → (fw_g W (fw_rc 278 at_) o) ≤ 2147483647 → (((1 : Int) < (fw_g W (fw_rc 278 at_) o) → -2147483648 ≤ o + (1 : Int) ∧ o + (1 : Int) ≤ 2147483647 ∧ (jf fw_T (d + 2) 58 57 [(0, .inr (.inl 268)), (1, .inl ma), (2, .inl wa), (4, .inl at_), (5, .inl (o + (1 : Int)))] [] W Post)) ∧ ((fw_g W (fw_rc 278 at_) o) ≤ (1 : Int) → (-2147483648 ≤ (fw_shl (1 : Int) o) → (fw_shl (1 : Int) o) ≤ 2147483647 → (-2147483648 ≤ (fw_xor (fw_shl (1 : Int) o) (-1 : Int)) → (fw_xor (fw_shl (1 : Int) o) (-1 : Int)) ≤ 2147483647 → (-2147483648 ≤ (fw_and ma (fw_xor (fw_shl (1 : Int) o) (-1 : Int))) → (fw_and ma (fw_xor (fw_shl (1 : Int) o) (-1 : Int))) ≤ 2147483647 → -2147483648 ≤ o + (1 : Int) ∧ o + (1 : Int) ≤ 2147483647 ∧ (jf fw_T (d + 2) 58 57 [(0, .inr (.inl 268)), (1, .inl (fw_and ma (fw_xor (fw_shl (1 : Int) o) (-1 : Int)))), (2, .inl wa), (4, .inl at_), (5, .inl (o + (1 : Int)))] [] W Post)))))))))))) :
    jf fw_T (d + 2) 58 57 [(0, .inr (.inl 268)), (1, .inl ma), (2, .inl wa), (4, .inl at_), (5, .inl o)] [] W Post := by
  refine fw_ok (n := 10) (ss := [(14, [0, 1, 2]), (57, [0, 1, 2, 4, 5]), (78, [0, 1, 2, 4, 5])]) (hv := []) fr_58_ok fv_tryx_ok (ct_k_wardensByX_ok d) ?_
  show (0 ≤ (fw_g W 272 0) → (fw_g W 272 0) ≤ 14 → (((fw_g W 272 0) ≤ o → -2147483648 ≤ wa + (1 : Int) ∧ wa + (1 : Int) ≤ 2147483647 ∧ (jf fw_T (d + 2) 58 14 [(0, .inr (.inl 268)), (1, .inl ma), (2, .inl (wa + (1 : Int)))] [] W Post)) ∧ (o < (fw_g W 272 0) → jf fw_T (d + 2) 58 78 [(0, .inr (.inl 268)), (1, .inl ma), (2, .inl wa), (4, .inl at_), (5, .inl o)] [.inl at_, .inr (.inl 278)] W Post)))
  revert hw_
  repeat' (first | (refine And.imp ?_ ?_) | (refine rw_imp ?_) | (refine rw_all ?_; intro _) | exact s_k_wardensByX_57_l1 | exact fun x_ => x_)

theorem s_k_wardensByX_14 {Post : Option fw_V → fw_W → Prop} {d : Nat} {W : fw_W} {ma wa : Int}
    (hw_ : ((ma = 0 → (-2147483648 ≤ wa → wa ≤ 2147483647 → Post (some (.inl wa)) W)) ∧ (¬ ma = 0 → (0 ≤ (fw_g W 272 0) → (fw_g W 272 0) ≤ 14 → (((fw_g W 272 0) ≤ wa → (-2147483648 ≤ wa → wa ≤ 2147483647 → Post (some (.inl wa)) W)) ∧ (wa < (fw_g W 272 0) → ∃ (q_1 : List Nat), ((qok ((fw_g W 272 0)).toNat q_1 = true ∧ qk2 ((fw_g W 272 0)).toNat q_1 = true) ∧ 2 ≤ (fw_g W 272 0) ∧ (fw_g W 272 0) ≤ 6 ∧ (∀ x_, 1 ≤ x_ → x_ < (fw_g W 272 0) → (fw_g W 273 x_) = ((qp q_1 x_.toNat : Nat) : Int))) ∧ ((0 ≤ ma ∧ ma < 64) ∧ (∀ u_ t_, 0 ≤ u_ → u_ < (fw_g W 272 0) → 0 ≤ t_ → t_ < (fw_g W 272 0) → fw_g W (fw_rc 278 u_) t_ = zD q_1 u_ t_)) ∧ (∀ (r2 : Int), ((-2147483648 ≤ r2 ∧ r2 ≤ 2147483647 ∧ (r2 = max (zwf q_1 ma ((fw_g W 272 0))) 0))) → ((¬ r2 = 0 → 0 ≤ r2 ∧ r2 < 14 ∧ (-1 ≤ (fw_g W 273 r2) → (fw_g W 273 r2) ≤ 13 → jf fw_T (d + 2) 58 57 [(0, .inr (.inl 268)), (1, .inl ma), (2, .inl wa), (4, .inl (fw_g W 273 r2)), (5, .inl (0 : Int))] [] W Post)) ∧ (r2 = 0 → jf fw_T (d + 2) 58 57 [(0, .inr (.inl 268)), (1, .inl ma), (2, .inl wa), (4, .inl (0 : Int)), (5, .inl (0 : Int))] [] W Post))))))))) :
    jf fw_T (d + 2) 58 14 [(0, .inr (.inl 268)), (1, .inl ma), (2, .inl wa)] [] W Post := fw_ok (n := 22) (ss := [(14, [0, 1, 2]), (57, [0, 1, 2, 4, 5])]) (hv := []) fr_58_ok fv_tryx_ok (ct_k_wardensByX_ok d) hw_

theorem lm_k_wardensByX_57 {Post : Option fw_V → fw_W → Prop} {d : Nat} {W : fw_W} (q : List Nat) (hgh : (qok ((fw_g W 272 0)).toNat q = true ∧ qk2 ((fw_g W 272 0)).toNat q = true) ∧ 2 ≤ (fw_g W 272 0) ∧ (fw_g W 272 0) ≤ 6 ∧ (∀ x_, 1 ≤ x_ → x_ < (fw_g W 272 0) → (fw_g W 273 x_) = ((qp q x_.toNat : Nat) : Int))) (hpre : (∀ u_ t_, 0 ≤ u_ → u_ < (fw_g W 272 0) → 0 ≤ t_ → t_ < (fw_g W 272 0) → fw_g W (fw_rc 278 u_) t_ = zD q u_ t_)) (hP : ∀ (v : Int) , (-2147483648 ≤ v ∧ v ≤ 2147483647 ∧ (v = zwe q ((fw_g W 272 0)) ((fw_g W 272 0)) ((2 ^ ((fw_g W 272 0)).toNat - 1 : Nat) : Int))) → Post (some (.inl v)) W) (M14 : Int) (h14 : ∀ (ma wa : Int), (0 ≤ ma ∧ ma < 64 ∧ ma < fw_shl 1 ((fw_g W 272 0)) ∧ 0 ≤ wa ∧ wa ≤ (fw_g W 272 0)) ∧ wa + zwe q ((fw_g W 272 0)) ((fw_g W 272 0) - wa) ma = zwe q ((fw_g W 272 0)) ((fw_g W 272 0)) ((2 ^ ((fw_g W 272 0)).toNat - 1 : Nat) : Int) → ((fw_g W 272 0) - wa) < M14 → jf fw_T (d + 2) 58 14 [(0, .inr (.inl 268)), (1, .inl ma), (2, .inl wa)] [] W Post) : ∀ (m : Nat) (ma wa at_ o : Int), ((fw_g W 272 0) - o).toNat = m → ((0 ≤ ma ∧ ma < 64 ∧ 0 ≤ wa ∧ wa < (fw_g W 272 0) ∧ 0 ≤ o ∧ o ≤ (fw_g W 272 0) ∧ 0 ≤ at_ ∧ at_ < (fw_g W 272 0)) ∧ ∃ m0 : Int, (0 < m0 ∧ m0 < 64 ∧ m0 < fw_shl 1 ((fw_g W 272 0))) ∧ ma = zwc q at_ m0 o ∧ wa + 1 + zwe q ((fw_g W 272 0)) ((fw_g W 272 0) - wa - 1) (zwc q at_ m0 ((fw_g W 272 0))) = zwe q ((fw_g W 272 0)) ((fw_g W 272 0)) ((2 ^ ((fw_g W 272 0)).toNat - 1 : Nat) : Int)) → ((fw_g W 272 0) - wa) ≤ M14 → jf fw_T (d + 2) 58 57 [(0, .inr (.inl 268)), (1, .inl ma), (2, .inl wa), (4, .inl at_), (5, .inl o)] [] W Post := by
  intro m
  induction m using Nat.strongRecOn with
  | ind m ih =>
    intro ma wa at_ o hm hi e14
    refine jf_rng (fun hrg => ?_)
    have hrg : -2147483648 ≤ ma ∧ ma ≤ 2147483647 ∧ -2147483648 ≤ wa ∧ wa ≤ 2147483647 ∧ -2147483648 ≤ at_ ∧ at_ ≤ 2147483647 ∧ -2147483648 ≤ o ∧ o ≤ 2147483647 ∧ True := hrg
    refine s_k_wardensByX_57 ?_
    have zq := zw_eq (by have := hgh.2.1; omega) hgh.1.2
    have s1 := fw_shl1 (n := (fw_g W 272 0)) (by have := hgh.2.1; omega) (by have := hgh.2.2.1; omega)
    have s6 := shl6 (x := (fw_g W 272 0)) (by have := hgh.2.1; omega) hgh.2.2.1
    have n2 := hgh.2.1
    have n6 := hgh.2.2.1
    have tp9 : ∀ r : Int, 1 ≤ r → r < (fw_g W 272 0) → 0 ≤ (fw_g W 273 r) ∧ (fw_g W 273 r) < (fw_g W 272 0) := fun r r1 r2 => by
      have e := hgh.2.2.2 r r1 r2
      obtain ⟨i, i0, i1, rfl⟩ := zo_s hgh.1.2 (show 0 ≤ r by omega) r2
      have c := (zo_b hgh.1.2 i0 i1).2.2.1
      have p := zo_p hgh.1.2 (i := i) (by omega) i1
      omega
    obtain ⟨hi1, m0, hm0, hma, hU⟩ := hi
    have st : o < (fw_g W 272 0) → _ := fun z => zwc_s q at_ (m := m0) (k := o) (by omega) (by omega) (by omega) (by omega)
    have rr : o < (fw_g W 272 0) → _ := fun z => zwc_r q at_ (m := m0) (k := o + 1) (by omega) (by omega) (by omega)
    rw [← hma] at st
    have w0 : o < (fw_g W 272 0) → fw_g W (fw_rc 278 at_) o = zD q at_ o := fun z => hpre at_ o (by omega) (by omega) (by omega) z
    repeat' (first
      | (exact True.intro)
      | (exact hpre.1)
      | (refine And.intro ?_ ?_)
      | (refine (h14 _ _ ?_ (by omega)); (
        have le := zwc_le q at_ (m := m0) ((fw_g W 272 0)) (by omega)
        have rr := zwc_r q at_ (m := m0) (k := (fw_g W 272 0)) (by omega) (by omega) (by omega)
        have eo : o = (fw_g W 272 0) := by omega
        have em : ma = zwc q at_ m0 ((fw_g W 272 0)) := by rw [hma, eo]
        refine ⟨by omega, ?_⟩
        rw [em, show ((fw_g W 272 0)) - (wa + 1) = ((fw_g W 272 0)) - wa - 1 by omega]
        exact hU))
      | (refine (ih _ (by omega) _ _ _ _ rfl ?_ (by omega)); (
        have st := st (by omega)
        have rr := rr (by omega)
        have w0 := w0 (by omega)
        first
          | (have e := st.1 (by omega)
             exact ⟨by omega, m0, hm0, e.symm, hU⟩)
          | (have e := st.2 (by omega)
             exact ⟨by omega, m0, hm0, e.symm, hU⟩)))
      | (refine hP _ ?_; (refine ⟨by omega, by omega, ?_⟩; (
        first
          | (have e : ma = 0 := by omega
             have z := hi.2
             rw [e, zwe_0] at z
             omega)
          | (exfalso
             have e : ((fw_g W 272 0)) - wa = 0 := by omega
             have z := hi.2
             rw [e, zwe_e q ((fw_g W 272 0)) (m := ma) (by omega)] at z
             omega))))
      | omega
      | (intro _))
theorem lm_k_wardensByX_14 {Post : Option fw_V → fw_W → Prop} {d : Nat} {W : fw_W} (q : List Nat) (hgh : (qok ((fw_g W 272 0)).toNat q = true ∧ qk2 ((fw_g W 272 0)).toNat q = true) ∧ 2 ≤ (fw_g W 272 0) ∧ (fw_g W 272 0) ≤ 6 ∧ (∀ x_, 1 ≤ x_ → x_ < (fw_g W 272 0) → (fw_g W 273 x_) = ((qp q x_.toNat : Nat) : Int))) (hpre : (∀ u_ t_, 0 ≤ u_ → u_ < (fw_g W 272 0) → 0 ≤ t_ → t_ < (fw_g W 272 0) → fw_g W (fw_rc 278 u_) t_ = zD q u_ t_)) (hP : ∀ (v : Int) , (-2147483648 ≤ v ∧ v ≤ 2147483647 ∧ (v = zwe q ((fw_g W 272 0)) ((fw_g W 272 0)) ((2 ^ ((fw_g W 272 0)).toNat - 1 : Nat) : Int))) → Post (some (.inl v)) W)  : ∀ (m : Nat) (ma wa : Int), ((fw_g W 272 0) - wa).toNat = m → (0 ≤ ma ∧ ma < 64 ∧ ma < fw_shl 1 ((fw_g W 272 0)) ∧ 0 ≤ wa ∧ wa ≤ (fw_g W 272 0)) ∧ wa + zwe q ((fw_g W 272 0)) ((fw_g W 272 0) - wa) ma = zwe q ((fw_g W 272 0)) ((fw_g W 272 0)) ((2 ^ ((fw_g W 272 0)).toNat - 1 : Nat) : Int) → jf fw_T (d + 2) 58 14 [(0, .inr (.inl 268)), (1, .inl ma), (2, .inl wa)] [] W Post := by
  intro m
  induction m using Nat.strongRecOn with
  | ind m ih =>
    intro ma wa hm hi
    refine jf_rng (fun hrg => ?_)
    have hrg : -2147483648 ≤ ma ∧ ma ≤ 2147483647 ∧ -2147483648 ≤ wa ∧ wa ≤ 2147483647 ∧ True := hrg
    refine s_k_wardensByX_14 ?_
    have zq := zw_eq (by have := hgh.2.1; omega) hgh.1.2
    have s1 := fw_shl1 (n := (fw_g W 272 0)) (by have := hgh.2.1; omega) (by have := hgh.2.2.1; omega)
    have s6 := shl6 (x := (fw_g W 272 0)) (by have := hgh.2.1; omega) hgh.2.2.1
    have n2 := hgh.2.1
    have n6 := hgh.2.2.1
    have tp9 : ∀ r : Int, 1 ≤ r → r < (fw_g W 272 0) → 0 ≤ (fw_g W 273 r) ∧ (fw_g W 273 r) < (fw_g W 272 0) := fun r r1 r2 => by
      have e := hgh.2.2.2 r r1 r2
      obtain ⟨i, i0, i1, rfl⟩ := zo_s hgh.1.2 (show 0 ≤ r by omega) r2
      have c := (zo_b hgh.1.2 i0 i1).2.2.1
      have p := zo_p hgh.1.2 (i := i) (by omega) i1
      omega
    have hi1 := hi.1
    have r8 := zwf_r q ma (k := (fw_g W 272 0)) (by omega)
    repeat' (first
      | (exact hpre)
      | (exact True.intro)
      | (exact hpre.1)
      | (refine And.intro ?_ ?_)
      | (refine (ih _ (by omega) _ _ rfl ?_); (first | omega | trivial))
      | (refine (lm_k_wardensByX_57 q hgh hpre hP ((fw_g W 272 0) - wa) (fun a0 a1 hi hl => ih _ (by omega) a0 a1 rfl hi) _ _ _ _ _ rfl ?_ (by omega)); (
        have r9 := zwf_p q (m := ma) (n := (fw_g W 272 0)) (by omega) (by omega) (by omega) (by omega)
        have r8 := zwf_r q ma (k := (fw_g W 272 0)) (by omega)
        have z9 := zwe_s q (n := (fw_g W 272 0)) (f := ((fw_g W 272 0)) - wa) (m := ma) (by omega) (by omega) (by omega) r9
        first
          | (rename_i r1 hr1 w1
             have e1 : r1 = zwf q ma ((fw_g W 272 0)) := by have := hr1.2.2; omega
             have e2 : ((qp q (zwf q ma ((fw_g W 272 0))).toNat : Nat) : Int) = 0 := by rw [← e1, w1]; rfl
             rw [e2] at z9
             exact ⟨by omega, ma, by omega, (zwc_0 q 0 (by omega)).symm, by omega⟩)
          | (rename_i r1 hr1 w1 w2 w3
             have e1 : r1 = zwf q ma ((fw_g W 272 0)) := by have := hr1.2.2; omega
             have e2 : (fw_g W 273 r1) = ((qp q (zwf q ma ((fw_g W 272 0))).toNat : Nat) : Int) := by rw [← e1]; exact hgh.2.2.2 r1 (by omega) (by omega)
             have tp := tp9 r1 (by omega) (by omega)
             rw [← e2] at z9
             exact ⟨by omega, ma, by omega, (zwc_0 q _ (by omega)).symm, by omega⟩)))
      | (refine hP _ ?_; (refine ⟨by omega, by omega, ?_⟩; (
        first
          | (have e : ma = 0 := by omega
             have z := hi.2
             rw [e, zwe_0] at z
             omega)
          | (exfalso
             have e : ((fw_g W 272 0)) - wa = 0 := by omega
             have z := hi.2
             rw [e, zwe_e q ((fw_g W 272 0)) (m := ma) (by omega)] at z
             omega))))
      | (refine ⟨q, hgh, ?_⟩)
      | omega
      | (intro _))
def x_k_wardensByX : fw_X := fun as W Q => match as with
  | [.inr (.inl s_)] => fw_if (Nat.beq s_ 268) (∃ (q : List Nat), ((qok ((fw_g W 272 0)).toNat q = true ∧ qk2 ((fw_g W 272 0)).toNat q = true) ∧ 2 ≤ (fw_g W 272 0) ∧ (fw_g W 272 0) ≤ 6 ∧ (∀ x_, 1 ≤ x_ → x_ < (fw_g W 272 0) → (fw_g W 273 x_) = ((qp q x_.toNat : Nat) : Int))) ∧ ((∀ u_ t_, 0 ≤ u_ → u_ < (fw_g W 272 0) → 0 ≤ t_ → t_ < (fw_g W 272 0) → fw_g W (fw_rc 278 u_) t_ = zD q u_ t_)) ∧ (∀ (v : Int), (-2147483648 ≤ v ∧ v ≤ 2147483647 ∧ (v = zwe q ((fw_g W 272 0)) ((fw_g W 272 0)) ((2 ^ ((fw_g W 272 0)).toNat - 1 : Nat) : Int))) → Q (some (.inl v)) W))
  | _ => False
theorem x_k_wardensByX_ok (d : Nat) (as : List fw_V) (W : fw_W) (Q : Option fw_V → fw_W → Prop) (hx : x_k_wardensByX as W Q) : jf fw_T (d + 2) 58 0 (fw_args 0 as) [] W Q := by
  unfold x_k_wardensByX at hx
  split at hx
  · rename_i s_
    obtain ⟨e_, q, hgh, hpre, hQ⟩ := fw_if_ok hx
    have e_ := Nat.eq_of_beq_eq_true e_
    subst e_
    have hP := hQ
    refine s_k_wardensByX_0 ?_
    have zq := zw_eq (by have := hgh.2.1; omega) hgh.1.2
    have s1 := fw_shl1 (n := (fw_g W 272 0)) (by have := hgh.2.1; omega) (by have := hgh.2.2.1; omega)
    have s6 := shl6 (x := (fw_g W 272 0)) (by have := hgh.2.1; omega) hgh.2.2.1
    have n2 := hgh.2.1
    have n6 := hgh.2.2.1
    have tp9 : ∀ r : Int, 1 ≤ r → r < (fw_g W 272 0) → 0 ≤ (fw_g W 273 r) ∧ (fw_g W 273 r) < (fw_g W 272 0) := fun r r1 r2 => by
      have e := hgh.2.2.2 r r1 r2
      obtain ⟨i, i0, i1, rfl⟩ := zo_s hgh.1.2 (show 0 ≤ r by omega) r2
      have c := (zo_b hgh.1.2 i0 i1).2.2.1
      have p := zo_p hgh.1.2 (i := i) (by omega) i1
      omega
    repeat' (first
      | (exact hpre)
      | (exact True.intro)
      | (exact hpre.1)
      | (refine And.intro ?_ ?_)
      | (refine (lm_k_wardensByX_14 q hgh hpre hP _ _ _ rfl ?_); (
        have e : fw_shl 1 ((fw_g W 272 0)) - 1 = ((2 ^ ((fw_g W 272 0)).toNat - 1 : Nat) : Int) := by omega
        refine ⟨by omega, ?_⟩
        rw [Int.sub_zero]
        show 0 + zwe q ((fw_g W 272 0)) ((fw_g W 272 0)) (fw_shl 1 ((fw_g W 272 0)) - 1) = _
        rw [e]
        omega))
      | (refine (lm_k_wardensByX_57 q hgh hpre hP M14 h14 _ _ _ _ _ rfl ?_ (by omega)); (first | omega | trivial))
      | (refine hP _ ?_; (refine ⟨by omega, by omega, ?_⟩; (
        first
          | (have e : ma = 0 := by omega
             have z := hi.2
             rw [e, zwe_0] at z
             omega)
          | (exfalso
             have e : ((fw_g W 272 0)) - wa = 0 := by omega
             have z := hi.2
             rw [e, zwe_e q ((fw_g W 272 0)) (m := ma) (by omega)] at z
             omega))))
      | omega
      | (intro _))
  · exact hx.elim

