/-! the class, the laws tried, exactly -/
def ct_k_measureX : List (Nat × fw_X) := [(121, x_k_sortX)]
theorem ct_k_measureX_ok (d : Nat) : fw_cok fw_T (d + 1) ct_k_measureX := by
  intro q hq as W Q h
  simp only [ct_k_measureX, List.mem_cons, List.not_mem_nil, or_false] at hq
  rcases hq with rfl
  · exact jc_of (x_k_sortX_ok (d + 0) as W Q h)
theorem s_k_measureX_0 {Post : Option fw_V → fw_W → Prop} {d : Nat} {W : fw_W}
    (hw_ : ∃ (q_1 : List Nat), ((qok ((fw_g W 272 0)).toNat q_1 = true ∧ qk2 ((fw_g W 272 0)).toNat q_1 = true) ∧ 2 ≤ (fw_g W 272 0) ∧ (fw_g W 272 0) ≤ 6 ∧ (∀ x_, 1 ≤ x_ → x_ < (fw_g W 272 0) → (fw_g W 273 x_) = ((qp q_1 x_.toNat : Nat) : Int))) ∧ (True) ∧ (∀ (f2 : fw_W), (((∀ j_, 0 ≤ j_ → j_ < (fw_g W 272 0) → (fw_g f2 277 j_) = zo q_1 ((fw_g W 272 0)) j_))) → jf fw_T (d + 2) 120 6 [(0, .inr (.inl 276)), (1, .inl (0 : Int))] [] (fw_put [277] 0 [] W f2) Post)) :
    jf fw_T (d + 2) 120 0 [(0, .inr (.inl 276))] [] W Post := fw_ok (n := 5) (ss := [(6, [0, 1]), (35, [0, 1, 2, 3])]) (hv := []) fr_120_ok fv_wayx_ok (ct_k_measureX_ok d) hw_

theorem s_k_measureX_35_n12 {Post : Option fw_V → fw_W → Prop} {d : Nat} {W : fw_W} {i h j : Int} {f : fw_W}
    (hw_ : -2147483648 ≤ j + (1 : Int) ∧ j + (1 : Int) ≤ 2147483647 ∧ (jf fw_T (d + 2) 120 35 [(0, .inr (.inl 276)), (1, .inl i), (2, .inl h), (3, .inl (j + (1 : Int)))] [] (fw_upr (fw_upr (fw_put [277, 279, 280, 281, 282, 283, 284, 285, 286, 287, 288, 289, 290, 291, 292] 0 [] W f) 278 h (fw_g f 277 j) ((fw_g (fw_put [277, 279, 280, 281, 282, 283, 284, 285, 286, 287, 288, 289, 290, 291, 292] 0 [] W f) (fw_rc 278 (fw_g W 273 h)) (fw_g f 277 j)) + (fw_g W 274 h))) 278 (fw_g f 277 j) h ((fw_g (fw_put [277, 279, 280, 281, 282, 283, 284, 285, 286, 287, 288, 289, 290, 291, 292] 0 [] W f) (fw_rc 278 (fw_g W 273 h)) (fw_g f 277 j)) + (fw_g W 274 h))) Post)) :
    jf fw_T (d + 2) 120 99 [(0, .inr (.inl 276)), (1, .inl i), (2, .inl h), (3, .inl j), (4, .inl (fw_g f 277 j)), (5, .inl ((fw_g (fw_put [277, 279, 280, 281, 282, 283, 284, 285, 286, 287, 288, 289, 290, 291, 292] 0 [] W f) (fw_rc 278 (fw_g W 273 h)) (fw_g f 277 j)) + (fw_g W 274 h)))] [] (fw_upr (fw_upr (fw_put [277, 279, 280, 281, 282, 283, 284, 285, 286, 287, 288, 289, 290, 291, 292] 0 [] W f) 278 h (fw_g f 277 j) ((fw_g (fw_put [277, 279, 280, 281, 282, 283, 284, 285, 286, 287, 288, 289, 290, 291, 292] 0 [] W f) (fw_rc 278 (fw_g W 273 h)) (fw_g f 277 j)) + (fw_g W 274 h))) 278 (fw_g f 277 j) h ((fw_g (fw_put [277, 279, 280, 281, 282, 283, 284, 285, 286, 287, 288, 289, 290, 291, 292] 0 [] W f) (fw_rc 278 (fw_g W 273 h)) (fw_g f 277 j)) + (fw_g W 274 h))) Post := fw_ok (n := 3) (ss := [(6, [0, 1]), (35, [0, 1, 2, 3])]) (hv := []) fr_120_ok fv_wayx_ok (ct_k_measureX_ok d) hw_

theorem s_k_measureX_35_l11 {Post : Option fw_V → fw_W → Prop} {d : Nat} {W : fw_W} {i h j : Int} {f : fw_W}
    (hw_ : 0 ≤ (fw_g f 277 j) ∧ (fw_g f 277 j) < 14 ∧ 0 ≤ h ∧ h < 14 ∧ (-2147483648 ≤ j + (1 : Int) ∧ j + (1 : Int) ≤ 2147483647 ∧ (jf fw_T (d + 2) 120 35 [(0, .inr (.inl 276)), (1, .inl i), (2, .inl h), (3, .inl (j + (1 : Int)))] [] (fw_upr (fw_upr (fw_put [277, 279, 280, 281, 282, 283, 284, 285, 286, 287, 288, 289, 290, 291, 292] 0 [] W f) 278 h (fw_g f 277 j) ((fw_g (fw_put [277, 279, 280, 281, 282, 283, 284, 285, 286, 287, 288, 289, 290, 291, 292] 0 [] W f) (fw_rc 278 (fw_g W 273 h)) (fw_g f 277 j)) + (fw_g W 274 h))) 278 (fw_g f 277 j) h ((fw_g (fw_put [277, 279, 280, 281, 282, 283, 284, 285, 286, 287, 288, 289, 290, 291, 292] 0 [] W f) (fw_rc 278 (fw_g W 273 h)) (fw_g f 277 j)) + (fw_g W 274 h))) Post))) :
    jf fw_T (d + 2) 120 98 [(0, .inr (.inl 276)), (1, .inl i), (2, .inl h), (3, .inl j), (4, .inl (fw_g f 277 j)), (5, .inl ((fw_g (fw_put [277, 279, 280, 281, 282, 283, 284, 285, 286, 287, 288, 289, 290, 291, 292] 0 [] W f) (fw_rc 278 (fw_g W 273 h)) (fw_g f 277 j)) + (fw_g W 274 h)))] [.inl ((fw_g (fw_put [277, 279, 280, 281, 282, 283, 284, 285, 286, 287, 288, 289, 290, 291, 292] 0 [] W f) (fw_rc 278 (fw_g W 273 h)) (fw_g f 277 j)) + (fw_g W 274 h)), .inl h, .inr (.inl (fw_rc 278 (fw_g f 277 j)))] (fw_upr (fw_put [277, 279, 280, 281, 282, 283, 284, 285, 286, 287, 288, 289, 290, 291, 292] 0 [] W f) 278 h (fw_g f 277 j) ((fw_g (fw_put [277, 279, 280, 281, 282, 283, 284, 285, 286, 287, 288, 289, 290, 291, 292] 0 [] W f) (fw_rc 278 (fw_g W 273 h)) (fw_g f 277 j)) + (fw_g W 274 h))) Post := jf_ias (j := 61) kr_278 fr_120_ok rfl ⟨hw_.1, hw_.2.1, hw_.2.2.1, hw_.2.2.2.1, s_k_measureX_35_n12 hw_.2.2.2.2⟩

theorem s_k_measureX_35_n10 {Post : Option fw_V → fw_W → Prop} {d : Nat} {W : fw_W} {i h j : Int} {f : fw_W}
    (hw_ : 0 ≤ (fw_g f 277 j) ∧ (fw_g f 277 j) < 14 ∧ 0 ≤ h ∧ h < 14 ∧ (-2147483648 ≤ j + (1 : Int) ∧ j + (1 : Int) ≤ 2147483647 ∧ (jf fw_T (d + 2) 120 35 [(0, .inr (.inl 276)), (1, .inl i), (2, .inl h), (3, .inl (j + (1 : Int)))] [] (fw_upr (fw_upr (fw_put [277, 279, 280, 281, 282, 283, 284, 285, 286, 287, 288, 289, 290, 291, 292] 0 [] W f) 278 h (fw_g f 277 j) ((fw_g (fw_put [277, 279, 280, 281, 282, 283, 284, 285, 286, 287, 288, 289, 290, 291, 292] 0 [] W f) (fw_rc 278 (fw_g W 273 h)) (fw_g f 277 j)) + (fw_g W 274 h))) 278 (fw_g f 277 j) h ((fw_g (fw_put [277, 279, 280, 281, 282, 283, 284, 285, 286, 287, 288, 289, 290, 291, 292] 0 [] W f) (fw_rc 278 (fw_g W 273 h)) (fw_g f 277 j)) + (fw_g W 274 h))) Post))) :
    jf fw_T (d + 2) 120 95 [(0, .inr (.inl 276)), (1, .inl i), (2, .inl h), (3, .inl j), (4, .inl (fw_g f 277 j)), (5, .inl ((fw_g (fw_put [277, 279, 280, 281, 282, 283, 284, 285, 286, 287, 288, 289, 290, 291, 292] 0 [] W f) (fw_rc 278 (fw_g W 273 h)) (fw_g f 277 j)) + (fw_g W 274 h)))] [.inr (.inl (fw_rc 278 (fw_g f 277 j)))] (fw_upr (fw_put [277, 279, 280, 281, 282, 283, 284, 285, 286, 287, 288, 289, 290, 291, 292] 0 [] W f) 278 h (fw_g f 277 j) ((fw_g (fw_put [277, 279, 280, 281, 282, 283, 284, 285, 286, 287, 288, 289, 290, 291, 292] 0 [] W f) (fw_rc 278 (fw_g W 273 h)) (fw_g f 277 j)) + (fw_g W 274 h))) Post := by
  refine fw_ok (n := 3) (ss := [(6, [0, 1]), (35, [0, 1, 2, 3]), (98, [0, 1, 2, 3, 4, 5])]) (hv := []) fr_120_ok fv_wayx_ok (ct_k_measureX_ok d) ?_
  show jf fw_T (d + 2) 120 98 [(0, .inr (.inl 276)), (1, .inl i), (2, .inl h), (3, .inl j), (4, .inl (fw_g f 277 j)), (5, .inl ((fw_g (fw_put [277, 279, 280, 281, 282, 283, 284, 285, 286, 287, 288, 289, 290, 291, 292] 0 [] W f) (fw_rc 278 (fw_g W 273 h)) (fw_g f 277 j)) + (fw_g W 274 h)))] [.inl ((fw_g (fw_put [277, 279, 280, 281, 282, 283, 284, 285, 286, 287, 288, 289, 290, 291, 292] 0 [] W f) (fw_rc 278 (fw_g W 273 h)) (fw_g f 277 j)) + (fw_g W 274 h)), .inl h, .inr (.inl (fw_rc 278 (fw_g f 277 j)))] (fw_upr (fw_put [277, 279, 280, 281, 282, 283, 284, 285, 286, 287, 288, 289, 290, 291, 292] 0 [] W f) 278 h (fw_g f 277 j) ((fw_g (fw_put [277, 279, 280, 281, 282, 283, 284, 285, 286, 287, 288, 289, 290, 291, 292] 0 [] W f) (fw_rc 278 (fw_g W 273 h)) (fw_g f 277 j)) + (fw_g W 274 h))) Post
  revert hw_
  repeat' (first | (refine And.imp ?_ ?_) | (refine rw_imp ?_) | (refine rw_all ?_; intro _) | exact s_k_measureX_35_l11 | exact fun x_ => x_)

theorem s_k_measureX_35_l9 {Post : Option fw_V → fw_W → Prop} {d : Nat} {W : fw_W} {i h j : Int} {f : fw_W}
    (hw_ : 0 ≤ (fw_g f 277 j) ∧ (fw_g f 277 j) < 14 ∧ (0 ≤ (fw_g f 277 j) ∧ (fw_g f 277 j) < 14 ∧ 0 ≤ h ∧ h < 14 ∧ (-2147483648 ≤ j + (1 : Int) ∧ j + (1 : Int) ≤ 2147483647 ∧ (jf fw_T (d + 2) 120 35 [(0, .inr (.inl 276)), (1, .inl i), (2, .inl h), (3, .inl (j + (1 : Int)))] [] (fw_upr (fw_upr (fw_put [277, 279, 280, 281, 282, 283, 284, 285, 286, 287, 288, 289, 290, 291, 292] 0 [] W f) 278 h (fw_g f 277 j) ((fw_g (fw_put [277, 279, 280, 281, 282, 283, 284, 285, 286, 287, 288, 289, 290, 291, 292] 0 [] W f) (fw_rc 278 (fw_g W 273 h)) (fw_g f 277 j)) + (fw_g W 274 h))) 278 (fw_g f 277 j) h ((fw_g (fw_put [277, 279, 280, 281, 282, 283, 284, 285, 286, 287, 288, 289, 290, 291, 292] 0 [] W f) (fw_rc 278 (fw_g W 273 h)) (fw_g f 277 j)) + (fw_g W 274 h))) Post)))) :
    jf fw_T (d + 2) 120 94 [(0, .inr (.inl 276)), (1, .inl i), (2, .inl h), (3, .inl j), (4, .inl (fw_g f 277 j)), (5, .inl ((fw_g (fw_put [277, 279, 280, 281, 282, 283, 284, 285, 286, 287, 288, 289, 290, 291, 292] 0 [] W f) (fw_rc 278 (fw_g W 273 h)) (fw_g f 277 j)) + (fw_g W 274 h)))] [.inl (fw_g f 277 j), .inr (.inl 278)] (fw_upr (fw_put [277, 279, 280, 281, 282, 283, 284, 285, 286, 287, 288, 289, 290, 291, 292] 0 [] W f) 278 h (fw_g f 277 j) ((fw_g (fw_put [277, 279, 280, 281, 282, 283, 284, 285, 286, 287, 288, 289, 290, 291, 292] 0 [] W f) (fw_rc 278 (fw_g W 273 h)) (fw_g f 277 j)) + (fw_g W 274 h))) Post := jf_aal (j := 58) kr_278 fr_120_ok rfl ⟨hw_.1, hw_.2.1, s_k_measureX_35_n10 hw_.2.2⟩

theorem s_k_measureX_35_n8 {Post : Option fw_V → fw_W → Prop} {d : Nat} {W : fw_W} {i h j : Int} {f : fw_W}
    (hw_ : 0 ≤ (fw_g f 277 j) ∧ (fw_g f 277 j) < 14 ∧ (0 ≤ (fw_g f 277 j) ∧ (fw_g f 277 j) < 14 ∧ 0 ≤ h ∧ h < 14 ∧ (-2147483648 ≤ j + (1 : Int) ∧ j + (1 : Int) ≤ 2147483647 ∧ (jf fw_T (d + 2) 120 35 [(0, .inr (.inl 276)), (1, .inl i), (2, .inl h), (3, .inl (j + (1 : Int)))] [] (fw_upr (fw_upr (fw_put [277, 279, 280, 281, 282, 283, 284, 285, 286, 287, 288, 289, 290, 291, 292] 0 [] W f) 278 h (fw_g f 277 j) ((fw_g (fw_put [277, 279, 280, 281, 282, 283, 284, 285, 286, 287, 288, 289, 290, 291, 292] 0 [] W f) (fw_rc 278 (fw_g W 273 h)) (fw_g f 277 j)) + (fw_g W 274 h))) 278 (fw_g f 277 j) h ((fw_g (fw_put [277, 279, 280, 281, 282, 283, 284, 285, 286, 287, 288, 289, 290, 291, 292] 0 [] W f) (fw_rc 278 (fw_g W 273 h)) (fw_g f 277 j)) + (fw_g W 274 h))) Post)))) :
    jf fw_T (d + 2) 120 88 [(0, .inr (.inl 276)), (1, .inl i), (2, .inl h), (3, .inl j), (4, .inl (fw_g f 277 j)), (5, .inl ((fw_g (fw_put [277, 279, 280, 281, 282, 283, 284, 285, 286, 287, 288, 289, 290, 291, 292] 0 [] W f) (fw_rc 278 (fw_g W 273 h)) (fw_g f 277 j)) + (fw_g W 274 h)))] [] (fw_upr (fw_put [277, 279, 280, 281, 282, 283, 284, 285, 286, 287, 288, 289, 290, 291, 292] 0 [] W f) 278 h (fw_g f 277 j) ((fw_g (fw_put [277, 279, 280, 281, 282, 283, 284, 285, 286, 287, 288, 289, 290, 291, 292] 0 [] W f) (fw_rc 278 (fw_g W 273 h)) (fw_g f 277 j)) + (fw_g W 274 h))) Post := by
  refine fw_ok (n := 4) (ss := [(6, [0, 1]), (35, [0, 1, 2, 3]), (94, [0, 1, 2, 3, 4, 5])]) (hv := []) fr_120_ok fv_wayx_ok (ct_k_measureX_ok d) ?_
  show jf fw_T (d + 2) 120 94 [(0, .inr (.inl 276)), (1, .inl i), (2, .inl h), (3, .inl j), (4, .inl (fw_g f 277 j)), (5, .inl ((fw_g (fw_put [277, 279, 280, 281, 282, 283, 284, 285, 286, 287, 288, 289, 290, 291, 292] 0 [] W f) (fw_rc 278 (fw_g W 273 h)) (fw_g f 277 j)) + (fw_g W 274 h)))] [.inl (fw_g f 277 j), .inr (.inl 278)] (fw_upr (fw_put [277, 279, 280, 281, 282, 283, 284, 285, 286, 287, 288, 289, 290, 291, 292] 0 [] W f) 278 h (fw_g f 277 j) ((fw_g (fw_put [277, 279, 280, 281, 282, 283, 284, 285, 286, 287, 288, 289, 290, 291, 292] 0 [] W f) (fw_rc 278 (fw_g W 273 h)) (fw_g f 277 j)) + (fw_g W 274 h))) Post
  revert hw_
  repeat' (first | (refine And.imp ?_ ?_) | (refine rw_imp ?_) | (refine rw_all ?_; intro _) | exact s_k_measureX_35_l9 | exact fun x_ => x_)

theorem s_k_measureX_35_l7 {Post : Option fw_V → fw_W → Prop} {d : Nat} {W : fw_W} {i h j : Int} {f : fw_W}
    (hw_ : 0 ≤ h ∧ h < 14 ∧ 0 ≤ (fw_g f 277 j) ∧ (fw_g f 277 j) < 14 ∧ (0 ≤ (fw_g f 277 j) ∧ (fw_g f 277 j) < 14 ∧ (0 ≤ (fw_g f 277 j) ∧ (fw_g f 277 j) < 14 ∧ 0 ≤ h ∧ h < 14 ∧ (-2147483648 ≤ j + (1 : Int) ∧ j + (1 : Int) ≤ 2147483647 ∧ (jf fw_T (d + 2) 120 35 [(0, .inr (.inl 276)), (1, .inl i), (2, .inl h), (3, .inl (j + (1 : Int)))] [] (fw_upr (fw_upr (fw_put [277, 279, 280, 281, 282, 283, 284, 285, 286, 287, 288, 289, 290, 291, 292] 0 [] W f) 278 h (fw_g f 277 j) ((fw_g (fw_put [277, 279, 280, 281, 282, 283, 284, 285, 286, 287, 288, 289, 290, 291, 292] 0 [] W f) (fw_rc 278 (fw_g W 273 h)) (fw_g f 277 j)) + (fw_g W 274 h))) 278 (fw_g f 277 j) h ((fw_g (fw_put [277, 279, 280, 281, 282, 283, 284, 285, 286, 287, 288, 289, 290, 291, 292] 0 [] W f) (fw_rc 278 (fw_g W 273 h)) (fw_g f 277 j)) + (fw_g W 274 h))) Post))))) :
    jf fw_T (d + 2) 120 87 [(0, .inr (.inl 276)), (1, .inl i), (2, .inl h), (3, .inl j), (4, .inl (fw_g f 277 j)), (5, .inl ((fw_g (fw_put [277, 279, 280, 281, 282, 283, 284, 285, 286, 287, 288, 289, 290, 291, 292] 0 [] W f) (fw_rc 278 (fw_g W 273 h)) (fw_g f 277 j)) + (fw_g W 274 h)))] [.inl ((fw_g (fw_put [277, 279, 280, 281, 282, 283, 284, 285, 286, 287, 288, 289, 290, 291, 292] 0 [] W f) (fw_rc 278 (fw_g W 273 h)) (fw_g f 277 j)) + (fw_g W 274 h)), .inl (fw_g f 277 j), .inr (.inl (fw_rc 278 h))] (fw_put [277, 279, 280, 281, 282, 283, 284, 285, 286, 287, 288, 289, 290, 291, 292] 0 [] W f) Post := jf_ias (j := 54) kr_278 fr_120_ok rfl ⟨hw_.1, hw_.2.1, hw_.2.2.1, hw_.2.2.2.1, s_k_measureX_35_n8 hw_.2.2.2.2⟩

theorem s_k_measureX_35_n6 {Post : Option fw_V → fw_W → Prop} {d : Nat} {W : fw_W} {i h j : Int} {f : fw_W}
    (hw_ : 0 ≤ h ∧ h < 14 ∧ 0 ≤ (fw_g f 277 j) ∧ (fw_g f 277 j) < 14 ∧ (0 ≤ (fw_g f 277 j) ∧ (fw_g f 277 j) < 14 ∧ (0 ≤ (fw_g f 277 j) ∧ (fw_g f 277 j) < 14 ∧ 0 ≤ h ∧ h < 14 ∧ (-2147483648 ≤ j + (1 : Int) ∧ j + (1 : Int) ≤ 2147483647 ∧ (jf fw_T (d + 2) 120 35 [(0, .inr (.inl 276)), (1, .inl i), (2, .inl h), (3, .inl (j + (1 : Int)))] [] (fw_upr (fw_upr (fw_put [277, 279, 280, 281, 282, 283, 284, 285, 286, 287, 288, 289, 290, 291, 292] 0 [] W f) 278 h (fw_g f 277 j) ((fw_g (fw_put [277, 279, 280, 281, 282, 283, 284, 285, 286, 287, 288, 289, 290, 291, 292] 0 [] W f) (fw_rc 278 (fw_g W 273 h)) (fw_g f 277 j)) + (fw_g W 274 h))) 278 (fw_g f 277 j) h ((fw_g (fw_put [277, 279, 280, 281, 282, 283, 284, 285, 286, 287, 288, 289, 290, 291, 292] 0 [] W f) (fw_rc 278 (fw_g W 273 h)) (fw_g f 277 j)) + (fw_g W 274 h))) Post))))) :
    jf fw_T (d + 2) 120 83 [(0, .inr (.inl 276)), (1, .inl i), (2, .inl h), (3, .inl j), (4, .inl (fw_g f 277 j)), (5, .inl ((fw_g (fw_put [277, 279, 280, 281, 282, 283, 284, 285, 286, 287, 288, 289, 290, 291, 292] 0 [] W f) (fw_rc 278 (fw_g W 273 h)) (fw_g f 277 j)) + (fw_g W 274 h)))] [.inr (.inl (fw_rc 278 h))] (fw_put [277, 279, 280, 281, 282, 283, 284, 285, 286, 287, 288, 289, 290, 291, 292] 0 [] W f) Post := by
  refine fw_ok (n := 3) (ss := [(6, [0, 1]), (35, [0, 1, 2, 3]), (87, [0, 1, 2, 3, 4, 5])]) (hv := []) fr_120_ok fv_wayx_ok (ct_k_measureX_ok d) ?_
  show jf fw_T (d + 2) 120 87 [(0, .inr (.inl 276)), (1, .inl i), (2, .inl h), (3, .inl j), (4, .inl (fw_g f 277 j)), (5, .inl ((fw_g (fw_put [277, 279, 280, 281, 282, 283, 284, 285, 286, 287, 288, 289, 290, 291, 292] 0 [] W f) (fw_rc 278 (fw_g W 273 h)) (fw_g f 277 j)) + (fw_g W 274 h)))] [.inl ((fw_g (fw_put [277, 279, 280, 281, 282, 283, 284, 285, 286, 287, 288, 289, 290, 291, 292] 0 [] W f) (fw_rc 278 (fw_g W 273 h)) (fw_g f 277 j)) + (fw_g W 274 h)), .inl (fw_g f 277 j), .inr (.inl (fw_rc 278 h))] (fw_put [277, 279, 280, 281, 282, 283, 284, 285, 286, 287, 288, 289, 290, 291, 292] 0 [] W f) Post
  revert hw_
  repeat' (first | (refine And.imp ?_ ?_) | (refine rw_imp ?_) | (refine rw_all ?_; intro _) | exact s_k_measureX_35_l7 | exact fun x_ => x_)

theorem s_k_measureX_35_l5 {Post : Option fw_V → fw_W → Prop} {d : Nat} {W : fw_W} {i h j : Int} {f : fw_W}
    (hw_ : 0 ≤ h ∧ h < 14 ∧ (0 ≤ h ∧ h < 14 ∧ 0 ≤ (fw_g f 277 j) ∧ (fw_g f 277 j) < 14 ∧ (0 ≤ (fw_g f 277 j) ∧ (fw_g f 277 j) < 14 ∧ (0 ≤ (fw_g f 277 j) ∧ (fw_g f 277 j) < 14 ∧ 0 ≤ h ∧ h < 14 ∧ (-2147483648 ≤ j + (1 : Int) ∧ j + (1 : Int) ≤ 2147483647 ∧ (jf fw_T (d + 2) 120 35 [(0, .inr (.inl 276)), (1, .inl i), (2, .inl h), (3, .inl (j + (1 : Int)))] [] (fw_upr (fw_upr (fw_put [277, 279, 280, 281, 282, 283, 284, 285, 286, 287, 288, 289, 290, 291, 292] 0 [] W f) 278 h (fw_g f 277 j) ((fw_g (fw_put [277, 279, 280, 281, 282, 283, 284, 285, 286, 287, 288, 289, 290, 291, 292] 0 [] W f) (fw_rc 278 (fw_g W 273 h)) (fw_g f 277 j)) + (fw_g W 274 h))) 278 (fw_g f 277 j) h ((fw_g (fw_put [277, 279, 280, 281, 282, 283, 284, 285, 286, 287, 288, 289, 290, 291, 292] 0 [] W f) (fw_rc 278 (fw_g W 273 h)) (fw_g f 277 j)) + (fw_g W 274 h))) Post)))))) :
    jf fw_T (d + 2) 120 82 [(0, .inr (.inl 276)), (1, .inl i), (2, .inl h), (3, .inl j), (4, .inl (fw_g f 277 j)), (5, .inl ((fw_g (fw_put [277, 279, 280, 281, 282, 283, 284, 285, 286, 287, 288, 289, 290, 291, 292] 0 [] W f) (fw_rc 278 (fw_g W 273 h)) (fw_g f 277 j)) + (fw_g W 274 h)))] [.inl h, .inr (.inl 278)] (fw_put [277, 279, 280, 281, 282, 283, 284, 285, 286, 287, 288, 289, 290, 291, 292] 0 [] W f) Post := jf_aal (j := 51) kr_278 fr_120_ok rfl ⟨hw_.1, hw_.2.1, s_k_measureX_35_n6 hw_.2.2⟩

theorem s_k_measureX_35_n4 {Post : Option fw_V → fw_W → Prop} {d : Nat} {W : fw_W} {i h j : Int} {f : fw_W}
    (hw_ : 0 ≤ h ∧ h < 14 ∧ (0 ≤ (fw_g W 274 h) → (fw_g W 274 h) ≤ 99 → -2147483648 ≤ (fw_g (fw_put [277, 279, 280, 281, 282, 283, 284, 285, 286, 287, 288, 289, 290, 291, 292] 0 [] W f) (fw_rc 278 (fw_g W 273 h)) (fw_g f 277 j)) + (fw_g W 274 h) ∧ (fw_g (fw_put [277, 279, 280, 281, 282, 283, 284, 285, 286, 287, 288, 289, 290, 291, 292] 0 [] W f) (fw_rc 278 (fw_g W 273 h)) (fw_g f 277 j)) + (fw_g W 274 h) ≤ 2147483647 ∧ (0 ≤ h ∧ h < 14 ∧ (0 ≤ h ∧ h < 14 ∧ 0 ≤ (fw_g f 277 j) ∧ (fw_g f 277 j) < 14 ∧ (0 ≤ (fw_g f 277 j) ∧ (fw_g f 277 j) < 14 ∧ (0 ≤ (fw_g f 277 j) ∧ (fw_g f 277 j) < 14 ∧ 0 ≤ h ∧ h < 14 ∧ (-2147483648 ≤ j + (1 : Int) ∧ j + (1 : Int) ≤ 2147483647 ∧ (jf fw_T (d + 2) 120 35 [(0, .inr (.inl 276)), (1, .inl i), (2, .inl h), (3, .inl (j + (1 : Int)))] [] (fw_upr (fw_upr (fw_put [277, 279, 280, 281, 282, 283, 284, 285, 286, 287, 288, 289, 290, 291, 292] 0 [] W f) 278 h (fw_g f 277 j) ((fw_g (fw_put [277, 279, 280, 281, 282, 283, 284, 285, 286, 287, 288, 289, 290, 291, 292] 0 [] W f) (fw_rc 278 (fw_g W 273 h)) (fw_g f 277 j)) + (fw_g W 274 h))) 278 (fw_g f 277 j) h ((fw_g (fw_put [277, 279, 280, 281, 282, 283, 284, 285, 286, 287, 288, 289, 290, 291, 292] 0 [] W f) (fw_rc 278 (fw_g W 273 h)) (fw_g f 277 j)) + (fw_g W 274 h))) Post)))))))) :
    jf fw_T (d + 2) 120 65 [(0, .inr (.inl 276)), (1, .inl i), (2, .inl h), (3, .inl j), (4, .inl (fw_g f 277 j))] [.inl (fw_g (fw_put [277, 279, 280, 281, 282, 283, 284, 285, 286, 287, 288, 289, 290, 291, 292] 0 [] W f) (fw_rc 278 (fw_g W 273 h)) (fw_g f 277 j))] (fw_put [277, 279, 280, 281, 282, 283, 284, 285, 286, 287, 288, 289, 290, 291, 292] 0 [] W f) Post := by
  refine fw_ok (n := 11) (ss := [(6, [0, 1]), (35, [0, 1, 2, 3]), (82, [0, 1, 2, 3, 4, 5])]) (hv := []) fr_120_ok fv_wayx_ok (ct_k_measureX_ok d) ?_
  show 0 ≤ h ∧ h < 14 ∧ (0 ≤ (fw_g W 274 h) → (fw_g W 274 h) ≤ 99 → -2147483648 ≤ (fw_g (fw_put [277, 279, 280, 281, 282, 283, 284, 285, 286, 287, 288, 289, 290, 291, 292] 0 [] W f) (fw_rc 278 (fw_g W 273 h)) (fw_g f 277 j)) + (fw_g W 274 h) ∧ (fw_g (fw_put [277, 279, 280, 281, 282, 283, 284, 285, 286, 287, 288, 289, 290, 291, 292] 0 [] W f) (fw_rc 278 (fw_g W 273 h)) (fw_g f 277 j)) + (fw_g W 274 h) ≤ 2147483647 ∧ (jf fw_T (d + 2) 120 82 [(0, .inr (.inl 276)), (1, .inl i), (2, .inl h), (3, .inl j), (4, .inl (fw_g f 277 j)), (5, .inl ((fw_g (fw_put [277, 279, 280, 281, 282, 283, 284, 285, 286, 287, 288, 289, 290, 291, 292] 0 [] W f) (fw_rc 278 (fw_g W 273 h)) (fw_g f 277 j)) + (fw_g W 274 h)))] [.inl h, .inr (.inl 278)] (fw_put [277, 279, 280, 281, 282, 283, 284, 285, 286, 287, 288, 289, 290, 291, 292] 0 [] W f) Post))
  revert hw_
  repeat' (first | (refine And.imp ?_ ?_) | (refine rw_imp ?_) | (refine rw_all ?_; intro _) | exact s_k_measureX_35_l5 | exact fun x_ => x_)

theorem s_k_measureX_35_l3 {Post : Option fw_V → fw_W → Prop} {d : Nat} {W : fw_W} {i h j : Int} {f : fw_W}
    (hw_ : 0 ≤ (fw_g W 273 h) ∧ (fw_g W 273 h) < 14 ∧ 0 ≤ (fw_g f 277 j) ∧ (fw_g f 277 j) < 14 ∧ (-2147483648 ≤ (fw_g (fw_put [277, 279, 280, 281, 282, 283, 284, 285, 286, 287, 288, 289, 290, 291, 292] 0 [] W f) (fw_rc 278 (fw_g W 273 h)) (fw_g f 277 j)) → (fw_g (fw_put [277, 279, 280, 281, 282, 283, 284, 285, 286, 287, 288, 289, 290, 291, 292] 0 [] W f) (fw_rc 278 (fw_g W 273 h)) (fw_g f 277 j)) ≤ 2147483647 → 0 ≤ h ∧ h < 14 ∧ (0 ≤ (fw_g W 274 h) → (fw_g W 274 h) ≤ 99 → -2147483648 ≤ (fw_g (fw_put [277, 279, 280, 281, 282, 283, 284, 285, 286, 287, 288, 289, 290, 291, 292] 0 [] W f) (fw_rc 278 (fw_g W 273 h)) (fw_g f 277 j)) + (fw_g W 274 h) ∧ (fw_g (fw_put [277, 279, 280, 281, 282, 283, 284, 285, 286, 287, 288, 289, 290, 291, 292] 0 [] W f) (fw_rc 278 (fw_g W 273 h)) (fw_g f 277 j)) + (fw_g W 274 h) ≤ 2147483647 ∧ (0 ≤ h ∧ h < 14 ∧ (0 ≤ h ∧ h < 14 ∧ 0 ≤ (fw_g f 277 j) ∧ (fw_g f 277 j) < 14 ∧ (0 ≤ (fw_g f 277 j) ∧ (fw_g f 277 j) < 14 ∧ (0 ≤ (fw_g f 277 j) ∧ (fw_g f 277 j) < 14 ∧ 0 ≤ h ∧ h < 14 ∧ (-2147483648 ≤ j + (1 : Int) ∧ j + (1 : Int) ≤ 2147483647 ∧ (jf fw_T (d + 2) 120 35 [(0, .inr (.inl 276)), (1, .inl i), (2, .inl h), (3, .inl (j + (1 : Int)))] [] (fw_upr (fw_upr (fw_put [277, 279, 280, 281, 282, 283, 284, 285, 286, 287, 288, 289, 290, 291, 292] 0 [] W f) 278 h (fw_g f 277 j) ((fw_g (fw_put [277, 279, 280, 281, 282, 283, 284, 285, 286, 287, 288, 289, 290, 291, 292] 0 [] W f) (fw_rc 278 (fw_g W 273 h)) (fw_g f 277 j)) + (fw_g W 274 h))) 278 (fw_g f 277 j) h ((fw_g (fw_put [277, 279, 280, 281, 282, 283, 284, 285, 286, 287, 288, 289, 290, 291, 292] 0 [] W f) (fw_rc 278 (fw_g W 273 h)) (fw_g f 277 j)) + (fw_g W 274 h))) Post))))))))) :
    jf fw_T (d + 2) 120 64 [(0, .inr (.inl 276)), (1, .inl i), (2, .inl h), (3, .inl j), (4, .inl (fw_g f 277 j))] [.inl (fw_g f 277 j), .inr (.inl (fw_rc 278 (fw_g W 273 h)))] (fw_put [277, 279, 280, 281, 282, 283, 284, 285, 286, 287, 288, 289, 290, 291, 292] 0 [] W f) Post := jf_ial (j := 40) kr_278 fr_120_ok rfl ⟨hw_.1, hw_.2.1, hw_.2.2.1, hw_.2.2.2.1, fun g1_ g2_ => s_k_measureX_35_n4 (hw_.2.2.2.2 g1_ g2_)⟩

theorem s_k_measureX_35_n2 {Post : Option fw_V → fw_W → Prop} {d : Nat} {W : fw_W} {i h j : Int} {f : fw_W}
    (hw_ : 0 ≤ (fw_g W 273 h) ∧ (fw_g W 273 h) < 14 ∧ 0 ≤ (fw_g f 277 j) ∧ (fw_g f 277 j) < 14 ∧ (-2147483648 ≤ (fw_g (fw_put [277, 279, 280, 281, 282, 283, 284, 285, 286, 287, 288, 289, 290, 291, 292] 0 [] W f) (fw_rc 278 (fw_g W 273 h)) (fw_g f 277 j)) → (fw_g (fw_put [277, 279, 280, 281, 282, 283, 284, 285, 286, 287, 288, 289, 290, 291, 292] 0 [] W f) (fw_rc 278 (fw_g W 273 h)) (fw_g f 277 j)) ≤ 2147483647 → 0 ≤ h ∧ h < 14 ∧ (0 ≤ (fw_g W 274 h) → (fw_g W 274 h) ≤ 99 → -2147483648 ≤ (fw_g (fw_put [277, 279, 280, 281, 282, 283, 284, 285, 286, 287, 288, 289, 290, 291, 292] 0 [] W f) (fw_rc 278 (fw_g W 273 h)) (fw_g f 277 j)) + (fw_g W 274 h) ∧ (fw_g (fw_put [277, 279, 280, 281, 282, 283, 284, 285, 286, 287, 288, 289, 290, 291, 292] 0 [] W f) (fw_rc 278 (fw_g W 273 h)) (fw_g f 277 j)) + (fw_g W 274 h) ≤ 2147483647 ∧ (0 ≤ h ∧ h < 14 ∧ (0 ≤ h ∧ h < 14 ∧ 0 ≤ (fw_g f 277 j) ∧ (fw_g f 277 j) < 14 ∧ (0 ≤ (fw_g f 277 j) ∧ (fw_g f 277 j) < 14 ∧ (0 ≤ (fw_g f 277 j) ∧ (fw_g f 277 j) < 14 ∧ 0 ≤ h ∧ h < 14 ∧ (-2147483648 ≤ j + (1 : Int) ∧ j + (1 : Int) ≤ 2147483647 ∧ (jf fw_T (d + 2) 120 35 [(0, .inr (.inl 276)), (1, .inl i), (2, .inl h), (3, .inl (j + (1 : Int)))] [] (fw_upr (fw_upr (fw_put [277, 279, 280, 281, 282, 283, 284, 285, 286, 287, 288, 289, 290, 291, 292] 0 [] W f) 278 h (fw_g f 277 j) ((fw_g (fw_put [277, 279, 280, 281, 282, 283, 284, 285, 286, 287, 288, 289, 290, 291, 292] 0 [] W f) (fw_rc 278 (fw_g W 273 h)) (fw_g f 277 j)) + (fw_g W 274 h))) 278 (fw_g f 277 j) h ((fw_g (fw_put [277, 279, 280, 281, 282, 283, 284, 285, 286, 287, 288, 289, 290, 291, 292] 0 [] W f) (fw_rc 278 (fw_g W 273 h)) (fw_g f 277 j)) + (fw_g W 274 h))) Post))))))))) :
    jf fw_T (d + 2) 120 62 [(0, .inr (.inl 276)), (1, .inl i), (2, .inl h), (3, .inl j), (4, .inl (fw_g f 277 j))] [.inr (.inl (fw_rc 278 (fw_g W 273 h)))] (fw_put [277, 279, 280, 281, 282, 283, 284, 285, 286, 287, 288, 289, 290, 291, 292] 0 [] W f) Post := by
  refine fw_ok (n := 2) (ss := [(6, [0, 1]), (35, [0, 1, 2, 3]), (64, [0, 1, 2, 3, 4])]) (hv := []) fr_120_ok fv_wayx_ok (ct_k_measureX_ok d) ?_
  show jf fw_T (d + 2) 120 64 [(0, .inr (.inl 276)), (1, .inl i), (2, .inl h), (3, .inl j), (4, .inl (fw_g f 277 j))] [.inl (fw_g f 277 j), .inr (.inl (fw_rc 278 (fw_g W 273 h)))] (fw_put [277, 279, 280, 281, 282, 283, 284, 285, 286, 287, 288, 289, 290, 291, 292] 0 [] W f) Post
  revert hw_
  repeat' (first | (refine And.imp ?_ ?_) | (refine rw_imp ?_) | (refine rw_all ?_; intro _) | exact s_k_measureX_35_l3 | exact fun x_ => x_)

theorem s_k_measureX_35_l1 {Post : Option fw_V → fw_W → Prop} {d : Nat} {W : fw_W} {i h j : Int} {f : fw_W}
    (hw_ : 0 ≤ (fw_g W 273 h) ∧ (fw_g W 273 h) < 14 ∧ (0 ≤ (fw_g W 273 h) ∧ (fw_g W 273 h) < 14 ∧ 0 ≤ (fw_g f 277 j) ∧ (fw_g f 277 j) < 14 ∧ (-2147483648 ≤ (fw_g (fw_put [277, 279, 280, 281, 282, 283, 284, 285, 286, 287, 288, 289, 290, 291, 292] 0 [] W f) (fw_rc 278 (fw_g W 273 h)) (fw_g f 277 j)) → (fw_g (fw_put [277, 279, 280, 281, 282, 283, 284, 285, 286, 287, 288, 289, 290, 291, 292] 0 [] W f) (fw_rc 278 (fw_g W 273 h)) (fw_g f 277 j)) ≤ 2147483647 → 0 ≤ h ∧ h < 14 ∧ (0 ≤ (fw_g W 274 h) → (fw_g W 274 h) ≤ 99 → -2147483648 ≤ (fw_g (fw_put [277, 279, 280, 281, 282, 283, 284, 285, 286, 287, 288, 289, 290, 291, 292] 0 [] W f) (fw_rc 278 (fw_g W 273 h)) (fw_g f 277 j)) + (fw_g W 274 h) ∧ (fw_g (fw_put [277, 279, 280, 281, 282, 283, 284, 285, 286, 287, 288, 289, 290, 291, 292] 0 [] W f) (fw_rc 278 (fw_g W 273 h)) (fw_g f 277 j)) + (fw_g W 274 h) ≤ 2147483647 ∧ (0 ≤ h ∧ h < 14 ∧ (0 ≤ h ∧ h < 14 ∧ 0 ≤ (fw_g f 277 j) ∧ (fw_g f 277 j) < 14 ∧ (0 ≤ (fw_g f 277 j) ∧ (fw_g f 277 j) < 14 ∧ (0 ≤ (fw_g f 277 j) ∧ (fw_g f 277 j) < 14 ∧ 0 ≤ h ∧ h < 14 ∧ (-2147483648 ≤ j + (1 : Int) ∧ j + (1 : Int) ≤ 2147483647 ∧ (jf fw_T (d + 2) 120 35 [(0, .inr (.inl 276)), (1, .inl i), (2, .inl h), (3, .inl (j + (1 : Int)))] [] (fw_upr (fw_upr (fw_put [277, 279, 280, 281, 282, 283, 284, 285, 286, 287, 288, 289, 290, 291, 292] 0 [] W f) 278 h (fw_g f 277 j) ((fw_g (fw_put [277, 279, 280, 281, 282, 283, 284, 285, 286, 287, 288, 289, 290, 291, 292] 0 [] W f) (fw_rc 278 (fw_g W 273 h)) (fw_g f 277 j)) + (fw_g W 274 h))) 278 (fw_g f 277 j) h ((fw_g (fw_put [277, 279, 280, 281, 282, 283, 284, 285, 286, 287, 288, 289, 290, 291, 292] 0 [] W f) (fw_rc 278 (fw_g W 273 h)) (fw_g f 277 j)) + (fw_g W 274 h))) Post)))))))))) :
    jf fw_T (d + 2) 120 61 [(0, .inr (.inl 276)), (1, .inl i), (2, .inl h), (3, .inl j), (4, .inl (fw_g f 277 j))] [.inl (fw_g W 273 h), .inr (.inl 278)] (fw_put [277, 279, 280, 281, 282, 283, 284, 285, 286, 287, 288, 289, 290, 291, 292] 0 [] W f) Post := jf_aal (j := 38) kr_278 fr_120_ok rfl ⟨hw_.1, hw_.2.1, s_k_measureX_35_n2 hw_.2.2⟩

theorem s_k_measureX_35 {Post : Option fw_V → fw_W → Prop} {d : Nat} {W : fw_W} {i h j : Int} {f : fw_W}
    (hw_ : ((i ≤ j → -2147483648 ≤ i + (1 : Int) ∧ i + (1 : Int) ≤ 2147483647 ∧ (jf fw_T (d + 2) 120 6 [(0, .inr (.inl 276)), (1, .inl (i + (1 : Int)))] [] (fw_put [277, 279, 280, 281, 282, 283, 284, 285, 286, 287, 288, 289, 290, 291, 292] 0 [] W f) Post)) ∧ (j < i → 0 ≤ j ∧ j < 14 ∧ (0 ≤ (fw_g f 277 j) → (fw_g f 277 j) ≤ 13 → 0 ≤ h ∧ h < 14 ∧ (-1 ≤ (fw_g W 273 h) → (fw_g W 273 h) ≤ 13 → 0 ≤ (fw_g W 273 h) ∧ (fw_g W 273 h) < 14 ∧ (0 ≤ (fw_g W 273 h) ∧ (fw_g W 273 h) < 14 ∧ 0 ≤ (fw_g f 277 j) ∧ (fw_g f 277 j) < 14 ∧ (-2147483648 ≤ (fw_g (fw_put [277, 279, 280, 281, 282, 283, 284, 285, 286, 287, 288, 289, 290, 291, 292] 0 [] W f) (fw_rc 278 (fw_g W 273 h)) (fw_g f 277 j)) → (fw_g (fw_put [277, 279, 280, 281, 282, 283, 284, 285, 286, 287, 288, 289, 290, 291, 292] 0 [] W f) (fw_rc 278 (fw_g W 273 h)) (fw_g f 277 j)) ≤ 2147483647 → 0 ≤ h ∧ h < 14 ∧ (0 ≤ (fw_g W 274 h) → (fw_g W 274 h) ≤ 99 → -2147483648 ≤ (fw_g (fw_put [277, 279, 280, 281, 282, 283, 284, 285, 286, 287, 288, 289, 290, 291, 292] 0 [] W f) (fw_rc 278 (fw_g W 273 h)) (fw_g f 277 j)) + (fw_g W 274 h) ∧ (fw_g (fw_put [277, 279, 280, 281, 282, 283, 284, 285, 286, 287, 288, 289, 290, 291, 292] 0 [] W f) (fw_rc 278 (fw_g W 273 h)) (fw_g f 277 j)) + (fw_g W 274 h) ≤ 2147483647 ∧ (0 ≤ h ∧ h < 14 ∧ (0 ≤ h ∧ h < 14 ∧ 0 ≤ (fw_g f 277 j) ∧ (fw_g f 277 j) < 14 ∧ (0 ≤ (fw_g f 277 j) ∧ (fw_g f 277 j) < 14 ∧ (0 ≤ (fw_g f 277 j) ∧ (fw_g f 277 j) < 14 ∧ 0 ≤ h ∧ h < 14 ∧ (-2147483648 ≤ j + (1 : Int) ∧ j + (1 : Int) ≤ 2147483647 ∧ (jf fw_T (d + 2) 120 35 [(0, .inr (.inl 276)), (1, .inl i), (2, .inl h), (3, .inl (j + (1 : Int)))] [] (fw_upr (fw_upr (fw_put [277, 279, 280, 281, 282, 283, 284, 285, 286, 287, 288, 289, 290, 291, 292] 0 [] W f) 278 h (fw_g f 277 j) ((fw_g (fw_put [277, 279, 280, 281, 282, 283, 284, 285, 286, 287, 288, 289, 290, 291, 292] 0 [] W f) (fw_rc 278 (fw_g W 273 h)) (fw_g f 277 j)) + (fw_g W 274 h))) 278 (fw_g f 277 j) h ((fw_g (fw_put [277, 279, 280, 281, 282, 283, 284, 285, 286, 287, 288, 289, 290, 291, 292] 0 [] W f) (fw_rc 278 (fw_g W 273 h)) (fw_g f 277 j)) + (fw_g W 274 h))) Post)))))))))))))) :
    jf fw_T (d + 2) 120 35 [(0, .inr (.inl 276)), (1, .inl i), (2, .inl h), (3, .inl j)] [] (fw_put [277, 279, 280, 281, 282, 283, 284, 285, 286, 287, 288, 289, 290, 291, 292] 0 [] W f) Post := by
  refine fw_ok (n := 16) (ss := [(6, [0, 1]), (35, [0, 1, 2, 3]), (61, [0, 1, 2, 3, 4])]) (hv := []) fr_120_ok fv_wayx_ok (ct_k_measureX_ok d) ?_
  show ((i ≤ j → -2147483648 ≤ i + (1 : Int) ∧ i + (1 : Int) ≤ 2147483647 ∧ (jf fw_T (d + 2) 120 6 [(0, .inr (.inl 276)), (1, .inl (i + (1 : Int)))] [] (fw_put [277, 279, 280, 281, 282, 283, 284, 285, 286, 287, 288, 289, 290, 291, 292] 0 [] W f) Post)) ∧ (j < i → 0 ≤ j ∧ j < 14 ∧ (0 ≤ (fw_g f 277 j) → (fw_g f 277 j) ≤ 13 → 0 ≤ h ∧ h < 14 ∧ (-1 ≤ (fw_g W 273 h) → (fw_g W 273 h) ≤ 13 → jf fw_T (d + 2) 120 61 [(0, .inr (.inl 276)), (1, .inl i), (2, .inl h), (3, .inl j), (4, .inl (fw_g f 277 j))] [.inl (fw_g W 273 h), .inr (.inl 278)] (fw_put [277, 279, 280, 281, 282, 283, 284, 285, 286, 287, 288, 289, 290, 291, 292] 0 [] W f) Post))))
  revert hw_
  repeat' (first | (refine And.imp ?_ ?_) | (refine rw_imp ?_) | (refine rw_all ?_; intro _) | exact s_k_measureX_35_l1 | exact fun x_ => x_)

theorem s_k_measureX_6_n4 {Post : Option fw_V → fw_W → Prop} {d : Nat} {W : fw_W} {i : Int} {f : fw_W}
    (hw_ : jf fw_T (d + 2) 120 35 [(0, .inr (.inl 276)), (1, .inl i), (2, .inl (fw_g f 277 i)), (3, .inl (0 : Int))] [] (fw_upr (fw_put [277, 279, 280, 281, 282, 283, 284, 285, 286, 287, 288, 289, 290, 291, 292] 0 [] W f) 278 (fw_g f 277 i) (fw_g f 277 i) (0 : Int)) Post) :
    jf fw_T (d + 2) 120 33 [(0, .inr (.inl 276)), (1, .inl i), (2, .inl (fw_g f 277 i))] [] (fw_upr (fw_put [277, 279, 280, 281, 282, 283, 284, 285, 286, 287, 288, 289, 290, 291, 292] 0 [] W f) 278 (fw_g f 277 i) (fw_g f 277 i) (0 : Int)) Post := fw_ok (n := 3) (ss := [(6, [0, 1]), (35, [0, 1, 2, 3])]) (hv := []) fr_120_ok fv_wayx_ok (ct_k_measureX_ok d) hw_

theorem s_k_measureX_6_l3 {Post : Option fw_V → fw_W → Prop} {d : Nat} {W : fw_W} {i : Int} {f : fw_W}
    (hw_ : 0 ≤ (fw_g f 277 i) ∧ (fw_g f 277 i) < 14 ∧ 0 ≤ (fw_g f 277 i) ∧ (fw_g f 277 i) < 14 ∧ (jf fw_T (d + 2) 120 35 [(0, .inr (.inl 276)), (1, .inl i), (2, .inl (fw_g f 277 i)), (3, .inl (0 : Int))] [] (fw_upr (fw_put [277, 279, 280, 281, 282, 283, 284, 285, 286, 287, 288, 289, 290, 291, 292] 0 [] W f) 278 (fw_g f 277 i) (fw_g f 277 i) (0 : Int)) Post)) :
    jf fw_T (d + 2) 120 32 [(0, .inr (.inl 276)), (1, .inl i), (2, .inl (fw_g f 277 i))] [.inl (0 : Int), .inl (fw_g f 277 i), .inr (.inl (fw_rc 278 (fw_g f 277 i)))] (fw_put [277, 279, 280, 281, 282, 283, 284, 285, 286, 287, 288, 289, 290, 291, 292] 0 [] W f) Post := jf_ias (j := 20) kr_278 fr_120_ok rfl ⟨hw_.1, hw_.2.1, hw_.2.2.1, hw_.2.2.2.1, s_k_measureX_6_n4 hw_.2.2.2.2⟩

theorem s_k_measureX_6_n2 {Post : Option fw_V → fw_W → Prop} {d : Nat} {W : fw_W} {i : Int} {f : fw_W}
    (hw_ : 0 ≤ (fw_g f 277 i) ∧ (fw_g f 277 i) < 14 ∧ 0 ≤ (fw_g f 277 i) ∧ (fw_g f 277 i) < 14 ∧ (jf fw_T (d + 2) 120 35 [(0, .inr (.inl 276)), (1, .inl i), (2, .inl (fw_g f 277 i)), (3, .inl (0 : Int))] [] (fw_upr (fw_put [277, 279, 280, 281, 282, 283, 284, 285, 286, 287, 288, 289, 290, 291, 292] 0 [] W f) 278 (fw_g f 277 i) (fw_g f 277 i) (0 : Int)) Post)) :
    jf fw_T (d + 2) 120 30 [(0, .inr (.inl 276)), (1, .inl i), (2, .inl (fw_g f 277 i))] [.inr (.inl (fw_rc 278 (fw_g f 277 i)))] (fw_put [277, 279, 280, 281, 282, 283, 284, 285, 286, 287, 288, 289, 290, 291, 292] 0 [] W f) Post := by
  refine fw_ok (n := 3) (ss := [(6, [0, 1]), (32, [0, 1, 2]), (35, [0, 1, 2, 3])]) (hv := []) fr_120_ok fv_wayx_ok (ct_k_measureX_ok d) ?_
  show jf fw_T (d + 2) 120 32 [(0, .inr (.inl 276)), (1, .inl i), (2, .inl (fw_g f 277 i))] [.inl (0 : Int), .inl (fw_g f 277 i), .inr (.inl (fw_rc 278 (fw_g f 277 i)))] (fw_put [277, 279, 280, 281, 282, 283, 284, 285, 286, 287, 288, 289, 290, 291, 292] 0 [] W f) Post
  revert hw_
  repeat' (first | (refine And.imp ?_ ?_) | (refine rw_imp ?_) | (refine rw_all ?_; intro _) | exact s_k_measureX_6_l3 | exact fun x_ => x_)

theorem s_k_measureX_6_l1 {Post : Option fw_V → fw_W → Prop} {d : Nat} {W : fw_W} {i : Int} {f : fw_W}
    (hw_ : 0 ≤ (fw_g f 277 i) ∧ (fw_g f 277 i) < 14 ∧ (0 ≤ (fw_g f 277 i) ∧ (fw_g f 277 i) < 14 ∧ 0 ≤ (fw_g f 277 i) ∧ (fw_g f 277 i) < 14 ∧ (jf fw_T (d + 2) 120 35 [(0, .inr (.inl 276)), (1, .inl i), (2, .inl (fw_g f 277 i)), (3, .inl (0 : Int))] [] (fw_upr (fw_put [277, 279, 280, 281, 282, 283, 284, 285, 286, 287, 288, 289, 290, 291, 292] 0 [] W f) 278 (fw_g f 277 i) (fw_g f 277 i) (0 : Int)) Post))) :
    jf fw_T (d + 2) 120 29 [(0, .inr (.inl 276)), (1, .inl i), (2, .inl (fw_g f 277 i))] [.inl (fw_g f 277 i), .inr (.inl 278)] (fw_put [277, 279, 280, 281, 282, 283, 284, 285, 286, 287, 288, 289, 290, 291, 292] 0 [] W f) Post := jf_aal (j := 17) kr_278 fr_120_ok rfl ⟨hw_.1, hw_.2.1, s_k_measureX_6_n2 hw_.2.2⟩

theorem s_k_measureX_6 {Post : Option fw_V → fw_W → Prop} {d : Nat} {W : fw_W} {i : Int} {f : fw_W}
    (hw_ : (0 ≤ (fw_g W 272 0) → (fw_g W 272 0) ≤ 14 → (((fw_g W 272 0) ≤ i → Post none (fw_put [277, 279, 280, 281, 282, 283, 284, 285, 286, 287, 288, 289, 290, 291, 292] 0 [] W f)) ∧ (i < (fw_g W 272 0) → 0 ≤ i ∧ i < 14 ∧ (0 ≤ (fw_g f 277 i) → (fw_g f 277 i) ≤ 13 → 0 ≤ (fw_g f 277 i) ∧ (fw_g f 277 i) < 14 ∧ (0 ≤ (fw_g f 277 i) ∧ (fw_g f 277 i) < 14 ∧ 0 ≤ (fw_g f 277 i) ∧ (fw_g f 277 i) < 14 ∧ (jf fw_T (d + 2) 120 35 [(0, .inr (.inl 276)), (1, .inl i), (2, .inl (fw_g f 277 i)), (3, .inl (0 : Int))] [] (fw_upr (fw_put [277, 279, 280, 281, 282, 283, 284, 285, 286, 287, 288, 289, 290, 291, 292] 0 [] W f) 278 (fw_g f 277 i) (fw_g f 277 i) (0 : Int)) Post))))))) :
    jf fw_T (d + 2) 120 6 [(0, .inr (.inl 276)), (1, .inl i)] [] (fw_put [277, 279, 280, 281, 282, 283, 284, 285, 286, 287, 288, 289, 290, 291, 292] 0 [] W f) Post := by
  refine fw_ok (n := 14) (ss := [(6, [0, 1]), (29, [0, 1, 2]), (35, [0, 1, 2, 3])]) (hv := []) fr_120_ok fv_wayx_ok (ct_k_measureX_ok d) ?_
  show (0 ≤ (fw_g W 272 0) → (fw_g W 272 0) ≤ 14 → (((fw_g W 272 0) ≤ i → Post none (fw_put [277, 279, 280, 281, 282, 283, 284, 285, 286, 287, 288, 289, 290, 291, 292] 0 [] W f)) ∧ (i < (fw_g W 272 0) → 0 ≤ i ∧ i < 14 ∧ (0 ≤ (fw_g f 277 i) → (fw_g f 277 i) ≤ 13 → jf fw_T (d + 2) 120 29 [(0, .inr (.inl 276)), (1, .inl i), (2, .inl (fw_g f 277 i))] [.inl (fw_g f 277 i), .inr (.inl 278)] (fw_put [277, 279, 280, 281, 282, 283, 284, 285, 286, 287, 288, 289, 290, 291, 292] 0 [] W f) Post))))
  revert hw_
  repeat' (first | (refine And.imp ?_ ?_) | (refine rw_imp ?_) | (refine rw_all ?_; intro _) | exact s_k_measureX_6_l1 | exact fun x_ => x_)

theorem lm_k_measureX_35 {Post : Option fw_V → fw_W → Prop} {d : Nat} {W : fw_W} (q : List Nat) (hgh : (qok ((fw_g W 272 0)).toNat q = true ∧ qk2 ((fw_g W 272 0)).toNat q = true) ∧ 2 ≤ (fw_g W 272 0) ∧ (fw_g W 272 0) ≤ 6 ∧ (∀ x_, 1 ≤ x_ → x_ < (fw_g W 272 0) → (fw_g W 273 x_) = ((qp q x_.toNat : Nat) : Int))) (hpre : (∀ x_, 1 ≤ x_ → x_ < (fw_g W 272 0) → (fw_g W 274 x_) = 1)) (hP : ∀ (W2 : fw_W), fw_sm [277, 279, 280, 281, 282, 283, 284, 285, 286, 287, 288, 289, 290, 291, 292] 0 [] W W2 → ((∀ u_ t_, 0 ≤ u_ → u_ < (fw_g W 272 0) → 0 ≤ t_ → t_ < (fw_g W 272 0) → fw_g W2 (fw_rc 278 u_) t_ = zD q u_ t_) ∧ (∀ j_, 0 ≤ j_ → j_ < (fw_g W 272 0) → (fw_g W2 277 j_) = zo q ((fw_g W 272 0)) j_)) → Post none W2) (M6 : Int) (h6 : ∀ (i : Int) (f : fw_W), ((0 ≤ i ∧ i ≤ (fw_g W 272 0)) ∧ (∀ j_, 0 ≤ j_ → j_ < (fw_g W 272 0) → (fw_g f 277 j_) = zo q ((fw_g W 272 0)) j_) ∧ (∀ a_ b_, 0 ≤ a_ → a_ < i → 0 ≤ b_ → b_ < i → (fw_g f (fw_rc 278 ((zo q ((fw_g W 272 0)) a_))) ((zo q ((fw_g W 272 0)) b_))) = zD q (zo q ((fw_g W 272 0)) a_) (zo q ((fw_g W 272 0)) b_))) → ((fw_g W 272 0) - i) < M6 → jf fw_T (d + 2) 120 6 [(0, .inr (.inl 276)), (1, .inl i)] [] (fw_put [277, 279, 280, 281, 282, 283, 284, 285, 286, 287, 288, 289, 290, 291, 292] 0 [] W f) Post) : ∀ (m : Nat) (i h j : Int) (f : fw_W), (i - j).toNat = m → ((0 ≤ j ∧ j ≤ i ∧ i < (fw_g W 272 0) ∧ h = (zo q ((fw_g W 272 0)) i)) ∧ (∀ j_, 0 ≤ j_ → j_ < (fw_g W 272 0) → (fw_g f 277 j_) = zo q ((fw_g W 272 0)) j_) ∧ (∀ a_ b_, 0 ≤ a_ → a_ < i → 0 ≤ b_ → b_ < i → (fw_g f (fw_rc 278 ((zo q ((fw_g W 272 0)) a_))) ((zo q ((fw_g W 272 0)) b_))) = zD q (zo q ((fw_g W 272 0)) a_) (zo q ((fw_g W 272 0)) b_)) ∧ (fw_g f (fw_rc 278 (h)) (h)) = 0 ∧ (∀ b_, 0 ≤ b_ → b_ < j → (fw_g f (fw_rc 278 (h)) ((zo q ((fw_g W 272 0)) b_))) = zD q h (zo q ((fw_g W 272 0)) b_) ∧ (fw_g f (fw_rc 278 ((zo q ((fw_g W 272 0)) b_))) (h)) = zD q (zo q ((fw_g W 272 0)) b_) h)) → ((fw_g W 272 0) - i) ≤ M6 → jf fw_T (d + 2) 120 35 [(0, .inr (.inl 276)), (1, .inl i), (2, .inl h), (3, .inl j)] [] (fw_put [277, 279, 280, 281, 282, 283, 284, 285, 286, 287, 288, 289, 290, 291, 292] 0 [] W f) Post := by
  intro m
  induction m using Nat.strongRecOn with
  | ind m ih =>
    intro i h j f hm hi e6
    refine jf_rng (fun hrg => ?_)
    have hrg : -2147483648 ≤ i ∧ i ≤ 2147483647 ∧ -2147483648 ≤ h ∧ h ≤ 2147483647 ∧ -2147483648 ≤ j ∧ j ≤ 2147483647 ∧ True := hrg
    refine s_k_measureX_35 ?_
    have hi1 := hi.1
    have hh := hi1.2.2.2
    have hr := zo_b hgh.1.2 (i := i) (by omega) (by omega)
    have hx : Unit → (1 ≤ i → 1 ≤ zo q ((fw_g W 272 0)) i ∧ ∃ a, 0 ≤ a ∧ a < i ∧ zo q ((fw_g W 272 0)) a = ((qp q (zo q ((fw_g W 272 0)) i).toNat : Nat) : Int)) := fun _ => (zo_r hgh.1.2 (i := i) (by omega) (by omega)).2.2.2
    rw [← hh] at hr hx
    have hj := fun z : j < i => zo_b hgh.1.2 (i := j) (by omega) (by omega)
    have oj := fun z : j < i => hi.2.1 j (by omega) (by omega)
    have hm : j < i → zD q h (zo q ((fw_g W 272 0)) j) = zD q ((qp q h.toNat : Nat) : Int) (zo q ((fw_g W 272 0)) j) + 1 ∧ zD q (zo q ((fw_g W 272 0)) j) h = zD q h (zo q ((fw_g W 272 0)) j) ∧ zo q ((fw_g W 272 0)) j ≠ h := fun z => by
      have m := zo_m hgh.1.2 (i := i) (j := j) (by omega) z (by omega)
      rw [← hh] at m
      exact m
    have hs := fun z : j < i => hpre h (hr.2.2.2 (by omega)) (by omega)
    have hq := fun z : j < i => hgh.2.2.2 h (hr.2.2.2 (by omega)) (by omega)
    have hp9 : j < i → 0 ≤ (fw_g W 273 h) ∧ (fw_g W 273 h) < (fw_g W 272 0) := fun z => by
      obtain ⟨-, a, a0, a1, a2⟩ := hx () (by omega)
      have ra := zo_b hgh.1.2 (i := a) a0 (by omega)
      have := hq z
      omega
    have rd : j < i → fw_g (fw_put [277, 279, 280, 281, 282, 283, 284, 285, 286, 287, 288, 289, 290, 291, 292] 0 [] W f) (fw_rc 278 ((fw_g W 273 h))) ((fw_g f 277 j)) = zD q h (zo q ((fw_g W 272 0)) j) - 1 ∧ 0 ≤ zD q h (zo q ((fw_g W 272 0)) j) ∧ zD q h (zo q ((fw_g W 272 0)) j) ≤ 100 := fun z => by
      obtain ⟨-, a, a0, a1, a2⟩ := hx () (by omega)
      have e1 : (fw_g W 273 h) = zo q ((fw_g W 272 0)) a := (hq z).trans a2.symm
      have m := (hm z).1
      have b := hp9 z
      refine ⟨?_, q_D0 q h (zo q ((fw_g W 272 0)) j)⟩
      rw [fr_in rfl (by omega) (by omega), oj z, e1, hi.2.2.1 a j a0 a1 (by omega) z, a2]
      omega
    have hj2 : j < i → 0 ≤ (fw_g f 277 j) ∧ (fw_g f 277 j) < (fw_g W 272 0) := fun z => by
      have a := oj z
      have b := hj z
      omega
    repeat' (first
      | (exact True.intro)
      | (exact hpre.1)
      | (refine And.intro ?_ ?_)
      | (refine (h6 _ _ ?_ (by omega)); (
        have ji : j = i := by omega
        subst ji
        have hh := hi1.2.2.2
        refine ⟨by omega, hi.2.1, fun a b a0 a1 b0 b1 => ?_⟩
        by_cases ea : a = j
        · by_cases eb : b = j
          · rw [ea, eb, ← hh]; exact hi.2.2.2.1.trans (zD_0 q h).symm
          · rw [ea, ← hh]; exact (hi.2.2.2.2 b b0 (by omega)).1
        · by_cases eb : b = j
          · rw [eb, ← hh]; exact (hi.2.2.2.2 a a0 (by omega)).2
          · exact hi.2.2.1 a b a0 (by omega) b0 (by omega)))
      | (refine jf_put (S := [277, 279, 280, 281, 282, 283, 284, 285, 286, 287, 288, 289, 290, 291, 292]) (o := 0) (F := []) (W := W) (by repeat (first | exact fw_sm_refl | exact fw_sm_put0 | refine fw_sm_arr ?_ rfl | refine fw_sm_up ?_ rfl | refine fw_sm_put ?_ rfl | refine fw_sm_cp ?_ rfl | refine fw_sm_upr ?_ rfl)) (h6 _ _ ?_ (by omega)); (
        have ji : j = i := by omega
        subst ji
        have hh := hi1.2.2.2
        refine ⟨by omega, hi.2.1, fun a b a0 a1 b0 b1 => ?_⟩
        by_cases ea : a = j
        · by_cases eb : b = j
          · rw [ea, eb, ← hh]; exact hi.2.2.2.1.trans (zD_0 q h).symm
          · rw [ea, ← hh]; exact (hi.2.2.2.2 b b0 (by omega)).1
        · by_cases eb : b = j
          · rw [eb, ← hh]; exact (hi.2.2.2.2 a a0 (by omega)).2
          · exact hi.2.2.1 a b a0 (by omega) b0 (by omega)))
      | (refine (ih _ (by omega) _ _ _ _ rfl ?_ (by omega)); (
        have z : j < i := by omega
        have r := rd z
        have s := hs z
        have m := hm z
        have o := oj z
        have o2 := hj2 z
        refine ⟨by omega, hi.2.1, fun a b a0 a1 b0 b1 => ?_, ?_, fun b b0 b1 => ⟨?_, ?_⟩⟩
        · have ra := zo_b hgh.1.2 (i := a) a0 (by omega)
          have rb := zo_b hgh.1.2 (i := b) b0 (by omega)
          have ma := (zo_m hgh.1.2 (i := i) (j := a) a0 a1 (by omega)).2.2
          have mb := (zo_m hgh.1.2 (i := i) (j := b) b0 b1 (by omega)).2.2
          rw [fr_dd (by omega) (by omega) (by omega) (by omega) (by omega) (by omega) (by omega) (by omega) (by omega), if_neg (fun y => y.elim (fun y => ma (by omega)) (fun y => mb (by omega))), fr_in rfl (by omega) (by omega)]
          exact hi.2.2.1 a b a0 a1 b0 b1
        · rw [fr_dd (by omega) (by omega) (by omega) (by omega) (by omega) (by omega) (by omega) (by omega) (by omega), if_neg (fun y => y.elim (fun y => m.2.2 (by omega)) (fun y => m.2.2 (by omega))), fr_in rfl (by omega) (by omega)]
          exact hi.2.2.2.1
        · have rb := zo_b hgh.1.2 (i := b) b0 (by omega)
          by_cases e : b = j
          · subst e
            rw [fr_dd (by omega) (by omega) (by omega) (by omega) (by omega) (by omega) (by omega) (by omega) (by omega), if_pos (Or.inl ⟨rfl, o⟩)]
            omega
          · have mb := (zo_m hgh.1.2 (i := j) (j := b) b0 (by omega) (by omega)).2.2
            rw [fr_dd (by omega) (by omega) (by omega) (by omega) (by omega) (by omega) (by omega) (by omega) (by omega), if_neg (fun y => y.elim (fun y => mb (by omega)) (fun y => m.2.2 (by omega))), fr_in rfl (by omega) (by omega)]
            exact (hi.2.2.2.2 b b0 (by omega)).1
        · have rb := zo_b hgh.1.2 (i := b) b0 (by omega)
          by_cases e : b = j
          · subst e
            rw [fr_dd (by omega) (by omega) (by omega) (by omega) (by omega) (by omega) (by omega) (by omega) (by omega), if_pos (Or.inr ⟨o, rfl⟩)]
            omega
          · have mb := (zo_m hgh.1.2 (i := j) (j := b) b0 (by omega) (by omega)).2.2
            rw [fr_dd (by omega) (by omega) (by omega) (by omega) (by omega) (by omega) (by omega) (by omega) (by omega), if_neg (fun y => y.elim (fun y => m.2.2 (by omega)) (fun y => mb (by omega))), fr_in rfl (by omega) (by omega)]
            exact (hi.2.2.2.2 b b0 (by omega)).2))
      | (refine jf_put (S := [277, 279, 280, 281, 282, 283, 284, 285, 286, 287, 288, 289, 290, 291, 292]) (o := 0) (F := []) (W := W) (by repeat (first | exact fw_sm_refl | exact fw_sm_put0 | refine fw_sm_arr ?_ rfl | refine fw_sm_up ?_ rfl | refine fw_sm_put ?_ rfl | refine fw_sm_cp ?_ rfl | refine fw_sm_upr ?_ rfl)) (ih _ (by omega) _ _ _ _ rfl ?_ (by omega)); (
        have z : j < i := by omega
        have r := rd z
        have s := hs z
        have m := hm z
        have o := oj z
        have o2 := hj2 z
        refine ⟨by omega, hi.2.1, fun a b a0 a1 b0 b1 => ?_, ?_, fun b b0 b1 => ⟨?_, ?_⟩⟩
        · have ra := zo_b hgh.1.2 (i := a) a0 (by omega)
          have rb := zo_b hgh.1.2 (i := b) b0 (by omega)
          have ma := (zo_m hgh.1.2 (i := i) (j := a) a0 a1 (by omega)).2.2
          have mb := (zo_m hgh.1.2 (i := i) (j := b) b0 b1 (by omega)).2.2
          rw [fr_dd (by omega) (by omega) (by omega) (by omega) (by omega) (by omega) (by omega) (by omega) (by omega), if_neg (fun y => y.elim (fun y => ma (by omega)) (fun y => mb (by omega))), fr_in rfl (by omega) (by omega)]
          exact hi.2.2.1 a b a0 a1 b0 b1
        · rw [fr_dd (by omega) (by omega) (by omega) (by omega) (by omega) (by omega) (by omega) (by omega) (by omega), if_neg (fun y => y.elim (fun y => m.2.2 (by omega)) (fun y => m.2.2 (by omega))), fr_in rfl (by omega) (by omega)]
          exact hi.2.2.2.1
        · have rb := zo_b hgh.1.2 (i := b) b0 (by omega)
          by_cases e : b = j
          · subst e
            rw [fr_dd (by omega) (by omega) (by omega) (by omega) (by omega) (by omega) (by omega) (by omega) (by omega), if_pos (Or.inl ⟨rfl, o⟩)]
            omega
          · have mb := (zo_m hgh.1.2 (i := j) (j := b) b0 (by omega) (by omega)).2.2
            rw [fr_dd (by omega) (by omega) (by omega) (by omega) (by omega) (by omega) (by omega) (by omega) (by omega), if_neg (fun y => y.elim (fun y => mb (by omega)) (fun y => m.2.2 (by omega))), fr_in rfl (by omega) (by omega)]
            exact (hi.2.2.2.2 b b0 (by omega)).1
        · have rb := zo_b hgh.1.2 (i := b) b0 (by omega)
          by_cases e : b = j
          · subst e
            rw [fr_dd (by omega) (by omega) (by omega) (by omega) (by omega) (by omega) (by omega) (by omega) (by omega), if_pos (Or.inr ⟨o, rfl⟩)]
            omega
          · have mb := (zo_m hgh.1.2 (i := j) (j := b) b0 (by omega) (by omega)).2.2
            rw [fr_dd (by omega) (by omega) (by omega) (by omega) (by omega) (by omega) (by omega) (by omega) (by omega), if_neg (fun y => y.elim (fun y => m.2.2 (by omega)) (fun y => mb (by omega))), fr_in rfl (by omega) (by omega)]
            exact (hi.2.2.2.2 b b0 (by omega)).2))
      | (refine hP _ (by repeat (first | exact fw_sm_refl | exact fw_sm_put0 | refine fw_sm_arr ?_ rfl | refine fw_sm_up ?_ rfl | refine fw_sm_put ?_ rfl | refine fw_sm_cp ?_ rfl | refine fw_sm_upr ?_ rfl)) ?_; (
        have hN : i = (fw_g W 272 0) := by omega
        refine ⟨fun u t u0 u1 t0 t1 => ?_, hi.2.1⟩
        obtain ⟨a, a0, a1, rfl⟩ := zo_s hgh.1.2 u0 u1
        obtain ⟨b, b0, b1, rfl⟩ := zo_s hgh.1.2 t0 t1
        exact (fr_in rfl (by omega) (by omega)).trans (hi.2.2 a b a0 (by omega) b0 (by omega))))
      | omega
      | (intro _))
theorem lm_k_measureX_6 {Post : Option fw_V → fw_W → Prop} {d : Nat} {W : fw_W} (q : List Nat) (hgh : (qok ((fw_g W 272 0)).toNat q = true ∧ qk2 ((fw_g W 272 0)).toNat q = true) ∧ 2 ≤ (fw_g W 272 0) ∧ (fw_g W 272 0) ≤ 6 ∧ (∀ x_, 1 ≤ x_ → x_ < (fw_g W 272 0) → (fw_g W 273 x_) = ((qp q x_.toNat : Nat) : Int))) (hpre : (∀ x_, 1 ≤ x_ → x_ < (fw_g W 272 0) → (fw_g W 274 x_) = 1)) (hP : ∀ (W2 : fw_W), fw_sm [277, 279, 280, 281, 282, 283, 284, 285, 286, 287, 288, 289, 290, 291, 292] 0 [] W W2 → ((∀ u_ t_, 0 ≤ u_ → u_ < (fw_g W 272 0) → 0 ≤ t_ → t_ < (fw_g W 272 0) → fw_g W2 (fw_rc 278 u_) t_ = zD q u_ t_) ∧ (∀ j_, 0 ≤ j_ → j_ < (fw_g W 272 0) → (fw_g W2 277 j_) = zo q ((fw_g W 272 0)) j_)) → Post none W2)  : ∀ (m : Nat) (i : Int) (f : fw_W), ((fw_g W 272 0) - i).toNat = m → ((0 ≤ i ∧ i ≤ (fw_g W 272 0)) ∧ (∀ j_, 0 ≤ j_ → j_ < (fw_g W 272 0) → (fw_g f 277 j_) = zo q ((fw_g W 272 0)) j_) ∧ (∀ a_ b_, 0 ≤ a_ → a_ < i → 0 ≤ b_ → b_ < i → (fw_g f (fw_rc 278 ((zo q ((fw_g W 272 0)) a_))) ((zo q ((fw_g W 272 0)) b_))) = zD q (zo q ((fw_g W 272 0)) a_) (zo q ((fw_g W 272 0)) b_))) → jf fw_T (d + 2) 120 6 [(0, .inr (.inl 276)), (1, .inl i)] [] (fw_put [277, 279, 280, 281, 282, 283, 284, 285, 286, 287, 288, 289, 290, 291, 292] 0 [] W f) Post := by
  intro m
  induction m using Nat.strongRecOn with
  | ind m ih =>
    intro i f hm hi
    refine jf_rng (fun hrg => ?_)
    have hrg : -2147483648 ≤ i ∧ i ≤ 2147483647 ∧ True := hrg
    refine s_k_measureX_6 ?_
    have hi1 := hi.1
    have hz := fun z : i < (fw_g W 272 0) => zo_b hgh.1.2 (i := i) (by omega) z
    have oi := fun z : i < (fw_g W 272 0) => hi.2.1 i (by omega) z
    repeat' (first
      | (exact True.intro)
      | (exact hpre.1)
      | (refine And.intro ?_ ?_)
      | (refine (ih _ (by omega) _ _ rfl ?_); (first | omega | trivial | (simp (config := { decide := true }) only [fg_in, fg_fin, fg_out, fg_fout, fg_up, fg_same, true_and, and_true] <;> omega)))
      | (refine jf_put (S := [277, 279, 280, 281, 282, 283, 284, 285, 286, 287, 288, 289, 290, 291, 292]) (o := 0) (F := []) (W := W) (by repeat (first | exact fw_sm_refl | exact fw_sm_put0 | refine fw_sm_arr ?_ rfl | refine fw_sm_up ?_ rfl | refine fw_sm_put ?_ rfl | refine fw_sm_cp ?_ rfl | refine fw_sm_upr ?_ rfl)) (ih _ (by omega) _ _ rfl ?_); (first | omega | trivial | (simp (config := { decide := true }) only [fg_in, fg_fin, fg_out, fg_fout, fg_up, fg_same, true_and, and_true] <;> omega)))
      | (refine (lm_k_measureX_35 q hgh hpre hP ((fw_g W 272 0) - i) (fun a0 af hi hl => ih _ (by omega) a0 af rfl hi) _ _ _ _ _ rfl ?_ (by omega)); (
        have z : i < (fw_g W 272 0) := by omega
        have o := oi z
        have r := hz z
        refine ⟨⟨by omega, by omega, by omega, o⟩, hi.2.1, fun a b a0 a1 b0 b1 => ?_, ?_, fun b b0 b1 => by omega⟩
        · have ra := zo_b hgh.1.2 (i := a) a0 (by omega)
          have rb := zo_b hgh.1.2 (i := b) b0 (by omega)
          have ma := (zo_m hgh.1.2 (i := i) (j := a) a0 a1 z).2.2
          rw [fr_if (by omega) (by omega) (by omega) (by omega) (by omega) (by omega) (by omega) (by omega), if_neg (fun y => ma (by omega)), fr_in rfl (by omega) (by omega)]
          exact hi.2.2 a b a0 a1 b0 b1
        · rw [fr_if (by omega) (by omega) (by omega) (by omega) (by omega) (by omega) (by omega) (by omega), if_pos ⟨rfl, rfl⟩]))
      | (refine jf_put (S := [277, 279, 280, 281, 282, 283, 284, 285, 286, 287, 288, 289, 290, 291, 292]) (o := 0) (F := []) (W := W) (by repeat (first | exact fw_sm_refl | exact fw_sm_put0 | refine fw_sm_arr ?_ rfl | refine fw_sm_up ?_ rfl | refine fw_sm_put ?_ rfl | refine fw_sm_cp ?_ rfl | refine fw_sm_upr ?_ rfl)) (lm_k_measureX_35 q hgh hpre hP ((fw_g W 272 0) - i) (fun a0 af hi hl => ih _ (by omega) a0 af rfl hi) _ _ _ _ _ rfl ?_ (by omega)); (
        have z : i < (fw_g W 272 0) := by omega
        have o := oi z
        have r := hz z
        refine ⟨⟨by omega, by omega, by omega, o⟩, hi.2.1, fun a b a0 a1 b0 b1 => ?_, ?_, fun b b0 b1 => by omega⟩
        · have ra := zo_b hgh.1.2 (i := a) a0 (by omega)
          have rb := zo_b hgh.1.2 (i := b) b0 (by omega)
          have ma := (zo_m hgh.1.2 (i := i) (j := a) a0 a1 z).2.2
          rw [fr_if (by omega) (by omega) (by omega) (by omega) (by omega) (by omega) (by omega) (by omega), if_neg (fun y => ma (by omega)), fr_in rfl (by omega) (by omega)]
          exact hi.2.2 a b a0 a1 b0 b1
        · rw [fr_if (by omega) (by omega) (by omega) (by omega) (by omega) (by omega) (by omega) (by omega), if_pos ⟨rfl, rfl⟩]))
      | (refine hP _ (by repeat (first | exact fw_sm_refl | exact fw_sm_put0 | refine fw_sm_arr ?_ rfl | refine fw_sm_up ?_ rfl | refine fw_sm_put ?_ rfl | refine fw_sm_cp ?_ rfl | refine fw_sm_upr ?_ rfl)) ?_; (
        have hN : i = (fw_g W 272 0) := by omega
        refine ⟨fun u t u0 u1 t0 t1 => ?_, hi.2.1⟩
        obtain ⟨a, a0, a1, rfl⟩ := zo_s hgh.1.2 u0 u1
        obtain ⟨b, b0, b1, rfl⟩ := zo_s hgh.1.2 t0 t1
        exact (fr_in rfl (by omega) (by omega)).trans (hi.2.2 a b a0 (by omega) b0 (by omega))))
      | omega
      | (intro _))
def x_k_measureX : fw_X := fun as W Q => match as with
  | [.inr (.inl s_)] => fw_if (Nat.beq s_ 276) (∃ (q : List Nat), ((qok ((fw_g W 272 0)).toNat q = true ∧ qk2 ((fw_g W 272 0)).toNat q = true) ∧ 2 ≤ (fw_g W 272 0) ∧ (fw_g W 272 0) ≤ 6 ∧ (∀ x_, 1 ≤ x_ → x_ < (fw_g W 272 0) → (fw_g W 273 x_) = ((qp q x_.toNat : Nat) : Int))) ∧ ((∀ x_, 1 ≤ x_ → x_ < (fw_g W 272 0) → (fw_g W 274 x_) = 1)) ∧ (∀ (f : fw_W), ((∀ u_ t_, 0 ≤ u_ → u_ < (fw_g W 272 0) → 0 ≤ t_ → t_ < (fw_g W 272 0) → fw_g f (fw_rc 278 u_) t_ = zD q u_ t_) ∧ (∀ j_, 0 ≤ j_ → j_ < (fw_g W 272 0) → (fw_g f 277 j_) = zo q ((fw_g W 272 0)) j_)) → Q none (fw_put [277, 279, 280, 281, 282, 283, 284, 285, 286, 287, 288, 289, 290, 291, 292] 0 [] W f)))
  | _ => False
theorem x_k_measureX_ok (d : Nat) (as : List fw_V) (W : fw_W) (Q : Option fw_V → fw_W → Prop) (hx : x_k_measureX as W Q) : jf fw_T (d + 2) 120 0 (fw_args 0 as) [] W Q := by
  unfold x_k_measureX at hx
  split at hx
  · rename_i s_
    obtain ⟨e_, q, hgh, hpre, hQ⟩ := fw_if_ok hx
    have e_ := Nat.eq_of_beq_eq_true e_
    subst e_
    have hP : ∀ (W2 : fw_W), fw_sm [277, 279, 280, 281, 282, 283, 284, 285, 286, 287, 288, 289, 290, 291, 292] 0 [] W W2 → _ → Q none W2 := fun W2 hs hr => fw_sm_use (Q := fun Z => Q none Z) hs (hQ W2 hr)
    refine s_k_measureX_0 ?_
    repeat' (first
      | (refine ⟨q, hgh, ?_⟩)
      | (exact True.intro)
      | (exact hpre.1)
      | (refine And.intro ?_ ?_)
      | (refine jf_put (S := [277, 279, 280, 281, 282, 283, 284, 285, 286, 287, 288, 289, 290, 291, 292]) (o := 0) (F := []) (W := W) (by repeat (first | exact fw_sm_refl | exact fw_sm_put0 | refine fw_sm_arr ?_ rfl | refine fw_sm_up ?_ rfl | refine fw_sm_put ?_ rfl | refine fw_sm_cp ?_ rfl | refine fw_sm_upr ?_ rfl)) (lm_k_measureX_6 q hgh hpre hP _ _ _ rfl ?_); (rename_i f1 h1; exact ⟨by omega, h1, fun a b a0 a1 => by omega⟩))
      | (refine jf_put (S := [277, 279, 280, 281, 282, 283, 284, 285, 286, 287, 288, 289, 290, 291, 292]) (o := 0) (F := []) (W := W) (by repeat (first | exact fw_sm_refl | exact fw_sm_put0 | refine fw_sm_arr ?_ rfl | refine fw_sm_up ?_ rfl | refine fw_sm_put ?_ rfl | refine fw_sm_cp ?_ rfl | refine fw_sm_upr ?_ rfl)) (lm_k_measureX_35 q hgh hpre hP M6 h6 _ _ _ _ _ rfl ?_ (by omega)); (first | omega | trivial | (simp (config := { decide := true }) only [fg_in, fg_fin, fg_out, fg_fout, fg_up, fg_same, true_and, and_true] <;> omega)))
      | (refine hP _ (by repeat (first | exact fw_sm_refl | exact fw_sm_put0 | refine fw_sm_arr ?_ rfl | refine fw_sm_up ?_ rfl | refine fw_sm_put ?_ rfl | refine fw_sm_cp ?_ rfl | refine fw_sm_upr ?_ rfl)) ?_; (
        have hN : i = (fw_g W 272 0) := by omega
        refine ⟨fun u t u0 u1 t0 t1 => ?_, hi.2.1⟩
        obtain ⟨a, a0, a1, rfl⟩ := zo_s hgh.1.2 u0 u1
        obtain ⟨b, b0, b1, rfl⟩ := zo_s hgh.1.2 t0 t1
        exact (fr_in rfl (by omega) (by omega)).trans (hi.2.2 a b a0 (by omega) b0 (by omega))))
      | omega
      | (intro _))
  · exact hx.elim

