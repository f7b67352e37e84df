/-! the class, the laws tried, exactly -/
def ct_k_wwcX : List (Nat × fw_X) := [(79, x_k_priceX), (80, x_k_serveX)]
theorem ct_k_wwcX_ok (d : Nat) : fw_cok fw_T (d + 2) ct_k_wwcX := by
  intro q hq as W Q h
  simp only [ct_k_wwcX, List.mem_cons, List.not_mem_nil, or_false] at hq
  rcases hq with rfl | rfl
  · exact jc_of (x_k_priceX_ok (d + 1) as W Q h)
  · exact jc_of (x_k_serveX_ok (d + 0) as W Q h)
theorem s_k_wwcX_0 {Post : Option fw_V → fw_W → Prop} {d : Nat} {W : fw_W} {dd : Int}
    (hw_ : (0 ≤ (fw_g W 272 0) → (fw_g W 272 0) ≤ 14 → ((¬ (fw_g W 272 0) = 0 → jf fw_T (d + 3) 78 16 [(0, .inr (.inl 296)), (1, .inl dd), (2, .inl (0 : Int)), (3, .inl (0 : Int))] [] W Post) ∧ ((fw_g W 272 0) = 0 → (-2147483648 ≤ (0 : Int) → (0 : Int) ≤ 2147483647 → Post (some (.inl (0 : Int))) W))))) :
    jf fw_T (d + 3) 78 0 [(0, .inr (.inl 296)), (1, .inl dd)] [] W Post := fw_ok (n := 9) (ss := [(16, [0, 1, 2, 3]), (43, [0, 1, 2, 3, 4]), (92, [0, 1, 2, 3])]) (hv := []) fr_78_ok fv_tryx_ok (ct_k_wwcX_ok d) hw_

theorem s_k_wwcX_43_n4 {Post : Option fw_V → fw_W → Prop} {d : Nat} {W : fw_W} {dd se h wa r1 : Int} {f : fw_W}
    (hw_ : -2147483648 ≤ wa + (1 : Int) ∧ wa + (1 : Int) ≤ 2147483647 ∧ (jf fw_T (d + 3) 78 43 [(0, .inr (.inl 296)), (1, .inl dd), (2, .inl se), (3, .inl h), (4, .inl (wa + (1 : Int)))] [] (fw_upr (fw_put [301, 303, 304, 305, 306, 307, 308, 309, 310, 311, 312, 313, 314, 315, 316] 0 [] W f) 302 h wa r1) Post)) :
    jf fw_T (d + 3) 78 70 [(0, .inr (.inl 296)), (1, .inl dd), (2, .inl se), (3, .inl h), (4, .inl wa)] [] (fw_upr (fw_put [301, 303, 304, 305, 306, 307, 308, 309, 310, 311, 312, 313, 314, 315, 316] 0 [] W f) 302 h wa r1) Post := fw_ok (n := 3) (ss := [(16, [0, 1, 2, 3]), (43, [0, 1, 2, 3, 4]), (92, [0, 1, 2, 3])]) (hv := []) fr_78_ok fv_tryx_ok (ct_k_wwcX_ok d) hw_

theorem s_k_wwcX_43_l3 {Post : Option fw_V → fw_W → Prop} {d : Nat} {W : fw_W} {dd se h wa r1 : Int} {f : fw_W}
    (hw_ : 0 ≤ h ∧ h < 14 ∧ 0 ≤ wa ∧ wa < 14 ∧ (-2147483648 ≤ wa + (1 : Int) ∧ wa + (1 : Int) ≤ 2147483647 ∧ (jf fw_T (d + 3) 78 43 [(0, .inr (.inl 296)), (1, .inl dd), (2, .inl se), (3, .inl h), (4, .inl (wa + (1 : Int)))] [] (fw_upr (fw_put [301, 303, 304, 305, 306, 307, 308, 309, 310, 311, 312, 313, 314, 315, 316] 0 [] W f) 302 h wa r1) Post))) :
    jf fw_T (d + 3) 78 69 [(0, .inr (.inl 296)), (1, .inl dd), (2, .inl se), (3, .inl h), (4, .inl wa)] [.inl r1, .inl wa, .inr (.inl (fw_rc 302 h))] (fw_put [301, 303, 304, 305, 306, 307, 308, 309, 310, 311, 312, 313, 314, 315, 316] 0 [] W f) Post := jf_ias (j := 37) kr_302 fr_78_ok rfl ⟨hw_.1, hw_.2.1, hw_.2.2.1, hw_.2.2.2.1, s_k_wwcX_43_n4 hw_.2.2.2.2⟩

theorem s_k_wwcX_43_n2 {Post : Option fw_V → fw_W → Prop} {d : Nat} {W : fw_W} {dd se h wa : Int} {f : fw_W}
    (hw_ : (0 ≤ wa ∧ wa < 14 ∧ (fw_g W 297 wa) = 0) ∧ (∀ (r1 : Int), ((-2147483648 ≤ r1 ∧ r1 ≤ 2147483647 ∧ (r1 = 1))) → 0 ≤ h ∧ h < 14 ∧ 0 ≤ wa ∧ wa < 14 ∧ (-2147483648 ≤ wa + (1 : Int) ∧ wa + (1 : Int) ≤ 2147483647 ∧ (jf fw_T (d + 3) 78 43 [(0, .inr (.inl 296)), (1, .inl dd), (2, .inl se), (3, .inl h), (4, .inl (wa + (1 : Int)))] [] (fw_upr (fw_put [301, 303, 304, 305, 306, 307, 308, 309, 310, 311, 312, 313, 314, 315, 316] 0 [] W f) 302 h wa r1) Post)))) :
    jf fw_T (d + 3) 78 61 [(0, .inr (.inl 296)), (1, .inl dd), (2, .inl se), (3, .inl h), (4, .inl wa)] [.inr (.inl (fw_rc 302 h))] (fw_put [301, 303, 304, 305, 306, 307, 308, 309, 310, 311, 312, 313, 314, 315, 316] 0 [] W f) Post := by
  refine fw_ok (n := 5) (ss := [(16, [0, 1, 2, 3]), (43, [0, 1, 2, 3, 4]), (69, [0, 1, 2, 3, 4]), (92, [0, 1, 2, 3])]) (hv := []) fr_78_ok fv_tryx_ok (ct_k_wwcX_ok d) ?_
  show (0 ≤ wa ∧ wa < 14 ∧ (fw_g W 297 wa) = 0) ∧ (∀ (r1 : Int), ((-2147483648 ≤ r1 ∧ r1 ≤ 2147483647 ∧ (r1 = 1))) → jf fw_T (d + 3) 78 69 [(0, .inr (.inl 296)), (1, .inl dd), (2, .inl se), (3, .inl h), (4, .inl wa)] [.inl r1, .inl wa, .inr (.inl (fw_rc 302 h))] (fw_put [301, 303, 304, 305, 306, 307, 308, 309, 310, 311, 312, 313, 314, 315, 316] 0 [] W f) Post)
  revert hw_
  repeat' (first | (refine And.imp ?_ ?_) | (refine rw_imp ?_) | (refine rw_all ?_; intro _) | exact s_k_wwcX_43_l3 | exact fun x_ => x_)

theorem s_k_wwcX_43_l1 {Post : Option fw_V → fw_W → Prop} {d : Nat} {W : fw_W} {dd se h wa : Int} {f : fw_W}
    (hw_ : 0 ≤ h ∧ h < 14 ∧ ((0 ≤ wa ∧ wa < 14 ∧ (fw_g W 297 wa) = 0) ∧ (∀ (r1 : Int), ((-2147483648 ≤ r1 ∧ r1 ≤ 2147483647 ∧ (r1 = 1))) → 0 ≤ h ∧ h < 14 ∧ 0 ≤ wa ∧ wa < 14 ∧ (-2147483648 ≤ wa + (1 : Int) ∧ wa + (1 : Int) ≤ 2147483647 ∧ (jf fw_T (d + 3) 78 43 [(0, .inr (.inl 296)), (1, .inl dd), (2, .inl se), (3, .inl h), (4, .inl (wa + (1 : Int)))] [] (fw_upr (fw_put [301, 303, 304, 305, 306, 307, 308, 309, 310, 311, 312, 313, 314, 315, 316] 0 [] W f) 302 h wa r1) Post))))) :
    jf fw_T (d + 3) 78 60 [(0, .inr (.inl 296)), (1, .inl dd), (2, .inl se), (3, .inl h), (4, .inl wa)] [.inl h, .inr (.inl 302)] (fw_put [301, 303, 304, 305, 306, 307, 308, 309, 310, 311, 312, 313, 314, 315, 316] 0 [] W f) Post := jf_aal (j := 32) kr_302 fr_78_ok rfl ⟨hw_.1, hw_.2.1, s_k_wwcX_43_n2 hw_.2.2⟩

theorem s_k_wwcX_43 {Post : Option fw_V → fw_W → Prop} {d : Nat} {W : fw_W} {dd se h wa : Int} {f : fw_W}
    (hw_ : (0 ≤ (fw_g W 272 0) → (fw_g W 272 0) ≤ 14 → (((fw_g W 272 0) ≤ wa → -2147483648 ≤ h + (1 : Int) ∧ h + (1 : Int) ≤ 2147483647 ∧ (jf fw_T (d + 3) 78 16 [(0, .inr (.inl 296)), (1, .inl dd), (2, .inl se), (3, .inl (h + (1 : Int)))] [] (fw_put [301, 303, 304, 305, 306, 307, 308, 309, 310, 311, 312, 313, 314, 315, 316] 0 [] W f) Post)) ∧ (wa < (fw_g W 272 0) → 0 ≤ h ∧ h < 14 ∧ ((0 ≤ wa ∧ wa < 14 ∧ (fw_g W 297 wa) = 0) ∧ (∀ (r1 : Int), ((-2147483648 ≤ r1 ∧ r1 ≤ 2147483647 ∧ (r1 = 1))) → 0 ≤ h ∧ h < 14 ∧ 0 ≤ wa ∧ wa < 14 ∧ (-2147483648 ≤ wa + (1 : Int) ∧ wa + (1 : Int) ≤ 2147483647 ∧ (jf fw_T (d + 3) 78 43 [(0, .inr (.inl 296)), (1, .inl dd), (2, .inl se), (3, .inl h), (4, .inl (wa + (1 : Int)))] [] (fw_upr (fw_put [301, 303, 304, 305, 306, 307, 308, 309, 310, 311, 312, 313, 314, 315, 316] 0 [] W f) 302 h wa r1) Post)))))))) :
    jf fw_T (d + 3) 78 43 [(0, .inr (.inl 296)), (1, .inl dd), (2, .inl se), (3, .inl h), (4, .inl wa)] [] (fw_put [301, 303, 304, 305, 306, 307, 308, 309, 310, 311, 312, 313, 314, 315, 316] 0 [] W f) Post := by
  refine fw_ok (n := 9) (ss := [(16, [0, 1, 2, 3]), (43, [0, 1, 2, 3, 4]), (60, [0, 1, 2, 3, 4]), (92, [0, 1, 2, 3])]) (hv := []) fr_78_ok fv_tryx_ok (ct_k_wwcX_ok d) ?_
  show (0 ≤ (fw_g W 272 0) → (fw_g W 272 0) ≤ 14 → (((fw_g W 272 0) ≤ wa → -2147483648 ≤ h + (1 : Int) ∧ h + (1 : Int) ≤ 2147483647 ∧ (jf fw_T (d + 3) 78 16 [(0, .inr (.inl 296)), (1, .inl dd), (2, .inl se), (3, .inl (h + (1 : Int)))] [] (fw_put [301, 303, 304, 305, 306, 307, 308, 309, 310, 311, 312, 313, 314, 315, 316] 0 [] W f) Post)) ∧ (wa < (fw_g W 272 0) → jf fw_T (d + 3) 78 60 [(0, .inr (.inl 296)), (1, .inl dd), (2, .inl se), (3, .inl h), (4, .inl wa)] [.inl h, .inr (.inl 302)] (fw_put [301, 303, 304, 305, 306, 307, 308, 309, 310, 311, 312, 313, 314, 315, 316] 0 [] W f) Post)))
  revert hw_
  repeat' (first | (refine And.imp ?_ ?_) | (refine rw_imp ?_) | (refine rw_all ?_; intro _) | exact s_k_wwcX_43_l1 | exact fun x_ => x_)

theorem s_k_wwcX_92 {Post : Option fw_V → fw_W → Prop} {d : Nat} {W : fw_W} {dd se h : Int} {f : fw_W}
    (hw_ : ((h < 0 → 0 ≤ (0 : Int) ∧ (0 : Int) < 14 ∧ (-2147483648 ≤ (fw_g f 301 (0 : Int)) → (fw_g f 301 (0 : Int)) ≤ 2147483647 → -2147483648 ≤ se + (fw_g f 301 (0 : Int)) ∧ se + (fw_g f 301 (0 : Int)) ≤ 2147483647 ∧ ((-2147483648 ≤ (se + (fw_g f 301 (0 : Int))) → (se + (fw_g f 301 (0 : Int))) ≤ 2147483647 → Post (some (.inl (se + (fw_g f 301 (0 : Int))))) (fw_put [301, 303, 304, 305, 306, 307, 308, 309, 310, 311, 312, 313, 314, 315, 316] 0 [] W f))))) ∧ (0 ≤ h → 0 ≤ h ∧ h < 14 ∧ (0 ≤ (fw_g W 277 h) → (fw_g W 277 h) ≤ 13 → ∃ (q_1 : List Nat), ∃ (k_2 : Int), ((qok ((fw_g W 272 0)).toNat q_1 = true ∧ qk2 ((fw_g W 272 0)).toNat q_1 = true) ∧ 2 ≤ (fw_g W 272 0) ∧ (fw_g W 272 0) ≤ 6 ∧ (∀ x_, 1 ≤ x_ → x_ < (fw_g W 272 0) → (fw_g W 273 x_) = ((qp q_1 x_.toNat : Nat) : Int)) ∧ 0 ≤ k_2 ∧ k_2 < (fw_g W 272 0)) ∧ ((dd = 1 ∧ (fw_g W 277 h) = zo q_1 ((fw_g W 272 0)) ((fw_g W 272 0) - 1 - k_2)) ∧ (∀ u_ t_, 0 ≤ u_ → u_ < (fw_g W 272 0) → 0 ≤ t_ → t_ < (fw_g W 272 0) → fw_g (fw_put [301, 303, 304, 305, 306, 307, 308, 309, 310, 311, 312, 313, 314, 315, 316] 0 [] W f) (fw_rc 278 u_) t_ = zD q_1 u_ t_) ∧ (∀ x_, 0 ≤ x_ → x_ < 14 → (fw_g W 297 x_) = 0) ∧ (fw_g W 273 0) = -1 ∧ (∀ a_ w_, 0 ≤ a_ → a_ < (fw_g W 272 0) → 0 ≤ w_ → w_ < (fw_g W 272 0) → fw_g (fw_put [301, 303, 304, 305, 306, 307, 308, 309, 310, 311, 312, 313, 314, 315, 316] 0 [] W f) (fw_rc 302 a_) w_ = ztb q_1 ((fw_g W 272 0)) (k_2) a_ w_ + 1)) ∧ (∀ (f3 : fw_W), (((∀ a_ w_, 0 ≤ a_ → a_ < (fw_g W 272 0) → 0 ≤ w_ → w_ < (fw_g W 272 0) → fw_g f3 (fw_rc 302 a_) w_ = ztb q_1 ((fw_g W 272 0)) (k_2 + 1) a_ w_ + 1) ∧ (fw_g f3 301 (fw_g W 277 h)) = zfm q_1 ((fw_g W 272 0)) k_2 (fw_g W 277 h) ((fw_g W 272 0)) + 1)) → -2147483648 ≤ h + (-1 : Int) ∧ h + (-1 : Int) ≤ 2147483647 ∧ (jf fw_T (d + 3) 78 92 [(0, .inr (.inl 296)), (1, .inl dd), (2, .inl se), (3, .inl (h + (-1 : Int)))] [] (fw_put [301, 303, 304, 305, 306, 307, 308, 309, 310, 311, 312, 313, 314, 315, 316] 0 [] (fw_put [301, 303, 304, 305, 306, 307, 308, 309, 310, 311, 312, 313, 314, 315, 316] 0 [] W f) f3) Post)))))) :
    jf fw_T (d + 3) 78 92 [(0, .inr (.inl 296)), (1, .inl dd), (2, .inl se), (3, .inl h)] [] (fw_put [301, 303, 304, 305, 306, 307, 308, 309, 310, 311, 312, 313, 314, 315, 316] 0 [] W f) Post := fw_ok (n := 13) (ss := [(16, [0, 1, 2, 3]), (43, [0, 1, 2, 3, 4]), (92, [0, 1, 2, 3])]) (hv := []) fr_78_ok fv_tryx_ok (ct_k_wwcX_ok d) hw_

theorem s_k_wwcX_16 {Post : Option fw_V → fw_W → Prop} {d : Nat} {W : fw_W} {dd se h : Int} {f : fw_W}
    (hw_ : (0 ≤ (fw_g W 272 0) → (fw_g W 272 0) ≤ 14 → (((fw_g W 272 0) ≤ h → (0 ≤ (fw_g W 272 0) → (fw_g W 272 0) ≤ 14 → -2147483648 ≤ (fw_g W 272 0) - (1 : Int) ∧ (fw_g W 272 0) - (1 : Int) ≤ 2147483647 ∧ (jf fw_T (d + 3) 78 92 [(0, .inr (.inl 296)), (1, .inl dd), (2, .inl se), (3, .inl ((fw_g W 272 0) - (1 : Int)))] [] (fw_put [301, 303, 304, 305, 306, 307, 308, 309, 310, 311, 312, 313, 314, 315, 316] 0 [] W f) Post))) ∧ (h < (fw_g W 272 0) → 0 ≤ h ∧ h < 14 ∧ (-2147483648 ≤ (fw_g W 297 h) → (fw_g W 297 h) ≤ 2147483647 → ((¬ (fw_g W 297 h) = (1 : Int) → jf fw_T (d + 3) 78 43 [(0, .inr (.inl 296)), (1, .inl dd), (2, .inl se), (3, .inl h), (4, .inl (0 : Int))] [] (fw_put [301, 303, 304, 305, 306, 307, 308, 309, 310, 311, 312, 313, 314, 315, 316] 0 [] W f) Post) ∧ ((fw_g W 297 h) = (1 : Int) → -2147483648 ≤ se + (1 : Int) ∧ se + (1 : Int) ≤ 2147483647 ∧ (jf fw_T (d + 3) 78 43 [(0, .inr (.inl 296)), (1, .inl dd), (2, .inl (se + (1 : Int))), (3, .inl h), (4, .inl (0 : Int))] [] (fw_put [301, 303, 304, 305, 306, 307, 308, 309, 310, 311, 312, 313, 314, 315, 316] 0 [] W f) Post)))))))) :
    jf fw_T (d + 3) 78 16 [(0, .inr (.inl 296)), (1, .inl dd), (2, .inl se), (3, .inl h)] [] (fw_put [301, 303, 304, 305, 306, 307, 308, 309, 310, 311, 312, 313, 314, 315, 316] 0 [] W f) Post := fw_ok (n := 15) (ss := [(16, [0, 1, 2, 3]), (43, [0, 1, 2, 3, 4]), (92, [0, 1, 2, 3])]) (hv := []) fr_78_ok fv_tryx_ok (ct_k_wwcX_ok d) hw_

theorem lm_k_wwcX_43 {Post : Option fw_V → fw_W → Prop} {d : Nat} {W : fw_W} {dd : Int} (q : List Nat) (hgh : (qok ((fw_g W 272 0)).toNat q = true ∧ qk2 ((fw_g W 272 0)).toNat q = true) ∧ 2 ≤ (fw_g W 272 0) ∧ (fw_g W 272 0) ≤ 6 ∧ (∀ x_, 1 ≤ x_ → x_ < (fw_g W 272 0) → (fw_g W 273 x_) = ((qp q x_.toNat : Nat) : Int))) (hpre : dd = 1 ∧ (∀ u_ t_, 0 ≤ u_ → u_ < (fw_g W 272 0) → 0 ≤ t_ → t_ < (fw_g W 272 0) → fw_g W (fw_rc 278 u_) t_ = zD q u_ t_) ∧ (∀ x_, 0 ≤ x_ → x_ < 14 → (fw_g W 297 x_) = 0) ∧ (fw_g W 273 0) = -1 ∧ (∀ j_, 0 ≤ j_ → j_ < (fw_g W 272 0) → (fw_g W 277 j_) = zo q ((fw_g W 272 0)) j_)) (hP : ∀ (v : Int) (W2 : fw_W), fw_sm [301, 303, 304, 305, 306, 307, 308, 309, 310, 311, 312, 313, 314, 315, 316] 0 [] W W2 → (-2147483648 ≤ v ∧ v ≤ 2147483647 ∧ (v = zfm q ((fw_g W 272 0)) ((fw_g W 272 0) - 1) 0 ((fw_g W 272 0)) + 1)) → Post (some (.inl v)) W2) (M16 : Int) (h16 : ∀ (se h : Int) (f : fw_W), ((0 ≤ h ∧ h ≤ (fw_g W 272 0) ∧ se = 0) ∧ (∀ a_ w_, 0 ≤ a_ → a_ < h → 0 ≤ w_ → w_ < (fw_g W 272 0) → (fw_g f (fw_rc 302 (a_)) (w_)) = 1)) → ((fw_g W 272 0) - h) < M16 → jf fw_T (d + 3) 78 16 [(0, .inr (.inl 296)), (1, .inl dd), (2, .inl se), (3, .inl h)] [] (fw_put [301, 303, 304, 305, 306, 307, 308, 309, 310, 311, 312, 313, 314, 315, 316] 0 [] W f) Post) : ∀ (m : Nat) (se h wa : Int) (f : fw_W), ((fw_g W 272 0) - wa).toNat = m → ((0 ≤ wa ∧ wa ≤ (fw_g W 272 0) ∧ 0 ≤ h ∧ h < (fw_g W 272 0) ∧ se = 0) ∧ (∀ a_ w_, 0 ≤ a_ → a_ < h → 0 ≤ w_ → w_ < (fw_g W 272 0) → (fw_g f (fw_rc 302 (a_)) (w_)) = 1) ∧ (∀ w_, 0 ≤ w_ → w_ < wa → (fw_g f (fw_rc 302 (h)) (w_)) = 1)) → ((fw_g W 272 0) - h) ≤ M16 → jf fw_T (d + 3) 78 43 [(0, .inr (.inl 296)), (1, .inl dd), (2, .inl se), (3, .inl h), (4, .inl wa)] [] (fw_put [301, 303, 304, 305, 306, 307, 308, 309, 310, 311, 312, 313, 314, 315, 316] 0 [] W f) Post := by
  intro m
  induction m using Nat.strongRecOn with
  | ind m ih =>
    intro se h wa f hm hi e16
    refine jf_rng (fun hrg => ?_)
    have hrg : -2147483648 ≤ dd ∧ dd ≤ 2147483647 ∧ -2147483648 ≤ se ∧ se ≤ 2147483647 ∧ -2147483648 ≤ h ∧ h ≤ 2147483647 ∧ -2147483648 ≤ wa ∧ wa ≤ 2147483647 ∧ True := hrg
    refine s_k_wwcX_43 ?_
    have n2 := hgh.2.1
    have n6 := hgh.2.2.1
    have hi1 := hi.1
    have c0 : wa < (fw_g W 272 0) → (fw_g W 297 wa) = 0 := fun z => hpre.2.2.1 wa hi1.1 (by omega)
    repeat' (first
      | (exact True.intro)
      | (exact hpre.1)
      | (refine And.intro ?_ ?_)
      | (refine (h16 _ _ _ ?_ (by omega)); (
        refine ⟨by omega, fun a w a0 a1 w0 w1 => ?_⟩
        by_cases e : a = h
        · rw [e]; exact hi.2.2 w w0 (by omega)
        · exact hi.2.1 a w a0 (by omega) w0 w1))
      | (refine jf_put (S := [301, 303, 304, 305, 306, 307, 308, 309, 310, 311, 312, 313, 314, 315, 316]) (o := 0) (F := []) (W := W) (by repeat (first | exact fw_sm_refl | exact fw_sm_put0 | refine fw_sm_arr ?_ rfl | refine fw_sm_up ?_ rfl | refine fw_sm_put ?_ rfl | refine fw_sm_cp ?_ rfl | refine fw_sm_upr ?_ rfl)) (h16 _ _ _ ?_ (by omega)); (
        refine ⟨by omega, fun a w a0 a1 w0 w1 => ?_⟩
        by_cases e : a = h
        · rw [e]; exact hi.2.2 w w0 (by omega)
        · exact hi.2.1 a w a0 (by omega) w0 w1))
      | (refine (ih _ (by omega) _ _ _ _ rfl ?_ (by omega)); (
        rename_i r1 hr1
        refine ⟨by omega, fun a w a0 a1 w0 w1 => ?_, fun w w0 w1 => ?_⟩
        · rw [fr_if (by omega) (by omega) (by omega) (by omega) (by omega) (by omega) (by omega) (by omega), if_neg (fun y => by omega), fr_in rfl (by omega) (by omega)]
          exact hi.2.1 a w a0 a1 w0 w1
        · rw [fr_if (by omega) (by omega) (by omega) (by omega) (by omega) (by omega) (by omega) (by omega)]
          by_cases e : wa = w
          · rw [if_pos ⟨rfl, e⟩]; exact hr1.2.2
          · rw [if_neg (fun y => e y.2), fr_in rfl (by omega) (by omega)]
            exact hi.2.2 w w0 (by omega)))
      | (refine jf_put (S := [301, 303, 304, 305, 306, 307, 308, 309, 310, 311, 312, 313, 314, 315, 316]) (o := 0) (F := []) (W := W) (by repeat (first | exact fw_sm_refl | exact fw_sm_put0 | refine fw_sm_arr ?_ rfl | refine fw_sm_up ?_ rfl | refine fw_sm_put ?_ rfl | refine fw_sm_cp ?_ rfl | refine fw_sm_upr ?_ rfl)) (ih _ (by omega) _ _ _ _ rfl ?_ (by omega)); (
        rename_i r1 hr1
        refine ⟨by omega, fun a w a0 a1 w0 w1 => ?_, fun w w0 w1 => ?_⟩
        · rw [fr_if (by omega) (by omega) (by omega) (by omega) (by omega) (by omega) (by omega) (by omega), if_neg (fun y => by omega), fr_in rfl (by omega) (by omega)]
          exact hi.2.1 a w a0 a1 w0 w1
        · rw [fr_if (by omega) (by omega) (by omega) (by omega) (by omega) (by omega) (by omega) (by omega)]
          by_cases e : wa = w
          · rw [if_pos ⟨rfl, e⟩]; exact hr1.2.2
          · rw [if_neg (fun y => e y.2), fr_in rfl (by omega) (by omega)]
            exact hi.2.2 w w0 (by omega)))
      | (refine hP _ _ (by repeat (first | exact fw_sm_refl | exact fw_sm_put0 | refine fw_sm_arr ?_ rfl | refine fw_sm_up ?_ rfl | refine fw_sm_put ?_ rfl | refine fw_sm_cp ?_ rfl | refine fw_sm_upr ?_ rfl)) ?_; (refine ⟨by omega, by omega, ?_⟩; (
        have e := hi.2.2 (by omega)
        omega)))
      | omega
      | (intro _))
theorem lm_k_wwcX_92 {Post : Option fw_V → fw_W → Prop} {d : Nat} {W : fw_W} {dd : Int} (q : List Nat) (hgh : (qok ((fw_g W 272 0)).toNat q = true ∧ qk2 ((fw_g W 272 0)).toNat q = true) ∧ 2 ≤ (fw_g W 272 0) ∧ (fw_g W 272 0) ≤ 6 ∧ (∀ x_, 1 ≤ x_ → x_ < (fw_g W 272 0) → (fw_g W 273 x_) = ((qp q x_.toNat : Nat) : Int))) (hpre : dd = 1 ∧ (∀ u_ t_, 0 ≤ u_ → u_ < (fw_g W 272 0) → 0 ≤ t_ → t_ < (fw_g W 272 0) → fw_g W (fw_rc 278 u_) t_ = zD q u_ t_) ∧ (∀ x_, 0 ≤ x_ → x_ < 14 → (fw_g W 297 x_) = 0) ∧ (fw_g W 273 0) = -1 ∧ (∀ j_, 0 ≤ j_ → j_ < (fw_g W 272 0) → (fw_g W 277 j_) = zo q ((fw_g W 272 0)) j_)) (hP : ∀ (v : Int) (W2 : fw_W), fw_sm [301, 303, 304, 305, 306, 307, 308, 309, 310, 311, 312, 313, 314, 315, 316] 0 [] W W2 → (-2147483648 ≤ v ∧ v ≤ 2147483647 ∧ (v = zfm q ((fw_g W 272 0)) ((fw_g W 272 0) - 1) 0 ((fw_g W 272 0)) + 1)) → Post (some (.inl v)) W2)  : ∀ (m : Nat) (se h : Int) (f : fw_W), (h + 1).toNat = m → ((-1 ≤ h ∧ h < (fw_g W 272 0) ∧ se = 0) ∧ (∀ a_ w_, 0 ≤ a_ → a_ < (fw_g W 272 0) → 0 ≤ w_ → w_ < (fw_g W 272 0) → fw_g f (fw_rc 302 a_) w_ = ztb q ((fw_g W 272 0)) ((fw_g W 272 0) - 1 - h) a_ w_ + 1) ∧ (h = -1 → (fw_g f 301 0) = zfm q ((fw_g W 272 0)) ((fw_g W 272 0) - 1) 0 ((fw_g W 272 0)) + 1)) → jf fw_T (d + 3) 78 92 [(0, .inr (.inl 296)), (1, .inl dd), (2, .inl se), (3, .inl h)] [] (fw_put [301, 303, 304, 305, 306, 307, 308, 309, 310, 311, 312, 313, 314, 315, 316] 0 [] W f) Post := by
  intro m
  induction m using Nat.strongRecOn with
  | ind m ih =>
    intro se h f hm hi
    refine jf_rng (fun hrg => ?_)
    have hrg : -2147483648 ≤ dd ∧ dd ≤ 2147483647 ∧ -2147483648 ≤ se ∧ se ≤ 2147483647 ∧ -2147483648 ≤ h ∧ h ≤ 2147483647 ∧ True := hrg
    refine s_k_wwcX_92 ?_
    have n2 := hgh.2.1
    have n6 := hgh.2.2.1
    have hi1 := hi.1
    have fb := zf_b q ((fw_g W 272 0)) ((fw_g W 272 0) - 1) 0 ((fw_g W 272 0))
    have oo : 0 ≤ h → (fw_g W 277 h) = zo q ((fw_g W 272 0)) h := fun z => hpre.2.2.2.2 h z (by omega)
    repeat' (first
      | (refine ⟨q, ((fw_g W 272 0)) - 1 - h, ⟨hgh.1, hgh.2.1, hgh.2.2.1, hgh.2.2.2, by omega, by omega⟩, ⟨⟨hpre.1, ?_⟩, ?_, hpre.2.2.1, hpre.2.2.2.1, ?_⟩, ?_⟩; (exact (oo (by omega)).trans (by rw [show ((fw_g W 272 0)) - 1 - (((fw_g W 272 0)) - 1 - h) = h by omega])); (exact fun u t u0 u1 t0 t1 => (fr_out rfl (by omega) (by omega)).trans (hpre.2.1 u t u0 u1 t0 t1)); (exact fun a w a0 a1 w0 w1 => (fr_in rfl (by omega) (by omega)).trans (hi.2.1 a w a0 a1 w0 w1)))
      | (exact True.intro)
      | (exact hpre.1)
      | (refine And.intro ?_ ?_)
      | (refine (ih _ (by omega) _ _ _ rfl ?_); (
        rename_i f2 h2
        refine ⟨by omega, fun a w a0 a1 w0 w1 => ?_, fun z => ?_⟩
        · rw [show ((fw_g W 272 0)) - 1 - (h + -1) = ((fw_g W 272 0)) - 1 - h + 1 by omega]
          exact (fr_in rfl (by omega) (by omega)).trans (h2.1 a w a0 a1 w0 w1)
        · have e0 : h = 0 := by omega
          subst e0
          have o0 := oo (by omega)
          have z0 := (zo_b hgh.1.2 (i := 0) (by omega) (by omega)).2.2.1 rfl
          have e := h2.2
          rw [o0, z0, show ((fw_g W 272 0)) - 1 - 0 = ((fw_g W 272 0)) - 1 by omega] at e
          exact e))
      | (refine jf_put (S := [301, 303, 304, 305, 306, 307, 308, 309, 310, 311, 312, 313, 314, 315, 316]) (o := 0) (F := []) (W := W) (by repeat (first | exact fw_sm_refl | exact fw_sm_put0 | refine fw_sm_arr ?_ rfl | refine fw_sm_up ?_ rfl | refine fw_sm_put ?_ rfl | refine fw_sm_cp ?_ rfl | refine fw_sm_upr ?_ rfl)) (ih _ (by omega) _ _ _ rfl ?_); (
        rename_i f2 h2
        refine ⟨by omega, fun a w a0 a1 w0 w1 => ?_, fun z => ?_⟩
        · rw [show ((fw_g W 272 0)) - 1 - (h + -1) = ((fw_g W 272 0)) - 1 - h + 1 by omega]
          exact (fr_in rfl (by omega) (by omega)).trans (h2.1 a w a0 a1 w0 w1)
        · have e0 : h = 0 := by omega
          subst e0
          have o0 := oo (by omega)
          have z0 := (zo_b hgh.1.2 (i := 0) (by omega) (by omega)).2.2.1 rfl
          have e := h2.2
          rw [o0, z0, show ((fw_g W 272 0)) - 1 - 0 = ((fw_g W 272 0)) - 1 by omega] at e
          exact e))
      | (refine hP _ _ (by repeat (first | exact fw_sm_refl | exact fw_sm_put0 | refine fw_sm_arr ?_ rfl | refine fw_sm_up ?_ rfl | refine fw_sm_put ?_ rfl | refine fw_sm_cp ?_ rfl | refine fw_sm_upr ?_ rfl)) ?_; (refine ⟨by omega, by omega, ?_⟩; (
        have e := hi.2.2 (by omega)
        omega)))
      | omega
      | (intro _))
theorem lm_k_wwcX_16 {Post : Option fw_V → fw_W → Prop} {d : Nat} {W : fw_W} {dd : Int} (q : List Nat) (hgh : (qok ((fw_g W 272 0)).toNat q = true ∧ qk2 ((fw_g W 272 0)).toNat q = true) ∧ 2 ≤ (fw_g W 272 0) ∧ (fw_g W 272 0) ≤ 6 ∧ (∀ x_, 1 ≤ x_ → x_ < (fw_g W 272 0) → (fw_g W 273 x_) = ((qp q x_.toNat : Nat) : Int))) (hpre : dd = 1 ∧ (∀ u_ t_, 0 ≤ u_ → u_ < (fw_g W 272 0) → 0 ≤ t_ → t_ < (fw_g W 272 0) → fw_g W (fw_rc 278 u_) t_ = zD q u_ t_) ∧ (∀ x_, 0 ≤ x_ → x_ < 14 → (fw_g W 297 x_) = 0) ∧ (fw_g W 273 0) = -1 ∧ (∀ j_, 0 ≤ j_ → j_ < (fw_g W 272 0) → (fw_g W 277 j_) = zo q ((fw_g W 272 0)) j_)) (hP : ∀ (v : Int) (W2 : fw_W), fw_sm [301, 303, 304, 305, 306, 307, 308, 309, 310, 311, 312, 313, 314, 315, 316] 0 [] W W2 → (-2147483648 ≤ v ∧ v ≤ 2147483647 ∧ (v = zfm q ((fw_g W 272 0)) ((fw_g W 272 0) - 1) 0 ((fw_g W 272 0)) + 1)) → Post (some (.inl v)) W2)  : ∀ (m : Nat) (se h : Int) (f : fw_W), ((fw_g W 272 0) - h).toNat = m → ((0 ≤ h ∧ h ≤ (fw_g W 272 0) ∧ se = 0) ∧ (∀ a_ w_, 0 ≤ a_ → a_ < h → 0 ≤ w_ → w_ < (fw_g W 272 0) → (fw_g f (fw_rc 302 (a_)) (w_)) = 1)) → jf fw_T (d + 3) 78 16 [(0, .inr (.inl 296)), (1, .inl dd), (2, .inl se), (3, .inl h)] [] (fw_put [301, 303, 304, 305, 306, 307, 308, 309, 310, 311, 312, 313, 314, 315, 316] 0 [] W f) Post := by
  intro m
  induction m using Nat.strongRecOn with
  | ind m ih =>
    intro se h f hm hi
    refine jf_rng (fun hrg => ?_)
    have hrg : -2147483648 ≤ dd ∧ dd ≤ 2147483647 ∧ -2147483648 ≤ se ∧ se ≤ 2147483647 ∧ -2147483648 ≤ h ∧ h ≤ 2147483647 ∧ True := hrg
    refine s_k_wwcX_16 ?_
    have n2 := hgh.2.1
    have n6 := hgh.2.2.1
    have hi1 := hi.1
    have c0 : h < (fw_g W 272 0) → (fw_g W 297 h) = 0 := fun z => hpre.2.2.1 h hi1.1 (by omega)
    repeat' (first
      | (exact True.intro)
      | (exact hpre.1)
      | (refine And.intro ?_ ?_)
      | (refine (ih _ (by omega) _ _ _ rfl ?_); (first | omega | trivial | (simp (config := { decide := true }) only [fg_in, fg_fin, fg_out, fg_fout, fg_up, fg_same, true_and, and_true] <;> omega)))
      | (refine jf_put (S := [301, 303, 304, 305, 306, 307, 308, 309, 310, 311, 312, 313, 314, 315, 316]) (o := 0) (F := []) (W := W) (by repeat (first | exact fw_sm_refl | exact fw_sm_put0 | refine fw_sm_arr ?_ rfl | refine fw_sm_up ?_ rfl | refine fw_sm_put ?_ rfl | refine fw_sm_cp ?_ rfl | refine fw_sm_upr ?_ rfl)) (ih _ (by omega) _ _ _ rfl ?_); (first | omega | trivial | (simp (config := { decide := true }) only [fg_in, fg_fin, fg_out, fg_fout, fg_up, fg_same, true_and, and_true] <;> omega)))
      | (refine (lm_k_wwcX_43 (dd := dd) q hgh hpre hP ((fw_g W 272 0) - h) (fun a0 a1 af hi hl => ih _ (by omega) a0 a1 af rfl hi) _ _ _ _ _ rfl ?_ (by omega)); (
        have zc := c0 (by omega)
        exact ⟨by omega, hi.2, fun w w0 w1 => by omega⟩))
      | (refine jf_put (S := [301, 303, 304, 305, 306, 307, 308, 309, 310, 311, 312, 313, 314, 315, 316]) (o := 0) (F := []) (W := W) (by repeat (first | exact fw_sm_refl | exact fw_sm_put0 | refine fw_sm_arr ?_ rfl | refine fw_sm_up ?_ rfl | refine fw_sm_put ?_ rfl | refine fw_sm_cp ?_ rfl | refine fw_sm_upr ?_ rfl)) (lm_k_wwcX_43 (dd := dd) q hgh hpre hP ((fw_g W 272 0) - h) (fun a0 a1 af hi hl => ih _ (by omega) a0 a1 af rfl hi) _ _ _ _ _ rfl ?_ (by omega)); (
        have zc := c0 (by omega)
        exact ⟨by omega, hi.2, fun w w0 w1 => by omega⟩))
      | (refine (lm_k_wwcX_92 (dd := dd) q hgh hpre hP _ _ _ _ rfl ?_); (
        have hN : h = (fw_g W 272 0) := by omega
        refine ⟨by omega, fun a w a0 a1 w0 w1 => ?_, fun z => by omega⟩
        rw [show ((fw_g W 272 0)) - 1 - (((fw_g W 272 0)) - 1) = 0 by omega, zt_0 q ((fw_g W 272 0)) a w a0 (by omega) w0 (by omega)]
        exact hi.2 a w a0 (by omega) w0 w1))
      | (refine jf_put (S := [301, 303, 304, 305, 306, 307, 308, 309, 310, 311, 312, 313, 314, 315, 316]) (o := 0) (F := []) (W := W) (by repeat (first | exact fw_sm_refl | exact fw_sm_put0 | refine fw_sm_arr ?_ rfl | refine fw_sm_up ?_ rfl | refine fw_sm_put ?_ rfl | refine fw_sm_cp ?_ rfl | refine fw_sm_upr ?_ rfl)) (lm_k_wwcX_92 (dd := dd) q hgh hpre hP _ _ _ _ rfl ?_); (
        have hN : h = (fw_g W 272 0) := by omega
        refine ⟨by omega, fun a w a0 a1 w0 w1 => ?_, fun z => by omega⟩
        rw [show ((fw_g W 272 0)) - 1 - (((fw_g W 272 0)) - 1) = 0 by omega, zt_0 q ((fw_g W 272 0)) a w a0 (by omega) w0 (by omega)]
        exact hi.2 a w a0 (by omega) w0 w1))
      | (refine hP _ _ (by repeat (first | exact fw_sm_refl | exact fw_sm_put0 | refine fw_sm_arr ?_ rfl | refine fw_sm_up ?_ rfl | refine fw_sm_put ?_ rfl | refine fw_sm_cp ?_ rfl | refine fw_sm_upr ?_ rfl)) ?_; (refine ⟨by omega, by omega, ?_⟩; (
        have e := hi.2.2 (by omega)
        omega)))
      | omega
      | (intro _))
def x_k_wwcX : fw_X := fun as W Q => match as with
  | [.inr (.inl s_), .inl dd] => fw_if (Nat.beq s_ 296) (∃ (q : List Nat), ((qok ((fw_g W 272 0)).toNat q = true ∧ qk2 ((fw_g W 272 0)).toNat q = true) ∧ 2 ≤ (fw_g W 272 0) ∧ (fw_g W 272 0) ≤ 6 ∧ (∀ x_, 1 ≤ x_ → x_ < (fw_g W 272 0) → (fw_g W 273 x_) = ((qp q x_.toNat : Nat) : Int))) ∧ (dd = 1 ∧ (∀ u_ t_, 0 ≤ u_ → u_ < (fw_g W 272 0) → 0 ≤ t_ → t_ < (fw_g W 272 0) → fw_g W (fw_rc 278 u_) t_ = zD q u_ t_) ∧ (∀ x_, 0 ≤ x_ → x_ < 14 → (fw_g W 297 x_) = 0) ∧ (fw_g W 273 0) = -1 ∧ (∀ j_, 0 ≤ j_ → j_ < (fw_g W 272 0) → (fw_g W 277 j_) = zo q ((fw_g W 272 0)) j_)) ∧ (∀ (v : Int) (f : fw_W), (-2147483648 ≤ v ∧ v ≤ 2147483647 ∧ (v = zfm q ((fw_g W 272 0)) ((fw_g W 272 0) - 1) 0 ((fw_g W 272 0)) + 1)) → Q (some (.inl v)) (fw_put [301, 303, 304, 305, 306, 307, 308, 309, 310, 311, 312, 313, 314, 315, 316] 0 [] W f)))
  | _ => False
theorem x_k_wwcX_ok (d : Nat) (as : List fw_V) (W : fw_W) (Q : Option fw_V → fw_W → Prop) (hx : x_k_wwcX as W Q) : jf fw_T (d + 3) 78 0 (fw_args 0 as) [] W Q := by
  unfold x_k_wwcX at hx
  split at hx
  · rename_i s_ dd
    obtain ⟨e_, q, hgh, hpre, hQ⟩ := fw_if_ok hx
    have e_ := Nat.eq_of_beq_eq_true e_
    subst e_
    have hP : ∀ (v : Int) (W2 : fw_W), fw_sm [301, 303, 304, 305, 306, 307, 308, 309, 310, 311, 312, 313, 314, 315, 316] 0 [] W W2 → _ → Q (some (.inl v)) W2 := fun v W2 hs hr => fw_sm_use (Q := fun Z => Q (some (.inl v)) Z) hs (hQ v W2 hr)
    refine s_k_wwcX_0 ?_
    have n2 := hgh.2.1
    have n6 := hgh.2.2.1
    repeat' (first
      | (exact True.intro)
      | (exact hpre.1)
      | (refine And.intro ?_ ?_)
      | (refine jf_put (S := [301, 303, 304, 305, 306, 307, 308, 309, 310, 311, 312, 313, 314, 315, 316]) (o := 0) (F := []) (W := W) (by repeat (first | exact fw_sm_refl | exact fw_sm_put0 | refine fw_sm_arr ?_ rfl | refine fw_sm_up ?_ rfl | refine fw_sm_put ?_ rfl | refine fw_sm_cp ?_ rfl | refine fw_sm_upr ?_ rfl)) (lm_k_wwcX_16 (dd := dd) q hgh hpre hP _ _ _ _ rfl ?_); (exact ⟨by omega, fun a w a0 a1 => by omega⟩))
      | (refine jf_put (S := [301, 303, 304, 305, 306, 307, 308, 309, 310, 311, 312, 313, 314, 315, 316]) (o := 0) (F := []) (W := W) (by repeat (first | exact fw_sm_refl | exact fw_sm_put0 | refine fw_sm_arr ?_ rfl | refine fw_sm_up ?_ rfl | refine fw_sm_put ?_ rfl | refine fw_sm_cp ?_ rfl | refine fw_sm_upr ?_ rfl)) (lm_k_wwcX_43 (dd := dd) q hgh hpre hP M16 h16 _ _ _ _ _ rfl ?_ (by omega)); (first | omega | trivial | (simp (config := { decide := true }) only [fg_in, fg_fin, fg_out, fg_fout, fg_up, fg_same, true_and, and_true] <;> omega)))
      | (refine jf_put (S := [301, 303, 304, 305, 306, 307, 308, 309, 310, 311, 312, 313, 314, 315, 316]) (o := 0) (F := []) (W := W) (by repeat (first | exact fw_sm_refl | exact fw_sm_put0 | refine fw_sm_arr ?_ rfl | refine fw_sm_up ?_ rfl | refine fw_sm_put ?_ rfl | refine fw_sm_cp ?_ rfl | refine fw_sm_upr ?_ rfl)) (lm_k_wwcX_92 (dd := dd) q hgh hpre hP _ _ _ _ rfl ?_); (first | omega | trivial | (simp (config := { decide := true }) only [fg_in, fg_fin, fg_out, fg_fout, fg_up, fg_same, true_and, and_true] <;> omega)))
      | (refine hP _ _ (by repeat (first | exact fw_sm_refl | exact fw_sm_put0 | refine fw_sm_arr ?_ rfl | refine fw_sm_up ?_ rfl | refine fw_sm_put ?_ rfl | refine fw_sm_cp ?_ rfl | refine fw_sm_upr ?_ rfl)) ?_; (refine ⟨by omega, by omega, ?_⟩; (
        have e := hi.2.2 (by omega)
        omega)))
      | omega
      | (intro _))
  · exact hx.elim

def ct_k_leastWX : List (Nat × fw_X) := [(77, x_k_freeAllX), (78, x_k_wwcX)]
theorem ct_k_leastWX_ok (d : Nat) : fw_cok fw_T (d + 3) ct_k_leastWX := by
  intro q hq as W Q h
  simp only [ct_k_leastWX, List.mem_cons, List.not_mem_nil, or_false] at hq
  rcases hq with rfl | rfl
  · exact jc_of (x_k_freeAllX_ok (d + 2) as W Q h)
  · exact jc_of (x_k_wwcX_ok (d + 0) as W Q h)
theorem s_k_leastWX_0 {Post : Option fw_V → fw_W → Prop} {d : Nat} {W : fw_W} {dd : Int}
    (hw_ : (True) ∧ (∀ (f1 : fw_W), (((∀ x_, 0 ≤ x_ → x_ < 14 → (fw_g f1 297 x_) = 0))) → ∃ (q_2 : List Nat), ((qok ((fw_g W 272 0)).toNat q_2 = true ∧ qk2 ((fw_g W 272 0)).toNat q_2 = true) ∧ 2 ≤ (fw_g W 272 0) ∧ (fw_g W 272 0) ≤ 6 ∧ (∀ x_, 1 ≤ x_ → x_ < (fw_g W 272 0) → (fw_g W 273 x_) = ((qp q_2 x_.toNat : Nat) : Int))) ∧ (dd = 1 ∧ (∀ u_ t_, 0 ≤ u_ → u_ < (fw_g W 272 0) → 0 ≤ t_ → t_ < (fw_g W 272 0) → fw_g (fw_put [297] 0 [] W f1) (fw_rc 278 u_) t_ = zD q_2 u_ t_) ∧ (∀ x_, 0 ≤ x_ → x_ < 14 → (fw_g f1 297 x_) = 0) ∧ (fw_g W 273 0) = -1 ∧ (∀ j_, 0 ≤ j_ → j_ < (fw_g W 272 0) → (fw_g W 277 j_) = zo q_2 ((fw_g W 272 0)) j_)) ∧ (∀ (r3 : Int) (f4 : fw_W), ((-2147483648 ≤ r3 ∧ r3 ≤ 2147483647 ∧ (r3 = zfm q_2 ((fw_g W 272 0)) ((fw_g W 272 0) - 1) 0 ((fw_g W 272 0)) + 1))) → (-2147483648 ≤ r3 → r3 ≤ 2147483647 → Post (some (.inl r3)) (fw_put [301, 303, 304, 305, 306, 307, 308, 309, 310, 311, 312, 313, 314, 315, 316] 0 [] (fw_put [297] 0 [] W f1) f4))))) :
    jf fw_T (d + 4) 76 0 [(0, .inr (.inl 296)), (1, .inl dd)] [] W Post := fw_ok (n := 7) (ss := []) (hv := []) fr_76_ok fv_tryx_ok (ct_k_leastWX_ok d) hw_

def x_k_leastWX : fw_X := fun as W Q => match as with
  | [.inr (.inl s_), .inl dd] => fw_if (Nat.beq s_ 296) (∃ (q : List Nat), ((qok ((fw_g W 272 0)).toNat q = true ∧ qk2 ((fw_g W 272 0)).toNat q = true) ∧ 2 ≤ (fw_g W 272 0) ∧ (fw_g W 272 0) ≤ 6 ∧ (∀ x_, 1 ≤ x_ → x_ < (fw_g W 272 0) → (fw_g W 273 x_) = ((qp q x_.toNat : Nat) : Int))) ∧ (dd = 1 ∧ (∀ u_ t_, 0 ≤ u_ → u_ < (fw_g W 272 0) → 0 ≤ t_ → t_ < (fw_g W 272 0) → fw_g W (fw_rc 278 u_) t_ = zD q u_ t_) ∧ (fw_g W 273 0) = -1 ∧ (∀ j_, 0 ≤ j_ → j_ < (fw_g W 272 0) → (fw_g W 277 j_) = zo q ((fw_g W 272 0)) j_)) ∧ (∀ (v : Int) (f : fw_W), (-2147483648 ≤ v ∧ v ≤ 2147483647 ∧ (v = zfm q ((fw_g W 272 0)) ((fw_g W 272 0) - 1) 0 ((fw_g W 272 0)) + 1)) → Q (some (.inl v)) (fw_put [297, 301, 303, 304, 305, 306, 307, 308, 309, 310, 311, 312, 313, 314, 315, 316] 0 [] W f)))
  | _ => False
theorem x_k_leastWX_ok (d : Nat) (as : List fw_V) (W : fw_W) (Q : Option fw_V → fw_W → Prop) (hx : x_k_leastWX as W Q) : jf fw_T (d + 4) 76 0 (fw_args 0 as) [] W Q := by
  unfold x_k_leastWX at hx
  split at hx
  · rename_i s_ dd
    obtain ⟨e_, q, hgh, hpre, hQ⟩ := fw_if_ok hx
    have e_ := Nat.eq_of_beq_eq_true e_
    subst e_
    have hP : ∀ (v : Int) (W2 : fw_W), fw_sm [297, 301, 303, 304, 305, 306, 307, 308, 309, 310, 311, 312, 313, 314, 315, 316] 0 [] W W2 → _ → Q (some (.inl v)) W2 := fun v W2 hs hr => fw_sm_use (Q := fun Z => Q (some (.inl v)) Z) hs (hQ v W2 hr)
    refine s_k_leastWX_0 ?_
    have n2 := hgh.2.1
    have n6 := hgh.2.2.1
    repeat' (first
      | (rename_i f2 h2; refine ⟨hpre.1, fun u t u0 u1 t0 t1 => (fr_out rfl (by omega) (by omega)).trans (hpre.2.1 u t u0 u1 t0 t1), h2, hpre.2.2.1, hpre.2.2.2⟩)
      | (exact True.intro)
      | (exact hpre.1)
      | (refine And.intro ?_ ?_)
      | (refine hP _ _ (by repeat (first | exact fw_sm_refl | exact fw_sm_put0 | refine fw_sm_arr ?_ rfl | refine fw_sm_up ?_ rfl | refine fw_sm_put ?_ rfl | refine fw_sm_cp ?_ rfl | refine fw_sm_upr ?_ rfl)) ?_; (refine ⟨by omega, by omega, ?_⟩; (rename_i r9 f9 hr9; first | exact hr9.2.2 | omega)))
      | (refine ⟨q, hgh, ?_⟩)
      | omega
      | (intro _))
  · exact hx.elim

