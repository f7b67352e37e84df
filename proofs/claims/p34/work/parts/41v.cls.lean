/-! the class, method by method -/
def fv_townt : List (Nat × ai_C) := [(272, .inr (.inr (.inr (9, [.inl (0, 14, true), .inl (0, 999, true), .inr (.inl [273]), .inr (.inl [274]), .inr (.inl [275])])))), (273, .inl (.int, 14, -1, 13, true)), (274, .inl (.int, 14, 0, 99, true)), (275, .inl (.int, 14, 0, 99, true))]
def fg_townt_G : fw_G := []
theorem fv_townt_ok : fw_view fw_T fv_townt fg_townt_G := fw_vb_ok (by decide +kernel)
theorem s_k_hasT_0 {Post : Option fw_V → fw_W → Prop} {d : Nat} {W : fw_W} {h : Int}
    (hw_ : ((h < 0 → 0 ≤ (0 : Int) ∧ (0 : Int) ≤ 1 ∧ Post (some (.inl (0 : Int))) W) ∧ (0 ≤ h → (0 ≤ (fw_g W 272 0) → (fw_g W 272 0) ≤ 14 → (((fw_g W 272 0) ≤ h → 0 ≤ (0 : Int) ∧ (0 : Int) ≤ 1 ∧ Post (some (.inl (0 : Int))) W) ∧ (h < (fw_g W 272 0) → 0 ≤ (1 : Int) ∧ (1 : Int) ≤ 1 ∧ Post (some (.inl (1 : Int))) W)))))) :
    jf fw_T (d + 1) 111 0 [(0, .inr (.inl 272)), (1, .inl h)] [] W Post := fw_ok (n := 10) (ss := []) (hv := []) fr_111_ok fv_townt_ok (fw_c0 _ _) hw_

def x_k_hasT : fw_X := fun as W Q => match as with
  | [.inr (.inl s_), .inl h] => fw_if (Nat.beq s_ 272) ((True) ∧ (∀ (v : Int), (0 ≤ v ∧ v ≤ 1 ∧ ((v = 1 ∧ 0 ≤ h ∧ h < (fw_g W 272 0)) ∨ (v = 0 ∧ (h < 0 ∨ (fw_g W 272 0) ≤ h)))) → Q (some (.inl v)) W))
  | _ => False
theorem x_k_hasT_ok (d : Nat) (as : List fw_V) (W : fw_W) (Q : Option fw_V → fw_W → Prop) (hx : x_k_hasT as W Q) : jf fw_T (d + 1) 111 0 (fw_args 0 as) [] W Q := by
  unfold x_k_hasT at hx
  split at hx
  · rename_i s_ h
    obtain ⟨e_, hpre, hQ⟩ := fw_if_ok hx
    have e_ := Nat.eq_of_beq_eq_true e_
    subst e_
    have hP := hQ
    refine s_k_hasT_0 ?_
    repeat' (first
      | (exact True.intro)
      | (exact hpre.1)
      | (refine And.intro ?_ ?_)
      | (refine hP _ ?_; (refine ⟨by omega, by omega, ?_⟩; (first | trivial | omega)))
      | omega
      | (intro _))
  · exact hx.elim

def fv_wdP : List (Nat × ai_C) := [(239, .inr (.inr (.inr (6, [.inl (-2147483648, 2147483647, true), .inl (-2147483648, 2147483647, true), .inr (.inl [12]), .inr (.inl [203]), .inr (.inl [240]), .inr (.inl [241]), .inr (.inl [242]), .inr (.inl [243]), .inr (.inl [244]), .inr (.inl [245]), .inr (.inl [260])])))), (240, .inl (.int, 14, -2147483648, 2147483647, true)), (241, .inl (.int, 14, -2147483648, 2147483647, true)), (242, .inl (.int, 14, -2147483648, 2147483647, true)), (243, .inl (.int, 14, -2147483648, 2147483647, true)), (244, .inl (.int, 14, -2147483648, 2147483647, true)), (12, .inr (.inr (.inr (9, [.inl (0, 14, true), .inl (0, 999, true), .inr (.inl [13]), .inr (.inl [14]), .inr (.inl [15])])))), (13, .inl (.int, 14, -1, 13, true)), (14, .inl (.int, 14, 0, 99, true)), (15, .inl (.int, 14, 0, 99, true)), (203, .inr (.inr (.inr (10, [.inr (.inl [204]), .inr (.inl [205]), .inl (-2147483648, 2147483647, true), .inl (-2147483648, 2147483647, true), .inl (-2147483648, 2147483647, true), .inr (.inl [12]), .inr (.inl [220]), .inr (.inl [221]), .inr (.inl [222])])))), (204, .inl (.int, 14, 0, 13, true))]
def fg_wdP_G : fw_G := [(205, 14, 14, -2147483648, 2147483647), (245, 14, 14, -2147483648, 2147483647), (260, 5, 14, -2147483648, 2147483647)]
theorem fv_wdP_ok : fw_view fw_T fv_wdP fg_wdP_G := fw_vb_ok (by decide +kernel)
theorem s_k_freeAllP_0 {Post : Option fw_V → fw_W → Prop} {d : Nat} {W : fw_W}
    (hw_ : jf fw_T (d + 1) 77 2 [(0, .inr (.inl 239)), (1, .inl (0 : Int))] [] W Post) :
    jf fw_T (d + 1) 77 0 [(0, .inr (.inl 239))] [] W Post := fw_ok (n := 3) (ss := [(2, [0, 1])]) (hv := []) fr_77_ok fv_wdP_ok (fw_c0 _ _) hw_

theorem s_k_freeAllP_2 {Post : Option fw_V → fw_W → Prop} {d : Nat} {W : fw_W} {h : Int} {f : fw_W}
    (hw_ : (((14 : Int) ≤ h → Post none (fw_put [240] 0 [] W f)) ∧ (h < (14 : Int) → 0 ≤ h ∧ h < 14 ∧ -2147483648 ≤ (0 : Int) ∧ (0 : Int) ≤ 2147483647 ∧ (-2147483648 ≤ h + (1 : Int) ∧ h + (1 : Int) ≤ 2147483647 ∧ (jf fw_T (d + 1) 77 2 [(0, .inr (.inl 239)), (1, .inl (h + (1 : Int)))] [] (fw_up (fw_put [240] 0 [] W f) 240 h (0 : Int)) Post))))) :
    jf fw_T (d + 1) 77 2 [(0, .inr (.inl 239)), (1, .inl h)] [] (fw_put [240] 0 [] W f) Post := fw_ok (n := 11) (ss := [(2, [0, 1])]) (hv := []) fr_77_ok fv_wdP_ok (fw_c0 _ _) hw_

theorem lm_k_freeAllP_2 {Post : Option fw_V → fw_W → Prop} {d : Nat} {W : fw_W} (hpre : True) (hP : ∀ (W2 : fw_W), fw_sm [240] 0 [] W W2 → (True) → Post none W2)  : ∀ (m : Nat) (h : Int) (f : fw_W), (14 - h).toNat = m → 0 ≤ h → jf fw_T (d + 1) 77 2 [(0, .inr (.inl 239)), (1, .inl h)] [] (fw_put [240] 0 [] W f) Post := by
  intro m
  induction m using Nat.strongRecOn with
  | ind m ih =>
    intro h f hm hi
    refine jf_rng (fun hrg => ?_)
    have hrg : -2147483648 ≤ h ∧ h ≤ 2147483647 ∧ True := hrg
    refine s_k_freeAllP_2 ?_
    repeat' (first
      | (exact True.intro)
      | (exact hpre.1)
      | (refine And.intro ?_ ?_)
      | (refine jf_put (S := [240]) (o := 0) (F := []) (W := W) (by repeat (first | exact fw_sm_refl | exact fw_sm_put0 | refine fw_sm_arr ?_ rfl | refine fw_sm_up ?_ rfl | refine fw_sm_put ?_ rfl | refine fw_sm_cp ?_ rfl)) (ih _ (by omega) _ _ rfl ?_); (first | omega | trivial | (simp (config := { decide := true }) only [fg_in, fg_fin, fg_out, fg_fout, fg_up, fg_same, true_and, and_true] <;> omega)))
      | (refine hP _ (by repeat (first | exact fw_sm_refl | exact fw_sm_put0 | refine fw_sm_arr ?_ rfl | refine fw_sm_up ?_ rfl | refine fw_sm_put ?_ rfl | refine fw_sm_cp ?_ rfl)) ?_; (first | trivial | omega))
      | omega
      | (intro _))
def x_k_freeAllP : fw_X := fun as W Q => match as with
  | [.inr (.inl s_)] => fw_if (Nat.beq s_ 239) ((True) ∧ (∀ (f : fw_W), (True) → Q none (fw_put [240] 0 [] W f)))
  | _ => False
theorem x_k_freeAllP_ok (d : Nat) (as : List fw_V) (W : fw_W) (Q : Option fw_V → fw_W → Prop) (hx : x_k_freeAllP as W Q) : jf fw_T (d + 1) 77 0 (fw_args 0 as) [] W Q := by
  unfold x_k_freeAllP at hx
  split at hx
  · rename_i s_
    obtain ⟨e_, hpre, hQ⟩ := fw_if_ok hx
    have e_ := Nat.eq_of_beq_eq_true e_
    subst e_
    have hP : ∀ (W2 : fw_W), fw_sm [240] 0 [] W W2 → _ → Q none W2 := fun W2 hs hr => fw_sm_use (Q := fun Z => Q none Z) hs (hQ W2 hr)
    refine s_k_freeAllP_0 ?_
    repeat' (first
      | (exact True.intro)
      | (exact hpre.1)
      | (refine And.intro ?_ ?_)
      | (refine jf_put (S := [240]) (o := 0) (F := []) (W := W) (by repeat (first | exact fw_sm_refl | exact fw_sm_put0 | refine fw_sm_arr ?_ rfl | refine fw_sm_up ?_ rfl | refine fw_sm_put ?_ rfl | refine fw_sm_cp ?_ rfl)) (lm_k_freeAllP_2 hpre hP _ _ _ rfl ?_); (first | omega | trivial | (simp (config := { decide := true }) only [fg_in, fg_fin, fg_out, fg_fout, fg_up, fg_same, true_and, and_true] <;> omega)))
      | (refine hP _ (by repeat (first | exact fw_sm_refl | exact fw_sm_put0 | refine fw_sm_arr ?_ rfl | refine fw_sm_up ?_ rfl | refine fw_sm_put ?_ rfl | refine fw_sm_cp ?_ rfl)) ?_; (first | trivial | omega))
      | omega
      | (intro _))
  · exact hx.elim

def fr_79 : fw_P := [(0, 2, 0, 0, 0), (1, 50, 6, 4, 0), (4, 1, 1, 0, 0), (5, 52, 0, 0, 0), (6, 21, 13, 0, 0), (9, 0, 0, 0, 1), (10, 6, 14, 0, 0), (13, 0, 0, 0, 0), (14, 70, 0, 0, 0)]
theorem fr_79_ok : fw_mk 79 2 6 (some .int) fr_79 = true := by decide +kernel
theorem s_k_priceP_0 {Post : Option fw_V → fw_W → Prop} {d : Nat} {W : fw_W} {wa : Int}
    (hw_ : 0 ≤ wa ∧ wa < 14 ∧ (-2147483648 ≤ (fw_g W 240 wa) → (fw_g W 240 wa) ≤ 2147483647 → ((¬ (fw_g W 240 wa) = 0 → (-2147483648 ≤ (0 : Int) → (0 : Int) ≤ 2147483647 → Post (some (.inl (0 : Int))) W)) ∧ ((fw_g W 240 wa) = 0 → (-2147483648 ≤ (1 : Int) → (1 : Int) ≤ 2147483647 → Post (some (.inl (1 : Int))) W))))) :
    jf fw_T (d + 1) 79 0 [(0, .inr (.inl 239)), (1, .inl wa)] [] W Post := fw_ok (n := 9) (ss := []) (hv := []) fr_79_ok fv_wdP_ok (fw_c0 _ _) hw_

def x_k_priceP : fw_X := fun as W Q => match as with
  | [.inr (.inl s_), .inl wa] => fw_if (Nat.beq s_ 239) ((0 ≤ wa ∧ wa < 14) ∧ (∀ (v : Int), (-2147483648 ≤ v ∧ v ≤ 2147483647 ∧ (True)) → Q (some (.inl v)) W))
  | _ => False
theorem x_k_priceP_ok (d : Nat) (as : List fw_V) (W : fw_W) (Q : Option fw_V → fw_W → Prop) (hx : x_k_priceP as W Q) : jf fw_T (d + 1) 79 0 (fw_args 0 as) [] W Q := by
  unfold x_k_priceP at hx
  split at hx
  · rename_i s_ wa
    obtain ⟨e_, hpre, hQ⟩ := fw_if_ok hx
    have e_ := Nat.eq_of_beq_eq_true e_
    subst e_
    have hP := hQ
    refine s_k_priceP_0 ?_
    repeat' (first
      | (exact True.intro)
      | (exact hpre.1)
      | (refine And.intro ?_ ?_)
      | (refine hP _ ?_; (refine ⟨by omega, by omega, ?_⟩; (first | trivial | omega)))
      | omega
      | (intro _))
  · exact hx.elim

def fr_80 : fw_P := [(0, 2, 0, 0, 0), (1, 50, 6, 8, 0), (4, 1, 1, 0, 0), (5, 0, 0, 0, 1000000), (7, 53, 0, 0, 0), (8, 0, 0, 0, 0), (9, 3, 3, 0, 0), (10, 1, 3, 0, 0), (11, 2, 0, 0, 0), (12, 50, 6, 2, 0), (15, 50, 9, 0, 0), (18, 13, 85, 0, 0), (21, 2, 0, 0, 0), (22, 50, 6, 4, 0), (25, 1, 3, 0, 0), (26, 52, 0, 0, 0), (27, 0, 0, 0, 2), (28, 10, 46, 0, 0), (31, 2, 0, 0, 0), (32, 50, 6, 3, 0), (35, 50, 10, 1, 0), (38, 1, 1, 0, 0), (39, 56, 0, 0, 0), (40, 1, 3, 0, 0), (41, 52, 0, 0, 0), (42, 1, 2, 0, 0), (43, 15, 56, 0, 0), (46, 2, 0, 0, 0), (47, 50, 6, 9, 0), (50, 1, 1, 0, 0), (51, 56, 0, 0, 0), (52, 1, 3, 0, 0), (53, 0, 0, 0, 1000000), (55, 53, 0, 0, 0), (56, 2, 0, 0, 0), (57, 50, 6, 8, 0), (60, 1, 1, 0, 0), (61, 2, 0, 0, 0), (62, 50, 6, 8, 0), (65, 1, 1, 0, 0), (66, 52, 0, 0, 0), (67, 2, 0, 0, 0), (68, 50, 6, 9, 0), (71, 1, 1, 0, 0), (72, 56, 0, 0, 0), (73, 1, 3, 0, 0), (74, 52, 0, 0, 0), (75, 61, 0, 0, 0), (78, 53, 0, 0, 0), (79, 5, 3, 0, 1), (82, 6, 10, 0, 0), (85, 2, 0, 0, 0), (86, 50, 6, 2, 0), (89, 50, 9, 2, 0), (92, 1, 1, 0, 0), (93, 52, 0, 0, 0), (94, 3, 3, 0, 0), (95, 2, 0, 0, 0), (96, 50, 6, 2, 0), (99, 1, 3, 0, 0), (100, 64, 111, 1, 209), (103, 21, 107, 0, 0), (106, 72, 0, 0, 0), (107, 0, 0, 0, 0), (108, 3, 4, 0, 0), (110, 1, 4, 0, 0), (112, 2, 0, 0, 0), (113, 50, 6, 2, 0), (116, 50, 9, 0, 0), (119, 13, 169, 0, 0), (122, 2, 0, 0, 0), (123, 50, 6, 9, 0), (126, 1, 1, 0, 0), (127, 56, 0, 0, 0), (128, 1, 4, 0, 0), (130, 52, 0, 0, 0), (131, 2, 0, 0, 0), (132, 1, 4, 0, 0), (134, 64, 79, 1, 206), (137, 31, 0, 0, 0), (138, 3, 5, 0, 0), (140, 2, 0, 0, 0), (141, 50, 6, 9, 0), (144, 1, 3, 0, 0), (145, 56, 0, 0, 0), (146, 1, 4, 0, 0), (148, 44, 0, 0, 0), (149, 52, 0, 0, 0), (150, 2, 0, 0, 0), (151, 50, 6, 8, 0), (154, 1, 1, 0, 0), (155, 52, 0, 0, 0), (156, 1, 5, 0, 0), (158, 61, 0, 0, 0), (161, 30, 0, 0, 0), (162, 53, 0, 0, 0), (163, 5, 4, 0, 1), (166, 6, 110, 0, 0), (169, 72, 0, 0, 0)]
theorem fr_80_ok : fw_mk 80 6 6 none fr_80 = true := by decide +kernel
def ct_k_serveP : List (Nat × fw_X) := [(111, x_k_has), (79, x_k_priceP)]
theorem ct_k_serveP_ok (d : Nat) : fw_cok fw_T (d + 1) ct_k_serveP := by
  intro q hq as W Q h
  simp only [ct_k_serveP, List.mem_cons, List.not_mem_nil, or_false] at hq
  rcases hq with rfl | rfl
  · exact jc_of (x_k_has_ok (d + 0) as W Q h)
  · exact jc_of (x_k_priceP_ok (d + 0) as W Q h)
theorem s_k_serveP_0 {Post : Option fw_V → fw_W → Prop} {d : Nat} {W : fw_W} {h dd : Int}
    (hw_ : 0 ≤ h ∧ h < 14 ∧ -2147483648 ≤ (1000000 : Int) ∧ (1000000 : Int) ≤ 2147483647 ∧ (jf fw_T (d + 2) 80 10 [(0, .inr (.inl 239)), (1, .inl h), (2, .inl dd), (3, .inl (0 : Int))] [] (fw_up W 244 h (1000000 : Int)) Post)) :
    jf fw_T (d + 2) 80 0 [(0, .inr (.inl 239)), (1, .inl h), (2, .inl dd)] [] W Post := fw_ok (n := 8) (ss := [(10, [0, 1, 2, 3]), (110, [0, 1, 3, 4])]) (hv := [137, 161]) fr_80_ok fv_wdP_ok (ct_k_serveP_ok d) hw_

theorem s_k_serveP_110 {Post : Option fw_V → fw_W → Prop} {d : Nat} {W : fw_W} {h wa wb : Int} {f : fw_W}
    (hw_ : (0 ≤ (fw_g W 12 0) → (fw_g W 12 0) ≤ 14 → (((fw_g W 12 0) ≤ wb → Post none (fw_put [244] 0 [] W f)) ∧ (wb < (fw_g W 12 0) → 0 ≤ h ∧ h < 14 ∧ (0 ≤ wb ∧ wb < 14 ∧ (∀ v1 : Int, -2147483648 ≤ v1 → v1 ≤ 2147483647 → (0 ≤ wb ∧ wb < 14) ∧ (∀ (r2 : Int), ((-2147483648 ≤ r2 ∧ r2 ≤ 2147483647 ∧ (True))) → ∀ v3 : Int, -2147483648 ≤ v3 → v3 ≤ 2147483647 → 0 ≤ wa ∧ wa < 14 ∧ (0 ≤ wb ∧ wb < 14 ∧ (∀ v4 : Int, -2147483648 ≤ v4 → v4 ≤ 2147483647 → 0 ≤ h ∧ h < 14 ∧ (-2147483648 ≤ (fw_g f 244 h) → (fw_g f 244 h) ≤ 2147483647 → ∀ v5 : Int, -2147483648 ≤ v5 → v5 ≤ 2147483647 → 0 ≤ wb ∧ wb < 14 ∧ -2147483648 ≤ v5 ∧ v5 ≤ 2147483647 ∧ (-2147483648 ≤ wb + (1 : Int) ∧ wb + (1 : Int) ≤ 2147483647 ∧ (jf fw_T (d + 2) 80 110 [(0, .inr (.inl 239)), (1, .inl h), (3, .inl wa), (4, .inl (wb + (1 : Int)))] [] (fw_put [244] 0 [] W f) Post)))))))))))) :
    jf fw_T (d + 2) 80 110 [(0, .inr (.inl 239)), (1, .inl h), (3, .inl wa), (4, .inl wb)] [] (fw_put [244] 0 [] W f) Post := fw_ok (n := 34) (ss := [(10, [0, 1, 2, 3]), (110, [0, 1, 3, 4])]) (hv := [137, 161]) fr_80_ok fv_wdP_ok (ct_k_serveP_ok d) hw_

theorem s_k_serveP_10 {Post : Option fw_V → fw_W → Prop} {d : Nat} {W : fw_W} {h dd wa : Int} {f : fw_W}
    (hw_ : (0 ≤ (fw_g W 12 0) → (fw_g W 12 0) ≤ 14 → (((fw_g W 12 0) ≤ wa → 0 ≤ h ∧ h < 14 ∧ (-1 ≤ (fw_g W 13 h) → (fw_g W 13 h) ≤ 13 → (True) ∧ (∀ (r1 : Int), ((0 ≤ r1 ∧ r1 ≤ 1 ∧ ((r1 = 1 ∧ 0 ≤ (fw_g W 13 h) ∧ (fw_g W 13 h) < (fw_g W 12 0)) ∨ (r1 = 0 ∧ ((fw_g W 13 h) < 0 ∨ (fw_g W 12 0) ≤ (fw_g W 13 h)))))) → ((¬ r1 = 0 → jf fw_T (d + 2) 80 110 [(0, .inr (.inl 239)), (1, .inl h), (3, .inl (fw_g W 13 h)), (4, .inl (0 : Int))] [] (fw_put [244] 0 [] W f) Post) ∧ (r1 = 0 → Post none (fw_put [244] 0 [] W f)))))) ∧ (wa < (fw_g W 12 0) → 0 ≤ wa ∧ wa < 14 ∧ (-2147483648 ≤ (fw_g W 240 wa) → (fw_g W 240 wa) ≤ 2147483647 → (((fw_g W 240 wa) = (2 : Int) → 0 ≤ h ∧ h < 14 ∧ (0 ≤ wa ∧ wa < 14 ∧ -2147483648 ≤ (1000000 : Int) ∧ (1000000 : Int) ≤ 2147483647 ∧ (0 ≤ h ∧ h < 14 ∧ (-2147483648 ≤ (fw_g f 244 h) → (fw_g f 244 h) ≤ 2147483647 → 0 ≤ h ∧ h < 14 ∧ (0 ≤ wa ∧ wa < 14 ∧ (∀ v2 : Int, -2147483648 ≤ v2 → v2 ≤ 2147483647 → 0 ≤ h ∧ h < 14 ∧ -2147483648 ≤ (min (fw_g f 244 h) v2) ∧ (min (fw_g f 244 h) v2) ≤ 2147483647 ∧ (-2147483648 ≤ wa + (1 : Int) ∧ wa + (1 : Int) ≤ 2147483647 ∧ (jf fw_T (d + 2) 80 10 [(0, .inr (.inl 239)), (1, .inl h), (2, .inl dd), (3, .inl (wa + (1 : Int)))] [] (fw_up (fw_put [244] 0 [] W f) 244 h (min (fw_g f 244 h) v2)) Post)))))))) ∧ (¬ (fw_g W 240 wa) = (2 : Int) → 0 ≤ h ∧ h < 14 ∧ (0 ≤ wa ∧ wa < 14 ∧ (∀ v3 : Int, -2147483648 ≤ v3 → v3 ≤ 2147483647 → ((v3 ≤ dd → 0 ≤ h ∧ h < 14 ∧ (-2147483648 ≤ (fw_g f 244 h) → (fw_g f 244 h) ≤ 2147483647 → 0 ≤ h ∧ h < 14 ∧ (0 ≤ wa ∧ wa < 14 ∧ (∀ v4 : Int, -2147483648 ≤ v4 → v4 ≤ 2147483647 → 0 ≤ h ∧ h < 14 ∧ -2147483648 ≤ (min (fw_g f 244 h) v4) ∧ (min (fw_g f 244 h) v4) ≤ 2147483647 ∧ (-2147483648 ≤ wa + (1 : Int) ∧ wa + (1 : Int) ≤ 2147483647 ∧ (jf fw_T (d + 2) 80 10 [(0, .inr (.inl 239)), (1, .inl h), (2, .inl dd), (3, .inl (wa + (1 : Int)))] [] (fw_up (fw_put [244] 0 [] W f) 244 h (min (fw_g f 244 h) v4)) Post)))))) ∧ (dd < v3 → 0 ≤ h ∧ h < 14 ∧ (0 ≤ wa ∧ wa < 14 ∧ -2147483648 ≤ (1000000 : Int) ∧ (1000000 : Int) ≤ 2147483647 ∧ (0 ≤ h ∧ h < 14 ∧ (-2147483648 ≤ (fw_g f 244 h) → (fw_g f 244 h) ≤ 2147483647 → 0 ≤ h ∧ h < 14 ∧ (0 ≤ wa ∧ wa < 14 ∧ (∀ v5 : Int, -2147483648 ≤ v5 → v5 ≤ 2147483647 → 0 ≤ h ∧ h < 14 ∧ -2147483648 ≤ (min (fw_g f 244 h) v5) ∧ (min (fw_g f 244 h) v5) ≤ 2147483647 ∧ (-2147483648 ≤ wa + (1 : Int) ∧ wa + (1 : Int) ≤ 2147483647 ∧ (jf fw_T (d + 2) 80 10 [(0, .inr (.inl 239)), (1, .inl h), (2, .inl dd), (3, .inl (wa + (1 : Int)))] [] (fw_up (fw_put [244] 0 [] W f) 244 h (min (fw_g f 244 h) v5)) Post)))))))))))))))))) :
    jf fw_T (d + 2) 80 10 [(0, .inr (.inl 239)), (1, .inl h), (2, .inl dd), (3, .inl wa)] [] (fw_put [244] 0 [] W f) Post := fw_ok (n := 45) (ss := [(10, [0, 1, 2, 3]), (110, [0, 1, 3, 4])]) (hv := [137, 161]) fr_80_ok fv_wdP_ok (ct_k_serveP_ok d) hw_

theorem lm_k_serveP_110 {Post : Option fw_V → fw_W → Prop} {d : Nat} {W : fw_W} {h dd : Int} (hpre : 0 ≤ h ∧ h < 14 ∧ 0 ≤ (fw_g W 12 0) ∧ (fw_g W 12 0) ≤ 14) (hP : ∀ (W2 : fw_W), fw_sm [244] 0 [] W W2 → (True) → Post none W2)  : ∀ (m : Nat) (wa wb : Int) (f : fw_W), ((fw_g W 12 0) - wb).toNat = m → 0 ≤ wb ∧ 0 ≤ wa ∧ wa < 14 → jf fw_T (d + 2) 80 110 [(0, .inr (.inl 239)), (1, .inl h), (3, .inl wa), (4, .inl wb)] [] (fw_put [244] 0 [] W f) Post := by
  intro m
  induction m using Nat.strongRecOn with
  | ind m ih =>
    intro wa wb f hm hi
    refine jf_rng (fun hrg => ?_)
    have hrg : -2147483648 ≤ h ∧ h ≤ 2147483647 ∧ -2147483648 ≤ wa ∧ wa ≤ 2147483647 ∧ -2147483648 ≤ wb ∧ wb ≤ 2147483647 ∧ True := hrg
    refine s_k_serveP_110 ?_
    repeat' (first
      | (exact True.intro)
      | (exact hpre.1)
      | (refine And.intro ?_ ?_)
      | (refine jf_put (S := [244]) (o := 0) (F := []) (W := W) (by repeat (first | exact fw_sm_refl | exact fw_sm_put0 | refine fw_sm_arr ?_ rfl | refine fw_sm_up ?_ rfl | refine fw_sm_put ?_ rfl | refine fw_sm_cp ?_ rfl)) (ih _ (by omega) _ _ _ rfl ?_); (first | omega | trivial | (simp (config := { decide := true }) only [fg_in, fg_fin, fg_out, fg_fout, fg_up, fg_same, true_and, and_true] <;> omega)))
      | (refine hP _ (by repeat (first | exact fw_sm_refl | exact fw_sm_put0 | refine fw_sm_arr ?_ rfl | refine fw_sm_up ?_ rfl | refine fw_sm_put ?_ rfl | refine fw_sm_cp ?_ rfl)) ?_; (first | trivial | omega))
      | omega
      | (intro _))
theorem lm_k_serveP_10 {Post : Option fw_V → fw_W → Prop} {d : Nat} {W : fw_W} {h dd : Int} (hpre : 0 ≤ h ∧ h < 14 ∧ 0 ≤ (fw_g W 12 0) ∧ (fw_g W 12 0) ≤ 14) (hP : ∀ (W2 : fw_W), fw_sm [244] 0 [] W W2 → (True) → Post none W2)  : ∀ (m : Nat) (wa : Int) (f : fw_W), ((fw_g W 12 0) - wa).toNat = m → 0 ≤ wa → jf fw_T (d + 2) 80 10 [(0, .inr (.inl 239)), (1, .inl h), (2, .inl dd), (3, .inl wa)] [] (fw_put [244] 0 [] W f) Post := by
  intro m
  induction m using Nat.strongRecOn with
  | ind m ih =>
    intro wa f hm hi
    refine jf_rng (fun hrg => ?_)
    have hrg : -2147483648 ≤ h ∧ h ≤ 2147483647 ∧ -2147483648 ≤ dd ∧ dd ≤ 2147483647 ∧ -2147483648 ≤ wa ∧ wa ≤ 2147483647 ∧ True := hrg
    refine s_k_serveP_10 ?_
    repeat' (first
      | (exact True.intro)
      | (exact hpre.1)
      | (refine And.intro ?_ ?_)
      | (refine jf_put (S := [244]) (o := 0) (F := []) (W := W) (by repeat (first | exact fw_sm_refl | exact fw_sm_put0 | refine fw_sm_arr ?_ rfl | refine fw_sm_up ?_ rfl | refine fw_sm_put ?_ rfl | refine fw_sm_cp ?_ rfl)) (ih _ (by omega) _ _ rfl ?_); (first | omega | trivial | (simp (config := { decide := true }) only [fg_in, fg_fin, fg_out, fg_fout, fg_up, fg_same, true_and, and_true] <;> omega)))
      | (refine jf_put (S := [244]) (o := 0) (F := []) (W := W) (by repeat (first | exact fw_sm_refl | exact fw_sm_put0 | refine fw_sm_arr ?_ rfl | refine fw_sm_up ?_ rfl | refine fw_sm_put ?_ rfl | refine fw_sm_cp ?_ rfl)) (lm_k_serveP_110 (h := h) (dd := dd) hpre hP _ _ _ _ rfl ?_); (first | omega | trivial | (simp (config := { decide := true }) only [fg_in, fg_fin, fg_out, fg_fout, fg_up, fg_same, true_and, and_true] <;> omega)))
      | (refine hP _ (by repeat (first | exact fw_sm_refl | exact fw_sm_put0 | refine fw_sm_arr ?_ rfl | refine fw_sm_up ?_ rfl | refine fw_sm_put ?_ rfl | refine fw_sm_cp ?_ rfl)) ?_; (first | trivial | omega))
      | omega
      | (intro _))
def x_k_serveP : fw_X := fun as W Q => match as with
  | [.inr (.inl s_), .inl h, .inl dd] => fw_if (Nat.beq s_ 239) ((0 ≤ h ∧ h < 14 ∧ 0 ≤ (fw_g W 12 0) ∧ (fw_g W 12 0) ≤ 14) ∧ (∀ (f : fw_W), (True) → Q none (fw_put [244] 0 [] W f)))
  | _ => False
theorem x_k_serveP_ok (d : Nat) (as : List fw_V) (W : fw_W) (Q : Option fw_V → fw_W → Prop) (hx : x_k_serveP as W Q) : jf fw_T (d + 2) 80 0 (fw_args 0 as) [] W Q := by
  unfold x_k_serveP at hx
  split at hx
  · rename_i s_ h dd
    obtain ⟨e_, hpre, hQ⟩ := fw_if_ok hx
    have e_ := Nat.eq_of_beq_eq_true e_
    subst e_
    have hP : ∀ (W2 : fw_W), fw_sm [244] 0 [] W W2 → _ → Q none W2 := fun W2 hs hr => fw_sm_use (Q := fun Z => Q none Z) hs (hQ W2 hr)
    refine s_k_serveP_0 ?_
    repeat' (first
      | (exact True.intro)
      | (exact hpre.1)
      | (refine And.intro ?_ ?_)
      | (refine jf_put (S := [244]) (o := 0) (F := []) (W := W) (by repeat (first | exact fw_sm_refl | exact fw_sm_put0 | refine fw_sm_arr ?_ rfl | refine fw_sm_up ?_ rfl | refine fw_sm_put ?_ rfl | refine fw_sm_cp ?_ rfl)) (lm_k_serveP_10 (h := h) (dd := dd) hpre hP _ _ _ rfl ?_); (first | omega | trivial | (simp (config := { decide := true }) only [fg_in, fg_fin, fg_out, fg_fout, fg_up, fg_same, true_and, and_true] <;> omega)))
      | (refine jf_put (S := [244]) (o := 0) (F := []) (W := W) (by repeat (first | exact fw_sm_refl | exact fw_sm_put0 | refine fw_sm_arr ?_ rfl | refine fw_sm_up ?_ rfl | refine fw_sm_put ?_ rfl | refine fw_sm_cp ?_ rfl)) (lm_k_serveP_110 (h := h) (dd := dd) hpre hP _ _ _ _ rfl ?_); (first | omega | trivial | (simp (config := { decide := true }) only [fg_in, fg_fin, fg_out, fg_fout, fg_up, fg_same, true_and, and_true] <;> omega)))
      | (refine hP _ (by repeat (first | exact fw_sm_refl | exact fw_sm_put0 | refine fw_sm_arr ?_ rfl | refine fw_sm_up ?_ rfl | refine fw_sm_put ?_ rfl | refine fw_sm_cp ?_ rfl)) ?_; (first | trivial | omega))
      | omega
      | (intro _))
  · exact hx.elim

def fr_78 : fw_P := [(0, 2, 0, 0, 0), (1, 50, 6, 2, 0), (4, 50, 9, 0, 0), (7, 21, 12, 0, 0), (10, 0, 0, 0, 0), (11, 70, 0, 0, 0), (12, 0, 0, 0, 0), (13, 3, 2, 0, 0), (14, 0, 0, 0, 0), (15, 3, 3, 0, 0), (16, 1, 3, 0, 0), (17, 2, 0, 0, 0), (18, 50, 6, 2, 0), (21, 50, 9, 0, 0), (24, 13, 82, 0, 0), (27, 2, 0, 0, 0), (28, 50, 6, 4, 0), (31, 1, 3, 0, 0), (32, 52, 0, 0, 0), (33, 0, 0, 0, 1), (34, 11, 40, 0, 0), (37, 5, 2, 0, 1), (40, 0, 0, 0, 0), (41, 3, 4, 0, 0), (43, 1, 4, 0, 0), (45, 2, 0, 0, 0), (46, 50, 6, 2, 0), (49, 50, 9, 0, 0), (52, 13, 76, 0, 0), (55, 2, 0, 0, 0), (56, 50, 6, 9, 0), (59, 1, 3, 0, 0), (60, 56, 0, 0, 0), (61, 1, 4, 0, 0), (63, 2, 0, 0, 0), (64, 1, 4, 0, 0), (66, 64, 79, 1, 206), (69, 53, 0, 0, 0), (70, 5, 4, 0, 1), (73, 6, 43, 0, 0), (76, 5, 3, 0, 1), (79, 6, 16, 0, 0), (82, 2, 0, 0, 0), (83, 50, 6, 2, 0), (86, 50, 9, 0, 0), (89, 0, 0, 0, 1), (90, 31, 0, 0, 0), (91, 3, 3, 0, 0), (92, 1, 3, 0, 0), (93, 22, 116, 0, 0), (96, 2, 0, 0, 0), (97, 2, 0, 0, 0), (98, 50, 6, 3, 0), (101, 50, 10, 0, 0), (104, 1, 3, 0, 0), (105, 52, 0, 0, 0), (106, 1, 1, 0, 0), (107, 64, 80, 2, 606), (110, 5, 3, 0, -1), (113, 6, 92, 0, 0), (116, 1, 2, 0, 0), (117, 2, 0, 0, 0), (118, 50, 6, 8, 0), (121, 0, 0, 0, 0), (122, 52, 0, 0, 0), (123, 30, 0, 0, 0), (124, 70, 0, 0, 0)]
theorem fr_78_ok : fw_mk 78 5 6 (some .int) fr_78 = true := by decide +kernel
def ct_k_wwcP : List (Nat × fw_X) := [(79, x_k_priceP), (80, x_k_serveP)]
theorem ct_k_wwcP_ok (d : Nat) : fw_cok fw_T (d + 2) ct_k_wwcP := by
  intro q hq as W Q h
  simp only [ct_k_wwcP, List.mem_cons, List.not_mem_nil, or_false] at hq
  rcases hq with rfl | rfl
  · exact jc_of (x_k_priceP_ok (d + 1) as W Q h)
  · exact jc_of (x_k_serveP_ok (d + 0) as W Q h)
theorem s_k_wwcP_0 {Post : Option fw_V → fw_W → Prop} {d : Nat} {W : fw_W} {dd : Int}
    (hw_ : (0 ≤ (fw_g W 12 0) → (fw_g W 12 0) ≤ 14 → ((¬ (fw_g W 12 0) = 0 → jf fw_T (d + 3) 78 16 [(0, .inr (.inl 239)), (1, .inl dd), (2, .inl (0 : Int)), (3, .inl (0 : Int))] [] W Post) ∧ ((fw_g W 12 0) = 0 → (-2147483648 ≤ (0 : Int) → (0 : Int) ≤ 2147483647 → Post (some (.inl (0 : Int))) W))))) :
    jf fw_T (d + 3) 78 0 [(0, .inr (.inl 239)), (1, .inl dd)] [] W Post := fw_ok (n := 9) (ss := [(16, [0, 1, 2, 3]), (43, [0, 1, 2, 3, 4]), (92, [0, 1, 2, 3])]) (hv := [37, 123]) fr_78_ok fv_wdP_ok (ct_k_wwcP_ok d) hw_

theorem s_k_wwcP_43 {Post : Option fw_V → fw_W → Prop} {d : Nat} {W : fw_W} {dd se h wa : Int} {f : fw_W}
    (hw_ : (0 ≤ (fw_g W 12 0) → (fw_g W 12 0) ≤ 14 → (((fw_g W 12 0) ≤ wa → -2147483648 ≤ h + (1 : Int) ∧ h + (1 : Int) ≤ 2147483647 ∧ (jf fw_T (d + 3) 78 16 [(0, .inr (.inl 239)), (1, .inl dd), (2, .inl se), (3, .inl (h + (1 : Int)))] [] (fw_put [244] 0 [] W f) Post)) ∧ (wa < (fw_g W 12 0) → 0 ≤ h ∧ h < 14 ∧ ((0 ≤ wa ∧ wa < 14) ∧ (∀ (r1 : Int), ((-2147483648 ≤ r1 ∧ r1 ≤ 2147483647 ∧ (True))) → 0 ≤ wa ∧ wa < 14 ∧ -2147483648 ≤ r1 ∧ r1 ≤ 2147483647 ∧ (-2147483648 ≤ wa + (1 : Int) ∧ wa + (1 : Int) ≤ 2147483647 ∧ (jf fw_T (d + 3) 78 43 [(0, .inr (.inl 239)), (1, .inl dd), (2, .inl se), (3, .inl h), (4, .inl (wa + (1 : Int)))] [] (fw_put [244] 0 [] W f) Post)))))))) :
    jf fw_T (d + 3) 78 43 [(0, .inr (.inl 239)), (1, .inl dd), (2, .inl se), (3, .inl h), (4, .inl wa)] [] (fw_put [244] 0 [] W f) Post := fw_ok (n := 17) (ss := [(16, [0, 1, 2, 3]), (43, [0, 1, 2, 3, 4]), (92, [0, 1, 2, 3])]) (hv := [37, 123]) fr_78_ok fv_wdP_ok (ct_k_wwcP_ok d) hw_

theorem s_k_wwcP_92 {Post : Option fw_V → fw_W → Prop} {d : Nat} {W : fw_W} {dd se h : Int} {f : fw_W}
    (hw_ : ((h < 0 → 0 ≤ (0 : Int) ∧ (0 : Int) < 14 ∧ (-2147483648 ≤ (fw_g f 244 (0 : Int)) → (fw_g f 244 (0 : Int)) ≤ 2147483647 → ∀ v1 : Int, -2147483648 ≤ v1 → v1 ≤ 2147483647 → (-2147483648 ≤ v1 → v1 ≤ 2147483647 → Post (some (.inl v1)) (fw_put [244] 0 [] W f)))) ∧ (0 ≤ h → 0 ≤ h ∧ h < 14 ∧ (0 ≤ (fw_g W 204 h) → (fw_g W 204 h) ≤ 13 → (0 ≤ (fw_g W 204 h) ∧ (fw_g W 204 h) < 14 ∧ 0 ≤ (fw_g W 12 0) ∧ (fw_g W 12 0) ≤ 14) ∧ (∀ (f2 : fw_W), ((True)) → -2147483648 ≤ h + (-1 : Int) ∧ h + (-1 : Int) ≤ 2147483647 ∧ (jf fw_T (d + 3) 78 92 [(0, .inr (.inl 239)), (1, .inl dd), (2, .inl se), (3, .inl (h + (-1 : Int)))] [] (fw_put [244] 0 [] (fw_put [244] 0 [] W f) f2) Post)))))) :
    jf fw_T (d + 3) 78 92 [(0, .inr (.inl 239)), (1, .inl dd), (2, .inl se), (3, .inl h)] [] (fw_put [244] 0 [] W f) Post := fw_ok (n := 13) (ss := [(16, [0, 1, 2, 3]), (43, [0, 1, 2, 3, 4]), (92, [0, 1, 2, 3])]) (hv := [37, 123]) fr_78_ok fv_wdP_ok (ct_k_wwcP_ok d) hw_

theorem s_k_wwcP_16 {Post : Option fw_V → fw_W → Prop} {d : Nat} {W : fw_W} {dd se h : Int} {f : fw_W}
    (hw_ : (0 ≤ (fw_g W 12 0) → (fw_g W 12 0) ≤ 14 → (((fw_g W 12 0) ≤ h → (0 ≤ (fw_g W 12 0) → (fw_g W 12 0) ≤ 14 → -2147483648 ≤ (fw_g W 12 0) - (1 : Int) ∧ (fw_g W 12 0) - (1 : Int) ≤ 2147483647 ∧ (jf fw_T (d + 3) 78 92 [(0, .inr (.inl 239)), (1, .inl dd), (2, .inl se), (3, .inl ((fw_g W 12 0) - (1 : Int)))] [] (fw_put [244] 0 [] W f) Post))) ∧ (h < (fw_g W 12 0) → 0 ≤ h ∧ h < 14 ∧ (-2147483648 ≤ (fw_g W 240 h) → (fw_g W 240 h) ≤ 2147483647 → ((¬ (fw_g W 240 h) = (1 : Int) → jf fw_T (d + 3) 78 43 [(0, .inr (.inl 239)), (1, .inl dd), (2, .inl se), (3, .inl h), (4, .inl (0 : Int))] [] (fw_put [244] 0 [] W f) Post) ∧ ((fw_g W 240 h) = (1 : Int) → ∀ v1 : Int, -2147483648 ≤ v1 → v1 ≤ 2147483647 → jf fw_T (d + 3) 78 43 [(0, .inr (.inl 239)), (1, .inl dd), (2, .inl v1), (3, .inl h), (4, .inl (0 : Int))] [] (fw_put [244] 0 [] W f) Post))))))) :
    jf fw_T (d + 3) 78 16 [(0, .inr (.inl 239)), (1, .inl dd), (2, .inl se), (3, .inl h)] [] (fw_put [244] 0 [] W f) Post := fw_ok (n := 15) (ss := [(16, [0, 1, 2, 3]), (43, [0, 1, 2, 3, 4]), (92, [0, 1, 2, 3])]) (hv := [37, 123]) fr_78_ok fv_wdP_ok (ct_k_wwcP_ok d) hw_

theorem lm_k_wwcP_43 {Post : Option fw_V → fw_W → Prop} {d : Nat} {W : fw_W} {dd : Int} (hpre : 0 ≤ (fw_g W 12 0) ∧ (fw_g W 12 0) ≤ 14) (hP : ∀ (v : Int) (W2 : fw_W), fw_sm [244] 0 [] W W2 → (-2147483648 ≤ v ∧ v ≤ 2147483647 ∧ (True)) → Post (some (.inl v)) W2) (M16 : Int) (h16 : ∀ (se h : Int) (f : fw_W), 0 ≤ h → ((fw_g W 12 0) - h) < M16 → jf fw_T (d + 3) 78 16 [(0, .inr (.inl 239)), (1, .inl dd), (2, .inl se), (3, .inl h)] [] (fw_put [244] 0 [] W f) Post) : ∀ (m : Nat) (se h wa : Int) (f : fw_W), ((fw_g W 12 0) - wa).toNat = m → 0 ≤ wa ∧ 0 ≤ h ∧ h < (fw_g W 12 0) → ((fw_g W 12 0) - h) ≤ M16 → jf fw_T (d + 3) 78 43 [(0, .inr (.inl 239)), (1, .inl dd), (2, .inl se), (3, .inl h), (4, .inl wa)] [] (fw_put [244] 0 [] W f) Post := by
  intro m
  induction m using Nat.strongRecOn with
  | ind m ih =>
    intro se h wa f hm hi e16
    refine jf_rng (fun hrg => ?_)
    have hrg : -2147483648 ≤ dd ∧ dd ≤ 2147483647 ∧ -2147483648 ≤ se ∧ se ≤ 2147483647 ∧ -2147483648 ≤ h ∧ h ≤ 2147483647 ∧ -2147483648 ≤ wa ∧ wa ≤ 2147483647 ∧ True := hrg
    refine s_k_wwcP_43 ?_
    repeat' (first
      | (exact True.intro)
      | (exact hpre.1)
      | (refine And.intro ?_ ?_)
      | (refine jf_put (S := [244]) (o := 0) (F := []) (W := W) (by repeat (first | exact fw_sm_refl | exact fw_sm_put0 | refine fw_sm_arr ?_ rfl | refine fw_sm_up ?_ rfl | refine fw_sm_put ?_ rfl | refine fw_sm_cp ?_ rfl)) (h16 _ _ _ ?_ (by omega)); (first | omega | trivial | (simp (config := { decide := true }) only [fg_in, fg_fin, fg_out, fg_fout, fg_up, fg_same, true_and, and_true] <;> omega)))
      | (refine jf_put (S := [244]) (o := 0) (F := []) (W := W) (by repeat (first | exact fw_sm_refl | exact fw_sm_put0 | refine fw_sm_arr ?_ rfl | refine fw_sm_up ?_ rfl | refine fw_sm_put ?_ rfl | refine fw_sm_cp ?_ rfl)) (ih _ (by omega) _ _ _ _ rfl ?_ (by omega)); (first | omega | trivial | (simp (config := { decide := true }) only [fg_in, fg_fin, fg_out, fg_fout, fg_up, fg_same, true_and, and_true] <;> omega)))
      | (refine hP _ _ (by repeat (first | exact fw_sm_refl | exact fw_sm_put0 | refine fw_sm_arr ?_ rfl | refine fw_sm_up ?_ rfl | refine fw_sm_put ?_ rfl | refine fw_sm_cp ?_ rfl)) ?_; (refine ⟨by omega, by omega, ?_⟩; (first | trivial | omega)))
      | omega
      | (intro _))
theorem lm_k_wwcP_92 {Post : Option fw_V → fw_W → Prop} {d : Nat} {W : fw_W} {dd : Int} (hpre : 0 ≤ (fw_g W 12 0) ∧ (fw_g W 12 0) ≤ 14) (hP : ∀ (v : Int) (W2 : fw_W), fw_sm [244] 0 [] W W2 → (-2147483648 ≤ v ∧ v ≤ 2147483647 ∧ (True)) → Post (some (.inl v)) W2)  : ∀ (m : Nat) (se h : Int) (f : fw_W), (h + 1).toNat = m → h < 14 → jf fw_T (d + 3) 78 92 [(0, .inr (.inl 239)), (1, .inl dd), (2, .inl se), (3, .inl h)] [] (fw_put [244] 0 [] W f) Post := by
  intro m
  induction m using Nat.strongRecOn with
  | ind m ih =>
    intro se h f hm hi
    refine jf_rng (fun hrg => ?_)
    have hrg : -2147483648 ≤ dd ∧ dd ≤ 2147483647 ∧ -2147483648 ≤ se ∧ se ≤ 2147483647 ∧ -2147483648 ≤ h ∧ h ≤ 2147483647 ∧ True := hrg
    refine s_k_wwcP_92 ?_
    repeat' (first
      | (exact True.intro)
      | (exact hpre.1)
      | (refine And.intro ?_ ?_)
      | (refine jf_put (S := [244]) (o := 0) (F := []) (W := W) (by repeat (first | exact fw_sm_refl | exact fw_sm_put0 | refine fw_sm_arr ?_ rfl | refine fw_sm_up ?_ rfl | refine fw_sm_put ?_ rfl | refine fw_sm_cp ?_ rfl)) (ih _ (by omega) _ _ _ rfl ?_); (first | omega | trivial | (simp (config := { decide := true }) only [fg_in, fg_fin, fg_out, fg_fout, fg_up, fg_same, true_and, and_true] <;> omega)))
      | (refine hP _ _ (by repeat (first | exact fw_sm_refl | exact fw_sm_put0 | refine fw_sm_arr ?_ rfl | refine fw_sm_up ?_ rfl | refine fw_sm_put ?_ rfl | refine fw_sm_cp ?_ rfl)) ?_; (refine ⟨by omega, by omega, ?_⟩; (first | trivial | omega)))
      | omega
      | (intro _))
theorem lm_k_wwcP_16 {Post : Option fw_V → fw_W → Prop} {d : Nat} {W : fw_W} {dd : Int} (hpre : 0 ≤ (fw_g W 12 0) ∧ (fw_g W 12 0) ≤ 14) (hP : ∀ (v : Int) (W2 : fw_W), fw_sm [244] 0 [] W W2 → (-2147483648 ≤ v ∧ v ≤ 2147483647 ∧ (True)) → Post (some (.inl v)) W2)  : ∀ (m : Nat) (se h : Int) (f : fw_W), ((fw_g W 12 0) - h).toNat = m → 0 ≤ h → jf fw_T (d + 3) 78 16 [(0, .inr (.inl 239)), (1, .inl dd), (2, .inl se), (3, .inl h)] [] (fw_put [244] 0 [] W f) Post := by
  intro m
  induction m using Nat.strongRecOn with
  | ind m ih =>
    intro se h f hm hi
    refine jf_rng (fun hrg => ?_)
    have hrg : -2147483648 ≤ dd ∧ dd ≤ 2147483647 ∧ -2147483648 ≤ se ∧ se ≤ 2147483647 ∧ -2147483648 ≤ h ∧ h ≤ 2147483647 ∧ True := hrg
    refine s_k_wwcP_16 ?_
    repeat' (first
      | (exact True.intro)
      | (exact hpre.1)
      | (refine And.intro ?_ ?_)
      | (refine jf_put (S := [244]) (o := 0) (F := []) (W := W) (by repeat (first | exact fw_sm_refl | exact fw_sm_put0 | refine fw_sm_arr ?_ rfl | refine fw_sm_up ?_ rfl | refine fw_sm_put ?_ rfl | refine fw_sm_cp ?_ rfl)) (ih _ (by omega) _ _ _ rfl ?_); (first | omega | trivial | (simp (config := { decide := true }) only [fg_in, fg_fin, fg_out, fg_fout, fg_up, fg_same, true_and, and_true] <;> omega)))
      | (refine jf_put (S := [244]) (o := 0) (F := []) (W := W) (by repeat (first | exact fw_sm_refl | exact fw_sm_put0 | refine fw_sm_arr ?_ rfl | refine fw_sm_up ?_ rfl | refine fw_sm_put ?_ rfl | refine fw_sm_cp ?_ rfl)) (lm_k_wwcP_43 (dd := dd) hpre hP ((fw_g W 12 0) - h) (fun a0 a1 af hi hl => ih _ (by omega) a0 a1 af rfl hi) _ _ _ _ _ rfl ?_ (by omega)); (first | omega | trivial | (simp (config := { decide := true }) only [fg_in, fg_fin, fg_out, fg_fout, fg_up, fg_same, true_and, and_true] <;> omega)))
      | (refine jf_put (S := [244]) (o := 0) (F := []) (W := W) (by repeat (first | exact fw_sm_refl | exact fw_sm_put0 | refine fw_sm_arr ?_ rfl | refine fw_sm_up ?_ rfl | refine fw_sm_put ?_ rfl | refine fw_sm_cp ?_ rfl)) (lm_k_wwcP_92 (dd := dd) hpre hP _ _ _ _ rfl ?_); (first | omega | trivial | (simp (config := { decide := true }) only [fg_in, fg_fin, fg_out, fg_fout, fg_up, fg_same, true_and, and_true] <;> omega)))
      | (refine hP _ _ (by repeat (first | exact fw_sm_refl | exact fw_sm_put0 | refine fw_sm_arr ?_ rfl | refine fw_sm_up ?_ rfl | refine fw_sm_put ?_ rfl | refine fw_sm_cp ?_ rfl)) ?_; (refine ⟨by omega, by omega, ?_⟩; (first | trivial | omega)))
      | omega
      | (intro _))
def x_k_wwcP : fw_X := fun as W Q => match as with
  | [.inr (.inl s_), .inl dd] => fw_if (Nat.beq s_ 239) ((0 ≤ (fw_g W 12 0) ∧ (fw_g W 12 0) ≤ 14) ∧ (∀ (v : Int) (f : fw_W), (-2147483648 ≤ v ∧ v ≤ 2147483647 ∧ (True)) → Q (some (.inl v)) (fw_put [244] 0 [] W f)))
  | _ => False
theorem x_k_wwcP_ok (d : Nat) (as : List fw_V) (W : fw_W) (Q : Option fw_V → fw_W → Prop) (hx : x_k_wwcP as W Q) : jf fw_T (d + 3) 78 0 (fw_args 0 as) [] W Q := by
  unfold x_k_wwcP at hx
  split at hx
  · rename_i s_ dd
    obtain ⟨e_, hpre, hQ⟩ := fw_if_ok hx
    have e_ := Nat.eq_of_beq_eq_true e_
    subst e_
    have hP : ∀ (v : Int) (W2 : fw_W), fw_sm [244] 0 [] W W2 → _ → Q (some (.inl v)) W2 := fun v W2 hs hr => fw_sm_use (Q := fun Z => Q (some (.inl v)) Z) hs (hQ v W2 hr)
    refine s_k_wwcP_0 ?_
    repeat' (first
      | (exact True.intro)
      | (exact hpre.1)
      | (refine And.intro ?_ ?_)
      | (refine jf_put (S := [244]) (o := 0) (F := []) (W := W) (by repeat (first | exact fw_sm_refl | exact fw_sm_put0 | refine fw_sm_arr ?_ rfl | refine fw_sm_up ?_ rfl | refine fw_sm_put ?_ rfl | refine fw_sm_cp ?_ rfl)) (lm_k_wwcP_16 (dd := dd) hpre hP _ _ _ _ rfl ?_); (first | omega | trivial | (simp (config := { decide := true }) only [fg_in, fg_fin, fg_out, fg_fout, fg_up, fg_same, true_and, and_true] <;> omega)))
      | (refine jf_put (S := [244]) (o := 0) (F := []) (W := W) (by repeat (first | exact fw_sm_refl | exact fw_sm_put0 | refine fw_sm_arr ?_ rfl | refine fw_sm_up ?_ rfl | refine fw_sm_put ?_ rfl | refine fw_sm_cp ?_ rfl)) (lm_k_wwcP_43 (dd := dd) hpre hP M16 h16 _ _ _ _ _ rfl ?_ (by omega)); (first | omega | trivial | (simp (config := { decide := true }) only [fg_in, fg_fin, fg_out, fg_fout, fg_up, fg_same, true_and, and_true] <;> omega)))
      | (refine jf_put (S := [244]) (o := 0) (F := []) (W := W) (by repeat (first | exact fw_sm_refl | exact fw_sm_put0 | refine fw_sm_arr ?_ rfl | refine fw_sm_up ?_ rfl | refine fw_sm_put ?_ rfl | refine fw_sm_cp ?_ rfl)) (lm_k_wwcP_92 (dd := dd) hpre hP _ _ _ _ rfl ?_); (first | omega | trivial | (simp (config := { decide := true }) only [fg_in, fg_fin, fg_out, fg_fout, fg_up, fg_same, true_and, and_true] <;> omega)))
      | (refine hP _ _ (by repeat (first | exact fw_sm_refl | exact fw_sm_put0 | refine fw_sm_arr ?_ rfl | refine fw_sm_up ?_ rfl | refine fw_sm_put ?_ rfl | refine fw_sm_cp ?_ rfl)) ?_; (refine ⟨by omega, by omega, ?_⟩; (first | trivial | omega)))
      | omega
      | (intro _))
  · exact hx.elim

def fr_76 : fw_P := [(0, 2, 0, 0, 0), (1, 64, 77, 0, 206), (4, 2, 0, 0, 0), (5, 1, 1, 0, 0), (6, 64, 78, 1, 506), (9, 70, 0, 0, 0)]
theorem fr_76_ok : fw_mk 76 2 6 (some .int) fr_76 = true := by decide +kernel
def ct_k_leastWP : List (Nat × fw_X) := [(77, x_k_freeAllP), (78, x_k_wwcP)]
theorem ct_k_leastWP_ok (d : Nat) : fw_cok fw_T (d + 3) ct_k_leastWP := by
  intro q hq as W Q h
  simp only [ct_k_leastWP, List.mem_cons, List.not_mem_nil, or_false] at hq
  rcases hq with rfl | rfl
  · exact jc_of (x_k_freeAllP_ok (d + 2) as W Q h)
  · exact jc_of (x_k_wwcP_ok (d + 0) as W Q h)
theorem s_k_leastWP_0 {Post : Option fw_V → fw_W → Prop} {d : Nat} {W : fw_W} {dd : Int}
    (hw_ : (True) ∧ (∀ (f1 : fw_W), ((True)) → (0 ≤ (fw_g W 12 0) ∧ (fw_g W 12 0) ≤ 14) ∧ (∀ (r2 : Int) (f3 : fw_W), ((-2147483648 ≤ r2 ∧ r2 ≤ 2147483647 ∧ (True))) → (-2147483648 ≤ r2 → r2 ≤ 2147483647 → Post (some (.inl r2)) (fw_put [244] 0 [] (fw_put [240] 0 [] W f1) f3))))) :
    jf fw_T (d + 4) 76 0 [(0, .inr (.inl 239)), (1, .inl dd)] [] W Post := fw_ok (n := 7) (ss := []) (hv := []) fr_76_ok fv_wdP_ok (ct_k_leastWP_ok d) hw_

def x_k_leastWP : fw_X := fun as W Q => match as with
  | [.inr (.inl s_), .inl dd] => fw_if (Nat.beq s_ 239) ((0 ≤ (fw_g W 12 0) ∧ (fw_g W 12 0) ≤ 14) ∧ (∀ (v : Int) (f : fw_W), (-2147483648 ≤ v ∧ v ≤ 2147483647 ∧ (True)) → Q (some (.inl v)) (fw_put [240, 244] 0 [] W f)))
  | _ => False
theorem x_k_leastWP_ok (d : Nat) (as : List fw_V) (W : fw_W) (Q : Option fw_V → fw_W → Prop) (hx : x_k_leastWP as W Q) : jf fw_T (d + 4) 76 0 (fw_args 0 as) [] W Q := by
  unfold x_k_leastWP at hx
  split at hx
  · rename_i s_ dd
    obtain ⟨e_, hpre, hQ⟩ := fw_if_ok hx
    have e_ := Nat.eq_of_beq_eq_true e_
    subst e_
    have hP : ∀ (v : Int) (W2 : fw_W), fw_sm [240, 244] 0 [] W W2 → _ → Q (some (.inl v)) W2 := fun v W2 hs hr => fw_sm_use (Q := fun Z => Q (some (.inl v)) Z) hs (hQ v W2 hr)
    refine s_k_leastWP_0 ?_
    repeat' (first
      | (exact True.intro)
      | (exact hpre.1)
      | (refine And.intro ?_ ?_)
      | (refine hP _ _ (by repeat (first | exact fw_sm_refl | exact fw_sm_put0 | refine fw_sm_arr ?_ rfl | refine fw_sm_up ?_ rfl | refine fw_sm_put ?_ rfl | refine fw_sm_cp ?_ rfl)) ?_; (refine ⟨by omega, by omega, ?_⟩; (first | trivial | omega)))
      | omega
      | (intro _))
  · exact hx.elim

def fr_75 : fw_P := [(0, 2, 0, 0, 0), (1, 1, 1, 0, 0), (2, 64, 76, 1, 206), (5, 3, 2, 0, 0), (6, 0, 0, 0, 0), (7, 3, 3, 0, 0), (8, 0, 0, 0, 0), (9, 3, 4, 0, 0), (11, 1, 4, 0, 0), (13, 2, 0, 0, 0), (14, 50, 6, 2, 0), (17, 50, 9, 0, 0), (20, 13, 64, 0, 0), (23, 2, 0, 0, 0), (24, 50, 6, 4, 0), (27, 1, 4, 0, 0), (29, 0, 0, 0, 1), (30, 53, 0, 0, 0), (31, 2, 0, 0, 0), (32, 1, 1, 0, 0), (33, 64, 78, 1, 506), (36, 1, 2, 0, 0), (37, 15, 51, 0, 0), (40, 2, 0, 0, 0), (41, 50, 6, 4, 0), (44, 1, 4, 0, 0), (46, 0, 0, 0, 2), (47, 53, 0, 0, 0), (48, 6, 58, 0, 0), (51, 1, 3, 0, 0), (52, 0, 0, 0, 1), (53, 1, 4, 0, 0), (55, 39, 0, 0, 0), (56, 37, 0, 0, 0), (57, 3, 3, 0, 0), (58, 5, 4, 0, 1), (61, 6, 11, 0, 0), (64, 1, 3, 0, 0), (65, 70, 0, 0, 0)]
theorem fr_75_ok : fw_mk 75 5 6 (some .int) fr_75 = true := by decide +kernel
def ct_k_wardenMask : List (Nat × fw_X) := [(76, x_k_leastWP), (78, x_k_wwcP)]
theorem ct_k_wardenMask_ok (d : Nat) : fw_cok fw_T (d + 4) ct_k_wardenMask := by
  intro q hq as W Q h
  simp only [ct_k_wardenMask, List.mem_cons, List.not_mem_nil, or_false] at hq
  rcases hq with rfl | rfl
  · exact jc_of (x_k_leastWP_ok (d + 0) as W Q h)
  · exact jc_of (x_k_wwcP_ok (d + 1) as W Q h)
theorem s_k_wardenMask_0 {Post : Option fw_V → fw_W → Prop} {d : Nat} {W : fw_W} {dd : Int}
    (hw_ : (0 ≤ (fw_g W 12 0) ∧ (fw_g W 12 0) ≤ 14) ∧ (∀ (r1 : Int) (f2 : fw_W), ((-2147483648 ≤ r1 ∧ r1 ≤ 2147483647 ∧ (True))) → jf fw_T (d + 5) 75 11 [(0, .inr (.inl 239)), (1, .inl dd), (2, .inl r1), (3, .inl (0 : Int)), (4, .inl (0 : Int))] [] (fw_put [240, 244] 0 [] W f2) Post)) :
    jf fw_T (d + 5) 75 0 [(0, .inr (.inl 239)), (1, .inl dd)] [] W Post := fw_ok (n := 9) (ss := [(11, [0, 1, 2, 3, 4])]) (hv := []) fr_75_ok fv_wdP_ok (ct_k_wardenMask_ok d) hw_

theorem s_k_wardenMask_11 {Post : Option fw_V → fw_W → Prop} {d : Nat} {W : fw_W} {dd le ma h : Int} {f : fw_W}
    (hw_ : (0 ≤ (fw_g W 12 0) → (fw_g W 12 0) ≤ 14 → (((fw_g W 12 0) ≤ h → (-2147483648 ≤ ma → ma ≤ 2147483647 → Post (some (.inl ma)) (fw_put [240, 244] 0 [] W f))) ∧ (h < (fw_g W 12 0) → 0 ≤ h ∧ h < 14 ∧ -2147483648 ≤ (1 : Int) ∧ (1 : Int) ≤ 2147483647 ∧ ((0 ≤ (fw_g W 12 0) ∧ (fw_g W 12 0) ≤ 14) ∧ (∀ (r1 : Int) (f2 : fw_W), ((-2147483648 ≤ r1 ∧ r1 ≤ 2147483647 ∧ (True))) → ((r1 ≤ le → (-2147483648 ≤ (fw_shl (1 : Int) h) → (fw_shl (1 : Int) h) ≤ 2147483647 → (-2147483648 ≤ (fw_or ma (fw_shl (1 : Int) h)) → (fw_or ma (fw_shl (1 : Int) h)) ≤ 2147483647 → -2147483648 ≤ h + (1 : Int) ∧ h + (1 : Int) ≤ 2147483647 ∧ (jf fw_T (d + 5) 75 11 [(0, .inr (.inl 239)), (1, .inl dd), (2, .inl le), (3, .inl (fw_or ma (fw_shl (1 : Int) h))), (4, .inl (h + (1 : Int)))] [] (fw_put [244] 0 [] (fw_up (fw_put [240, 244] 0 [] W f) 240 h (1 : Int)) f2) Post)))) ∧ (le < r1 → 0 ≤ h ∧ h < 14 ∧ -2147483648 ≤ (2 : Int) ∧ (2 : Int) ≤ 2147483647 ∧ (-2147483648 ≤ h + (1 : Int) ∧ h + (1 : Int) ≤ 2147483647 ∧ (jf fw_T (d + 5) 75 11 [(0, .inr (.inl 239)), (1, .inl dd), (2, .inl le), (3, .inl ma), (4, .inl (h + (1 : Int)))] [] (fw_up (fw_put [244] 0 [] (fw_up (fw_put [240, 244] 0 [] W f) 240 h (1 : Int)) f2) 240 h (2 : Int)) Post)))))))))) :
    jf fw_T (d + 5) 75 11 [(0, .inr (.inl 239)), (1, .inl dd), (2, .inl le), (3, .inl ma), (4, .inl h)] [] (fw_put [240, 244] 0 [] W f) Post := fw_ok (n := 24) (ss := [(11, [0, 1, 2, 3, 4])]) (hv := []) fr_75_ok fv_wdP_ok (ct_k_wardenMask_ok d) hw_

theorem lm_k_wardenMask_11 {Post : Option fw_V → fw_W → Prop} {d : Nat} {W : fw_W} {dd : Int} (hpre : 0 ≤ (fw_g W 12 0) ∧ (fw_g W 12 0) ≤ 14) (hP : ∀ (v : Int) (W2 : fw_W), fw_sm [240, 244] 0 [] W W2 → (-2147483648 ≤ v ∧ v ≤ 2147483647 ∧ (True)) → Post (some (.inl v)) W2)  : ∀ (m : Nat) (le ma h : Int) (f : fw_W), ((fw_g W 12 0) - h).toNat = m → 0 ≤ h → jf fw_T (d + 5) 75 11 [(0, .inr (.inl 239)), (1, .inl dd), (2, .inl le), (3, .inl ma), (4, .inl h)] [] (fw_put [240, 244] 0 [] W f) Post := by
  intro m
  induction m using Nat.strongRecOn with
  | ind m ih =>
    intro le ma h f hm hi
    refine jf_rng (fun hrg => ?_)
    have hrg : -2147483648 ≤ dd ∧ dd ≤ 2147483647 ∧ -2147483648 ≤ le ∧ le ≤ 2147483647 ∧ -2147483648 ≤ ma ∧ ma ≤ 2147483647 ∧ -2147483648 ≤ h ∧ h ≤ 2147483647 ∧ True := hrg
    refine s_k_wardenMask_11 ?_
    repeat' (first
      | (exact True.intro)
      | (exact hpre.1)
      | (refine And.intro ?_ ?_)
      | (refine jf_put (S := [240, 244]) (o := 0) (F := []) (W := W) (by repeat (first | exact fw_sm_refl | exact fw_sm_put0 | refine fw_sm_arr ?_ rfl | refine fw_sm_up ?_ rfl | refine fw_sm_put ?_ rfl | refine fw_sm_cp ?_ rfl)) (ih _ (by omega) _ _ _ _ rfl ?_); (first | omega | trivial | (simp (config := { decide := true }) only [fg_in, fg_fin, fg_out, fg_fout, fg_up, fg_same, true_and, and_true] <;> omega)))
      | (refine hP _ _ (by repeat (first | exact fw_sm_refl | exact fw_sm_put0 | refine fw_sm_arr ?_ rfl | refine fw_sm_up ?_ rfl | refine fw_sm_put ?_ rfl | refine fw_sm_cp ?_ rfl)) ?_; (refine ⟨by omega, by omega, ?_⟩; (first | trivial | omega)))
      | omega
      | (intro _))
def x_k_wardenMask : fw_X := fun as W Q => match as with
  | [.inr (.inl s_), .inl dd] => fw_if (Nat.beq s_ 239) ((0 ≤ (fw_g W 12 0) ∧ (fw_g W 12 0) ≤ 14) ∧ (∀ (v : Int) (f : fw_W), (-2147483648 ≤ v ∧ v ≤ 2147483647 ∧ (True)) → Q (some (.inl v)) (fw_put [240, 244] 0 [] W f)))
  | _ => False
theorem x_k_wardenMask_ok (d : Nat) (as : List fw_V) (W : fw_W) (Q : Option fw_V → fw_W → Prop) (hx : x_k_wardenMask as W Q) : jf fw_T (d + 5) 75 0 (fw_args 0 as) [] W Q := by
  unfold x_k_wardenMask at hx
  split at hx
  · rename_i s_ dd
    obtain ⟨e_, hpre, hQ⟩ := fw_if_ok hx
    have e_ := Nat.eq_of_beq_eq_true e_
    subst e_
    have hP : ∀ (v : Int) (W2 : fw_W), fw_sm [240, 244] 0 [] W W2 → _ → Q (some (.inl v)) W2 := fun v W2 hs hr => fw_sm_use (Q := fun Z => Q (some (.inl v)) Z) hs (hQ v W2 hr)
    refine s_k_wardenMask_0 ?_
    repeat' (first
      | (exact True.intro)
      | (exact hpre.1)
      | (refine And.intro ?_ ?_)
      | (refine jf_put (S := [240, 244]) (o := 0) (F := []) (W := W) (by repeat (first | exact fw_sm_refl | exact fw_sm_put0 | refine fw_sm_arr ?_ rfl | refine fw_sm_up ?_ rfl | refine fw_sm_put ?_ rfl | refine fw_sm_cp ?_ rfl)) (lm_k_wardenMask_11 (dd := dd) hpre hP _ _ _ _ _ rfl ?_); (first | omega | trivial | (simp (config := { decide := true }) only [fg_in, fg_fin, fg_out, fg_fout, fg_up, fg_same, true_and, and_true] <;> omega)))
      | (refine hP _ _ (by repeat (first | exact fw_sm_refl | exact fw_sm_put0 | refine fw_sm_arr ?_ rfl | refine fw_sm_up ?_ rfl | refine fw_sm_put ?_ rfl | refine fw_sm_cp ?_ rfl)) ?_; (refine ⟨by omega, by omega, ?_⟩; (first | trivial | omega)))
      | omega
      | (intro _))
  · exact hx.elim

def fr_85 : fw_P := [(0, 0, 0, 0, 0), (1, 3, 2, 0, 0), (2, 0, 0, 0, 999), (5, 3, 3, 0, 0), (6, 0, 0, 0, 0), (7, 3, 4, 0, 0), (9, 1, 4, 0, 0), (11, 0, 0, 0, 10), (13, 13, 55, 0, 0), (16, 1, 2, 0, 0), (17, 1, 3, 0, 0), (18, 13, 55, 0, 0), (21, 1, 2, 0, 0), (22, 1, 3, 0, 0), (23, 30, 0, 0, 0), (24, 0, 0, 0, 2), (25, 33, 0, 0, 0), (26, 3, 5, 0, 0), (28, 2, 0, 0, 0), (29, 1, 5, 0, 0), (31, 64, 76, 1, 206), (34, 1, 1, 0, 0), (35, 14, 44, 0, 0), (38, 1, 5, 0, 0), (40, 3, 3, 0, 0), (41, 6, 49, 0, 0), (44, 1, 5, 0, 0), (46, 0, 0, 0, 1), (47, 30, 0, 0, 0), (48, 3, 2, 0, 0), (49, 5, 4, 0, 1), (52, 6, 9, 0, 0), (55, 1, 2, 0, 0), (56, 70, 0, 0, 0)]
theorem fr_85_ok : fw_mk 85 6 6 (some .int) fr_85 = true := by decide +kernel
def ct_k_leastReach : List (Nat × fw_X) := [(76, x_k_leastWP)]
theorem ct_k_leastReach_ok (d : Nat) : fw_cok fw_T (d + 4) ct_k_leastReach := by
  intro q hq as W Q h
  simp only [ct_k_leastReach, List.mem_cons, List.not_mem_nil, or_false] at hq
  rcases hq with rfl
  · exact jc_of (x_k_leastWP_ok (d + 0) as W Q h)
theorem s_k_leastReach_0 {Post : Option fw_V → fw_W → Prop} {d : Nat} {W : fw_W} {kk : Int}
    (hw_ : jf fw_T (d + 5) 85 9 [(0, .inr (.inl 239)), (1, .inl kk), (2, .inl (0 : Int)), (3, .inl (999 : Int)), (4, .inl (0 : Int))] [] W Post) :
    jf fw_T (d + 5) 85 0 [(0, .inr (.inl 239)), (1, .inl kk)] [] W Post := fw_ok (n := 7) (ss := [(9, [0, 1, 2, 3, 4])]) (hv := [23, 25, 47]) fr_85_ok fv_wdP_ok (ct_k_leastReach_ok d) hw_

theorem s_k_leastReach_9 {Post : Option fw_V → fw_W → Prop} {d : Nat} {W : fw_W} {kk lo hi_ ha : Int} {f : fw_W}
    (hw_ : (((10 : Int) ≤ ha → (-2147483648 ≤ lo → lo ≤ 2147483647 → Post (some (.inl lo)) (fw_put [240, 244] 0 [] W f))) ∧ (ha < (10 : Int) → ((hi_ ≤ lo → (-2147483648 ≤ lo → lo ≤ 2147483647 → Post (some (.inl lo)) (fw_put [240, 244] 0 [] W f))) ∧ (lo < hi_ → ∀ v1 : Int, -2147483648 ≤ v1 → v1 ≤ 2147483647 → ¬ (2 : Int) = 0 ∧ (∀ v2 : Int, -2147483648 ≤ v2 → v2 ≤ 2147483647 → (0 ≤ (fw_g W 12 0) ∧ (fw_g W 12 0) ≤ 14) ∧ (∀ (r3 : Int) (f4 : fw_W), ((-2147483648 ≤ r3 ∧ r3 ≤ 2147483647 ∧ (True))) → ((kk < r3 → ∀ v5 : Int, -2147483648 ≤ v5 → v5 ≤ 2147483647 → -2147483648 ≤ ha + (1 : Int) ∧ ha + (1 : Int) ≤ 2147483647 ∧ (jf fw_T (d + 5) 85 9 [(0, .inr (.inl 239)), (1, .inl kk), (2, .inl v5), (3, .inl hi_), (4, .inl (ha + (1 : Int)))] [] (fw_put [240, 244] 0 [] (fw_put [240, 244] 0 [] W f) f4) Post)) ∧ (r3 ≤ kk → -2147483648 ≤ ha + (1 : Int) ∧ ha + (1 : Int) ≤ 2147483647 ∧ (jf fw_T (d + 5) 85 9 [(0, .inr (.inl 239)), (1, .inl kk), (2, .inl lo), (3, .inl v2), (4, .inl (ha + (1 : Int)))] [] (fw_put [240, 244] 0 [] (fw_put [240, 244] 0 [] W f) f4) Post)))))))))) :
    jf fw_T (d + 5) 85 9 [(0, .inr (.inl 239)), (1, .inl kk), (2, .inl lo), (3, .inl hi_), (4, .inl ha)] [] (fw_put [240, 244] 0 [] W f) Post := fw_ok (n := 24) (ss := [(9, [0, 1, 2, 3, 4])]) (hv := [23, 25, 47]) fr_85_ok fv_wdP_ok (ct_k_leastReach_ok d) hw_

theorem lm_k_leastReach_9 {Post : Option fw_V → fw_W → Prop} {d : Nat} {W : fw_W} {kk : Int} (hpre : 0 ≤ (fw_g W 12 0) ∧ (fw_g W 12 0) ≤ 14) (hP : ∀ (v : Int) (W2 : fw_W), fw_sm [240, 244] 0 [] W W2 → (-2147483648 ≤ v ∧ v ≤ 2147483647 ∧ (True)) → Post (some (.inl v)) W2)  : ∀ (m : Nat) (lo hi_ ha : Int) (f : fw_W), (10 - ha).toNat = m → 0 ≤ ha → jf fw_T (d + 5) 85 9 [(0, .inr (.inl 239)), (1, .inl kk), (2, .inl lo), (3, .inl hi_), (4, .inl ha)] [] (fw_put [240, 244] 0 [] W f) Post := by
  intro m
  induction m using Nat.strongRecOn with
  | ind m ih =>
    intro lo hi_ ha f hm hi
    refine jf_rng (fun hrg => ?_)
    have hrg : -2147483648 ≤ kk ∧ kk ≤ 2147483647 ∧ -2147483648 ≤ lo ∧ lo ≤ 2147483647 ∧ -2147483648 ≤ hi_ ∧ hi_ ≤ 2147483647 ∧ -2147483648 ≤ ha ∧ ha ≤ 2147483647 ∧ True := hrg
    refine s_k_leastReach_9 ?_
    repeat' (first
      | (exact True.intro)
      | (exact hpre.1)
      | (refine And.intro ?_ ?_)
      | (refine jf_put (S := [240, 244]) (o := 0) (F := []) (W := W) (by repeat (first | exact fw_sm_refl | exact fw_sm_put0 | refine fw_sm_arr ?_ rfl | refine fw_sm_up ?_ rfl | refine fw_sm_put ?_ rfl | refine fw_sm_cp ?_ rfl)) (ih _ (by omega) _ _ _ _ rfl ?_); (first | omega | trivial | (simp (config := { decide := true }) only [fg_in, fg_fin, fg_out, fg_fout, fg_up, fg_same, true_and, and_true] <;> omega)))
      | (refine hP _ _ (by repeat (first | exact fw_sm_refl | exact fw_sm_put0 | refine fw_sm_arr ?_ rfl | refine fw_sm_up ?_ rfl | refine fw_sm_put ?_ rfl | refine fw_sm_cp ?_ rfl)) ?_; (refine ⟨by omega, by omega, ?_⟩; (first | trivial | omega)))
      | omega
      | (intro _))
def x_k_leastReach : fw_X := fun as W Q => match as with
  | [.inr (.inl s_), .inl kk] => fw_if (Nat.beq s_ 239) ((0 ≤ (fw_g W 12 0) ∧ (fw_g W 12 0) ≤ 14) ∧ (∀ (v : Int) (f : fw_W), (-2147483648 ≤ v ∧ v ≤ 2147483647 ∧ (True)) → Q (some (.inl v)) (fw_put [240, 244] 0 [] W f)))
  | _ => False
theorem x_k_leastReach_ok (d : Nat) (as : List fw_V) (W : fw_W) (Q : Option fw_V → fw_W → Prop) (hx : x_k_leastReach as W Q) : jf fw_T (d + 5) 85 0 (fw_args 0 as) [] W Q := by
  unfold x_k_leastReach at hx
  split at hx
  · rename_i s_ kk
    obtain ⟨e_, hpre, hQ⟩ := fw_if_ok hx
    have e_ := Nat.eq_of_beq_eq_true e_
    subst e_
    have hP : ∀ (v : Int) (W2 : fw_W), fw_sm [240, 244] 0 [] W W2 → _ → Q (some (.inl v)) W2 := fun v W2 hs hr => fw_sm_use (Q := fun Z => Q (some (.inl v)) Z) hs (hQ v W2 hr)
    refine s_k_leastReach_0 ?_
    repeat' (first
      | (exact True.intro)
      | (exact hpre.1)
      | (refine And.intro ?_ ?_)
      | (refine jf_put (S := [240, 244]) (o := 0) (F := []) (W := W) (by repeat (first | exact fw_sm_refl | exact fw_sm_put0 | refine fw_sm_arr ?_ rfl | refine fw_sm_up ?_ rfl | refine fw_sm_put ?_ rfl | refine fw_sm_cp ?_ rfl)) (lm_k_leastReach_9 (kk := kk) hpre hP _ _ _ _ _ rfl ?_); (first | omega | trivial | (simp (config := { decide := true }) only [fg_in, fg_fin, fg_out, fg_fout, fg_up, fg_same, true_and, and_true] <;> omega)))
      | (refine hP _ _ (by repeat (first | exact fw_sm_refl | exact fw_sm_put0 | refine fw_sm_arr ?_ rfl | refine fw_sm_up ?_ rfl | refine fw_sm_put ?_ rfl | refine fw_sm_cp ?_ rfl)) ?_; (refine ⟨by omega, by omega, ?_⟩; (first | trivial | omega)))
      | omega
      | (intro _))
  · exact hx.elim

def fv_layv : List (Nat × ai_C) := [(0, .inr (.inr (.inr (11, [.inr (.inl [1]), .inr (.inl [3]), .inr (.inl [12]), .inr (.inl [16]), .inr (.inl [37]), .inr (.inl [203]), .inr (.inl [223]), .inr (.inl [239]), .inr (.inl [266]), .inr (.inl [268]), .inr (.inl [324]), .inr (.inl [337]), .inr (.inl [338]), .inr (.inl [339]), .inl (0, 14, true)])))), (339, .inl (.int, 14, -2147483648, 2147483647, true)), (12, .inr (.inr (.inr (9, [.inl (0, 14, true), .inl (0, 999, true), .inr (.inl [13]), .inr (.inl [14]), .inr (.inl [15])])))), (239, .inr (.inr (.inr (6, [.inl (-2147483648, 2147483647, true), .inl (-2147483648, 2147483647, true), .inr (.inl [12]), .inr (.inl [203]), .inr (.inl [240]), .inr (.inl [241]), .inr (.inl [242]), .inr (.inl [243]), .inr (.inl [244]), .inr (.inl [245]), .inr (.inl [260])]))))]
def fg_layv_G : fw_G := []
theorem fv_layv_ok : fw_view fw_T fv_layv fg_layv_G := fw_vb_ok (by decide +kernel)
def fr_166 : fw_P := [(0, 2, 0, 0, 0), (1, 0, 0, 0, 0), (2, 51, 11, 14, 0), (5, 0, 0, 0, 0), (6, 3, 2, 0, 0), (7, 1, 2, 0, 0), (8, 0, 0, 0, 14), (10, 13, 47, 0, 0), (13, 1, 1, 0, 0), (14, 1, 2, 0, 0), (15, 40, 0, 0, 0), (16, 0, 0, 0, 1), (17, 36, 0, 0, 0), (18, 20, 41, 0, 0), (21, 2, 0, 0, 0), (22, 50, 11, 13, 0), (25, 2, 0, 0, 0), (26, 50, 11, 14, 0), (29, 1, 2, 0, 0), (30, 53, 0, 0, 0), (31, 2, 0, 0, 0), (32, 43, 0, 0, 0), (33, 50, 11, 14, 0), (36, 0, 0, 0, 1), (37, 30, 0, 0, 0), (38, 51, 11, 14, 0), (41, 5, 2, 0, 1), (44, 6, 7, 0, 0), (47, 72, 0, 0, 0)]
theorem fr_166_ok : fw_mk 166 3 11 none fr_166 = true := by decide +kernel
theorem s_k_lay_0 {Post : Option fw_V → fw_W → Prop} {d : Nat} {W : fw_W} {ma : Int}
    (hw_ : 0 ≤ (0 : Int) ∧ (0 : Int) ≤ 14 ∧ (jf fw_T (d + 1) 166 7 [(0, .inr (.inl 0)), (1, .inl ma), (2, .inl (0 : Int))] [] (fw_up W 0 14 (0 : Int)) Post)) :
    jf fw_T (d + 1) 166 0 [(0, .inr (.inl 0)), (1, .inl ma)] [] W Post := fw_ok (n := 6) (ss := [(7, [0, 1, 2])]) (hv := []) fr_166_ok fv_layv_ok (fw_c0 _ _) hw_

theorem s_k_lay_7 {Post : Option fw_V → fw_W → Prop} {d : Nat} {W : fw_W} {ma h : Int} {f : fw_W}
    (hw_ : (((14 : Int) ≤ h → Post none (fw_put [339] 0 [14] W f)) ∧ (h < (14 : Int) → (-2147483648 ≤ (fw_shr ma h) → (fw_shr ma h) ≤ 2147483647 → (-2147483648 ≤ (fw_and (fw_shr ma h) (1 : Int)) → (fw_and (fw_shr ma h) (1 : Int)) ≤ 2147483647 → (((fw_and (fw_shr ma h) (1 : Int)) = 0 → -2147483648 ≤ h + (1 : Int) ∧ h + (1 : Int) ≤ 2147483647 ∧ (jf fw_T (d + 1) 166 7 [(0, .inr (.inl 0)), (1, .inl ma), (2, .inl (h + (1 : Int)))] [] (fw_put [339] 0 [14] W f) Post)) ∧ (¬ (fw_and (fw_shr ma h) (1 : Int)) = 0 → (0 ≤ (fw_g f 0 14) → (fw_g f 0 14) ≤ 14 → 0 ≤ (fw_g f 0 14) ∧ (fw_g f 0 14) < 14 ∧ -2147483648 ≤ h ∧ h ≤ 2147483647 ∧ ((0 ≤ (fw_g f 0 14) → (fw_g f 0 14) ≤ 14 → -2147483648 ≤ (fw_g f 0 14) + (1 : Int) ∧ (fw_g f 0 14) + (1 : Int) ≤ 2147483647 ∧ (0 ≤ ((fw_g f 0 14) + (1 : Int)) ∧ ((fw_g f 0 14) + (1 : Int)) ≤ 14 ∧ (-2147483648 ≤ h + (1 : Int) ∧ h + (1 : Int) ≤ 2147483647 ∧ (jf fw_T (d + 1) 166 7 [(0, .inr (.inl 0)), (1, .inl ma), (2, .inl (h + (1 : Int)))] [] (fw_up (fw_up (fw_put [339] 0 [14] W f) 339 (fw_g f 0 14) h) 0 14 ((fw_g f 0 14) + (1 : Int))) Post))))))))))))) :
    jf fw_T (d + 1) 166 7 [(0, .inr (.inl 0)), (1, .inl ma), (2, .inl h)] [] (fw_put [339] 0 [14] W f) Post := fw_ok (n := 24) (ss := [(7, [0, 1, 2])]) (hv := []) fr_166_ok fv_layv_ok (fw_c0 _ _) hw_

theorem lm_k_lay_7 {Post : Option fw_V → fw_W → Prop} {d : Nat} {W : fw_W} {ma : Int} (hpre : True) (hP : ∀ (W2 : fw_W), fw_sm [339] 0 [14] W W2 → (True) → Post none W2)  : ∀ (m : Nat) (h : Int) (f : fw_W), (14 - h).toNat = m → 0 ≤ h ∧ h ≤ 14 ∧ 0 ≤ (fw_g f 0 14) ∧ (fw_g f 0 14) ≤ h → jf fw_T (d + 1) 166 7 [(0, .inr (.inl 0)), (1, .inl ma), (2, .inl h)] [] (fw_put [339] 0 [14] W f) Post := by
  intro m
  induction m using Nat.strongRecOn with
  | ind m ih =>
    intro h f hm hi
    refine jf_rng (fun hrg => ?_)
    have hrg : -2147483648 ≤ ma ∧ ma ≤ 2147483647 ∧ -2147483648 ≤ h ∧ h ≤ 2147483647 ∧ True := hrg
    refine s_k_lay_7 ?_
    repeat' (first
      | (exact True.intro)
      | (exact hpre.1)
      | (refine And.intro ?_ ?_)
      | (refine (ih _ (by omega) _ _ rfl ?_); (first | omega | (simp (disch := first | decide | omega) only [fg_same, fg_lit, fg_in, fg_fin, fg_out, fg_fout, fg_up, true_and, and_true, true_or, or_true, true_implies]; omega) | (simp (disch := first | decide | omega) only [fg_same, fg_lit, fg_in, fg_fin, fg_out, fg_fout, fg_up, true_and, and_true, true_or, or_true, true_implies]; first | done | omega)))
      | (refine jf_put (S := [339]) (o := 0) (F := [14]) (W := W) (by repeat (first | exact fw_sm_refl | exact fw_sm_put0 | refine fw_sm_arr ?_ rfl | refine fw_sm_up ?_ rfl | refine fw_sm_put ?_ rfl | refine fw_sm_cp ?_ rfl)) (ih _ (by omega) _ _ rfl ?_); (first | omega | (simp (disch := first | decide | omega) only [fg_same, fg_lit, fg_in, fg_fin, fg_out, fg_fout, fg_up, true_and, and_true, true_or, or_true, true_implies]; omega) | (simp (disch := first | decide | omega) only [fg_same, fg_lit, fg_in, fg_fin, fg_out, fg_fout, fg_up, true_and, and_true, true_or, or_true, true_implies]; first | done | omega)))
      | (refine hP _ (by repeat (first | exact fw_sm_refl | exact fw_sm_put0 | refine fw_sm_arr ?_ rfl | refine fw_sm_up ?_ rfl | refine fw_sm_put ?_ rfl | refine fw_sm_cp ?_ rfl)) ?_; (first | trivial | omega))
      | (simp (disch := first | decide | omega) only [fg_same, fg_lit, fg_in, fg_fin, fg_out, fg_fout, fg_up, true_and, and_true, true_or, or_true, true_implies]; omega)
      | omega
      | (intro _))
def x_k_lay : fw_X := fun as W Q => match as with
  | [.inr (.inl s_), .inl ma] => fw_if (Nat.beq s_ 0) ((True) ∧ (∀ (f : fw_W), (True) → Q none (fw_put [339] 0 [14] W f)))
  | _ => False
theorem x_k_lay_ok (d : Nat) (as : List fw_V) (W : fw_W) (Q : Option fw_V → fw_W → Prop) (hx : x_k_lay as W Q) : jf fw_T (d + 1) 166 0 (fw_args 0 as) [] W Q := by
  unfold x_k_lay at hx
  split at hx
  · rename_i s_ ma
    obtain ⟨e_, hpre, hQ⟩ := fw_if_ok hx
    have e_ := Nat.eq_of_beq_eq_true e_
    subst e_
    have hP : ∀ (W2 : fw_W), fw_sm [339] 0 [14] W W2 → _ → Q none W2 := fun W2 hs hr => fw_sm_use (Q := fun Z => Q none Z) hs (hQ W2 hr)
    refine s_k_lay_0 ?_
    repeat' (first
      | (exact True.intro)
      | (exact hpre.1)
      | (refine And.intro ?_ ?_)
      | (refine jf_put (S := [339]) (o := 0) (F := [14]) (W := W) (by repeat (first | exact fw_sm_refl | exact fw_sm_put0 | refine fw_sm_arr ?_ rfl | refine fw_sm_up ?_ rfl | refine fw_sm_put ?_ rfl | refine fw_sm_cp ?_ rfl)) (lm_k_lay_7 (ma := ma) hpre hP _ _ _ rfl ?_); (first | omega | (simp (disch := first | decide | omega) only [fg_same, fg_lit, fg_in, fg_fin, fg_out, fg_fout, fg_up, true_and, and_true, true_or, or_true, true_implies]; omega) | (simp (disch := first | decide | omega) only [fg_same, fg_lit, fg_in, fg_fin, fg_out, fg_fout, fg_up, true_and, and_true, true_or, or_true, true_implies]; first | done | omega)))
      | (refine hP _ (by repeat (first | exact fw_sm_refl | exact fw_sm_put0 | refine fw_sm_arr ?_ rfl | refine fw_sm_up ?_ rfl | refine fw_sm_put ?_ rfl | refine fw_sm_cp ?_ rfl)) ?_; (first | trivial | omega))
      | (simp (disch := first | decide | omega) only [fg_same, fg_lit, fg_in, fg_fin, fg_out, fg_fout, fg_up, true_and, and_true, true_or, or_true, true_implies]; omega)
      | omega
      | (intro _))
  · exact hx.elim

def fr_162 : fw_P := [(0, 1, 1, 0, 0), (1, 22, 11, 0, 0), (4, 1, 1, 0, 0), (5, 0, 0, 0, 999), (8, 15, 13, 0, 0), (11, 0, 0, 0, -1), (12, 70, 0, 0, 0), (13, 2, 0, 0, 0), (14, 50, 11, 7, 0), (17, 1, 1, 0, 0), (18, 64, 75, 1, 506), (21, 70, 0, 0, 0)]
theorem fr_162_ok : fw_mk 162 2 11 (some .int) fr_162 = true := by decide +kernel
def ct_k_wardens : List (Nat × fw_X) := [(75, x_k_wardenMask)]
theorem ct_k_wardens_ok (d : Nat) : fw_cok fw_T (d + 5) ct_k_wardens := by
  intro q hq as W Q h
  simp only [ct_k_wardens, List.mem_cons, List.not_mem_nil, or_false] at hq
  rcases hq with rfl
  · exact jc_of (x_k_wardenMask_ok (d + 0) as W Q h)
theorem s_k_wardens_0 {Post : Option fw_V → fw_W → Prop} {d : Nat} {W : fw_W} {dd : Int}
    (hw_ : ((dd < 0 → (-2147483648 ≤ (-1 : Int) → (-1 : Int) ≤ 2147483647 → Post (some (.inl (-1 : Int))) W)) ∧ (0 ≤ dd → ((dd ≤ (999 : Int) → (0 ≤ (fw_g W 12 0) ∧ (fw_g W 12 0) ≤ 14) ∧ (∀ (r1 : Int) (f2 : fw_W), ((-2147483648 ≤ r1 ∧ r1 ≤ 2147483647 ∧ (True))) → (-2147483648 ≤ r1 → r1 ≤ 2147483647 → Post (some (.inl r1)) (fw_put [240, 244] 0 [] W f2)))) ∧ ((999 : Int) < dd → (-2147483648 ≤ (-1 : Int) → (-1 : Int) ≤ 2147483647 → Post (some (.inl (-1 : Int))) W)))))) :
    jf fw_T (d + 6) 162 0 [(0, .inr (.inl 0)), (1, .inl dd)] [] W Post := fw_ok (n := 11) (ss := []) (hv := []) fr_162_ok fv_owt_ok (ct_k_wardens_ok d) hw_

def x_k_wardens : fw_X := fun as W Q => match as with
  | [.inr (.inl s_), .inl dd] => fw_if (Nat.beq s_ 0) ((0 ≤ (fw_g W 12 0) ∧ (fw_g W 12 0) ≤ 14) ∧ (∀ (v : Int) (f : fw_W), (-2147483648 ≤ v ∧ v ≤ 2147483647 ∧ (True)) → Q (some (.inl v)) (fw_put [240, 244] 0 [] W f)))
  | _ => False
theorem x_k_wardens_ok (d : Nat) (as : List fw_V) (W : fw_W) (Q : Option fw_V → fw_W → Prop) (hx : x_k_wardens as W Q) : jf fw_T (d + 6) 162 0 (fw_args 0 as) [] W Q := by
  unfold x_k_wardens at hx
  split at hx
  · rename_i s_ dd
    obtain ⟨e_, hpre, hQ⟩ := fw_if_ok hx
    have e_ := Nat.eq_of_beq_eq_true e_
    subst e_
    have hP : ∀ (v : Int) (W2 : fw_W), fw_sm [240, 244] 0 [] W W2 → _ → Q (some (.inl v)) W2 := fun v W2 hs hr => fw_sm_use (Q := fun Z => Q (some (.inl v)) Z) hs (hQ v W2 hr)
    refine s_k_wardens_0 ?_
    repeat' (first
      | (exact True.intro)
      | (exact hpre.1)
      | (refine And.intro ?_ ?_)
      | (refine hP _ _ (by repeat (first | exact fw_sm_refl | exact fw_sm_put0 | refine fw_sm_arr ?_ rfl | refine fw_sm_up ?_ rfl | refine fw_sm_put ?_ rfl | refine fw_sm_cp ?_ rfl)) ?_; (refine ⟨by omega, by omega, ?_⟩; (first | trivial | omega)))
      | omega
      | (intro _))
  · exact hx.elim

def fr_165 : fw_P := [(0, 2, 0, 0, 0), (1, 0, 0, 0, 0), (2, 51, 11, 14, 0), (5, 1, 1, 0, 0), (6, 0, 0, 0, 1), (7, 12, 25, 0, 0), (10, 1, 1, 0, 0), (11, 0, 0, 0, 4), (12, 14, 25, 0, 0), (15, 2, 0, 0, 0), (16, 50, 11, 2, 0), (19, 50, 9, 0, 0), (22, 21, 27, 0, 0), (25, 0, 0, 0, -1), (26, 70, 0, 0, 0), (27, 2, 0, 0, 0), (28, 50, 11, 7, 0), (31, 1, 1, 0, 0), (32, 64, 85, 1, 606), (35, 3, 2, 0, 0), (36, 2, 0, 0, 0), (37, 2, 0, 0, 0), (38, 50, 11, 7, 0), (41, 1, 2, 0, 0), (42, 64, 75, 1, 506), (45, 64, 166, 1, 311), (48, 1, 2, 0, 0), (49, 70, 0, 0, 0)]
theorem fr_165_ok : fw_mk 165 3 11 (some .int) fr_165 = true := by decide +kernel
def ct_k_wells : List (Nat × fw_X) := [(85, x_k_leastReach), (75, x_k_wardenMask), (166, x_k_lay)]
theorem ct_k_wells_ok (d : Nat) : fw_cok fw_T (d + 5) ct_k_wells := by
  intro q hq as W Q h
  simp only [ct_k_wells, List.mem_cons, List.not_mem_nil, or_false] at hq
  rcases hq with rfl | rfl | rfl
  · exact jc_of (x_k_leastReach_ok (d + 0) as W Q h)
  · exact jc_of (x_k_wardenMask_ok (d + 0) as W Q h)
  · exact jc_of (x_k_lay_ok (d + 4) as W Q h)
theorem s_k_wells_0 {Post : Option fw_V → fw_W → Prop} {d : Nat} {W : fw_W} {kk : Int}
    (hw_ : 0 ≤ (0 : Int) ∧ (0 : Int) ≤ 14 ∧ (((kk < (1 : Int) → (-2147483648 ≤ (-1 : Int) → (-1 : Int) ≤ 2147483647 → Post (some (.inl (-1 : Int))) (fw_up W 0 14 (0 : Int)))) ∧ ((1 : Int) ≤ kk → (((4 : Int) < kk → (-2147483648 ≤ (-1 : Int) → (-1 : Int) ≤ 2147483647 → Post (some (.inl (-1 : Int))) (fw_up W 0 14 (0 : Int)))) ∧ (kk ≤ (4 : Int) → (0 ≤ (fw_g W 12 0) → (fw_g W 12 0) ≤ 14 → ((¬ (fw_g W 12 0) = 0 → (0 ≤ (fw_g W 12 0) ∧ (fw_g W 12 0) ≤ 14) ∧ (∀ (r1 : Int) (f2 : fw_W), ((-2147483648 ≤ r1 ∧ r1 ≤ 2147483647 ∧ (True))) → (0 ≤ (fw_g W 12 0) ∧ (fw_g W 12 0) ≤ 14) ∧ (∀ (r3 : Int) (f4 : fw_W), ((-2147483648 ≤ r3 ∧ r3 ≤ 2147483647 ∧ (True))) → (True) ∧ (∀ (f5 : fw_W), ((True)) → (-2147483648 ≤ r1 → r1 ≤ 2147483647 → Post (some (.inl r1)) (fw_put [339] 0 [14] (fw_put [240, 244] 0 [] (fw_put [240, 244] 0 [] (fw_up W 0 14 (0 : Int)) f2) f4) f5)))))) ∧ ((fw_g W 12 0) = 0 → (-2147483648 ≤ (-1 : Int) → (-1 : Int) ≤ 2147483647 → Post (some (.inl (-1 : Int))) (fw_up W 0 14 (0 : Int)))))))))))) :
    jf fw_T (d + 6) 165 0 [(0, .inr (.inl 0)), (1, .inl kk)] [] W Post := fw_ok (n := 27) (ss := []) (hv := []) fr_165_ok fv_owt_ok (ct_k_wells_ok d) hw_

def x_k_wells : fw_X := fun as W Q => match as with
  | [.inr (.inl s_), .inl kk] => fw_if (Nat.beq s_ 0) ((0 ≤ (fw_g W 12 0) ∧ (fw_g W 12 0) ≤ 14) ∧ (∀ (v : Int) (f : fw_W), (-2147483648 ≤ v ∧ v ≤ 2147483647 ∧ (True)) → Q (some (.inl v)) (fw_put [240, 244, 339] 0 [14] W f)))
  | _ => False
theorem x_k_wells_ok (d : Nat) (as : List fw_V) (W : fw_W) (Q : Option fw_V → fw_W → Prop) (hx : x_k_wells as W Q) : jf fw_T (d + 6) 165 0 (fw_args 0 as) [] W Q := by
  unfold x_k_wells at hx
  split at hx
  · rename_i s_ kk
    obtain ⟨e_, hpre, hQ⟩ := fw_if_ok hx
    have e_ := Nat.eq_of_beq_eq_true e_
    subst e_
    have hP : ∀ (v : Int) (W2 : fw_W), fw_sm [240, 244, 339] 0 [14] W W2 → _ → Q (some (.inl v)) W2 := fun v W2 hs hr => fw_sm_use (Q := fun Z => Q (some (.inl v)) Z) hs (hQ v W2 hr)
    refine s_k_wells_0 ?_
    repeat' (first
      | (exact True.intro)
      | (exact hpre.1)
      | (refine And.intro ?_ ?_)
      | (refine hP _ _ (by repeat (first | exact fw_sm_refl | exact fw_sm_put0 | refine fw_sm_arr ?_ rfl | refine fw_sm_up ?_ rfl | refine fw_sm_put ?_ rfl | refine fw_sm_cp ?_ rfl)) ?_; (refine ⟨by omega, by omega, ?_⟩; (first | trivial | omega)))
      | omega
      | (intro _))
  · exact hx.elim

def fr_88 : fw_P := [(0, 2, 0, 0, 0), (1, 50, 6, 10, 0), (4, 1, 1, 0, 0), (5, 56, 0, 0, 0), (6, 4, 3, 0, 0), (7, 2, 0, 0, 0), (8, 50, 6, 10, 0), (11, 1, 1, 0, 0), (12, 0, 0, 0, 1), (13, 30, 0, 0, 0), (14, 56, 0, 0, 0), (15, 4, 4, 0, 0), (17, 0, 0, 0, 0), (18, 3, 5, 0, 0), (20, 0, 0, 0, 0), (21, 3, 6, 0, 0), (23, 1, 6, 0, 0), (25, 2, 0, 0, 0), (26, 50, 6, 2, 0), (29, 50, 9, 0, 0), (32, 13, 86, 0, 0), (35, 2, 4, 0, 0), (37, 1, 6, 0, 0), (39, 2, 3, 0, 0), (40, 1, 6, 0, 0), (42, 52, 0, 0, 0), (43, 2, 0, 0, 0), (44, 50, 6, 3, 0), (47, 50, 10, 1, 0), (50, 1, 2, 0, 0), (51, 56, 0, 0, 0), (52, 1, 6, 0, 0), (54, 52, 0, 0, 0), (55, 61, 0, 0, 0), (58, 53, 0, 0, 0), (59, 1, 5, 0, 0), (61, 2, 4, 0, 0), (63, 1, 6, 0, 0), (65, 52, 0, 0, 0), (66, 2, 0, 0, 0), (67, 50, 6, 2, 0), (70, 50, 9, 4, 0), (73, 1, 6, 0, 0), (75, 52, 0, 0, 0), (76, 32, 0, 0, 0), (77, 30, 0, 0, 0), (78, 3, 5, 0, 0), (80, 5, 6, 0, 1), (83, 6, 23, 0, 0), (86, 1, 5, 0, 0), (88, 70, 0, 0, 0)]
theorem fr_88_ok : fw_mk 88 7 6 (some .int) fr_88 = true := by decide +kernel
theorem s_k_sumWith_0 {Post : Option fw_V → fw_W → Prop} {d : Nat} {W : fw_W} {op sh : Int}
    (hw_ : 0 ≤ op ∧ op < 5 ∧ (-2147483648 ≤ op + (1 : Int) ∧ op + (1 : Int) ≤ 2147483647 ∧ (0 ≤ (op + (1 : Int)) ∧ (op + (1 : Int)) < 5 ∧ (jf fw_T (d + 1) 88 23 [(0, .inr (.inl 239)), (2, .inl sh), (3, .inr (.inr 260)), (4, .inr (.inr 260)), (5, .inl (0 : Int)), (6, .inl (0 : Int))] [] W Post)))) :
    jf fw_T (d + 1) 88 0 [(0, .inr (.inl 239)), (1, .inl op), (2, .inl sh)] [] W Post := fw_ok (n := 17) (ss := [(23, [0, 2, 3, 4, 5, 6])]) (hv := [76, 77]) fr_88_ok fv_wdP_ok (fw_c0 _ _) hw_

theorem s_k_sumWith_23 {Post : Option fw_V → fw_W → Prop} {d : Nat} {W : fw_W} {sh su h : Int}
    (hw_ : (0 ≤ (fw_g W 12 0) → (fw_g W 12 0) ≤ 14 → (((fw_g W 12 0) ≤ h → (-2147483648 ≤ su → su ≤ 2147483647 → Post (some (.inl su)) W)) ∧ (h < (fw_g W 12 0) → 0 ≤ h ∧ h < 14 ∧ (∀ v1 : Int, -2147483648 ≤ v1 → v1 ≤ 2147483647 → 0 ≤ sh ∧ sh < 14 ∧ (0 ≤ h ∧ h < 14 ∧ (∀ v2 : Int, -2147483648 ≤ v2 → v2 ≤ 2147483647 → 0 ≤ h ∧ h < 14 ∧ -2147483648 ≤ (min v1 v2) ∧ (min v1 v2) ≤ 2147483647 ∧ (0 ≤ h ∧ h < 14 ∧ (∀ v3 : Int, -2147483648 ≤ v3 → v3 ≤ 2147483647 → 0 ≤ h ∧ h < 14 ∧ (0 ≤ (fw_g W 15 h) → (fw_g W 15 h) ≤ 99 → ∀ v4 : Int, -2147483648 ≤ v4 → v4 ≤ 2147483647 → ∀ v5 : Int, -2147483648 ≤ v5 → v5 ≤ 2147483647 → -2147483648 ≤ h + (1 : Int) ∧ h + (1 : Int) ≤ 2147483647 ∧ (jf fw_T (d + 1) 88 23 [(0, .inr (.inl 239)), (2, .inl sh), (3, .inr (.inr 260)), (4, .inr (.inr 260)), (5, .inl v5), (6, .inl (h + (1 : Int)))] [] W Post))))))))))) :
    jf fw_T (d + 1) 88 23 [(0, .inr (.inl 239)), (2, .inl sh), (3, .inr (.inr 260)), (4, .inr (.inr 260)), (5, .inl su), (6, .inl h)] [] W Post := fw_ok (n := 34) (ss := [(23, [0, 2, 3, 4, 5, 6])]) (hv := [76, 77]) fr_88_ok fv_wdP_ok (fw_c0 _ _) hw_

theorem lm_k_sumWith_23 {Post : Option fw_V → fw_W → Prop} {d : Nat} {W : fw_W} {op sh : Int} (hpre : 0 ≤ op ∧ op ≤ 3 ∧ 0 ≤ sh ∧ sh < 14 ∧ 0 ≤ (fw_g W 12 0) ∧ (fw_g W 12 0) ≤ 14) (hP : ∀ (v : Int) , (-2147483648 ≤ v ∧ v ≤ 2147483647 ∧ (True)) → Post (some (.inl v)) W)  : ∀ (m : Nat) (su h : Int), ((fw_g W 12 0) - h).toNat = m → 0 ≤ h → jf fw_T (d + 1) 88 23 [(0, .inr (.inl 239)), (2, .inl sh), (3, .inr (.inr 260)), (4, .inr (.inr 260)), (5, .inl su), (6, .inl h)] [] W Post := by
  intro m
  induction m using Nat.strongRecOn with
  | ind m ih =>
    intro su h hm hi
    refine jf_rng (fun hrg => ?_)
    have hrg : -2147483648 ≤ sh ∧ sh ≤ 2147483647 ∧ -2147483648 ≤ su ∧ su ≤ 2147483647 ∧ -2147483648 ≤ h ∧ h ≤ 2147483647 ∧ True := hrg
    refine s_k_sumWith_23 ?_
    repeat' (first
      | (exact True.intro)
      | (exact hpre.1)
      | (refine And.intro ?_ ?_)
      | (refine (ih _ (by omega) _ _ rfl ?_); (first | omega | trivial))
      | (refine hP _ ?_; (refine ⟨by omega, by omega, ?_⟩; (first | trivial | omega)))
      | omega
      | (intro _))
def x_k_sumWith : fw_X := fun as W Q => match as with
  | [.inr (.inl s_), .inl op, .inl sh] => fw_if (Nat.beq s_ 239) ((0 ≤ op ∧ op ≤ 3 ∧ 0 ≤ sh ∧ sh < 14 ∧ 0 ≤ (fw_g W 12 0) ∧ (fw_g W 12 0) ≤ 14) ∧ (∀ (v : Int), (-2147483648 ≤ v ∧ v ≤ 2147483647 ∧ (True)) → Q (some (.inl v)) W))
  | _ => False
theorem x_k_sumWith_ok (d : Nat) (as : List fw_V) (W : fw_W) (Q : Option fw_V → fw_W → Prop) (hx : x_k_sumWith as W Q) : jf fw_T (d + 1) 88 0 (fw_args 0 as) [] W Q := by
  unfold x_k_sumWith at hx
  split at hx
  · rename_i s_ op sh
    obtain ⟨e_, hpre, hQ⟩ := fw_if_ok hx
    have e_ := Nat.eq_of_beq_eq_true e_
    subst e_
    have hP := hQ
    refine s_k_sumWith_0 ?_
    repeat' (first
      | (exact True.intro)
      | (exact hpre.1)
      | (refine And.intro ?_ ?_)
      | (refine (lm_k_sumWith_23 (op := op) (sh := sh) hpre hP _ _ _ rfl ?_); (first | omega | trivial))
      | (refine hP _ ?_; (refine ⟨by omega, by omega, ?_⟩; (first | trivial | omega)))
      | omega
      | (intro _))
  · exact hx.elim

def fr_87 : fw_P := [(0, 1, 1, 0, 0), (1, 1, 4, 0, 0), (3, 13, 11, 0, 0), (6, 1, 1, 0, 0), (7, 0, 0, 0, 4), (8, 12, 12, 0, 0), (11, 72, 0, 0, 0), (12, 1, 4, 0, 0), (14, 1, 1, 0, 0), (15, 31, 0, 0, 0), (16, 0, 0, 0, 1), (17, 31, 0, 0, 0), (18, 3, 5, 0, 0), (20, 1, 2, 0, 0), (21, 3, 6, 0, 0), (23, 1, 6, 0, 0), (25, 2, 0, 0, 0), (26, 50, 6, 2, 0), (29, 50, 9, 0, 0), (32, 1, 5, 0, 0), (34, 31, 0, 0, 0), (35, 13, 105, 0, 0), (38, 2, 0, 0, 0), (39, 1, 1, 0, 0), (40, 1, 6, 0, 0), (42, 64, 88, 2, 706), (45, 3, 7, 0, 0), (47, 1, 5, 0, 0), (49, 25, 74, 0, 0), (52, 2, 0, 0, 0), (53, 1, 1, 0, 0), (54, 0, 0, 0, 1), (55, 30, 0, 0, 0), (56, 1, 6, 0, 0), (58, 0, 0, 0, 1), (59, 30, 0, 0, 0), (60, 1, 3, 0, 0), (61, 0, 0, 0, 1), (62, 1, 6, 0, 0), (64, 39, 0, 0, 0), (65, 37, 0, 0, 0), (66, 1, 4, 0, 0), (68, 64, 87, 4, 806), (71, 6, 99, 0, 0), (74, 1, 7, 0, 0), (76, 2, 0, 0, 0), (77, 50, 6, 1, 0), (80, 13, 99, 0, 0), (83, 2, 0, 0, 0), (84, 1, 7, 0, 0), (86, 51, 6, 1, 0), (89, 2, 0, 0, 0), (90, 1, 3, 0, 0), (91, 0, 0, 0, 1), (92, 1, 6, 0, 0), (94, 39, 0, 0, 0), (95, 37, 0, 0, 0), (96, 51, 6, 0, 0), (99, 5, 6, 0, 1), (102, 6, 23, 0, 0), (105, 72, 0, 0, 0)]
theorem fr_87_ok : fw_mk 87 8 6 none fr_87 = true := by decide +kernel
def ct_k_openMore4 : List (Nat × fw_X) := [(88, x_k_sumWith)]
theorem ct_k_openMore4_ok (d : Nat) : fw_cok fw_T (d + 1) ct_k_openMore4 := by
  intro q hq as W Q h
  simp only [ct_k_openMore4, List.mem_cons, List.not_mem_nil, or_false] at hq
  rcases hq with rfl
  · exact jc_of (x_k_sumWith_ok (d + 0) as W Q h)
theorem s_k_openMore4_0 {Post : Option fw_V → fw_W → Prop} {d : Nat} {W : fw_W} {op fr ma sh : Int}
    (hw_ : ((sh ≤ op → Post none W) ∧ (op < sh → ((op < (4 : Int) → -2147483648 ≤ sh - op ∧ sh - op ≤ 2147483647 ∧ (-2147483648 ≤ (sh - op) - (1 : Int) ∧ (sh - op) - (1 : Int) ≤ 2147483647 ∧ (jf fw_T (d + 2) 87 23 [(0, .inr (.inl 239)), (1, .inl op), (3, .inl ma), (4, .inl sh), (5, .inl ((sh - op) - (1 : Int))), (6, .inl fr)] [] W Post))) ∧ ((4 : Int) ≤ op → Post none W))))) :
    jf fw_T (d + 2) 87 0 [(0, .inr (.inl 239)), (1, .inl op), (2, .inl fr), (3, .inl ma), (4, .inl sh)] [] W Post := fw_ok (n := 15) (ss := [(23, [0, 1, 3, 4, 5, 6])]) (hv := []) fr_87_ok fv_wdP_ok (ct_k_openMore4_ok d) hw_

theorem s_k_openMore4_23 {Post : Option fw_V → fw_W → Prop} {d : Nat} {W : fw_W} {op ma sh bt h : Int} {f : fw_W}
    (hw_ : (0 ≤ (fw_g W 12 0) → (fw_g W 12 0) ≤ 14 → -2147483648 ≤ (fw_g W 12 0) - bt ∧ (fw_g W 12 0) - bt ≤ 2147483647 ∧ (((((fw_g W 12 0) - bt) ≤ h → Post none (fw_put [] 0 [239000, 239001] W f)) ∧ (h < ((fw_g W 12 0) - bt) → (0 ≤ op ∧ op ≤ 3 ∧ 0 ≤ h ∧ h < 14 ∧ 0 ≤ (fw_g W 12 0) ∧ (fw_g W 12 0) ≤ 14) ∧ (∀ (r1 : Int), ((-2147483648 ≤ r1 ∧ r1 ≤ 2147483647 ∧ (True))) → ((bt ≤ 0 → (-2147483648 ≤ (fw_g f 239 1) → (fw_g f 239 1) ≤ 2147483647 → (((fw_g f 239 1) ≤ r1 → -2147483648 ≤ h + (1 : Int) ∧ h + (1 : Int) ≤ 2147483647 ∧ (jf fw_T (d + 2) 87 23 [(0, .inr (.inl 239)), (1, .inl op), (3, .inl ma), (4, .inl sh), (5, .inl bt), (6, .inl (h + (1 : Int)))] [] (fw_put [] 0 [239000, 239001] W f) Post)) ∧ (r1 < (fw_g f 239 1) → -2147483648 ≤ r1 ∧ r1 ≤ 2147483647 ∧ ((-2147483648 ≤ (fw_shl (1 : Int) h) → (fw_shl (1 : Int) h) ≤ 2147483647 → (-2147483648 ≤ (fw_or ma (fw_shl (1 : Int) h)) → (fw_or ma (fw_shl (1 : Int) h)) ≤ 2147483647 → -2147483648 ≤ (fw_or ma (fw_shl (1 : Int) h)) ∧ (fw_or ma (fw_shl (1 : Int) h)) ≤ 2147483647 ∧ (-2147483648 ≤ h + (1 : Int) ∧ h + (1 : Int) ≤ 2147483647 ∧ (jf fw_T (d + 2) 87 23 [(0, .inr (.inl 239)), (1, .inl op), (3, .inl ma), (4, .inl sh), (5, .inl bt), (6, .inl (h + (1 : Int)))] [] (fw_up (fw_up (fw_put [] 0 [239000, 239001] W f) 239 1 r1) 239 0 (fw_or ma (fw_shl (1 : Int) h))) Post))))))))) ∧ (0 < bt → -2147483648 ≤ op + (1 : Int) ∧ op + (1 : Int) ≤ 2147483647 ∧ (-2147483648 ≤ h + (1 : Int) ∧ h + (1 : Int) ≤ 2147483647 ∧ ((-2147483648 ≤ (fw_shl (1 : Int) h) → (fw_shl (1 : Int) h) ≤ 2147483647 → (-2147483648 ≤ (fw_or ma (fw_shl (1 : Int) h)) → (fw_or ma (fw_shl (1 : Int) h)) ≤ 2147483647 → jf fw_T (d + 2) 87 68 [(0, .inr (.inl 239)), (1, .inl op), (3, .inl ma), (4, .inl sh), (5, .inl bt), (6, .inl h), (7, .inl r1)] [.inl sh, .inl (fw_or ma (fw_shl (1 : Int) h)), .inl (h + (1 : Int)), .inl (op + (1 : Int)), .inr (.inl 239)] (fw_put [] 0 [239000, 239001] W f) Post)))))))))))) :
    jf fw_T (d + 2) 87 23 [(0, .inr (.inl 239)), (1, .inl op), (3, .inl ma), (4, .inl sh), (5, .inl bt), (6, .inl h)] [] (fw_put [] 0 [239000, 239001] W f) Post := fw_ok (n := 31) (ss := [(23, [0, 1, 3, 4, 5, 6])]) (hv := []) fr_87_ok fv_wdP_ok (ct_k_openMore4_ok d) hw_

theorem lm_k_openMore4_23 {Post : Option fw_V → fw_W → Prop} {d : Nat} {W : fw_W} {op fr ma sh : Int} (hpre : op = 4 ∧ 0 ≤ fr ∧ fr ≤ 14 ∧ 0 ≤ sh ∧ sh ≤ 4 ∧ 0 ≤ (fw_g W 12 0) ∧ (fw_g W 12 0) ≤ 14) (hP : ∀ (W2 : fw_W), fw_sm [] 0 [239000, 239001] W W2 → (True) → Post none W2)  : ∀ (m : Nat) (bt h : Int) (f : fw_W), (14 - h).toNat = m → 0 ≤ h ∧ h ≤ 14 ∧ 0 ≤ bt ∧ bt = sh - op - 1 ∧ op < 4 → jf fw_T (d + 2) 87 23 [(0, .inr (.inl 239)), (1, .inl op), (3, .inl ma), (4, .inl sh), (5, .inl bt), (6, .inl h)] [] (fw_put [] 0 [239000, 239001] W f) Post := by
  intro m
  induction m using Nat.strongRecOn with
  | ind m ih =>
    intro bt h f hm hi
    refine jf_rng (fun hrg => ?_)
    have hrg : -2147483648 ≤ op ∧ op ≤ 2147483647 ∧ -2147483648 ≤ ma ∧ ma ≤ 2147483647 ∧ -2147483648 ≤ sh ∧ sh ≤ 2147483647 ∧ -2147483648 ≤ bt ∧ bt ≤ 2147483647 ∧ -2147483648 ≤ h ∧ h ≤ 2147483647 ∧ True := hrg
    refine s_k_openMore4_23 ?_
    repeat' (first
      | (exact True.intro)
      | (exact hpre.1)
      | (refine And.intro ?_ ?_)
      | (refine (ih _ (by omega) _ _ _ rfl ?_); (first | omega | trivial | (simp (config := { decide := true }) only [fg_in, fg_fin, fg_out, fg_fout, fg_up, fg_same, true_and, and_true] <;> omega)))
      | (refine jf_put (S := []) (o := 0) (F := [239000, 239001]) (W := W) (by repeat (first | exact fw_sm_refl | exact fw_sm_put0 | refine fw_sm_arr ?_ rfl | refine fw_sm_up ?_ rfl | refine fw_sm_put ?_ rfl | refine fw_sm_cp ?_ rfl)) (ih _ (by omega) _ _ _ rfl ?_); (first | omega | trivial | (simp (config := { decide := true }) only [fg_in, fg_fin, fg_out, fg_fout, fg_up, fg_same, true_and, and_true] <;> omega)))
      | (refine hP _ (by repeat (first | exact fw_sm_refl | exact fw_sm_put0 | refine fw_sm_arr ?_ rfl | refine fw_sm_up ?_ rfl | refine fw_sm_put ?_ rfl | refine fw_sm_cp ?_ rfl)) ?_; (first | trivial | omega))
      | (simp (disch := first | decide | omega) only [fg_same, fg_lit, fg_in, fg_fin, fg_out, fg_fout, fg_up, true_and, and_true, true_or, or_true, true_implies]; omega)
      | omega
      | (intro _))
def x_k_openMore4 : fw_X := fun as W Q => match as with
  | [.inr (.inl s_), .inl op, .inl fr, .inl ma, .inl sh] => fw_if (Nat.beq s_ 239) ((op = 4 ∧ 0 ≤ fr ∧ fr ≤ 14 ∧ 0 ≤ sh ∧ sh ≤ 4 ∧ 0 ≤ (fw_g W 12 0) ∧ (fw_g W 12 0) ≤ 14) ∧ (∀ (f : fw_W), (True) → Q none (fw_put [] 0 [239000, 239001] W f)))
  | _ => False
theorem x_k_openMore4_ok (d : Nat) (as : List fw_V) (W : fw_W) (Q : Option fw_V → fw_W → Prop) (hx : x_k_openMore4 as W Q) : jf fw_T (d + 2) 87 0 (fw_args 0 as) [] W Q := by
  unfold x_k_openMore4 at hx
  split at hx
  · rename_i s_ op fr ma sh
    obtain ⟨e_, hpre, hQ⟩ := fw_if_ok hx
    have e_ := Nat.eq_of_beq_eq_true e_
    subst e_
    have hP : ∀ (W2 : fw_W), fw_sm [] 0 [239000, 239001] W W2 → _ → Q none W2 := fun W2 hs hr => fw_sm_use (Q := fun Z => Q none Z) hs (hQ W2 hr)
    refine s_k_openMore4_0 ?_
    repeat' (first
      | (exact True.intro)
      | (exact hpre.1)
      | (refine And.intro ?_ ?_)
      | (refine jf_put (S := []) (o := 0) (F := [239000, 239001]) (W := W) (by repeat (first | exact fw_sm_refl | exact fw_sm_put0 | refine fw_sm_arr ?_ rfl | refine fw_sm_up ?_ rfl | refine fw_sm_put ?_ rfl | refine fw_sm_cp ?_ rfl)) (lm_k_openMore4_23 (op := op) (fr := fr) (ma := ma) (sh := sh) hpre hP _ _ _ _ rfl ?_); (first | omega | trivial | (simp (config := { decide := true }) only [fg_in, fg_fin, fg_out, fg_fout, fg_up, fg_same, true_and, and_true] <;> omega)))
      | (refine hP _ (by repeat (first | exact fw_sm_refl | exact fw_sm_put0 | refine fw_sm_arr ?_ rfl | refine fw_sm_up ?_ rfl | refine fw_sm_put ?_ rfl | refine fw_sm_cp ?_ rfl)) ?_; (first | trivial | omega))
      | omega
      | (intro _))
  · exact hx.elim

def ct_k_openMore3 : List (Nat × fw_X) := [(88, x_k_sumWith), (87, x_k_openMore4)]
theorem ct_k_openMore3_ok (d : Nat) : fw_cok fw_T (d + 2) ct_k_openMore3 := by
  intro q hq as W Q h
  simp only [ct_k_openMore3, List.mem_cons, List.not_mem_nil, or_false] at hq
  rcases hq with rfl | rfl
  · exact jc_of (x_k_sumWith_ok (d + 1) as W Q h)
  · exact jc_of (x_k_openMore4_ok (d + 0) as W Q h)
theorem s_k_openMore3_0 {Post : Option fw_V → fw_W → Prop} {d : Nat} {W : fw_W} {op fr ma sh : Int}
    (hw_ : ((sh ≤ op → Post none W) ∧ (op < sh → ((op < (4 : Int) → -2147483648 ≤ sh - op ∧ sh - op ≤ 2147483647 ∧ (-2147483648 ≤ (sh - op) - (1 : Int) ∧ (sh - op) - (1 : Int) ≤ 2147483647 ∧ (jf fw_T (d + 3) 87 23 [(0, .inr (.inl 239)), (1, .inl op), (3, .inl ma), (4, .inl sh), (5, .inl ((sh - op) - (1 : Int))), (6, .inl fr)] [] W Post))) ∧ ((4 : Int) ≤ op → Post none W))))) :
    jf fw_T (d + 3) 87 0 [(0, .inr (.inl 239)), (1, .inl op), (2, .inl fr), (3, .inl ma), (4, .inl sh)] [] W Post := fw_ok (n := 15) (ss := [(23, [0, 1, 3, 4, 5, 6])]) (hv := []) fr_87_ok fv_wdP_ok (ct_k_openMore3_ok d) hw_

theorem s_k_openMore3_23 {Post : Option fw_V → fw_W → Prop} {d : Nat} {W : fw_W} {op ma sh bt h : Int} {f : fw_W}
    (hw_ : (0 ≤ (fw_g W 12 0) → (fw_g W 12 0) ≤ 14 → -2147483648 ≤ (fw_g W 12 0) - bt ∧ (fw_g W 12 0) - bt ≤ 2147483647 ∧ (((((fw_g W 12 0) - bt) ≤ h → Post none (fw_put [] 0 [239000, 239001] W f)) ∧ (h < ((fw_g W 12 0) - bt) → (0 ≤ op ∧ op ≤ 3 ∧ 0 ≤ h ∧ h < 14 ∧ 0 ≤ (fw_g W 12 0) ∧ (fw_g W 12 0) ≤ 14) ∧ (∀ (r1 : Int), ((-2147483648 ≤ r1 ∧ r1 ≤ 2147483647 ∧ (True))) → ((bt ≤ 0 → (-2147483648 ≤ (fw_g f 239 1) → (fw_g f 239 1) ≤ 2147483647 → (((fw_g f 239 1) ≤ r1 → -2147483648 ≤ h + (1 : Int) ∧ h + (1 : Int) ≤ 2147483647 ∧ (jf fw_T (d + 3) 87 23 [(0, .inr (.inl 239)), (1, .inl op), (3, .inl ma), (4, .inl sh), (5, .inl bt), (6, .inl (h + (1 : Int)))] [] (fw_put [] 0 [239000, 239001] W f) Post)) ∧ (r1 < (fw_g f 239 1) → -2147483648 ≤ r1 ∧ r1 ≤ 2147483647 ∧ ((-2147483648 ≤ (fw_shl (1 : Int) h) → (fw_shl (1 : Int) h) ≤ 2147483647 → (-2147483648 ≤ (fw_or ma (fw_shl (1 : Int) h)) → (fw_or ma (fw_shl (1 : Int) h)) ≤ 2147483647 → -2147483648 ≤ (fw_or ma (fw_shl (1 : Int) h)) ∧ (fw_or ma (fw_shl (1 : Int) h)) ≤ 2147483647 ∧ (-2147483648 ≤ h + (1 : Int) ∧ h + (1 : Int) ≤ 2147483647 ∧ (jf fw_T (d + 3) 87 23 [(0, .inr (.inl 239)), (1, .inl op), (3, .inl ma), (4, .inl sh), (5, .inl bt), (6, .inl (h + (1 : Int)))] [] (fw_up (fw_up (fw_put [] 0 [239000, 239001] W f) 239 1 r1) 239 0 (fw_or ma (fw_shl (1 : Int) h))) Post))))))))) ∧ (0 < bt → -2147483648 ≤ op + (1 : Int) ∧ op + (1 : Int) ≤ 2147483647 ∧ (-2147483648 ≤ h + (1 : Int) ∧ h + (1 : Int) ≤ 2147483647 ∧ ((-2147483648 ≤ (fw_shl (1 : Int) h) → (fw_shl (1 : Int) h) ≤ 2147483647 → (-2147483648 ≤ (fw_or ma (fw_shl (1 : Int) h)) → (fw_or ma (fw_shl (1 : Int) h)) ≤ 2147483647 → ((op + (1 : Int)) = 4 ∧ 0 ≤ (h + (1 : Int)) ∧ (h + (1 : Int)) ≤ 14 ∧ 0 ≤ sh ∧ sh ≤ 4 ∧ 0 ≤ (fw_g W 12 0) ∧ (fw_g W 12 0) ≤ 14) ∧ (∀ (f2 : fw_W), ((True)) → -2147483648 ≤ h + (1 : Int) ∧ h + (1 : Int) ≤ 2147483647 ∧ (jf fw_T (d + 3) 87 23 [(0, .inr (.inl 239)), (1, .inl op), (3, .inl ma), (4, .inl sh), (5, .inl bt), (6, .inl (h + (1 : Int)))] [] (fw_put [] 0 [239000, 239001] (fw_put [] 0 [239000, 239001] W f) f2) Post)))))))))))))) :
    jf fw_T (d + 3) 87 23 [(0, .inr (.inl 239)), (1, .inl op), (3, .inl ma), (4, .inl sh), (5, .inl bt), (6, .inl h)] [] (fw_put [] 0 [239000, 239001] W f) Post := fw_ok (n := 32) (ss := [(23, [0, 1, 3, 4, 5, 6])]) (hv := []) fr_87_ok fv_wdP_ok (ct_k_openMore3_ok d) hw_

theorem lm_k_openMore3_23 {Post : Option fw_V → fw_W → Prop} {d : Nat} {W : fw_W} {op fr ma sh : Int} (hpre : op = 3 ∧ 0 ≤ fr ∧ fr ≤ 14 ∧ 0 ≤ sh ∧ sh ≤ 4 ∧ 0 ≤ (fw_g W 12 0) ∧ (fw_g W 12 0) ≤ 14) (hP : ∀ (W2 : fw_W), fw_sm [] 0 [239000, 239001] W W2 → (True) → Post none W2)  : ∀ (m : Nat) (bt h : Int) (f : fw_W), (14 - h).toNat = m → 0 ≤ h ∧ h ≤ 14 ∧ 0 ≤ bt ∧ bt = sh - op - 1 ∧ op < 4 → jf fw_T (d + 3) 87 23 [(0, .inr (.inl 239)), (1, .inl op), (3, .inl ma), (4, .inl sh), (5, .inl bt), (6, .inl h)] [] (fw_put [] 0 [239000, 239001] W f) Post := by
  intro m
  induction m using Nat.strongRecOn with
  | ind m ih =>
    intro bt h f hm hi
    refine jf_rng (fun hrg => ?_)
    have hrg : -2147483648 ≤ op ∧ op ≤ 2147483647 ∧ -2147483648 ≤ ma ∧ ma ≤ 2147483647 ∧ -2147483648 ≤ sh ∧ sh ≤ 2147483647 ∧ -2147483648 ≤ bt ∧ bt ≤ 2147483647 ∧ -2147483648 ≤ h ∧ h ≤ 2147483647 ∧ True := hrg
    refine s_k_openMore3_23 ?_
    repeat' (first
      | (exact True.intro)
      | (exact hpre.1)
      | (refine And.intro ?_ ?_)
      | (refine (ih _ (by omega) _ _ _ rfl ?_); (first | omega | trivial | (simp (config := { decide := true }) only [fg_in, fg_fin, fg_out, fg_fout, fg_up, fg_same, true_and, and_true] <;> omega)))
      | (refine jf_put (S := []) (o := 0) (F := [239000, 239001]) (W := W) (by repeat (first | exact fw_sm_refl | exact fw_sm_put0 | refine fw_sm_arr ?_ rfl | refine fw_sm_up ?_ rfl | refine fw_sm_put ?_ rfl | refine fw_sm_cp ?_ rfl)) (ih _ (by omega) _ _ _ rfl ?_); (first | omega | trivial | (simp (config := { decide := true }) only [fg_in, fg_fin, fg_out, fg_fout, fg_up, fg_same, true_and, and_true] <;> omega)))
      | (refine hP _ (by repeat (first | exact fw_sm_refl | exact fw_sm_put0 | refine fw_sm_arr ?_ rfl | refine fw_sm_up ?_ rfl | refine fw_sm_put ?_ rfl | refine fw_sm_cp ?_ rfl)) ?_; (first | trivial | omega))
      | (simp (disch := first | decide | omega) only [fg_same, fg_lit, fg_in, fg_fin, fg_out, fg_fout, fg_up, true_and, and_true, true_or, or_true, true_implies]; omega)
      | omega
      | (intro _))
def x_k_openMore3 : fw_X := fun as W Q => match as with
  | [.inr (.inl s_), .inl op, .inl fr, .inl ma, .inl sh] => fw_if (Nat.beq s_ 239) ((op = 3 ∧ 0 ≤ fr ∧ fr ≤ 14 ∧ 0 ≤ sh ∧ sh ≤ 4 ∧ 0 ≤ (fw_g W 12 0) ∧ (fw_g W 12 0) ≤ 14) ∧ (∀ (f : fw_W), (True) → Q none (fw_put [] 0 [239000, 239001] W f)))
  | _ => False
theorem x_k_openMore3_ok (d : Nat) (as : List fw_V) (W : fw_W) (Q : Option fw_V → fw_W → Prop) (hx : x_k_openMore3 as W Q) : jf fw_T (d + 3) 87 0 (fw_args 0 as) [] W Q := by
  unfold x_k_openMore3 at hx
  split at hx
  · rename_i s_ op fr ma sh
    obtain ⟨e_, hpre, hQ⟩ := fw_if_ok hx
    have e_ := Nat.eq_of_beq_eq_true e_
    subst e_
    have hP : ∀ (W2 : fw_W), fw_sm [] 0 [239000, 239001] W W2 → _ → Q none W2 := fun W2 hs hr => fw_sm_use (Q := fun Z => Q none Z) hs (hQ W2 hr)
    refine s_k_openMore3_0 ?_
    repeat' (first
      | (exact True.intro)
      | (exact hpre.1)
      | (refine And.intro ?_ ?_)
      | (refine jf_put (S := []) (o := 0) (F := [239000, 239001]) (W := W) (by repeat (first | exact fw_sm_refl | exact fw_sm_put0 | refine fw_sm_arr ?_ rfl | refine fw_sm_up ?_ rfl | refine fw_sm_put ?_ rfl | refine fw_sm_cp ?_ rfl)) (lm_k_openMore3_23 (op := op) (fr := fr) (ma := ma) (sh := sh) hpre hP _ _ _ _ rfl ?_); (first | omega | trivial | (simp (config := { decide := true }) only [fg_in, fg_fin, fg_out, fg_fout, fg_up, fg_same, true_and, and_true] <;> omega)))
      | (refine hP _ (by repeat (first | exact fw_sm_refl | exact fw_sm_put0 | refine fw_sm_arr ?_ rfl | refine fw_sm_up ?_ rfl | refine fw_sm_put ?_ rfl | refine fw_sm_cp ?_ rfl)) ?_; (first | trivial | omega))
      | omega
      | (intro _))
  · exact hx.elim

def ct_k_openMore2 : List (Nat × fw_X) := [(88, x_k_sumWith), (87, x_k_openMore3)]
theorem ct_k_openMore2_ok (d : Nat) : fw_cok fw_T (d + 3) ct_k_openMore2 := by
  intro q hq as W Q h
  simp only [ct_k_openMore2, List.mem_cons, List.not_mem_nil, or_false] at hq
  rcases hq with rfl | rfl
  · exact jc_of (x_k_sumWith_ok (d + 2) as W Q h)
  · exact jc_of (x_k_openMore3_ok (d + 0) as W Q h)
theorem s_k_openMore2_0 {Post : Option fw_V → fw_W → Prop} {d : Nat} {W : fw_W} {op fr ma sh : Int}
    (hw_ : ((sh ≤ op → Post none W) ∧ (op < sh → ((op < (4 : Int) → -2147483648 ≤ sh - op ∧ sh - op ≤ 2147483647 ∧ (-2147483648 ≤ (sh - op) - (1 : Int) ∧ (sh - op) - (1 : Int) ≤ 2147483647 ∧ (jf fw_T (d + 4) 87 23 [(0, .inr (.inl 239)), (1, .inl op), (3, .inl ma), (4, .inl sh), (5, .inl ((sh - op) - (1 : Int))), (6, .inl fr)] [] W Post))) ∧ ((4 : Int) ≤ op → Post none W))))) :
    jf fw_T (d + 4) 87 0 [(0, .inr (.inl 239)), (1, .inl op), (2, .inl fr), (3, .inl ma), (4, .inl sh)] [] W Post := fw_ok (n := 15) (ss := [(23, [0, 1, 3, 4, 5, 6])]) (hv := []) fr_87_ok fv_wdP_ok (ct_k_openMore2_ok d) hw_

theorem s_k_openMore2_23 {Post : Option fw_V → fw_W → Prop} {d : Nat} {W : fw_W} {op ma sh bt h : Int} {f : fw_W}
    (hw_ : (0 ≤ (fw_g W 12 0) → (fw_g W 12 0) ≤ 14 → -2147483648 ≤ (fw_g W 12 0) - bt ∧ (fw_g W 12 0) - bt ≤ 2147483647 ∧ (((((fw_g W 12 0) - bt) ≤ h → Post none (fw_put [] 0 [239000, 239001] W f)) ∧ (h < ((fw_g W 12 0) - bt) → (0 ≤ op ∧ op ≤ 3 ∧ 0 ≤ h ∧ h < 14 ∧ 0 ≤ (fw_g W 12 0) ∧ (fw_g W 12 0) ≤ 14) ∧ (∀ (r1 : Int), ((-2147483648 ≤ r1 ∧ r1 ≤ 2147483647 ∧ (True))) → ((bt ≤ 0 → (-2147483648 ≤ (fw_g f 239 1) → (fw_g f 239 1) ≤ 2147483647 → (((fw_g f 239 1) ≤ r1 → -2147483648 ≤ h + (1 : Int) ∧ h + (1 : Int) ≤ 2147483647 ∧ (jf fw_T (d + 4) 87 23 [(0, .inr (.inl 239)), (1, .inl op), (3, .inl ma), (4, .inl sh), (5, .inl bt), (6, .inl (h + (1 : Int)))] [] (fw_put [] 0 [239000, 239001] W f) Post)) ∧ (r1 < (fw_g f 239 1) → -2147483648 ≤ r1 ∧ r1 ≤ 2147483647 ∧ ((-2147483648 ≤ (fw_shl (1 : Int) h) → (fw_shl (1 : Int) h) ≤ 2147483647 → (-2147483648 ≤ (fw_or ma (fw_shl (1 : Int) h)) → (fw_or ma (fw_shl (1 : Int) h)) ≤ 2147483647 → -2147483648 ≤ (fw_or ma (fw_shl (1 : Int) h)) ∧ (fw_or ma (fw_shl (1 : Int) h)) ≤ 2147483647 ∧ (-2147483648 ≤ h + (1 : Int) ∧ h + (1 : Int) ≤ 2147483647 ∧ (jf fw_T (d + 4) 87 23 [(0, .inr (.inl 239)), (1, .inl op), (3, .inl ma), (4, .inl sh), (5, .inl bt), (6, .inl (h + (1 : Int)))] [] (fw_up (fw_up (fw_put [] 0 [239000, 239001] W f) 239 1 r1) 239 0 (fw_or ma (fw_shl (1 : Int) h))) Post))))))))) ∧ (0 < bt → -2147483648 ≤ op + (1 : Int) ∧ op + (1 : Int) ≤ 2147483647 ∧ (-2147483648 ≤ h + (1 : Int) ∧ h + (1 : Int) ≤ 2147483647 ∧ ((-2147483648 ≤ (fw_shl (1 : Int) h) → (fw_shl (1 : Int) h) ≤ 2147483647 → (-2147483648 ≤ (fw_or ma (fw_shl (1 : Int) h)) → (fw_or ma (fw_shl (1 : Int) h)) ≤ 2147483647 → ((op + (1 : Int)) = 3 ∧ 0 ≤ (h + (1 : Int)) ∧ (h + (1 : Int)) ≤ 14 ∧ 0 ≤ sh ∧ sh ≤ 4 ∧ 0 ≤ (fw_g W 12 0) ∧ (fw_g W 12 0) ≤ 14) ∧ (∀ (f2 : fw_W), ((True)) → -2147483648 ≤ h + (1 : Int) ∧ h + (1 : Int) ≤ 2147483647 ∧ (jf fw_T (d + 4) 87 23 [(0, .inr (.inl 239)), (1, .inl op), (3, .inl ma), (4, .inl sh), (5, .inl bt), (6, .inl (h + (1 : Int)))] [] (fw_put [] 0 [239000, 239001] (fw_put [] 0 [239000, 239001] W f) f2) Post)))))))))))))) :
    jf fw_T (d + 4) 87 23 [(0, .inr (.inl 239)), (1, .inl op), (3, .inl ma), (4, .inl sh), (5, .inl bt), (6, .inl h)] [] (fw_put [] 0 [239000, 239001] W f) Post := fw_ok (n := 32) (ss := [(23, [0, 1, 3, 4, 5, 6])]) (hv := []) fr_87_ok fv_wdP_ok (ct_k_openMore2_ok d) hw_

theorem lm_k_openMore2_23 {Post : Option fw_V → fw_W → Prop} {d : Nat} {W : fw_W} {op fr ma sh : Int} (hpre : op = 2 ∧ 0 ≤ fr ∧ fr ≤ 14 ∧ 0 ≤ sh ∧ sh ≤ 4 ∧ 0 ≤ (fw_g W 12 0) ∧ (fw_g W 12 0) ≤ 14) (hP : ∀ (W2 : fw_W), fw_sm [] 0 [239000, 239001] W W2 → (True) → Post none W2)  : ∀ (m : Nat) (bt h : Int) (f : fw_W), (14 - h).toNat = m → 0 ≤ h ∧ h ≤ 14 ∧ 0 ≤ bt ∧ bt = sh - op - 1 ∧ op < 4 → jf fw_T (d + 4) 87 23 [(0, .inr (.inl 239)), (1, .inl op), (3, .inl ma), (4, .inl sh), (5, .inl bt), (6, .inl h)] [] (fw_put [] 0 [239000, 239001] W f) Post := by
  intro m
  induction m using Nat.strongRecOn with
  | ind m ih =>
    intro bt h f hm hi
    refine jf_rng (fun hrg => ?_)
    have hrg : -2147483648 ≤ op ∧ op ≤ 2147483647 ∧ -2147483648 ≤ ma ∧ ma ≤ 2147483647 ∧ -2147483648 ≤ sh ∧ sh ≤ 2147483647 ∧ -2147483648 ≤ bt ∧ bt ≤ 2147483647 ∧ -2147483648 ≤ h ∧ h ≤ 2147483647 ∧ True := hrg
    refine s_k_openMore2_23 ?_
    repeat' (first
      | (exact True.intro)
      | (exact hpre.1)
      | (refine And.intro ?_ ?_)
      | (refine (ih _ (by omega) _ _ _ rfl ?_); (first | omega | trivial | (simp (config := { decide := true }) only [fg_in, fg_fin, fg_out, fg_fout, fg_up, fg_same, true_and, and_true] <;> omega)))
      | (refine jf_put (S := []) (o := 0) (F := [239000, 239001]) (W := W) (by repeat (first | exact fw_sm_refl | exact fw_sm_put0 | refine fw_sm_arr ?_ rfl | refine fw_sm_up ?_ rfl | refine fw_sm_put ?_ rfl | refine fw_sm_cp ?_ rfl)) (ih _ (by omega) _ _ _ rfl ?_); (first | omega | trivial | (simp (config := { decide := true }) only [fg_in, fg_fin, fg_out, fg_fout, fg_up, fg_same, true_and, and_true] <;> omega)))
      | (refine hP _ (by repeat (first | exact fw_sm_refl | exact fw_sm_put0 | refine fw_sm_arr ?_ rfl | refine fw_sm_up ?_ rfl | refine fw_sm_put ?_ rfl | refine fw_sm_cp ?_ rfl)) ?_; (first | trivial | omega))
      | (simp (disch := first | decide | omega) only [fg_same, fg_lit, fg_in, fg_fin, fg_out, fg_fout, fg_up, true_and, and_true, true_or, or_true, true_implies]; omega)
      | omega
      | (intro _))
def x_k_openMore2 : fw_X := fun as W Q => match as with
  | [.inr (.inl s_), .inl op, .inl fr, .inl ma, .inl sh] => fw_if (Nat.beq s_ 239) ((op = 2 ∧ 0 ≤ fr ∧ fr ≤ 14 ∧ 0 ≤ sh ∧ sh ≤ 4 ∧ 0 ≤ (fw_g W 12 0) ∧ (fw_g W 12 0) ≤ 14) ∧ (∀ (f : fw_W), (True) → Q none (fw_put [] 0 [239000, 239001] W f)))
  | _ => False
theorem x_k_openMore2_ok (d : Nat) (as : List fw_V) (W : fw_W) (Q : Option fw_V → fw_W → Prop) (hx : x_k_openMore2 as W Q) : jf fw_T (d + 4) 87 0 (fw_args 0 as) [] W Q := by
  unfold x_k_openMore2 at hx
  split at hx
  · rename_i s_ op fr ma sh
    obtain ⟨e_, hpre, hQ⟩ := fw_if_ok hx
    have e_ := Nat.eq_of_beq_eq_true e_
    subst e_
    have hP : ∀ (W2 : fw_W), fw_sm [] 0 [239000, 239001] W W2 → _ → Q none W2 := fun W2 hs hr => fw_sm_use (Q := fun Z => Q none Z) hs (hQ W2 hr)
    refine s_k_openMore2_0 ?_
    repeat' (first
      | (exact True.intro)
      | (exact hpre.1)
      | (refine And.intro ?_ ?_)
      | (refine jf_put (S := []) (o := 0) (F := [239000, 239001]) (W := W) (by repeat (first | exact fw_sm_refl | exact fw_sm_put0 | refine fw_sm_arr ?_ rfl | refine fw_sm_up ?_ rfl | refine fw_sm_put ?_ rfl | refine fw_sm_cp ?_ rfl)) (lm_k_openMore2_23 (op := op) (fr := fr) (ma := ma) (sh := sh) hpre hP _ _ _ _ rfl ?_); (first | omega | trivial | (simp (config := { decide := true }) only [fg_in, fg_fin, fg_out, fg_fout, fg_up, fg_same, true_and, and_true] <;> omega)))
      | (refine hP _ (by repeat (first | exact fw_sm_refl | exact fw_sm_put0 | refine fw_sm_arr ?_ rfl | refine fw_sm_up ?_ rfl | refine fw_sm_put ?_ rfl | refine fw_sm_cp ?_ rfl)) ?_; (first | trivial | omega))
      | omega
      | (intro _))
  · exact hx.elim

def ct_k_openMore1 : List (Nat × fw_X) := [(88, x_k_sumWith), (87, x_k_openMore2)]
theorem ct_k_openMore1_ok (d : Nat) : fw_cok fw_T (d + 4) ct_k_openMore1 := by
  intro q hq as W Q h
  simp only [ct_k_openMore1, List.mem_cons, List.not_mem_nil, or_false] at hq
  rcases hq with rfl | rfl
  · exact jc_of (x_k_sumWith_ok (d + 3) as W Q h)
  · exact jc_of (x_k_openMore2_ok (d + 0) as W Q h)
theorem s_k_openMore1_0 {Post : Option fw_V → fw_W → Prop} {d : Nat} {W : fw_W} {op fr ma sh : Int}
    (hw_ : ((sh ≤ op → Post none W) ∧ (op < sh → ((op < (4 : Int) → -2147483648 ≤ sh - op ∧ sh - op ≤ 2147483647 ∧ (-2147483648 ≤ (sh - op) - (1 : Int) ∧ (sh - op) - (1 : Int) ≤ 2147483647 ∧ (jf fw_T (d + 5) 87 23 [(0, .inr (.inl 239)), (1, .inl op), (3, .inl ma), (4, .inl sh), (5, .inl ((sh - op) - (1 : Int))), (6, .inl fr)] [] W Post))) ∧ ((4 : Int) ≤ op → Post none W))))) :
    jf fw_T (d + 5) 87 0 [(0, .inr (.inl 239)), (1, .inl op), (2, .inl fr), (3, .inl ma), (4, .inl sh)] [] W Post := fw_ok (n := 15) (ss := [(23, [0, 1, 3, 4, 5, 6])]) (hv := []) fr_87_ok fv_wdP_ok (ct_k_openMore1_ok d) hw_

theorem s_k_openMore1_23 {Post : Option fw_V → fw_W → Prop} {d : Nat} {W : fw_W} {op ma sh bt h : Int} {f : fw_W}
    (hw_ : (0 ≤ (fw_g W 12 0) → (fw_g W 12 0) ≤ 14 → -2147483648 ≤ (fw_g W 12 0) - bt ∧ (fw_g W 12 0) - bt ≤ 2147483647 ∧ (((((fw_g W 12 0) - bt) ≤ h → Post none (fw_put [] 0 [239000, 239001] W f)) ∧ (h < ((fw_g W 12 0) - bt) → (0 ≤ op ∧ op ≤ 3 ∧ 0 ≤ h ∧ h < 14 ∧ 0 ≤ (fw_g W 12 0) ∧ (fw_g W 12 0) ≤ 14) ∧ (∀ (r1 : Int), ((-2147483648 ≤ r1 ∧ r1 ≤ 2147483647 ∧ (True))) → ((bt ≤ 0 → (-2147483648 ≤ (fw_g f 239 1) → (fw_g f 239 1) ≤ 2147483647 → (((fw_g f 239 1) ≤ r1 → -2147483648 ≤ h + (1 : Int) ∧ h + (1 : Int) ≤ 2147483647 ∧ (jf fw_T (d + 5) 87 23 [(0, .inr (.inl 239)), (1, .inl op), (3, .inl ma), (4, .inl sh), (5, .inl bt), (6, .inl (h + (1 : Int)))] [] (fw_put [] 0 [239000, 239001] W f) Post)) ∧ (r1 < (fw_g f 239 1) → -2147483648 ≤ r1 ∧ r1 ≤ 2147483647 ∧ ((-2147483648 ≤ (fw_shl (1 : Int) h) → (fw_shl (1 : Int) h) ≤ 2147483647 → (-2147483648 ≤ (fw_or ma (fw_shl (1 : Int) h)) → (fw_or ma (fw_shl (1 : Int) h)) ≤ 2147483647 → -2147483648 ≤ (fw_or ma (fw_shl (1 : Int) h)) ∧ (fw_or ma (fw_shl (1 : Int) h)) ≤ 2147483647 ∧ (-2147483648 ≤ h + (1 : Int) ∧ h + (1 : Int) ≤ 2147483647 ∧ (jf fw_T (d + 5) 87 23 [(0, .inr (.inl 239)), (1, .inl op), (3, .inl ma), (4, .inl sh), (5, .inl bt), (6, .inl (h + (1 : Int)))] [] (fw_up (fw_up (fw_put [] 0 [239000, 239001] W f) 239 1 r1) 239 0 (fw_or ma (fw_shl (1 : Int) h))) Post))))))))) ∧ (0 < bt → -2147483648 ≤ op + (1 : Int) ∧ op + (1 : Int) ≤ 2147483647 ∧ (-2147483648 ≤ h + (1 : Int) ∧ h + (1 : Int) ≤ 2147483647 ∧ ((-2147483648 ≤ (fw_shl (1 : Int) h) → (fw_shl (1 : Int) h) ≤ 2147483647 → (-2147483648 ≤ (fw_or ma (fw_shl (1 : Int) h)) → (fw_or ma (fw_shl (1 : Int) h)) ≤ 2147483647 → ((op + (1 : Int)) = 2 ∧ 0 ≤ (h + (1 : Int)) ∧ (h + (1 : Int)) ≤ 14 ∧ 0 ≤ sh ∧ sh ≤ 4 ∧ 0 ≤ (fw_g W 12 0) ∧ (fw_g W 12 0) ≤ 14) ∧ (∀ (f2 : fw_W), ((True)) → -2147483648 ≤ h + (1 : Int) ∧ h + (1 : Int) ≤ 2147483647 ∧ (jf fw_T (d + 5) 87 23 [(0, .inr (.inl 239)), (1, .inl op), (3, .inl ma), (4, .inl sh), (5, .inl bt), (6, .inl (h + (1 : Int)))] [] (fw_put [] 0 [239000, 239001] (fw_put [] 0 [239000, 239001] W f) f2) Post)))))))))))))) :
    jf fw_T (d + 5) 87 23 [(0, .inr (.inl 239)), (1, .inl op), (3, .inl ma), (4, .inl sh), (5, .inl bt), (6, .inl h)] [] (fw_put [] 0 [239000, 239001] W f) Post := fw_ok (n := 32) (ss := [(23, [0, 1, 3, 4, 5, 6])]) (hv := []) fr_87_ok fv_wdP_ok (ct_k_openMore1_ok d) hw_

theorem lm_k_openMore1_23 {Post : Option fw_V → fw_W → Prop} {d : Nat} {W : fw_W} {op fr ma sh : Int} (hpre : op = 1 ∧ 0 ≤ fr ∧ fr ≤ 14 ∧ 0 ≤ sh ∧ sh ≤ 4 ∧ 0 ≤ (fw_g W 12 0) ∧ (fw_g W 12 0) ≤ 14) (hP : ∀ (W2 : fw_W), fw_sm [] 0 [239000, 239001] W W2 → (True) → Post none W2)  : ∀ (m : Nat) (bt h : Int) (f : fw_W), (14 - h).toNat = m → 0 ≤ h ∧ h ≤ 14 ∧ 0 ≤ bt ∧ bt = sh - op - 1 ∧ op < 4 → jf fw_T (d + 5) 87 23 [(0, .inr (.inl 239)), (1, .inl op), (3, .inl ma), (4, .inl sh), (5, .inl bt), (6, .inl h)] [] (fw_put [] 0 [239000, 239001] W f) Post := by
  intro m
  induction m using Nat.strongRecOn with
  | ind m ih =>
    intro bt h f hm hi
    refine jf_rng (fun hrg => ?_)
    have hrg : -2147483648 ≤ op ∧ op ≤ 2147483647 ∧ -2147483648 ≤ ma ∧ ma ≤ 2147483647 ∧ -2147483648 ≤ sh ∧ sh ≤ 2147483647 ∧ -2147483648 ≤ bt ∧ bt ≤ 2147483647 ∧ -2147483648 ≤ h ∧ h ≤ 2147483647 ∧ True := hrg
    refine s_k_openMore1_23 ?_
    repeat' (first
      | (exact True.intro)
      | (exact hpre.1)
      | (refine And.intro ?_ ?_)
      | (refine (ih _ (by omega) _ _ _ rfl ?_); (first | omega | trivial | (simp (config := { decide := true }) only [fg_in, fg_fin, fg_out, fg_fout, fg_up, fg_same, true_and, and_true] <;> omega)))
      | (refine jf_put (S := []) (o := 0) (F := [239000, 239001]) (W := W) (by repeat (first | exact fw_sm_refl | exact fw_sm_put0 | refine fw_sm_arr ?_ rfl | refine fw_sm_up ?_ rfl | refine fw_sm_put ?_ rfl | refine fw_sm_cp ?_ rfl)) (ih _ (by omega) _ _ _ rfl ?_); (first | omega | trivial | (simp (config := { decide := true }) only [fg_in, fg_fin, fg_out, fg_fout, fg_up, fg_same, true_and, and_true] <;> omega)))
      | (refine hP _ (by repeat (first | exact fw_sm_refl | exact fw_sm_put0 | refine fw_sm_arr ?_ rfl | refine fw_sm_up ?_ rfl | refine fw_sm_put ?_ rfl | refine fw_sm_cp ?_ rfl)) ?_; (first | trivial | omega))
      | (simp (disch := first | decide | omega) only [fg_same, fg_lit, fg_in, fg_fin, fg_out, fg_fout, fg_up, true_and, and_true, true_or, or_true, true_implies]; omega)
      | omega
      | (intro _))
def x_k_openMore1 : fw_X := fun as W Q => match as with
  | [.inr (.inl s_), .inl op, .inl fr, .inl ma, .inl sh] => fw_if (Nat.beq s_ 239) ((op = 1 ∧ 0 ≤ fr ∧ fr ≤ 14 ∧ 0 ≤ sh ∧ sh ≤ 4 ∧ 0 ≤ (fw_g W 12 0) ∧ (fw_g W 12 0) ≤ 14) ∧ (∀ (f : fw_W), (True) → Q none (fw_put [] 0 [239000, 239001] W f)))
  | _ => False
theorem x_k_openMore1_ok (d : Nat) (as : List fw_V) (W : fw_W) (Q : Option fw_V → fw_W → Prop) (hx : x_k_openMore1 as W Q) : jf fw_T (d + 5) 87 0 (fw_args 0 as) [] W Q := by
  unfold x_k_openMore1 at hx
  split at hx
  · rename_i s_ op fr ma sh
    obtain ⟨e_, hpre, hQ⟩ := fw_if_ok hx
    have e_ := Nat.eq_of_beq_eq_true e_
    subst e_
    have hP : ∀ (W2 : fw_W), fw_sm [] 0 [239000, 239001] W W2 → _ → Q none W2 := fun W2 hs hr => fw_sm_use (Q := fun Z => Q none Z) hs (hQ W2 hr)
    refine s_k_openMore1_0 ?_
    repeat' (first
      | (exact True.intro)
      | (exact hpre.1)
      | (refine And.intro ?_ ?_)
      | (refine jf_put (S := []) (o := 0) (F := [239000, 239001]) (W := W) (by repeat (first | exact fw_sm_refl | exact fw_sm_put0 | refine fw_sm_arr ?_ rfl | refine fw_sm_up ?_ rfl | refine fw_sm_put ?_ rfl | refine fw_sm_cp ?_ rfl)) (lm_k_openMore1_23 (op := op) (fr := fr) (ma := ma) (sh := sh) hpre hP _ _ _ _ rfl ?_); (first | omega | trivial | (simp (config := { decide := true }) only [fg_in, fg_fin, fg_out, fg_fout, fg_up, fg_same, true_and, and_true] <;> omega)))
      | (refine hP _ (by repeat (first | exact fw_sm_refl | exact fw_sm_put0 | refine fw_sm_arr ?_ rfl | refine fw_sm_up ?_ rfl | refine fw_sm_put ?_ rfl | refine fw_sm_cp ?_ rfl)) ?_; (first | trivial | omega))
      | omega
      | (intro _))
  · exact hx.elim

def ct_k_openMore0 : List (Nat × fw_X) := [(88, x_k_sumWith), (87, x_k_openMore1)]
theorem ct_k_openMore0_ok (d : Nat) : fw_cok fw_T (d + 5) ct_k_openMore0 := by
  intro q hq as W Q h
  simp only [ct_k_openMore0, List.mem_cons, List.not_mem_nil, or_false] at hq
  rcases hq with rfl | rfl
  · exact jc_of (x_k_sumWith_ok (d + 4) as W Q h)
  · exact jc_of (x_k_openMore1_ok (d + 0) as W Q h)
theorem s_k_openMore0_0 {Post : Option fw_V → fw_W → Prop} {d : Nat} {W : fw_W} {op fr ma sh : Int}
    (hw_ : ((sh ≤ op → Post none W) ∧ (op < sh → ((op < (4 : Int) → -2147483648 ≤ sh - op ∧ sh - op ≤ 2147483647 ∧ (-2147483648 ≤ (sh - op) - (1 : Int) ∧ (sh - op) - (1 : Int) ≤ 2147483647 ∧ (jf fw_T (d + 6) 87 23 [(0, .inr (.inl 239)), (1, .inl op), (3, .inl ma), (4, .inl sh), (5, .inl ((sh - op) - (1 : Int))), (6, .inl fr)] [] W Post))) ∧ ((4 : Int) ≤ op → Post none W))))) :
    jf fw_T (d + 6) 87 0 [(0, .inr (.inl 239)), (1, .inl op), (2, .inl fr), (3, .inl ma), (4, .inl sh)] [] W Post := fw_ok (n := 15) (ss := [(23, [0, 1, 3, 4, 5, 6])]) (hv := []) fr_87_ok fv_wdP_ok (ct_k_openMore0_ok d) hw_

theorem s_k_openMore0_23 {Post : Option fw_V → fw_W → Prop} {d : Nat} {W : fw_W} {op ma sh bt h : Int} {f : fw_W}
    (hw_ : (0 ≤ (fw_g W 12 0) → (fw_g W 12 0) ≤ 14 → -2147483648 ≤ (fw_g W 12 0) - bt ∧ (fw_g W 12 0) - bt ≤ 2147483647 ∧ (((((fw_g W 12 0) - bt) ≤ h → Post none (fw_put [] 0 [239000, 239001] W f)) ∧ (h < ((fw_g W 12 0) - bt) → (0 ≤ op ∧ op ≤ 3 ∧ 0 ≤ h ∧ h < 14 ∧ 0 ≤ (fw_g W 12 0) ∧ (fw_g W 12 0) ≤ 14) ∧ (∀ (r1 : Int), ((-2147483648 ≤ r1 ∧ r1 ≤ 2147483647 ∧ (True))) → ((bt ≤ 0 → (-2147483648 ≤ (fw_g f 239 1) → (fw_g f 239 1) ≤ 2147483647 → (((fw_g f 239 1) ≤ r1 → -2147483648 ≤ h + (1 : Int) ∧ h + (1 : Int) ≤ 2147483647 ∧ (jf fw_T (d + 6) 87 23 [(0, .inr (.inl 239)), (1, .inl op), (3, .inl ma), (4, .inl sh), (5, .inl bt), (6, .inl (h + (1 : Int)))] [] (fw_put [] 0 [239000, 239001] W f) Post)) ∧ (r1 < (fw_g f 239 1) → -2147483648 ≤ r1 ∧ r1 ≤ 2147483647 ∧ ((-2147483648 ≤ (fw_shl (1 : Int) h) → (fw_shl (1 : Int) h) ≤ 2147483647 → (-2147483648 ≤ (fw_or ma (fw_shl (1 : Int) h)) → (fw_or ma (fw_shl (1 : Int) h)) ≤ 2147483647 → -2147483648 ≤ (fw_or ma (fw_shl (1 : Int) h)) ∧ (fw_or ma (fw_shl (1 : Int) h)) ≤ 2147483647 ∧ (-2147483648 ≤ h + (1 : Int) ∧ h + (1 : Int) ≤ 2147483647 ∧ (jf fw_T (d + 6) 87 23 [(0, .inr (.inl 239)), (1, .inl op), (3, .inl ma), (4, .inl sh), (5, .inl bt), (6, .inl (h + (1 : Int)))] [] (fw_up (fw_up (fw_put [] 0 [239000, 239001] W f) 239 1 r1) 239 0 (fw_or ma (fw_shl (1 : Int) h))) Post))))))))) ∧ (0 < bt → -2147483648 ≤ op + (1 : Int) ∧ op + (1 : Int) ≤ 2147483647 ∧ (-2147483648 ≤ h + (1 : Int) ∧ h + (1 : Int) ≤ 2147483647 ∧ ((-2147483648 ≤ (fw_shl (1 : Int) h) → (fw_shl (1 : Int) h) ≤ 2147483647 → (-2147483648 ≤ (fw_or ma (fw_shl (1 : Int) h)) → (fw_or ma (fw_shl (1 : Int) h)) ≤ 2147483647 → ((op + (1 : Int)) = 1 ∧ 0 ≤ (h + (1 : Int)) ∧ (h + (1 : Int)) ≤ 14 ∧ 0 ≤ sh ∧ sh ≤ 4 ∧ 0 ≤ (fw_g W 12 0) ∧ (fw_g W 12 0) ≤ 14) ∧ (∀ (f2 : fw_W), ((True)) → -2147483648 ≤ h + (1 : Int) ∧ h + (1 : Int) ≤ 2147483647 ∧ (jf fw_T (d + 6) 87 23 [(0, .inr (.inl 239)), (1, .inl op), (3, .inl ma), (4, .inl sh), (5, .inl bt), (6, .inl (h + (1 : Int)))] [] (fw_put [] 0 [239000, 239001] (fw_put [] 0 [239000, 239001] W f) f2) Post)))))))))))))) :
    jf fw_T (d + 6) 87 23 [(0, .inr (.inl 239)), (1, .inl op), (3, .inl ma), (4, .inl sh), (5, .inl bt), (6, .inl h)] [] (fw_put [] 0 [239000, 239001] W f) Post := fw_ok (n := 32) (ss := [(23, [0, 1, 3, 4, 5, 6])]) (hv := []) fr_87_ok fv_wdP_ok (ct_k_openMore0_ok d) hw_

theorem lm_k_openMore0_23 {Post : Option fw_V → fw_W → Prop} {d : Nat} {W : fw_W} {op fr ma sh : Int} (hpre : op = 0 ∧ 0 ≤ fr ∧ fr ≤ 14 ∧ 0 ≤ sh ∧ sh ≤ 4 ∧ 0 ≤ (fw_g W 12 0) ∧ (fw_g W 12 0) ≤ 14) (hP : ∀ (W2 : fw_W), fw_sm [] 0 [239000, 239001] W W2 → (True) → Post none W2)  : ∀ (m : Nat) (bt h : Int) (f : fw_W), (14 - h).toNat = m → 0 ≤ h ∧ h ≤ 14 ∧ 0 ≤ bt ∧ bt = sh - op - 1 ∧ op < 4 → jf fw_T (d + 6) 87 23 [(0, .inr (.inl 239)), (1, .inl op), (3, .inl ma), (4, .inl sh), (5, .inl bt), (6, .inl h)] [] (fw_put [] 0 [239000, 239001] W f) Post := by
  intro m
  induction m using Nat.strongRecOn with
  | ind m ih =>
    intro bt h f hm hi
    refine jf_rng (fun hrg => ?_)
    have hrg : -2147483648 ≤ op ∧ op ≤ 2147483647 ∧ -2147483648 ≤ ma ∧ ma ≤ 2147483647 ∧ -2147483648 ≤ sh ∧ sh ≤ 2147483647 ∧ -2147483648 ≤ bt ∧ bt ≤ 2147483647 ∧ -2147483648 ≤ h ∧ h ≤ 2147483647 ∧ True := hrg
    refine s_k_openMore0_23 ?_
    repeat' (first
      | (exact True.intro)
      | (exact hpre.1)
      | (refine And.intro ?_ ?_)
      | (refine (ih _ (by omega) _ _ _ rfl ?_); (first | omega | trivial | (simp (config := { decide := true }) only [fg_in, fg_fin, fg_out, fg_fout, fg_up, fg_same, true_and, and_true] <;> omega)))
      | (refine jf_put (S := []) (o := 0) (F := [239000, 239001]) (W := W) (by repeat (first | exact fw_sm_refl | exact fw_sm_put0 | refine fw_sm_arr ?_ rfl | refine fw_sm_up ?_ rfl | refine fw_sm_put ?_ rfl | refine fw_sm_cp ?_ rfl)) (ih _ (by omega) _ _ _ rfl ?_); (first | omega | trivial | (simp (config := { decide := true }) only [fg_in, fg_fin, fg_out, fg_fout, fg_up, fg_same, true_and, and_true] <;> omega)))
      | (refine hP _ (by repeat (first | exact fw_sm_refl | exact fw_sm_put0 | refine fw_sm_arr ?_ rfl | refine fw_sm_up ?_ rfl | refine fw_sm_put ?_ rfl | refine fw_sm_cp ?_ rfl)) ?_; (first | trivial | omega))
      | (simp (disch := first | decide | omega) only [fg_same, fg_lit, fg_in, fg_fin, fg_out, fg_fout, fg_up, true_and, and_true, true_or, or_true, true_implies]; omega)
      | omega
      | (intro _))
def x_k_openMore0 : fw_X := fun as W Q => match as with
  | [.inr (.inl s_), .inl op, .inl fr, .inl ma, .inl sh] => fw_if (Nat.beq s_ 239) ((op = 0 ∧ 0 ≤ fr ∧ fr ≤ 14 ∧ 0 ≤ sh ∧ sh ≤ 4 ∧ 0 ≤ (fw_g W 12 0) ∧ (fw_g W 12 0) ≤ 14) ∧ (∀ (f : fw_W), (True) → Q none (fw_put [] 0 [239000, 239001] W f)))
  | _ => False
theorem x_k_openMore0_ok (d : Nat) (as : List fw_V) (W : fw_W) (Q : Option fw_V → fw_W → Prop) (hx : x_k_openMore0 as W Q) : jf fw_T (d + 6) 87 0 (fw_args 0 as) [] W Q := by
  unfold x_k_openMore0 at hx
  split at hx
  · rename_i s_ op fr ma sh
    obtain ⟨e_, hpre, hQ⟩ := fw_if_ok hx
    have e_ := Nat.eq_of_beq_eq_true e_
    subst e_
    have hP : ∀ (W2 : fw_W), fw_sm [] 0 [239000, 239001] W W2 → _ → Q none W2 := fun W2 hs hr => fw_sm_use (Q := fun Z => Q none Z) hs (hQ W2 hr)
    refine s_k_openMore0_0 ?_
    repeat' (first
      | (exact True.intro)
      | (exact hpre.1)
      | (refine And.intro ?_ ?_)
      | (refine jf_put (S := []) (o := 0) (F := [239000, 239001]) (W := W) (by repeat (first | exact fw_sm_refl | exact fw_sm_put0 | refine fw_sm_arr ?_ rfl | refine fw_sm_up ?_ rfl | refine fw_sm_put ?_ rfl | refine fw_sm_cp ?_ rfl)) (lm_k_openMore0_23 (op := op) (fr := fr) (ma := ma) (sh := sh) hpre hP _ _ _ _ rfl ?_); (first | omega | trivial | (simp (config := { decide := true }) only [fg_in, fg_fin, fg_out, fg_fout, fg_up, fg_same, true_and, and_true] <;> omega)))
      | (refine hP _ (by repeat (first | exact fw_sm_refl | exact fw_sm_put0 | refine fw_sm_arr ?_ rfl | refine fw_sm_up ?_ rfl | refine fw_sm_put ?_ rfl | refine fw_sm_cp ?_ rfl)) ?_; (first | trivial | omega))
      | omega
      | (intro _))
  · exact hx.elim

def fr_86 : fw_P := [(0, 2, 0, 0, 0), (1, 0, 0, 0, 0), (2, 51, 6, 0, 0), (5, 2, 0, 0, 0), (6, 0, 0, 0, 2000000000), (8, 51, 6, 1, 0), (11, 0, 0, 0, 0), (12, 3, 2, 0, 0), (13, 1, 2, 0, 0), (14, 2, 0, 0, 0), (15, 50, 6, 2, 0), (18, 50, 9, 0, 0), (21, 13, 40, 0, 0), (24, 2, 0, 0, 0), (25, 50, 6, 10, 0), (28, 0, 0, 0, 0), (29, 56, 0, 0, 0), (30, 1, 2, 0, 0), (31, 0, 0, 0, 1000000), (33, 53, 0, 0, 0), (34, 5, 2, 0, 1), (37, 6, 13, 0, 0), (40, 2, 0, 0, 0), (41, 0, 0, 0, 0), (42, 0, 0, 0, 0), (43, 0, 0, 0, 0), (44, 1, 1, 0, 0), (45, 2, 0, 0, 0), (46, 50, 6, 2, 0), (49, 50, 9, 0, 0), (52, 61, 0, 0, 0), (55, 64, 87, 4, 806), (58, 72, 0, 0, 0)]
theorem fr_86_ok : fw_mk 86 3 6 none fr_86 = true := by decide +kernel
def ct_k_openShops : List (Nat × fw_X) := [(87, x_k_openMore0)]
theorem ct_k_openShops_ok (d : Nat) : fw_cok fw_T (d + 6) ct_k_openShops := by
  intro q hq as W Q h
  simp only [ct_k_openShops, List.mem_cons, List.not_mem_nil, or_false] at hq
  rcases hq with rfl
  · exact jc_of (x_k_openMore0_ok (d + 0) as W Q h)
theorem s_k_openShops_0 {Post : Option fw_V → fw_W → Prop} {d : Nat} {W : fw_W} {kk : Int}
    (hw_ : -2147483648 ≤ (0 : Int) ∧ (0 : Int) ≤ 2147483647 ∧ (-2147483648 ≤ (2000000000 : Int) ∧ (2000000000 : Int) ≤ 2147483647 ∧ (jf fw_T (d + 7) 86 13 [(0, .inr (.inl 239)), (1, .inl kk), (2, .inl (0 : Int))] [] (fw_up (fw_up W 239 0 (0 : Int)) 239 1 (2000000000 : Int)) Post))) :
    jf fw_T (d + 7) 86 0 [(0, .inr (.inl 239)), (1, .inl kk)] [] W Post := fw_ok (n := 9) (ss := [(13, [0, 1, 2])]) (hv := []) fr_86_ok fv_wdP_ok (ct_k_openShops_ok d) hw_

theorem s_k_openShops_13 {Post : Option fw_V → fw_W → Prop} {d : Nat} {W : fw_W} {kk h : Int} {f : fw_W}
    (hw_ : (0 ≤ (fw_g W 12 0) → (fw_g W 12 0) ≤ 14 → (((fw_g W 12 0) ≤ h → (0 ≤ (fw_g W 12 0) → (fw_g W 12 0) ≤ 14 → ((0 : Int) = 0 ∧ 0 ≤ (0 : Int) ∧ (0 : Int) ≤ 14 ∧ 0 ≤ (min kk (fw_g W 12 0)) ∧ (min kk (fw_g W 12 0)) ≤ 4 ∧ 0 ≤ (fw_g W 12 0) ∧ (fw_g W 12 0) ≤ 14) ∧ (∀ (f1 : fw_W), ((True)) → Post none (fw_put [] 0 [239000, 239001] (fw_put [] 0 [239000, 239001] W f) f1)))) ∧ (h < (fw_g W 12 0) → 0 ≤ (0 : Int) ∧ (0 : Int) < 5 ∧ (0 ≤ h ∧ h < 14 ∧ -2147483648 ≤ (1000000 : Int) ∧ (1000000 : Int) ≤ 2147483647 ∧ (-2147483648 ≤ h + (1 : Int) ∧ h + (1 : Int) ≤ 2147483647 ∧ (jf fw_T (d + 7) 86 13 [(0, .inr (.inl 239)), (1, .inl kk), (2, .inl (h + (1 : Int)))] [] (fw_put [] 0 [239000, 239001] W f) Post))))))) :
    jf fw_T (d + 7) 86 13 [(0, .inr (.inl 239)), (1, .inl kk), (2, .inl h)] [] (fw_put [] 0 [239000, 239001] W f) Post := fw_ok (n := 17) (ss := [(13, [0, 1, 2])]) (hv := []) fr_86_ok fv_wdP_ok (ct_k_openShops_ok d) hw_

theorem lm_k_openShops_13 {Post : Option fw_V → fw_W → Prop} {d : Nat} {W : fw_W} {kk : Int} (hpre : 0 ≤ kk ∧ kk ≤ 4 ∧ 0 ≤ (fw_g W 12 0) ∧ (fw_g W 12 0) ≤ 14) (hP : ∀ (W2 : fw_W), fw_sm [] 0 [239000, 239001] W W2 → (True) → Post none W2)  : ∀ (m : Nat) (h : Int) (f : fw_W), ((fw_g W 12 0) - h).toNat = m → 0 ≤ h → jf fw_T (d + 7) 86 13 [(0, .inr (.inl 239)), (1, .inl kk), (2, .inl h)] [] (fw_put [] 0 [239000, 239001] W f) Post := by
  intro m
  induction m using Nat.strongRecOn with
  | ind m ih =>
    intro h f hm hi
    refine jf_rng (fun hrg => ?_)
    have hrg : -2147483648 ≤ kk ∧ kk ≤ 2147483647 ∧ -2147483648 ≤ h ∧ h ≤ 2147483647 ∧ True := hrg
    refine s_k_openShops_13 ?_
    repeat' (first
      | (exact True.intro)
      | (exact hpre.1)
      | (refine And.intro ?_ ?_)
      | (refine (ih _ (by omega) _ _ rfl ?_); (first | omega | trivial | (simp (config := { decide := true }) only [fg_in, fg_fin, fg_out, fg_fout, fg_up, fg_same, true_and, and_true] <;> omega)))
      | (refine jf_put (S := []) (o := 0) (F := [239000, 239001]) (W := W) (by repeat (first | exact fw_sm_refl | exact fw_sm_put0 | refine fw_sm_arr ?_ rfl | refine fw_sm_up ?_ rfl | refine fw_sm_put ?_ rfl | refine fw_sm_cp ?_ rfl)) (ih _ (by omega) _ _ rfl ?_); (first | omega | trivial | (simp (config := { decide := true }) only [fg_in, fg_fin, fg_out, fg_fout, fg_up, fg_same, true_and, and_true] <;> omega)))
      | (refine hP _ (by repeat (first | exact fw_sm_refl | exact fw_sm_put0 | refine fw_sm_arr ?_ rfl | refine fw_sm_up ?_ rfl | refine fw_sm_put ?_ rfl | refine fw_sm_cp ?_ rfl)) ?_; (first | trivial | omega))
      | omega
      | (intro _))
def x_k_openShops : fw_X := fun as W Q => match as with
  | [.inr (.inl s_), .inl kk] => fw_if (Nat.beq s_ 239) ((0 ≤ kk ∧ kk ≤ 4 ∧ 0 ≤ (fw_g W 12 0) ∧ (fw_g W 12 0) ≤ 14) ∧ (∀ (f : fw_W), (True) → Q none (fw_put [] 0 [239000, 239001] W f)))
  | _ => False
theorem x_k_openShops_ok (d : Nat) (as : List fw_V) (W : fw_W) (Q : Option fw_V → fw_W → Prop) (hx : x_k_openShops as W Q) : jf fw_T (d + 7) 86 0 (fw_args 0 as) [] W Q := by
  unfold x_k_openShops at hx
  split at hx
  · rename_i s_ kk
    obtain ⟨e_, hpre, hQ⟩ := fw_if_ok hx
    have e_ := Nat.eq_of_beq_eq_true e_
    subst e_
    have hP : ∀ (W2 : fw_W), fw_sm [] 0 [239000, 239001] W W2 → _ → Q none W2 := fun W2 hs hr => fw_sm_use (Q := fun Z => Q none Z) hs (hQ W2 hr)
    refine s_k_openShops_0 ?_
    repeat' (first
      | (exact True.intro)
      | (exact hpre.1)
      | (refine And.intro ?_ ?_)
      | (refine jf_put (S := []) (o := 0) (F := [239000, 239001]) (W := W) (by repeat (first | exact fw_sm_refl | exact fw_sm_put0 | refine fw_sm_arr ?_ rfl | refine fw_sm_up ?_ rfl | refine fw_sm_put ?_ rfl | refine fw_sm_cp ?_ rfl)) (lm_k_openShops_13 (kk := kk) hpre hP _ _ _ rfl ?_); (first | omega | trivial | (simp (config := { decide := true }) only [fg_in, fg_fin, fg_out, fg_fout, fg_up, fg_same, true_and, and_true] <;> omega)))
      | (refine hP _ (by repeat (first | exact fw_sm_refl | exact fw_sm_put0 | refine fw_sm_arr ?_ rfl | refine fw_sm_up ?_ rfl | refine fw_sm_put ?_ rfl | refine fw_sm_cp ?_ rfl)) ?_; (first | trivial | omega))
      | omega
      | (intro _))
  · exact hx.elim

def fr_167 : fw_P := [(0, 2, 0, 0, 0), (1, 0, 0, 0, 0), (2, 51, 11, 14, 0), (5, 1, 1, 0, 0), (6, 0, 0, 0, 1), (7, 12, 25, 0, 0), (10, 1, 1, 0, 0), (11, 0, 0, 0, 4), (12, 14, 25, 0, 0), (15, 2, 0, 0, 0), (16, 50, 11, 2, 0), (19, 50, 9, 0, 0), (22, 21, 27, 0, 0), (25, 0, 0, 0, -1), (26, 70, 0, 0, 0), (27, 2, 0, 0, 0), (28, 50, 11, 7, 0), (31, 1, 1, 0, 0), (32, 64, 86, 1, 306), (35, 2, 0, 0, 0), (36, 2, 0, 0, 0), (37, 50, 11, 7, 0), (40, 50, 6, 0, 0), (43, 64, 166, 1, 311), (46, 2, 0, 0, 0), (47, 50, 11, 7, 0), (50, 50, 6, 1, 0), (53, 70, 0, 0, 0)]
theorem fr_167_ok : fw_mk 167 2 11 (some .int) fr_167 = true := by decide +kernel
def ct_k_shops : List (Nat × fw_X) := [(86, x_k_openShops), (166, x_k_lay)]
theorem ct_k_shops_ok (d : Nat) : fw_cok fw_T (d + 7) ct_k_shops := by
  intro q hq as W Q h
  simp only [ct_k_shops, List.mem_cons, List.not_mem_nil, or_false] at hq
  rcases hq with rfl | rfl
  · exact jc_of (x_k_openShops_ok (d + 0) as W Q h)
  · exact jc_of (x_k_lay_ok (d + 6) as W Q h)
theorem s_k_shops_0 {Post : Option fw_V → fw_W → Prop} {d : Nat} {W : fw_W} {kk : Int}
    (hw_ : 0 ≤ (0 : Int) ∧ (0 : Int) ≤ 14 ∧ (((kk < (1 : Int) → (-2147483648 ≤ (-1 : Int) → (-1 : Int) ≤ 2147483647 → Post (some (.inl (-1 : Int))) (fw_up W 0 14 (0 : Int)))) ∧ ((1 : Int) ≤ kk → (((4 : Int) < kk → (-2147483648 ≤ (-1 : Int) → (-1 : Int) ≤ 2147483647 → Post (some (.inl (-1 : Int))) (fw_up W 0 14 (0 : Int)))) ∧ (kk ≤ (4 : Int) → (0 ≤ (fw_g W 12 0) → (fw_g W 12 0) ≤ 14 → ((¬ (fw_g W 12 0) = 0 → (0 ≤ kk ∧ kk ≤ 4 ∧ 0 ≤ (fw_g W 12 0) ∧ (fw_g W 12 0) ≤ 14) ∧ (∀ (f1 : fw_W), ((True)) → (-2147483648 ≤ (fw_g f1 239 0) → (fw_g f1 239 0) ≤ 2147483647 → (True) ∧ (∀ (f2 : fw_W), ((True)) → (-2147483648 ≤ (fw_g f1 239 1) → (fw_g f1 239 1) ≤ 2147483647 → (-2147483648 ≤ (fw_g f1 239 1) → (fw_g f1 239 1) ≤ 2147483647 → Post (some (.inl (fw_g f1 239 1))) (fw_put [339] 0 [14] (fw_put [] 0 [239000, 239001] (fw_up W 0 14 (0 : Int)) f1) f2))))))) ∧ ((fw_g W 12 0) = 0 → (-2147483648 ≤ (-1 : Int) → (-1 : Int) ≤ 2147483647 → Post (some (.inl (-1 : Int))) (fw_up W 0 14 (0 : Int)))))))))))) :
    jf fw_T (d + 8) 167 0 [(0, .inr (.inl 0)), (1, .inl kk)] [] W Post := fw_ok (n := 27) (ss := []) (hv := []) fr_167_ok fv_owt_ok (ct_k_shops_ok d) hw_

def x_k_shops : fw_X := fun as W Q => match as with
  | [.inr (.inl s_), .inl kk] => fw_if (Nat.beq s_ 0) ((0 ≤ (fw_g W 12 0) ∧ (fw_g W 12 0) ≤ 14) ∧ (∀ (v : Int) (f : fw_W), (-2147483648 ≤ v ∧ v ≤ 2147483647 ∧ (True)) → Q (some (.inl v)) (fw_put [339] 0 [14, 239000, 239001] W f)))
  | _ => False
theorem x_k_shops_ok (d : Nat) (as : List fw_V) (W : fw_W) (Q : Option fw_V → fw_W → Prop) (hx : x_k_shops as W Q) : jf fw_T (d + 8) 167 0 (fw_args 0 as) [] W Q := by
  unfold x_k_shops at hx
  split at hx
  · rename_i s_ kk
    obtain ⟨e_, hpre, hQ⟩ := fw_if_ok hx
    have e_ := Nat.eq_of_beq_eq_true e_
    subst e_
    have hP : ∀ (v : Int) (W2 : fw_W), fw_sm [339] 0 [14, 239000, 239001] W W2 → _ → Q (some (.inl v)) W2 := fun v W2 hs hr => fw_sm_use (Q := fun Z => Q (some (.inl v)) Z) hs (hQ v W2 hr)
    refine s_k_shops_0 ?_
    repeat' (first
      | (exact True.intro)
      | (exact hpre.1)
      | (refine And.intro ?_ ?_)
      | (refine hP _ _ (by repeat (first | exact fw_sm_refl | exact fw_sm_put0 | refine fw_sm_arr ?_ rfl | refine fw_sm_up ?_ rfl | refine fw_sm_put ?_ rfl | refine fw_sm_cp ?_ rfl)) ?_; (refine ⟨by omega, by omega, ?_⟩; (first | trivial | omega)))
      | omega
      | (intro _))
  · exact hx.elim

