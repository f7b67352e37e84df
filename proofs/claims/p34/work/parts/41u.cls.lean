/-! a town told -/
theorem tm_up0 {W : fw_W} {z : Int} : fs W (fw_up W 324 0 z) := ⟨sc_up (by omega), by
  show fw_up W 324 0 z 324 1 = W 324 1
  unfold fw_up
  rw [if_neg (by decide)]⟩
def twn (W W2 : fw_W) : Prop := fs W W2 ∧ ta W2 12 ∧ kz W2 ∧ ba W2
theorem ci_rk {W f : fw_W} (hc : ci W) (h : rk W f) : fs W f ∧ ci f := ⟨fs_sc1 (sc_sub h.1 (by omega) (by omega)), ta_sc h.1 (by omega) (by omega) hc.1, kz_sc (sc_sub h.1 (by omega) (by omega)) hc.2.1, ba_sc (sc_sub h.1 (by omega) (by omega)) hc.2.2.1, oi_sc (sc_sub h.1 (by omega) (by omega)) (sc_sub h.1 (by omega) (by omega)) hc.2.2.2⟩
theorem twn_0 {W f : fw_W} {z : Int} (hc : ci W) (h : rk W f) : twn W (cpy (fw_up f 1 0 z) 12 4) := by
  have a := ci_rk hc h
  have s : ∀ lo hi : Nat, 16 ≤ lo → sc lo hi f (cpy (fw_up f 1 0 z) 12 4) := fun lo hi hl => sc_tr (sc_up (by omega)) (sc_cpy (by omega))
  exact ⟨fs_tr a.1 (fs_sc1 (s _ _ (by omega))), cpy_ta (by unfold far4; omega) (ta_sc (lo := 4) (hi := 5) (sc_up (by omega)) (by omega) (by omega) h.2), kz_sc (s _ _ (by omega)) a.2.2.1, ba_sc (s _ _ (by omega)) a.2.2.2.1⟩
theorem twn_put {S F : List Nat} {W W1 f : fw_W} (h : twn W W1) (e : sc_b 324 1000 S F = true) (e1 : sc_b 12 13 S F = true) (e2 : sc_b 37 202 S F = true) : twn W (fw_put S 0 F W1 f) := ⟨fs_tr h.1 (fs_sc1 (sc_put e)), ta_sc (sc_put e1) (by omega) (by omega) h.2.1, kz_sc (sc_put e2) h.2.2.1, ba_sc (sc_sub (sc_put e) (by omega) (by omega)) h.2.2.2⟩
theorem twn_ak {W W1 f : fw_W} (h : twn W W1) (k : ak W1 f ∧ kz f) : twn W f := ⟨fs_tr h.1 (fs_sc1 (sc_sub k.1.2 (by omega) (by omega))), ta_sc k.1.1 (by omega) (by omega) h.2.1, k.2, ba_sc (sc_sub k.1.2 (by omega) (by omega)) h.2.2.2⟩
theorem twn_up {W W1 : fw_W} {c : Nat} {i z : Int} (h : twn W W1) (e : c < 12 ∨ c = 338) : twn W (fw_up W1 c i z) := ⟨fs_tr h.1 (fs_sc (sc_up (by omega)) (sc_up (by omega))), ta_sc (lo := 12) (hi := 13) (sc_up (by omega)) (by omega) (by omega) h.2.1, kz_sc (sc_up (by omega)) h.2.2.1, ba_sc (sc_up (by omega)) h.2.2.2⟩
theorem twn_up0 {W W1 : fw_W} {z : Int} (h : twn W W1) : twn W (fw_up W1 324 0 z) := ⟨fs_tr h.1 tm_up0, ta_sc (lo := 12) (hi := 13) (sc_up (by omega)) (by omega) (by omega) h.2.1, kz_sc (sc_up (by omega)) h.2.2.1, ba_sc (sc_up (by omega)) h.2.2.2⟩
theorem twn_end {W f f2 : fw_W} (h : twn W f) (o : ∀ j, 1 ≤ j → j < fw_g f 12 0 → 1 ≤ fw_g f2 204 j ∧ fw_g f2 204 j < fw_g f 12 0) : fs W (fw_put [204] 0 [16010] f f2) ∧ ci (fw_put [204] 0 [16010] f f2) := ⟨fs_tr h.1 (fs_sc1 (sc_put rfl)), ta_sc (lo := 12) (hi := 13) (sc_put rfl) (by omega) (by omega) h.2.1, kz_sc (sc_put rfl) h.2.2.1, ba_sc (sc_put rfl) h.2.2.2, oi_put o rfl rfl⟩

def fv_fleets : List (Nat × ai_C) := [(16, .inr (.inr (.inr (2, [.inl (0, 4, true), .inr (.inl [12]), .inr (.inl [17]), .inr (.inl [18]), .inr (.inl [19]), .inr (.inl [34]), .inr (.inl [35]), .inr (.inl [36]), .inl (0, 20000, true), .inl (0, 65535, true), .inl (-2147483648, 2147483647, true)])))), (17, .inl (.int, 4, 0, 13, true)), (18, .inl (.int, 4, 0, 13, true)), (8, .inl (.int, 4, 0, 13, true)), (9, .inl (.int, 4, 0, 13, true))]
def fg_fleets_G : fw_G := []
theorem fv_fleets_ok : fw_view fw_T fv_fleets fg_fleets_G := fw_vb_ok (by decide +kernel)
def fr_21 : fw_P := [(0, 2, 0, 0, 0), (1, 1, 1, 0, 0), (2, 0, 0, 0, 4), (3, 61, 0, 0, 0), (6, 51, 2, 0, 0), (9, 0, 0, 0, 0), (10, 3, 4, 0, 0), (12, 1, 4, 0, 0), (14, 2, 0, 0, 0), (15, 50, 2, 0, 0), (18, 13, 49, 0, 0), (21, 2, 0, 0, 0), (22, 50, 2, 2, 0), (25, 1, 4, 0, 0), (27, 2, 2, 0, 0), (28, 1, 4, 0, 0), (30, 52, 0, 0, 0), (31, 53, 0, 0, 0), (32, 2, 0, 0, 0), (33, 50, 2, 3, 0), (36, 1, 4, 0, 0), (38, 2, 3, 0, 0), (39, 1, 4, 0, 0), (41, 52, 0, 0, 0), (42, 53, 0, 0, 0), (43, 5, 4, 0, 1), (46, 6, 12, 0, 0), (49, 2, 0, 0, 0), (50, 64, 22, 0, 102), (53, 72, 0, 0, 0)]
theorem fr_21_ok : fw_mk 21 5 2 none fr_21 = true := by decide +kernel
def ct_k_set : List (Nat × fw_X) := [(22, x_k_forget)]
theorem ct_k_set_ok (d : Nat) : fw_cok fw_T (d + 1) ct_k_set := by
  intro q hq as W Q h
  simp only [ct_k_set, List.mem_cons, List.not_mem_nil, or_false] at hq
  rcases hq with rfl
  · exact jc_of (x_k_forget_ok (d + 0) as W Q h)
theorem s_k_set_0 {Post : Option fw_V → fw_W → Prop} {d : Nat} {W : fw_W} {ca : Int}
    (hw_ : 0 ≤ (min ca (4 : Int)) ∧ (min ca (4 : Int)) ≤ 4 ∧ (jf fw_T (d + 2) 21 12 [(0, .inr (.inl 16)), (2, .inr (.inl 8)), (3, .inr (.inl 9)), (4, .inl (0 : Int))] [] (fw_up W 16 0 (min ca (4 : Int))) Post)) :
    jf fw_T (d + 2) 21 0 [(0, .inr (.inl 16)), (1, .inl ca), (2, .inr (.inl 8)), (3, .inr (.inl 9))] [] W Post := fw_ok (n := 8) (ss := [(12, [0, 2, 3, 4])]) (hv := []) fr_21_ok fv_fleets_ok (ct_k_set_ok d) hw_

theorem s_k_set_12 {Post : Option fw_V → fw_W → Prop} {d : Nat} {W : fw_W} {c : Int} {f : fw_W}
    (hw_ : (0 ≤ (fw_g f 16 0) → (fw_g f 16 0) ≤ 4 → (((fw_g f 16 0) ≤ c → (True) ∧ (∀ (f1 : fw_W), ((True)) → Post none (fw_put [] 0 [16010] (fw_put [17, 18] 0 [16000, 16010] W f) f1))) ∧ (c < (fw_g f 16 0) → 0 ≤ c ∧ c < 4 ∧ (0 ≤ (fw_g W 8 c) → (fw_g W 8 c) ≤ 13 → 0 ≤ c ∧ c < 4 ∧ 0 ≤ (fw_g W 8 c) ∧ (fw_g W 8 c) ≤ 13 ∧ (0 ≤ c ∧ c < 4 ∧ (0 ≤ (fw_g W 9 c) → (fw_g W 9 c) ≤ 13 → 0 ≤ c ∧ c < 4 ∧ 0 ≤ (fw_g W 9 c) ∧ (fw_g W 9 c) ≤ 13 ∧ (-2147483648 ≤ c + (1 : Int) ∧ c + (1 : Int) ≤ 2147483647 ∧ (jf fw_T (d + 2) 21 12 [(0, .inr (.inl 16)), (2, .inr (.inl 8)), (3, .inr (.inl 9)), (4, .inl (c + (1 : Int)))] [] (fw_up (fw_up (fw_put [17, 18] 0 [16000, 16010] W f) 17 c (fw_g W 8 c)) 18 c (fw_g W 9 c)) Post))))))))) :
    jf fw_T (d + 2) 21 12 [(0, .inr (.inl 16)), (2, .inr (.inl 8)), (3, .inr (.inl 9)), (4, .inl c)] [] (fw_put [17, 18] 0 [16000, 16010] W f) Post := fw_ok (n := 21) (ss := [(12, [0, 2, 3, 4])]) (hv := []) fr_21_ok fv_fleets_ok (ct_k_set_ok d) hw_

theorem lm_k_set_12 {Post : Option fw_V → fw_W → Prop} {d : Nat} {W : fw_W} {ca : Int} (hpre : 0 ≤ ca ∧ ca ≤ 4) (hP : ∀ (W2 : fw_W), fw_sm [17, 18] 0 [16000, 16010] W W2 → (True) → Post none W2)  : ∀ (m : Nat) (c : Int) (f : fw_W), ((fw_g f 16 0) - c).toNat = m → 0 ≤ c → jf fw_T (d + 2) 21 12 [(0, .inr (.inl 16)), (2, .inr (.inl 8)), (3, .inr (.inl 9)), (4, .inl c)] [] (fw_put [17, 18] 0 [16000, 16010] W f) Post := by
  intro m
  induction m using Nat.strongRecOn with
  | ind m ih =>
    intro c f hm hi
    refine jf_rng (fun hrg => ?_)
    have hrg : -2147483648 ≤ c ∧ c ≤ 2147483647 ∧ True := hrg
    refine s_k_set_12 ?_
    repeat' (first
      | (exact True.intro)
      | (exact hpre.1)
      | (refine And.intro ?_ ?_)
      | (refine (ih _ (by first | omega | (simp (disch := first | decide | omega) only [fg_same, fg_lit, fg_in, fg_fin, fg_out, fg_fout, fg_up, true_and, and_true, true_or, or_true, true_implies]; omega)) _ _ rfl ?_); (first | omega | trivial | (simp (config := { decide := true }) only [fg_in, fg_fin, fg_out, fg_fout, fg_up, fg_same, true_and, and_true] <;> omega)))
      | (refine jf_put (S := [17, 18]) (o := 0) (F := [16000, 16010]) (W := W) (by repeat (first | exact fw_sm_refl | exact fw_sm_put0 | refine fw_sm_arr ?_ rfl | refine fw_sm_up ?_ rfl | refine fw_sm_put ?_ rfl | refine fw_sm_cp ?_ rfl)) (ih _ (by first | omega | (simp (disch := first | decide | omega) only [fg_same, fg_lit, fg_in, fg_fin, fg_out, fg_fout, fg_up, true_and, and_true, true_or, or_true, true_implies]; omega)) _ _ rfl ?_); (first | omega | trivial | (simp (config := { decide := true }) only [fg_in, fg_fin, fg_out, fg_fout, fg_up, fg_same, true_and, and_true] <;> omega)))
      | (refine hP _ (by repeat (first | exact fw_sm_refl | exact fw_sm_put0 | refine fw_sm_arr ?_ rfl | refine fw_sm_up ?_ rfl | refine fw_sm_put ?_ rfl | refine fw_sm_cp ?_ rfl)) ?_; (first | trivial | omega))
      | omega
      | (intro _))
def x_k_set : fw_X := fun as W Q => match as with
  | [.inr (.inl s_), .inl ca, .inr (.inl r1_), .inr (.inl r2_)] => fw_if (Nat.beq s_ 16) (fw_if (Nat.beq r1_ 8) (fw_if (Nat.beq r2_ 9) ((0 ≤ ca ∧ ca ≤ 4) ∧ (∀ (f : fw_W), (True) → Q none (fw_put [17, 18] 0 [16000, 16010] W f)))))
  | _ => False
theorem x_k_set_ok (d : Nat) (as : List fw_V) (W : fw_W) (Q : Option fw_V → fw_W → Prop) (hx : x_k_set as W Q) : jf fw_T (d + 2) 21 0 (fw_args 0 as) [] W Q := by
  unfold x_k_set at hx
  split at hx
  · rename_i s_ ca r1_ r2_
    obtain ⟨e0_, hx0⟩ := fw_if_ok hx
    have e0_ := Nat.eq_of_beq_eq_true e0_
    clear hx
    subst e0_
    obtain ⟨e1_, hx1⟩ := fw_if_ok hx0
    have e1_ := Nat.eq_of_beq_eq_true e1_
    clear hx0
    subst e1_
    obtain ⟨e2_, hx2⟩ := fw_if_ok hx1
    have e2_ := Nat.eq_of_beq_eq_true e2_
    clear hx1
    subst e2_
    obtain ⟨hpre, hQ⟩ := hx2
    have hP : ∀ (W2 : fw_W), fw_sm [17, 18] 0 [16000, 16010] W W2 → _ → Q none W2 := fun W2 hs hr => fw_sm_use (Q := fun Z => Q none Z) hs (hQ W2 hr)
    refine s_k_set_0 ?_
    repeat' (first
      | (exact True.intro)
      | (exact hpre.1)
      | (refine And.intro ?_ ?_)
      | (refine jf_put (S := [17, 18]) (o := 0) (F := [16000, 16010]) (W := W) (by repeat (first | exact fw_sm_refl | exact fw_sm_put0 | refine fw_sm_arr ?_ rfl | refine fw_sm_up ?_ rfl | refine fw_sm_put ?_ rfl | refine fw_sm_cp ?_ rfl)) (lm_k_set_12 (ca := ca) hpre hP _ _ _ rfl ?_); (first | omega | trivial | (simp (config := { decide := true }) only [fg_in, fg_fin, fg_out, fg_fout, fg_up, fg_same, true_and, and_true] <;> omega)))
      | (refine hP _ (by repeat (first | exact fw_sm_refl | exact fw_sm_put0 | refine fw_sm_arr ?_ rfl | refine fw_sm_up ?_ rfl | refine fw_sm_put ?_ rfl | refine fw_sm_cp ?_ rfl)) ?_; (first | trivial | omega))
      | omega
      | (intro _))
  · exact hx.elim

def fv_townv : List (Nat × ai_C) := [(0, .inr (.inr (.inr (11, [.inr (.inl [1]), .inr (.inl [3]), .inr (.inl [12]), .inr (.inl [16]), .inr (.inl [37]), .inr (.inl [203]), .inr (.inl [223]), .inr (.inl [239]), .inr (.inl [266]), .inr (.inl [268]), .inr (.inl [324]), .inr (.inl [337]), .inr (.inl [338]), .inr (.inl [339]), .inl (0, 14, true)])))), (1, .inr (.inr (.inr (7, [.inl (0, 1200, true), .inl (0, 11, true), .inl (0, 1200, true), .inl (-2147483648, 2147483647, true), .inr (.inr ()), .inr (.inl [2]), .inl (0, 1200, true)])))), (3, .inr (.inr (.inr (5, [.inr (.inl [4]), .inr (.inl [8]), .inr (.inl [9]), .inl (0, 4, true), .inl (-2147483648, 2147483647, true), .inl (-2147483648, 2147483647, true), .inr (.inl [1]), .inr (.inl [10]), .inr (.inl [11]), .inl (0, 1, true)])))), (4, .inr (.inr (.inr (9, [.inl (0, 14, true), .inl (0, 999, true), .inr (.inl [5]), .inr (.inl [6]), .inr (.inl [7])])))), (12, .inr (.inr (.inr (9, [.inl (0, 14, true), .inl (0, 999, true), .inr (.inl [13]), .inr (.inl [14]), .inr (.inl [15])])))), (16, .inr (.inr (.inr (2, [.inl (0, 4, true), .inr (.inl [12]), .inr (.inl [17]), .inr (.inl [18]), .inr (.inl [19]), .inr (.inl [34]), .inr (.inl [35]), .inr (.inl [36]), .inl (0, 20000, true), .inl (0, 65535, true), .inl (-2147483648, 2147483647, true)])))), (37, .inr (.inr (.inr (0, [.inl (0, 40, true), .inl (0, 40, true), .inr (.inl [38]), .inl (0, 40, true)])))), (203, .inr (.inr (.inr (10, [.inr (.inl [204]), .inr (.inl [205]), .inl (-2147483648, 2147483647, true), .inl (-2147483648, 2147483647, true), .inl (-2147483648, 2147483647, true), .inr (.inl [12]), .inr (.inl [220]), .inr (.inl [221]), .inr (.inl [222])])))), (324, .inr (.inr (.inr (1, [.inl (0, 40, true), .inl (0, 100000, true), .inl (-2147483648, 2147483647, true), .inl (-2147483648, 2147483647, true), .inr (.inl [325]), .inr (.inl [326]), .inr (.inl [327]), .inr (.inl [328]), .inr (.inl [329]), .inr (.inl [330]), .inl (-2147483648, 2147483647, true), .inl (-2147483648, 2147483647, true)])))), (338, .inl (.boolean, 3, 0, 1, true))]
def fg_townv_G : fw_G := []
theorem fv_townv_ok : fw_view fw_T fv_townv fg_townv_G := fw_vb_ok (by decide +kernel)
def fr_140 : fw_P := [(0, 2, 0, 0, 0), (1, 50, 11, 1, 0), (4, 64, 61, 0, 305), (7, 21, 12, 0, 0), (10, 0, 0, 0, -1), (11, 70, 0, 0, 0), (12, 2, 0, 0, 0), (13, 50, 11, 0, 0), (16, 0, 0, 0, 0), (17, 51, 7, 0, 0), (20, 2, 0, 0, 0), (21, 50, 11, 2, 0), (24, 2, 0, 0, 0), (25, 50, 11, 1, 0), (28, 50, 5, 0, 0), (31, 64, 110, 1, 209), (34, 2, 0, 0, 0), (35, 50, 11, 3, 0), (38, 2, 0, 0, 0), (39, 50, 11, 1, 0), (42, 50, 5, 3, 0), (45, 2, 0, 0, 0), (46, 50, 11, 1, 0), (49, 50, 5, 1, 0), (52, 2, 0, 0, 0), (53, 50, 11, 1, 0), (56, 50, 5, 2, 0), (59, 64, 21, 3, 502), (62, 2, 0, 0, 0), (63, 50, 11, 4, 0), (66, 2, 0, 0, 0), (67, 50, 11, 2, 0), (70, 64, 1, 1, 200), (73, 2, 0, 0, 0), (74, 50, 11, 10, 0), (77, 0, 0, 0, 0), (78, 51, 1, 0, 0), (81, 2, 0, 0, 0), (82, 0, 0, 0, 0), (83, 51, 11, 14, 0), (86, 0, 0, 0, 0), (87, 3, 1, 0, 0), (88, 1, 1, 0, 0), (89, 0, 0, 0, 3), (90, 13, 106, 0, 0), (93, 2, 0, 0, 0), (94, 50, 11, 12, 0), (97, 1, 1, 0, 0), (98, 0, 0, 0, 0), (99, 55, 0, 0, 0), (100, 5, 1, 0, 1), (103, 6, 88, 0, 0), (106, 2, 0, 0, 0), (107, 64, 141, 0, 111), (110, 2, 0, 0, 0), (111, 50, 11, 2, 0), (114, 50, 9, 0, 0), (117, 70, 0, 0, 0)]
theorem fr_140_ok : fw_mk 140 2 11 (some .int) fr_140 = true := by decide +kernel
def ct_k_town : List (Nat × fw_X) := [(61, x_k_read), (110, x_k_copy), (21, x_k_set), (1, x_k_start), (141, x_k_renew)]
theorem ct_k_town_ok (d : Nat) : fw_cok fw_T (d + 6) ct_k_town := by
  intro q hq as W Q h
  simp only [ct_k_town, List.mem_cons, List.not_mem_nil, or_false] at hq
  rcases hq with rfl | rfl | rfl | rfl | rfl
  · exact jc_of (x_k_read_ok (d + 0) as W Q h)
  · exact jc_of (x_k_copy_ok (d + 5) as W Q h)
  · exact jc_of (x_k_set_ok (d + 4) as W Q h)
  · exact jc_of (x_k_start_ok (d + 4) as W Q h)
  · exact jc_of (x_k_renew_ok (d + 3) as W Q h)
theorem s_k_town_0 {Post : Option fw_V → fw_W → Prop} {d : Nat} {W : fw_W}
    (hw_ : (True) ∧ (∀ (r1 : Int) (f2 : fw_W), ((0 ≤ r1 ∧ r1 ≤ 1 ∧ (rk W f2))) → ((¬ r1 = 0 → 0 ≤ (0 : Int) ∧ (0 : Int) ≤ 1200 ∧ ((True) ∧ ((0 ≤ (fw_g f2 3 3) → (fw_g f2 3 3) ≤ 4 → (0 ≤ (fw_g f2 3 3) ∧ (fw_g f2 3 3) ≤ 4) ∧ (∀ (f3 : fw_W), ((True)) → (ta (fw_put [17, 18] 0 [16000, 16010] (cpy (fw_up f2 1 0 (0 : Int)) 12 4) f3) 12 ∧ kz (fw_put [17, 18] 0 [16000, 16010] (cpy (fw_up f2 1 0 (0 : Int)) 12 4) f3)) ∧ (∀ (f4 : fw_W), ((ak (fw_put [17, 18] 0 [16000, 16010] (cpy (fw_up f2 1 0 (0 : Int)) 12 4) f3) f4 ∧ kz f4)) → 0 ≤ (0 : Int) ∧ (0 : Int) ≤ 40 ∧ (0 ≤ (0 : Int) ∧ (0 : Int) ≤ 14 ∧ (jf fw_T (d + 7) 140 88 [(0, .inr (.inl 0)), (1, .inl (0 : Int))] [] (fw_up (fw_up f4 324 0 (0 : Int)) 0 14 (0 : Int)) Post)))))))) ∧ (r1 = 0 → (-2147483648 ≤ (-1 : Int) → (-1 : Int) ≤ 2147483647 → Post (some (.inl (-1 : Int))) f2))))) :
    jf fw_T (d + 7) 140 0 [(0, .inr (.inl 0))] [] W Post := fw_ok (n := 41) (ss := [(88, [0, 1])]) (hv := []) fr_140_ok fv_townv_ok (ct_k_town_ok d) hw_

theorem s_k_town_88 {Post : Option fw_V → fw_W → Prop} {d : Nat} {W : fw_W} {bo : Int} {f : fw_W}
    (hw_ : (((3 : Int) ≤ bo → (ta f 12) ∧ (∀ (f1 : fw_W), (((∀ j_, 1 ≤ j_ → j_ < (fw_g f 12 0) → 1 ≤ (fw_g f1 204 j_) ∧ (fw_g f1 204 j_) < (fw_g f 12 0)))) → (0 ≤ (fw_g f 12 0) → (fw_g f 12 0) ≤ 14 → (-2147483648 ≤ (fw_g f 12 0) → (fw_g f 12 0) ≤ 2147483647 → Post (some (.inl (fw_g f 12 0))) (fw_put [204] 0 [16010] f f1))))) ∧ (bo < (3 : Int) → 0 ≤ bo ∧ bo < 3 ∧ 0 ≤ (0 : Int) ∧ (0 : Int) ≤ 1 ∧ 0 ≤ (0 : Int) ∧ (0 : Int) ≤ 1 ∧ (-2147483648 ≤ bo + (1 : Int) ∧ bo + (1 : Int) ≤ 2147483647 ∧ (jf fw_T (d + 7) 140 88 [(0, .inr (.inl 0)), (1, .inl (bo + (1 : Int)))] [] (fw_up f 338 bo (0 : Int)) Post))))) :
    jf fw_T (d + 7) 140 88 [(0, .inr (.inl 0)), (1, .inl bo)] [] f Post := fw_ok (n := 11) (ss := [(88, [0, 1])]) (hv := []) fr_140_ok fv_townv_ok (ct_k_town_ok d) hw_

theorem lm_k_town_88 {Post : Option fw_V → fw_W → Prop} {d : Nat} {W : fw_W} (hpre : ci W) (hP : ∀ (v : Int) (W2 : fw_W), (-2147483648 ≤ v ∧ v ≤ 2147483647 ∧ (fs W W2 ∧ ci W2)) → Post (some (.inl v)) W2)  : ∀ (m : Nat) (bo : Int) (f : fw_W), (3 - bo).toNat = m → 0 ≤ bo ∧ twn W f → jf fw_T (d + 7) 140 88 [(0, .inr (.inl 0)), (1, .inl bo)] [] f Post := by
  intro m
  induction m using Nat.strongRecOn with
  | ind m ih =>
    intro bo f hm hi
    refine jf_rng (fun hrg => ?_)
    have hrg : -2147483648 ≤ bo ∧ bo ≤ 2147483647 ∧ True := hrg
    refine s_k_town_88 (W := W) ?_
    repeat' (first
      | (exact hi.2.2.1)
      | (exact True.intro)
      | (exact hpre.1)
      | (refine And.intro ?_ ?_)
      | (refine (ih _ (by omega) _ _ rfl ?_); (exact ⟨by omega, twn_up hi.2 (by omega)⟩))
      | (refine hP _ _ ?_; (refine ⟨by omega, by omega, ?_⟩; (first | (rename_i r1 f1 h1 w1 w2 w3; exact ci_rk hpre h1.2.2) | (rename_i f2 h2 w1 w2 w3 w4; exact twn_end hi.2 h2))))
      | omega
      | (intro _))
def x_k_town : fw_X := fun as W Q => match as with
  | [.inr (.inl s_)] => fw_if (Nat.beq s_ 0) ((ci W) ∧ (∀ (v : Int) (f : fw_W), (-2147483648 ≤ v ∧ v ≤ 2147483647 ∧ (fs W f ∧ ci f)) → Q (some (.inl v)) f))
  | _ => False
theorem x_k_town_ok (d : Nat) (as : List fw_V) (W : fw_W) (Q : Option fw_V → fw_W → Prop) (hx : x_k_town as W Q) : jf fw_T (d + 7) 140 0 (fw_args 0 as) [] W Q := by
  unfold x_k_town at hx
  split at hx
  · rename_i s_
    obtain ⟨e_, hpre, hQ⟩ := fw_if_ok hx
    have e_ := Nat.eq_of_beq_eq_true e_
    subst e_
    have hP := hQ
    refine s_k_town_0 ?_
    repeat' (first
      | (rename_i r1 f1 h1 w1 w2 w3 f2 h2; exact (twn_put (twn_0 hpre h1.2.2) rfl rfl rfl).2.1)
      | (rename_i r1 f1 h1 w1 w2 w3 f2 h2; exact (twn_put (twn_0 hpre h1.2.2) rfl rfl rfl).2.2.1)
      | (exact True.intro)
      | (exact hpre.1)
      | (refine And.intro ?_ ?_)
      | (refine (lm_k_town_88 hpre hP _ _ _ rfl ?_); (rename_i r1 f1 h1 w1 w2 w3 f2 h2 f3 h3; exact ⟨by omega, twn_up (twn_up0 (twn_ak (twn_put (twn_0 hpre h1.2.2) rfl rfl rfl) h3)) (by omega)⟩))
      | (refine hP _ _ ?_; (refine ⟨by omega, by omega, ?_⟩; (first | (rename_i r1 f1 h1 w1 w2 w3; exact ci_rk hpre h1.2.2) | (rename_i f2 h2 w1 w2 w3 w4; exact twn_end hi.2 h2))))
      | omega
      | (intro _))
  · exact hx.elim

