/-! the class, method by method -/
def fv_tape : List (Nat × ai_C) := [(1, .inr (.inr (.inr (7, [.inl (0, 1200, true), .inl (0, 11, true), .inl (0, 1200, true), .inl (-2147483648, 2147483647, true), .inr (.inr ()), .inr (.inl [2]), .inl (0, 1200, true)])))), (2, .inl (.byte, 1200, -128, 127, true))]
def fg_tape_G : fw_G := []
theorem fv_tape_ok : fw_view fw_T fv_tape fg_tape_G := fw_vb_ok (by decide +kernel)
def fr_97 : fw_P := [(0, 1, 1, 0, 0), (1, 2, 0, 0, 0), (2, 50, 7, 0, 0), (5, 13, 34, 0, 0), (8, 2, 0, 0, 0), (9, 50, 7, 5, 0), (12, 1, 1, 0, 0), (13, 54, 0, 0, 0), (14, 0, 0, 0, 97), (16, 12, 34, 0, 0), (19, 2, 0, 0, 0), (20, 50, 7, 5, 0), (23, 1, 1, 0, 0), (24, 54, 0, 0, 0), (25, 0, 0, 0, 122), (27, 14, 34, 0, 0), (30, 0, 0, 0, 1), (31, 6, 35, 0, 0), (34, 0, 0, 0, 0), (35, 71, 0, 0, 0)]
theorem fr_97_ok : fw_mk 97 2 7 (some .boolean) fr_97 = true := by decide +kernel
theorem s_k_isLetter_0 {Post : Option fw_V → fw_W → Prop} {d : Nat} {W : fw_W} {at_ : Int}
    (hw_ : (0 ≤ (fw_g W 1 0) → (fw_g W 1 0) ≤ 1200 → (((fw_g W 1 0) ≤ at_ → 0 ≤ (0 : Int) ∧ (0 : Int) ≤ 1 ∧ Post (some (.inl (0 : Int))) W) ∧ (at_ < (fw_g W 1 0) → 0 ≤ at_ ∧ at_ < 1200 ∧ (-128 ≤ (fw_g W 2 at_) → (fw_g W 2 at_) ≤ 127 → (((fw_g W 2 at_) < (97 : Int) → 0 ≤ (0 : Int) ∧ (0 : Int) ≤ 1 ∧ Post (some (.inl (0 : Int))) W) ∧ ((97 : Int) ≤ (fw_g W 2 at_) → 0 ≤ at_ ∧ at_ < 1200 ∧ (-128 ≤ (fw_g W 2 at_) → (fw_g W 2 at_) ≤ 127 → (((122 : Int) < (fw_g W 2 at_) → 0 ≤ (0 : Int) ∧ (0 : Int) ≤ 1 ∧ Post (some (.inl (0 : Int))) W) ∧ ((fw_g W 2 at_) ≤ (122 : Int) → 0 ≤ (1 : Int) ∧ (1 : Int) ≤ 1 ∧ Post (some (.inl (1 : Int))) W)))))))))) :
    jf fw_T (d + 1) 97 0 [(0, .inr (.inl 1)), (1, .inl at_)] [] W Post := fw_ok (n := 20) (ss := []) (hv := []) fr_97_ok fv_tape_ok (fw_c0 _ _) hw_

def x_k_isLetter : fw_X := fun as W Q => match as with
  | [.inr (.inl s_), .inl at_] => fw_if (Nat.beq s_ 1) ((0 ≤ at_ ∧ (fw_g W 1 0) ≤ 1200) ∧ (∀ (v : Int), (0 ≤ v ∧ v ≤ 1 ∧ (True)) → Q (some (.inl v)) W))
  | _ => False
theorem x_k_isLetter_ok (d : Nat) (as : List fw_V) (W : fw_W) (Q : Option fw_V → fw_W → Prop) (hx : x_k_isLetter as W Q) : jf fw_T (d + 1) 97 0 (fw_args 0 as) [] W Q := by
  unfold x_k_isLetter at hx
  split at hx
  · rename_i s_ at_
    obtain ⟨e_, hpre, hQ⟩ := fw_if_ok hx
    have e_ := Nat.eq_of_beq_eq_true e_
    subst e_
    have hP := hQ
    refine s_k_isLetter_0 ?_
    repeat' (first
      | (exact True.intro)
      | (exact hpre.1)
      | (refine And.intro ?_ ?_)
      | (refine hP _ ?_; (refine ⟨by omega, by omega, ?_⟩; (first | trivial | omega)))
      | omega
      | (intro _))
  · exact hx.elim

def fr_101 : fw_P := [(0, 1, 1, 0, 0), (1, 2, 0, 0, 0), (2, 50, 7, 0, 0), (5, 13, 34, 0, 0), (8, 2, 0, 0, 0), (9, 50, 7, 5, 0), (12, 1, 1, 0, 0), (13, 54, 0, 0, 0), (14, 0, 0, 0, 48), (16, 12, 34, 0, 0), (19, 2, 0, 0, 0), (20, 50, 7, 5, 0), (23, 1, 1, 0, 0), (24, 54, 0, 0, 0), (25, 0, 0, 0, 57), (27, 14, 34, 0, 0), (30, 0, 0, 0, 1), (31, 6, 35, 0, 0), (34, 0, 0, 0, 0), (35, 71, 0, 0, 0)]
theorem fr_101_ok : fw_mk 101 2 7 (some .boolean) fr_101 = true := by decide +kernel
theorem s_k_isDigit_0 {Post : Option fw_V → fw_W → Prop} {d : Nat} {W : fw_W} {at_ : Int}
    (hw_ : (0 ≤ (fw_g W 1 0) → (fw_g W 1 0) ≤ 1200 → (((fw_g W 1 0) ≤ at_ → 0 ≤ (0 : Int) ∧ (0 : Int) ≤ 1 ∧ Post (some (.inl (0 : Int))) W) ∧ (at_ < (fw_g W 1 0) → 0 ≤ at_ ∧ at_ < 1200 ∧ (-128 ≤ (fw_g W 2 at_) → (fw_g W 2 at_) ≤ 127 → (((fw_g W 2 at_) < (48 : Int) → 0 ≤ (0 : Int) ∧ (0 : Int) ≤ 1 ∧ Post (some (.inl (0 : Int))) W) ∧ ((48 : Int) ≤ (fw_g W 2 at_) → 0 ≤ at_ ∧ at_ < 1200 ∧ (-128 ≤ (fw_g W 2 at_) → (fw_g W 2 at_) ≤ 127 → (((57 : Int) < (fw_g W 2 at_) → 0 ≤ (0 : Int) ∧ (0 : Int) ≤ 1 ∧ Post (some (.inl (0 : Int))) W) ∧ ((fw_g W 2 at_) ≤ (57 : Int) → 0 ≤ (1 : Int) ∧ (1 : Int) ≤ 1 ∧ Post (some (.inl (1 : Int))) W)))))))))) :
    jf fw_T (d + 1) 101 0 [(0, .inr (.inl 1)), (1, .inl at_)] [] W Post := fw_ok (n := 20) (ss := []) (hv := []) fr_101_ok fv_tape_ok (fw_c0 _ _) hw_

def x_k_isDigit : fw_X := fun as W Q => match as with
  | [.inr (.inl s_), .inl at_] => fw_if (Nat.beq s_ 1) ((0 ≤ at_ ∧ (fw_g W 1 0) ≤ 1200) ∧ (∀ (v : Int), (0 ≤ v ∧ v ≤ 1 ∧ (True)) → Q (some (.inl v)) W))
  | _ => False
theorem x_k_isDigit_ok (d : Nat) (as : List fw_V) (W : fw_W) (Q : Option fw_V → fw_W → Prop) (hx : x_k_isDigit as W Q) : jf fw_T (d + 1) 101 0 (fw_args 0 as) [] W Q := by
  unfold x_k_isDigit at hx
  split at hx
  · rename_i s_ at_
    obtain ⟨e_, hpre, hQ⟩ := fw_if_ok hx
    have e_ := Nat.eq_of_beq_eq_true e_
    subst e_
    have hP := hQ
    refine s_k_isDigit_0 ?_
    repeat' (first
      | (exact True.intro)
      | (exact hpre.1)
      | (refine And.intro ?_ ?_)
      | (refine hP _ ?_; (refine ⟨by omega, by omega, ?_⟩; (first | trivial | omega)))
      | omega
      | (intro _))
  · exact hx.elim

def fr_98 : fw_P := [(0, 2, 0, 0, 0), (1, 80, 1001, 0, 0), (2, 59, 7, 4, 0), (5, 2, 0, 0, 0), (6, 50, 7, 6, 0), (9, 2, 0, 0, 0), (10, 50, 7, 0, 0), (13, 13, 64, 0, 0), (16, 2, 0, 0, 0), (17, 2, 0, 0, 0), (18, 50, 7, 6, 0), (21, 64, 97, 1, 207), (24, 20, 64, 0, 0), (27, 2, 0, 0, 0), (28, 2, 0, 0, 0), (29, 50, 7, 4, 0), (32, 0, 0, 0, 5), (33, 89, 0, 0, 0), (34, 2, 0, 0, 0), (35, 50, 7, 5, 0), (38, 2, 0, 0, 0), (39, 50, 7, 6, 0), (42, 54, 0, 0, 0), (43, 0, 0, 0, 31), (45, 36, 0, 0, 0), (46, 91, 0, 0, 0), (47, 87, 0, 0, 0), (48, 59, 7, 4, 0), (51, 2, 0, 0, 0), (52, 43, 0, 0, 0), (53, 50, 7, 6, 0), (56, 0, 0, 0, 1), (57, 30, 0, 0, 0), (58, 51, 7, 6, 0), (61, 6, 5, 0, 0), (64, 72, 0, 0, 0)]
theorem fr_98_ok : fw_mk 98 1 7 none fr_98 = true := by decide +kernel
def ct_k_readWord : List (Nat × fw_X) := [(97, x_k_isLetter)]
theorem ct_k_readWord_ok (d : Nat) : fw_cok fw_T (d + 1) ct_k_readWord := by
  intro q hq as W Q h
  simp only [ct_k_readWord, List.mem_cons, List.not_mem_nil, or_false] at hq
  rcases hq with rfl
  · exact jc_of (x_k_isLetter_ok (d + 0) as W Q h)
theorem s_k_readWord_0 {Post : Option fw_V → fw_W → Prop} {d : Nat} {W : fw_W}
    (hw_ : jf fw_T (d + 2) 98 5 [(0, .inr (.inl 1))] [] W Post) :
    jf fw_T (d + 2) 98 0 [(0, .inr (.inl 1))] [] W Post := fw_ok (n := 4) (ss := [(5, [0])]) (hv := []) fr_98_ok fv_tape_ok (ct_k_readWord_ok d) hw_

theorem s_k_readWord_5 {Post : Option fw_V → fw_W → Prop} {d : Nat} {W : fw_W} {f : fw_W}
    (hw_ : (0 ≤ (fw_g f 1 6) → (fw_g f 1 6) ≤ 1200 → (0 ≤ (fw_g W 1 0) → (fw_g W 1 0) ≤ 1200 → (((fw_g W 1 0) ≤ (fw_g f 1 6) → Post none (fw_put [] 0 [1006] W f)) ∧ ((fw_g f 1 6) < (fw_g W 1 0) → (0 ≤ (fw_g f 1 6) → (fw_g f 1 6) ≤ 1200 → (0 ≤ (fw_g f 1 6) ∧ (fw_g W 1 0) ≤ 1200) ∧ (∀ (r1 : Int), ((0 ≤ r1 ∧ r1 ≤ 1 ∧ (True))) → ((r1 = 0 → Post none (fw_put [] 0 [1006] W f)) ∧ (¬ r1 = 0 → (0 ≤ (fw_g f 1 6) → (fw_g f 1 6) ≤ 1200 → 0 ≤ (fw_g f 1 6) ∧ (fw_g f 1 6) < 1200 ∧ (-128 ≤ (fw_g W 2 (fw_g f 1 6)) → (fw_g W 2 (fw_g f 1 6)) ≤ 127 → (-2147483648 ≤ (fw_and (fw_g W 2 (fw_g f 1 6)) (31 : Int)) → (fw_and (fw_g W 2 (fw_g f 1 6)) (31 : Int)) ≤ 2147483647 → (0 ≤ (fw_g f 1 6) → (fw_g f 1 6) ≤ 1200 → -2147483648 ≤ (fw_g f 1 6) + (1 : Int) ∧ (fw_g f 1 6) + (1 : Int) ≤ 2147483647 ∧ (0 ≤ ((fw_g f 1 6) + (1 : Int)) ∧ ((fw_g f 1 6) + (1 : Int)) ≤ 1200 ∧ (jf fw_T (d + 2) 98 5 [(0, .inr (.inl 1))] [] (fw_up (fw_put [] 0 [1006] W f) 1 6 ((fw_g f 1 6) + (1 : Int))) Post))))))))))))))) :
    jf fw_T (d + 2) 98 5 [(0, .inr (.inl 1))] [] (fw_put [] 0 [1006] W f) Post := fw_ok (n := 33) (ss := [(5, [0])]) (hv := []) fr_98_ok fv_tape_ok (ct_k_readWord_ok d) hw_

theorem lm_k_readWord_5 {Post : Option fw_V → fw_W → Prop} {d : Nat} {W : fw_W} (hpre : 0 ≤ (fw_g W 1 6) ∧ (fw_g W 1 6) ≤ (fw_g W 1 0) ∧ (fw_g W 1 0) ≤ 1200) (hP : ∀ (W2 : fw_W), fw_sm [] 0 [1006] W W2 → (0 ≤ (fw_g W2 1 6) ∧ (fw_g W2 1 6) ≤ (fw_g W 1 0)) → Post none W2)  : ∀ (m : Nat) (f : fw_W), ((fw_g W 1 0) - (fw_g f 1 6)).toNat = m → 0 ≤ (fw_g f 1 6) ∧ (fw_g f 1 6) ≤ (fw_g W 1 0) → jf fw_T (d + 2) 98 5 [(0, .inr (.inl 1))] [] (fw_put [] 0 [1006] W f) Post := by
  intro m
  induction m using Nat.strongRecOn with
  | ind m ih =>
    intro f hm hi
    refine s_k_readWord_5 ?_
    repeat' (first
      | (exact True.intro)
      | (exact hpre.1)
      | (refine And.intro ?_ ?_)
      | (refine (ih _ (by first | omega | (simp (disch := first | decide | omega) only [fg_same, fg_lit, fg_in, fg_fin, fg_out, fg_fout, fg_up, true_and, and_true, true_or, or_true, true_implies]; omega)) _ rfl ?_); (first | omega | (simp (disch := first | decide | omega) only [fg_same, fg_lit, fg_in, fg_fin, fg_out, fg_fout, fg_up, true_and, and_true, true_or, or_true, true_implies]; omega) | (simp (disch := first | decide | omega) only [fg_same, fg_lit, fg_in, fg_fin, fg_out, fg_fout, fg_up, true_and, and_true, true_or, or_true, true_implies]; first | done | omega)))
      | (refine jf_put (S := []) (o := 0) (F := [1006]) (W := W) (by repeat (first | exact fw_sm_refl | exact fw_sm_put0 | refine fw_sm_arr ?_ rfl | refine fw_sm_up ?_ rfl | refine fw_sm_put ?_ rfl | refine fw_sm_cp ?_ rfl)) (ih _ (by first | omega | (simp (disch := first | decide | omega) only [fg_same, fg_lit, fg_in, fg_fin, fg_out, fg_fout, fg_up, true_and, and_true, true_or, or_true, true_implies]; omega)) _ rfl ?_); (first | omega | (simp (disch := first | decide | omega) only [fg_same, fg_lit, fg_in, fg_fin, fg_out, fg_fout, fg_up, true_and, and_true, true_or, or_true, true_implies]; omega) | (simp (disch := first | decide | omega) only [fg_same, fg_lit, fg_in, fg_fin, fg_out, fg_fout, fg_up, true_and, and_true, true_or, or_true, true_implies]; first | done | omega)))
      | (refine hP _ (by repeat (first | exact fw_sm_refl | exact fw_sm_put0 | refine fw_sm_arr ?_ rfl | refine fw_sm_up ?_ rfl | refine fw_sm_put ?_ rfl | refine fw_sm_cp ?_ rfl)) ?_; (first | omega | (simp (disch := first | decide | omega) only [fg_same, fg_lit, fg_in, fg_fin, fg_out, fg_fout, fg_up, true_and, and_true, true_or, or_true, true_implies]; omega) | (simp (disch := first | decide | omega) only [fg_same, fg_lit, fg_in, fg_fin, fg_out, fg_fout, fg_up, true_and, and_true, true_or, or_true, true_implies]; first | done | omega)))
      | (simp (disch := first | decide | omega) only [fg_same, fg_lit, fg_in, fg_fin, fg_out, fg_fout, fg_up, true_and, and_true, true_or, or_true, true_implies]; omega)
      | omega
      | (intro _))
def x_k_readWord : fw_X := fun as W Q => match as with
  | [.inr (.inl s_)] => fw_if (Nat.beq s_ 1) ((0 ≤ (fw_g W 1 6) ∧ (fw_g W 1 6) ≤ (fw_g W 1 0) ∧ (fw_g W 1 0) ≤ 1200) ∧ (∀ (f : fw_W), (0 ≤ (fw_g f 1 6) ∧ (fw_g f 1 6) ≤ (fw_g W 1 0)) → Q none (fw_put [] 0 [1006] W f)))
  | _ => False
theorem x_k_readWord_ok (d : Nat) (as : List fw_V) (W : fw_W) (Q : Option fw_V → fw_W → Prop) (hx : x_k_readWord as W Q) : jf fw_T (d + 2) 98 0 (fw_args 0 as) [] W Q := by
  unfold x_k_readWord at hx
  split at hx
  · rename_i s_
    obtain ⟨e_, hpre, hQ⟩ := fw_if_ok hx
    have e_ := Nat.eq_of_beq_eq_true e_
    subst e_
    have hP : ∀ (W2 : fw_W), fw_sm [] 0 [1006] W W2 → _ → Q none W2 := fun W2 hs hr => fw_sm_use (Q := fun Z => Q none Z) hs (hQ W2 hr)
    refine s_k_readWord_0 ?_
    repeat' (first
      | (exact True.intro)
      | (exact hpre.1)
      | (refine And.intro ?_ ?_)
      | (refine jf_put (S := []) (o := 0) (F := [1006]) (W := W) (by repeat (first | exact fw_sm_refl | exact fw_sm_put0 | refine fw_sm_arr ?_ rfl | refine fw_sm_up ?_ rfl | refine fw_sm_put ?_ rfl | refine fw_sm_cp ?_ rfl)) (lm_k_readWord_5 hpre hP _ _ rfl ?_); (first | omega | (simp (disch := first | decide | omega) only [fg_same, fg_lit, fg_in, fg_fin, fg_out, fg_fout, fg_up, true_and, and_true, true_or, or_true, true_implies]; omega) | (simp (disch := first | decide | omega) only [fg_same, fg_lit, fg_in, fg_fin, fg_out, fg_fout, fg_up, true_and, and_true, true_or, or_true, true_implies]; first | done | omega)))
      | (refine hP _ (by repeat (first | exact fw_sm_refl | exact fw_sm_put0 | refine fw_sm_arr ?_ rfl | refine fw_sm_up ?_ rfl | refine fw_sm_put ?_ rfl | refine fw_sm_cp ?_ rfl)) ?_; (first | omega | (simp (disch := first | decide | omega) only [fg_same, fg_lit, fg_in, fg_fin, fg_out, fg_fout, fg_up, true_and, and_true, true_or, or_true, true_implies]; omega) | (simp (disch := first | decide | omega) only [fg_same, fg_lit, fg_in, fg_fin, fg_out, fg_fout, fg_up, true_and, and_true, true_or, or_true, true_implies]; first | done | omega)))
      | (simp (disch := first | decide | omega) only [fg_same, fg_lit, fg_in, fg_fin, fg_out, fg_fout, fg_up, true_and, and_true, true_or, or_true, true_implies]; omega)
      | omega
      | (intro _))
  · exact hx.elim

def fr_102 : fw_P := [(0, 2, 0, 0, 0), (1, 0, 0, 0, 0), (2, 51, 7, 3, 0), (5, 2, 0, 0, 0), (6, 50, 7, 6, 0), (9, 2, 0, 0, 0), (10, 50, 7, 0, 0), (13, 13, 64, 0, 0), (16, 2, 0, 0, 0), (17, 2, 0, 0, 0), (18, 50, 7, 6, 0), (21, 64, 101, 1, 207), (24, 20, 64, 0, 0), (27, 2, 0, 0, 0), (28, 2, 0, 0, 0), (29, 50, 7, 3, 0), (32, 0, 0, 0, 10), (34, 32, 0, 0, 0), (35, 2, 0, 0, 0), (36, 50, 7, 5, 0), (39, 2, 0, 0, 0), (40, 50, 7, 6, 0), (43, 54, 0, 0, 0), (44, 30, 0, 0, 0), (45, 0, 0, 0, 48), (47, 31, 0, 0, 0), (48, 51, 7, 3, 0), (51, 2, 0, 0, 0), (52, 43, 0, 0, 0), (53, 50, 7, 6, 0), (56, 0, 0, 0, 1), (57, 30, 0, 0, 0), (58, 51, 7, 6, 0), (61, 6, 5, 0, 0), (64, 2, 0, 0, 0), (65, 50, 7, 6, 0), (68, 2, 0, 0, 0), (69, 50, 7, 2, 0), (72, 31, 0, 0, 0), (73, 0, 0, 0, 4), (74, 14, 92, 0, 0), (77, 2, 0, 0, 0), (78, 2, 0, 0, 0), (79, 50, 7, 6, 0), (82, 64, 97, 1, 207), (85, 21, 92, 0, 0), (88, 0, 0, 0, 1), (89, 6, 93, 0, 0), (92, 0, 0, 0, 0), (93, 3, 1, 0, 0), (94, 2, 0, 0, 0), (95, 1, 1, 0, 0), (96, 20, 103, 0, 0), (99, 0, 0, 0, 3), (100, 6, 104, 0, 0), (103, 0, 0, 0, 1), (104, 51, 7, 1, 0), (107, 72, 0, 0, 0)]
theorem fr_102_ok : fw_mk 102 2 7 none fr_102 = true := by decide +kernel
def ct_k_readNumber : List (Nat × fw_X) := [(101, x_k_isDigit), (97, x_k_isLetter)]
theorem ct_k_readNumber_ok (d : Nat) : fw_cok fw_T (d + 1) ct_k_readNumber := by
  intro q hq as W Q h
  simp only [ct_k_readNumber, List.mem_cons, List.not_mem_nil, or_false] at hq
  rcases hq with rfl | rfl
  · exact jc_of (x_k_isDigit_ok (d + 0) as W Q h)
  · exact jc_of (x_k_isLetter_ok (d + 0) as W Q h)
theorem s_k_readNumber_0 {Post : Option fw_V → fw_W → Prop} {d : Nat} {W : fw_W}
    (hw_ : -2147483648 ≤ (0 : Int) ∧ (0 : Int) ≤ 2147483647 ∧ (jf fw_T (d + 2) 102 5 [(0, .inr (.inl 1))] [] (fw_up W 1 3 (0 : Int)) Post)) :
    jf fw_T (d + 2) 102 0 [(0, .inr (.inl 1))] [] W Post := fw_ok (n := 4) (ss := [(5, [0])]) (hv := [34, 44, 47, 72]) fr_102_ok fv_tape_ok (ct_k_readNumber_ok d) hw_

theorem s_k_readNumber_5 {Post : Option fw_V → fw_W → Prop} {d : Nat} {W : fw_W} {f : fw_W}
    (hw_ : (0 ≤ (fw_g f 1 6) → (fw_g f 1 6) ≤ 1200 → (0 ≤ (fw_g W 1 0) → (fw_g W 1 0) ≤ 1200 → (((fw_g W 1 0) ≤ (fw_g f 1 6) → (0 ≤ (fw_g f 1 6) → (fw_g f 1 6) ≤ 1200 → (0 ≤ (fw_g W 1 2) → (fw_g W 1 2) ≤ 1200 → ∀ v1 : Int, -2147483648 ≤ v1 → v1 ≤ 2147483647 → (((4 : Int) < v1 → (((0 : Int) = 0 → 0 ≤ (1 : Int) ∧ (1 : Int) ≤ 11 ∧ (Post none (fw_up (fw_put [] 0 [1006, 1003, 1001] W f) 1 1 (1 : Int)))) ∧ (¬ (0 : Int) = 0 → 0 ≤ (3 : Int) ∧ (3 : Int) ≤ 11 ∧ (Post none (fw_up (fw_put [] 0 [1006, 1003, 1001] W f) 1 1 (3 : Int)))))) ∧ (v1 ≤ (4 : Int) → (0 ≤ (fw_g f 1 6) → (fw_g f 1 6) ≤ 1200 → (0 ≤ (fw_g f 1 6) ∧ (fw_g W 1 0) ≤ 1200) ∧ (∀ (r2 : Int), ((0 ≤ r2 ∧ r2 ≤ 1 ∧ (True))) → ((¬ r2 = 0 → (((0 : Int) = 0 → 0 ≤ (1 : Int) ∧ (1 : Int) ≤ 11 ∧ (Post none (fw_up (fw_put [] 0 [1006, 1003, 1001] W f) 1 1 (1 : Int)))) ∧ (¬ (0 : Int) = 0 → 0 ≤ (3 : Int) ∧ (3 : Int) ≤ 11 ∧ (Post none (fw_up (fw_put [] 0 [1006, 1003, 1001] W f) 1 1 (3 : Int)))))) ∧ (r2 = 0 → (((1 : Int) = 0 → 0 ≤ (1 : Int) ∧ (1 : Int) ≤ 11 ∧ (Post none (fw_up (fw_put [] 0 [1006, 1003, 1001] W f) 1 1 (1 : Int)))) ∧ (¬ (1 : Int) = 0 → 0 ≤ (3 : Int) ∧ (3 : Int) ≤ 11 ∧ (Post none (fw_up (fw_put [] 0 [1006, 1003, 1001] W f) 1 1 (3 : Int)))))))))))))) ∧ ((fw_g f 1 6) < (fw_g W 1 0) → (0 ≤ (fw_g f 1 6) → (fw_g f 1 6) ≤ 1200 → (0 ≤ (fw_g f 1 6) ∧ (fw_g W 1 0) ≤ 1200) ∧ (∀ (r3 : Int), ((0 ≤ r3 ∧ r3 ≤ 1 ∧ (True))) → ((r3 = 0 → (0 ≤ (fw_g f 1 6) → (fw_g f 1 6) ≤ 1200 → (0 ≤ (fw_g W 1 2) → (fw_g W 1 2) ≤ 1200 → ∀ v4 : Int, -2147483648 ≤ v4 → v4 ≤ 2147483647 → (((4 : Int) < v4 → (((0 : Int) = 0 → 0 ≤ (1 : Int) ∧ (1 : Int) ≤ 11 ∧ (Post none (fw_up (fw_put [] 0 [1006, 1003, 1001] W f) 1 1 (1 : Int)))) ∧ (¬ (0 : Int) = 0 → 0 ≤ (3 : Int) ∧ (3 : Int) ≤ 11 ∧ (Post none (fw_up (fw_put [] 0 [1006, 1003, 1001] W f) 1 1 (3 : Int)))))) ∧ (v4 ≤ (4 : Int) → (0 ≤ (fw_g f 1 6) → (fw_g f 1 6) ≤ 1200 → (0 ≤ (fw_g f 1 6) ∧ (fw_g W 1 0) ≤ 1200) ∧ (∀ (r5 : Int), ((0 ≤ r5 ∧ r5 ≤ 1 ∧ (True))) → ((¬ r5 = 0 → (((0 : Int) = 0 → 0 ≤ (1 : Int) ∧ (1 : Int) ≤ 11 ∧ (Post none (fw_up (fw_put [] 0 [1006, 1003, 1001] W f) 1 1 (1 : Int)))) ∧ (¬ (0 : Int) = 0 → 0 ≤ (3 : Int) ∧ (3 : Int) ≤ 11 ∧ (Post none (fw_up (fw_put [] 0 [1006, 1003, 1001] W f) 1 1 (3 : Int)))))) ∧ (r5 = 0 → (((1 : Int) = 0 → 0 ≤ (1 : Int) ∧ (1 : Int) ≤ 11 ∧ (Post none (fw_up (fw_put [] 0 [1006, 1003, 1001] W f) 1 1 (1 : Int)))) ∧ (¬ (1 : Int) = 0 → 0 ≤ (3 : Int) ∧ (3 : Int) ≤ 11 ∧ (Post none (fw_up (fw_put [] 0 [1006, 1003, 1001] W f) 1 1 (3 : Int)))))))))))))) ∧ (¬ r3 = 0 → (-2147483648 ≤ (fw_g f 1 3) → (fw_g f 1 3) ≤ 2147483647 → ∀ v6 : Int, -2147483648 ≤ v6 → v6 ≤ 2147483647 → (0 ≤ (fw_g f 1 6) → (fw_g f 1 6) ≤ 1200 → 0 ≤ (fw_g f 1 6) ∧ (fw_g f 1 6) < 1200 ∧ (-128 ≤ (fw_g W 2 (fw_g f 1 6)) → (fw_g W 2 (fw_g f 1 6)) ≤ 127 → ∀ v7 : Int, -2147483648 ≤ v7 → v7 ≤ 2147483647 → ∀ v8 : Int, -2147483648 ≤ v8 → v8 ≤ 2147483647 → -2147483648 ≤ v8 ∧ v8 ≤ 2147483647 ∧ ((0 ≤ (fw_g f 1 6) → (fw_g f 1 6) ≤ 1200 → -2147483648 ≤ (fw_g f 1 6) + (1 : Int) ∧ (fw_g f 1 6) + (1 : Int) ≤ 2147483647 ∧ (0 ≤ ((fw_g f 1 6) + (1 : Int)) ∧ ((fw_g f 1 6) + (1 : Int)) ≤ 1200 ∧ (jf fw_T (d + 2) 102 5 [(0, .inr (.inl 1))] [] (fw_up (fw_up (fw_put [] 0 [1006, 1003, 1001] W f) 1 3 v8) 1 6 ((fw_g f 1 6) + (1 : Int))) Post)))))))))))))))) :
    jf fw_T (d + 2) 102 5 [(0, .inr (.inl 1))] [] (fw_put [] 0 [1006, 1003, 1001] W f) Post := fw_ok (n := 33) (ss := [(5, [0])]) (hv := [34, 44, 47, 72]) fr_102_ok fv_tape_ok (ct_k_readNumber_ok d) hw_

theorem lm_k_readNumber_5 {Post : Option fw_V → fw_W → Prop} {d : Nat} {W : fw_W} (hpre : 0 ≤ (fw_g W 1 6) ∧ (fw_g W 1 6) ≤ (fw_g W 1 0) ∧ (fw_g W 1 0) ≤ 1200) (hP : ∀ (W2 : fw_W), fw_sm [] 0 [1006, 1003, 1001] W W2 → (0 ≤ (fw_g W2 1 6) ∧ (fw_g W2 1 6) ≤ (fw_g W 1 0)) → Post none W2)  : ∀ (m : Nat) (f : fw_W), ((fw_g W 1 0) - (fw_g f 1 6)).toNat = m → 0 ≤ (fw_g f 1 6) ∧ (fw_g f 1 6) ≤ (fw_g W 1 0) → jf fw_T (d + 2) 102 5 [(0, .inr (.inl 1))] [] (fw_put [] 0 [1006, 1003, 1001] W f) Post := by
  intro m
  induction m using Nat.strongRecOn with
  | ind m ih =>
    intro f hm hi
    refine s_k_readNumber_5 ?_
    repeat' (first
      | (exact True.intro)
      | (exact hpre.1)
      | (refine And.intro ?_ ?_)
      | (refine (ih _ (by first | omega | (simp (disch := first | decide | omega) only [fg_same, fg_lit, fg_in, fg_fin, fg_out, fg_fout, fg_up, true_and, and_true, true_or, or_true, true_implies]; omega)) _ rfl ?_); (first | omega | (simp (disch := first | decide | omega) only [fg_same, fg_lit, fg_in, fg_fin, fg_out, fg_fout, fg_up, true_and, and_true, true_or, or_true, true_implies]; omega) | (simp (disch := first | decide | omega) only [fg_same, fg_lit, fg_in, fg_fin, fg_out, fg_fout, fg_up, true_and, and_true, true_or, or_true, true_implies]; first | done | omega)))
      | (refine jf_put (S := []) (o := 0) (F := [1006, 1003, 1001]) (W := W) (by repeat (first | exact fw_sm_refl | exact fw_sm_put0 | refine fw_sm_arr ?_ rfl | refine fw_sm_up ?_ rfl | refine fw_sm_put ?_ rfl | refine fw_sm_cp ?_ rfl)) (ih _ (by first | omega | (simp (disch := first | decide | omega) only [fg_same, fg_lit, fg_in, fg_fin, fg_out, fg_fout, fg_up, true_and, and_true, true_or, or_true, true_implies]; omega)) _ rfl ?_); (first | omega | (simp (disch := first | decide | omega) only [fg_same, fg_lit, fg_in, fg_fin, fg_out, fg_fout, fg_up, true_and, and_true, true_or, or_true, true_implies]; omega) | (simp (disch := first | decide | omega) only [fg_same, fg_lit, fg_in, fg_fin, fg_out, fg_fout, fg_up, true_and, and_true, true_or, or_true, true_implies]; first | done | omega)))
      | (refine hP _ (by repeat (first | exact fw_sm_refl | exact fw_sm_put0 | refine fw_sm_arr ?_ rfl | refine fw_sm_up ?_ rfl | refine fw_sm_put ?_ rfl | refine fw_sm_cp ?_ rfl)) ?_; (first | omega | (simp (disch := first | decide | omega) only [fg_same, fg_lit, fg_in, fg_fin, fg_out, fg_fout, fg_up, true_and, and_true, true_or, or_true, true_implies]; omega) | (simp (disch := first | decide | omega) only [fg_same, fg_lit, fg_in, fg_fin, fg_out, fg_fout, fg_up, true_and, and_true, true_or, or_true, true_implies]; first | done | omega)))
      | (simp (disch := first | decide | omega) only [fg_same, fg_lit, fg_in, fg_fin, fg_out, fg_fout, fg_up, true_and, and_true, true_or, or_true, true_implies]; omega)
      | omega
      | (intro _))
def x_k_readNumber : fw_X := fun as W Q => match as with
  | [.inr (.inl s_)] => fw_if (Nat.beq s_ 1) ((0 ≤ (fw_g W 1 6) ∧ (fw_g W 1 6) ≤ (fw_g W 1 0) ∧ (fw_g W 1 0) ≤ 1200) ∧ (∀ (f : fw_W), (0 ≤ (fw_g f 1 6) ∧ (fw_g f 1 6) ≤ (fw_g W 1 0)) → Q none (fw_put [] 0 [1006, 1003, 1001] W f)))
  | _ => False
theorem x_k_readNumber_ok (d : Nat) (as : List fw_V) (W : fw_W) (Q : Option fw_V → fw_W → Prop) (hx : x_k_readNumber as W Q) : jf fw_T (d + 2) 102 0 (fw_args 0 as) [] W Q := by
  unfold x_k_readNumber at hx
  split at hx
  · rename_i s_
    obtain ⟨e_, hpre, hQ⟩ := fw_if_ok hx
    have e_ := Nat.eq_of_beq_eq_true e_
    subst e_
    have hP : ∀ (W2 : fw_W), fw_sm [] 0 [1006, 1003, 1001] W W2 → _ → Q none W2 := fun W2 hs hr => fw_sm_use (Q := fun Z => Q none Z) hs (hQ W2 hr)
    refine s_k_readNumber_0 ?_
    repeat' (first
      | (exact True.intro)
      | (exact hpre.1)
      | (refine And.intro ?_ ?_)
      | (refine jf_put (S := []) (o := 0) (F := [1006, 1003, 1001]) (W := W) (by repeat (first | exact fw_sm_refl | exact fw_sm_put0 | refine fw_sm_arr ?_ rfl | refine fw_sm_up ?_ rfl | refine fw_sm_put ?_ rfl | refine fw_sm_cp ?_ rfl)) (lm_k_readNumber_5 hpre hP _ _ rfl ?_); (first | omega | (simp (disch := first | decide | omega) only [fg_same, fg_lit, fg_in, fg_fin, fg_out, fg_fout, fg_up, true_and, and_true, true_or, or_true, true_implies]; omega) | (simp (disch := first | decide | omega) only [fg_same, fg_lit, fg_in, fg_fin, fg_out, fg_fout, fg_up, true_and, and_true, true_or, or_true, true_implies]; first | done | omega)))
      | (refine hP _ (by repeat (first | exact fw_sm_refl | exact fw_sm_put0 | refine fw_sm_arr ?_ rfl | refine fw_sm_up ?_ rfl | refine fw_sm_put ?_ rfl | refine fw_sm_cp ?_ rfl)) ?_; (first | omega | (simp (disch := first | decide | omega) only [fg_same, fg_lit, fg_in, fg_fin, fg_out, fg_fout, fg_up, true_and, and_true, true_or, or_true, true_implies]; omega) | (simp (disch := first | decide | omega) only [fg_same, fg_lit, fg_in, fg_fin, fg_out, fg_fout, fg_up, true_and, and_true, true_or, or_true, true_implies]; first | done | omega)))
      | (simp (disch := first | decide | omega) only [fg_same, fg_lit, fg_in, fg_fin, fg_out, fg_fout, fg_up, true_and, and_true, true_or, or_true, true_implies]; omega)
      | omega
      | (intro _))
  · exact hx.elim

