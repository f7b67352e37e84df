/-! the class, method by method -/
def fv_waysp : List (Nat × ai_C) := [(203, .inr (.inr (.inr (10, [.inr (.inl [204]), .inr (.inl [205]), .inl (-2147483648, 2147483647, true), .inl (-2147483648, 2147483647, true), .inl (-2147483648, 2147483647, true), .inr (.inl [12]), .inr (.inl [220]), .inr (.inl [221]), .inr (.inl [222])])))), (204, .inl (.int, 14, 0, 13, true)), (220, .inl (.int, 14, -2147483648, 2147483647, true)), (221, .inl (.int, 14, -2147483648, 2147483647, true)), (222, .inl (.int, 14, -2147483648, 2147483647, true)), (12, .inr (.inr (.inr (9, [.inl (0, 14, true), .inl (0, 999, true), .inr (.inl [13]), .inr (.inl [14]), .inr (.inl [15])])))), (13, .inl (.int, 14, -1, 13, true)), (14, .inl (.int, 14, 0, 99, true)), (15, .inl (.int, 14, 0, 99, true))]
def fg_waysp_G : fw_G := [(205, 14, 14, -2147483648, 2147483647)]
theorem fv_waysp_ok : fw_view fw_T fv_waysp fg_waysp_G := fw_vb_ok (by decide +kernel)
def fr_121 : fw_P := [(0, 2, 0, 0, 0), (1, 50, 10, 0, 0), (4, 0, 0, 0, 0), (5, 0, 0, 0, 0), (6, 53, 0, 0, 0), (7, 0, 0, 0, 1), (8, 3, 1, 0, 0), (9, 0, 0, 0, 0), (10, 3, 2, 0, 0), (11, 1, 2, 0, 0), (12, 2, 0, 0, 0), (13, 50, 10, 5, 0), (16, 50, 9, 0, 0), (19, 13, 86, 0, 0), (22, 1, 2, 0, 0), (23, 1, 1, 0, 0), (24, 13, 86, 0, 0), (27, 0, 0, 0, 1), (28, 3, 3, 0, 0), (29, 1, 3, 0, 0), (30, 2, 0, 0, 0), (31, 50, 10, 5, 0), (34, 50, 9, 0, 0), (37, 13, 80, 0, 0), (40, 2, 0, 0, 0), (41, 50, 10, 5, 0), (44, 50, 9, 2, 0), (47, 1, 3, 0, 0), (48, 52, 0, 0, 0), (49, 2, 0, 0, 0), (50, 50, 10, 0, 0), (53, 1, 2, 0, 0), (54, 52, 0, 0, 0), (55, 11, 74, 0, 0), (58, 1, 1, 0, 0), (59, 0, 0, 0, 14), (61, 13, 74, 0, 0), (64, 2, 0, 0, 0), (65, 50, 10, 0, 0), (68, 1, 1, 0, 0), (69, 1, 3, 0, 0), (70, 53, 0, 0, 0), (71, 5, 1, 0, 1), (74, 5, 3, 0, 1), (77, 6, 29, 0, 0), (80, 5, 2, 0, 1), (83, 6, 11, 0, 0), (86, 72, 0, 0, 0)]
theorem fr_121_ok : fw_mk 121 4 10 none fr_121 = true := by decide +kernel
theorem s_k_sortp_0 {Post : Option fw_V → fw_W → Prop} {d : Nat} {W : fw_W}
    (hw_ : 0 ≤ (0 : Int) ∧ (0 : Int) < 14 ∧ 0 ≤ (0 : Int) ∧ (0 : Int) ≤ 13 ∧ (jf fw_T (d + 1) 121 11 [(0, .inr (.inl 203)), (1, .inl (1 : Int)), (2, .inl (0 : Int))] [] (fw_up W 204 (0 : Int) (0 : Int)) Post)) :
    jf fw_T (d + 1) 121 0 [(0, .inr (.inl 203))] [] W Post := fw_ok (n := 10) (ss := [(11, [0, 1, 2]), (29, [0, 1, 2, 3])]) (hv := []) fr_121_ok fv_waysp_ok (fw_c0 _ _) hw_

theorem s_k_sortp_29 {Post : Option fw_V → fw_W → Prop} {d : Nat} {W : fw_W} {fil i h : Int} {f : fw_W}
    (hw_ : (0 ≤ (fw_g W 12 0) → (fw_g W 12 0) ≤ 14 → (((fw_g W 12 0) ≤ h → -2147483648 ≤ i + (1 : Int) ∧ i + (1 : Int) ≤ 2147483647 ∧ (jf fw_T (d + 1) 121 11 [(0, .inr (.inl 203)), (1, .inl fil), (2, .inl (i + (1 : Int)))] [] (fw_put [204] 0 [] W f) Post)) ∧ (h < (fw_g W 12 0) → 0 ≤ h ∧ h < 14 ∧ (-1 ≤ (fw_g W 13 h) → (fw_g W 13 h) ≤ 13 → 0 ≤ i ∧ i < 14 ∧ (0 ≤ (fw_g f 204 i) → (fw_g f 204 i) ≤ 13 → ((¬ (fw_g W 13 h) = (fw_g f 204 i) → -2147483648 ≤ h + (1 : Int) ∧ h + (1 : Int) ≤ 2147483647 ∧ (jf fw_T (d + 1) 121 29 [(0, .inr (.inl 203)), (1, .inl fil), (2, .inl i), (3, .inl (h + (1 : Int)))] [] (fw_put [204] 0 [] W f) Post)) ∧ ((fw_g W 13 h) = (fw_g f 204 i) → (((14 : Int) ≤ fil → -2147483648 ≤ h + (1 : Int) ∧ h + (1 : Int) ≤ 2147483647 ∧ (jf fw_T (d + 1) 121 29 [(0, .inr (.inl 203)), (1, .inl fil), (2, .inl i), (3, .inl (h + (1 : Int)))] [] (fw_put [204] 0 [] W f) Post)) ∧ (fil < (14 : Int) → 0 ≤ fil ∧ fil < 14 ∧ 0 ≤ h ∧ h ≤ 13 ∧ (-2147483648 ≤ fil + (1 : Int) ∧ fil + (1 : Int) ≤ 2147483647 ∧ (-2147483648 ≤ h + (1 : Int) ∧ h + (1 : Int) ≤ 2147483647 ∧ (jf fw_T (d + 1) 121 29 [(0, .inr (.inl 203)), (1, .inl (fil + (1 : Int))), (2, .inl i), (3, .inl (h + (1 : Int)))] [] (fw_up (fw_put [204] 0 [] W f) 204 fil h) Post))))))))))))) :
    jf fw_T (d + 1) 121 29 [(0, .inr (.inl 203)), (1, .inl fil), (2, .inl i), (3, .inl h)] [] (fw_put [204] 0 [] W f) Post := fw_ok (n := 27) (ss := [(11, [0, 1, 2]), (29, [0, 1, 2, 3])]) (hv := []) fr_121_ok fv_waysp_ok (fw_c0 _ _) hw_

theorem s_k_sortp_11 {Post : Option fw_V → fw_W → Prop} {d : Nat} {W : fw_W} {fil i : Int} {f : fw_W}
    (hw_ : (0 ≤ (fw_g W 12 0) → (fw_g W 12 0) ≤ 14 → (((fw_g W 12 0) ≤ i → Post none (fw_put [204] 0 [] W f)) ∧ (i < (fw_g W 12 0) → ((fil ≤ i → Post none (fw_put [204] 0 [] W f)) ∧ (i < fil → jf fw_T (d + 1) 121 29 [(0, .inr (.inl 203)), (1, .inl fil), (2, .inl i), (3, .inl (1 : Int))] [] (fw_put [204] 0 [] W f) Post)))))) :
    jf fw_T (d + 1) 121 11 [(0, .inr (.inl 203)), (1, .inl fil), (2, .inl i)] [] (fw_put [204] 0 [] W f) Post := fw_ok (n := 11) (ss := [(11, [0, 1, 2]), (29, [0, 1, 2, 3])]) (hv := []) fr_121_ok fv_waysp_ok (fw_c0 _ _) hw_

theorem lm_k_sortp_29 {Post : Option fw_V → fw_W → Prop} {d : Nat} {W : fw_W} (hpre : tr ((fw_g W 12 0)) (fun z_ => (fw_g W 13 z_)) ∧ 0 ≤ (fw_g W 12 0) ∧ (fw_g W 12 0) ≤ 14) (hP : ∀ (W2 : fw_W), fw_sm [204] 0 [] W W2 → ((∀ j_, 1 ≤ j_ → j_ < (fw_g W 12 0) → 1 ≤ (fw_g W2 204 j_) ∧ (fw_g W2 204 j_) < (fw_g W 12 0))) → Post none W2) (M11 : Int) (h11 : ∀ (fil i : Int) (f : fw_W), (0 ≤ i ∧ 1 ≤ fil ∧ fil ≤ 14) ∧ ((fw_g W 12 0) = 0 ∨ so_ok ((fw_g W 12 0)) (fun z_ => (fw_g W 13 z_)) (fun z_ => (fw_g f 204 z_)) fil i 1) → ((fw_g W 12 0) - i) < M11 → jf fw_T (d + 1) 121 11 [(0, .inr (.inl 203)), (1, .inl fil), (2, .inl i)] [] (fw_put [204] 0 [] W f) Post) : ∀ (m : Nat) (fil i h : Int) (f : fw_W), ((fw_g W 12 0) - h).toNat = m → (1 ≤ h ∧ 0 ≤ i ∧ i < fil ∧ fil ≤ 14 ∧ 1 ≤ (fw_g W 12 0)) ∧ so_ok ((fw_g W 12 0)) (fun z_ => (fw_g W 13 z_)) (fun z_ => (fw_g f 204 z_)) fil i h → ((fw_g W 12 0) - i) ≤ M11 → jf fw_T (d + 1) 121 29 [(0, .inr (.inl 203)), (1, .inl fil), (2, .inl i), (3, .inl h)] [] (fw_put [204] 0 [] W f) Post := by
  intro m
  induction m using Nat.strongRecOn with
  | ind m ih =>
    intro fil i h f hm hi e11
    refine jf_rng (fun hrg => ?_)
    have hrg : -2147483648 ≤ fil ∧ fil ≤ 2147483647 ∧ -2147483648 ≤ i ∧ i ≤ 2147483647 ∧ -2147483648 ≤ h ∧ h ≤ 2147483647 ∧ True := hrg
    refine s_k_sortp_29 ?_
    have hi1 := hi.1
    have hr : h < (fw_g W 12 0) → (fw_g W 13 h) = (fw_g f 204 i) → fil < (fw_g W 12 0) := fun z z2 => so_room hi.2 (by omega) (by omega) (by omega) z z2
    repeat' (first
      | (exact True.intro)
      | (exact hpre.1)
      | (refine And.intro ?_ ?_)
      | (refine (h11 _ _ _ ?_ (by omega)); (
        have e1 := so_le hi.2
        exact ⟨by omega, Or.inr (so_next hi.2 (by omega))⟩))
      | (refine jf_put (S := [204]) (o := 0) (F := []) (W := W) (by repeat (first | exact fw_sm_refl | exact fw_sm_put0 | refine fw_sm_arr ?_ rfl | refine fw_sm_up ?_ rfl | refine fw_sm_put ?_ rfl | refine fw_sm_cp ?_ rfl)) (h11 _ _ _ ?_ (by omega)); (
        have e1 := so_le hi.2
        exact ⟨by omega, Or.inr (so_next hi.2 (by omega))⟩))
      | (refine (ih _ (by omega) _ _ _ _ rfl ?_ (by omega)); (
        first
          | exact ⟨by omega, so_skip hi.2 (by show (fw_g W 13 h) ≠ (fw_g f 204 i); omega)⟩
          | (exfalso; omega)
          | (refine ⟨by omega, so_take hi.2 (by omega) (by omega) (by omega) (by omega) (by show (fw_g W 13 h) = (fw_g f 204 i); omega) (fun j j1 j2 => ?_)⟩
             exact fg_if (by omega) (by omega) (by omega) (by omega))))
      | (refine jf_put (S := [204]) (o := 0) (F := []) (W := W) (by repeat (first | exact fw_sm_refl | exact fw_sm_put0 | refine fw_sm_arr ?_ rfl | refine fw_sm_up ?_ rfl | refine fw_sm_put ?_ rfl | refine fw_sm_cp ?_ rfl)) (ih _ (by omega) _ _ _ _ rfl ?_ (by omega)); (
        first
          | exact ⟨by omega, so_skip hi.2 (by show (fw_g W 13 h) ≠ (fw_g f 204 i); omega)⟩
          | (exfalso; omega)
          | (refine ⟨by omega, so_take hi.2 (by omega) (by omega) (by omega) (by omega) (by show (fw_g W 13 h) = (fw_g f 204 i); omega) (fun j j1 j2 => ?_)⟩
             exact fg_if (by omega) (by omega) (by omega) (by omega))))
      | (refine hP _ (by repeat (first | exact fw_sm_refl | exact fw_sm_put0 | refine fw_sm_arr ?_ rfl | refine fw_sm_up ?_ rfl | refine fw_sm_put ?_ rfl | refine fw_sm_cp ?_ rfl)) ?_; (
        rcases hi.2 with e | e
        · exact fun j j1 j2 => absurd j2 (by rw [e]; omega)
        · have e1 := so_le e
          exact (so_end hpre.1 (by have := e.1.1; omega) e (by omega)).2))
      | omega
      | (intro _))
theorem lm_k_sortp_11 {Post : Option fw_V → fw_W → Prop} {d : Nat} {W : fw_W} (hpre : tr ((fw_g W 12 0)) (fun z_ => (fw_g W 13 z_)) ∧ 0 ≤ (fw_g W 12 0) ∧ (fw_g W 12 0) ≤ 14) (hP : ∀ (W2 : fw_W), fw_sm [204] 0 [] W W2 → ((∀ j_, 1 ≤ j_ → j_ < (fw_g W 12 0) → 1 ≤ (fw_g W2 204 j_) ∧ (fw_g W2 204 j_) < (fw_g W 12 0))) → Post none W2)  : ∀ (m : Nat) (fil i : Int) (f : fw_W), ((fw_g W 12 0) - i).toNat = m → (0 ≤ i ∧ 1 ≤ fil ∧ fil ≤ 14) ∧ ((fw_g W 12 0) = 0 ∨ so_ok ((fw_g W 12 0)) (fun z_ => (fw_g W 13 z_)) (fun z_ => (fw_g f 204 z_)) fil i 1) → jf fw_T (d + 1) 121 11 [(0, .inr (.inl 203)), (1, .inl fil), (2, .inl i)] [] (fw_put [204] 0 [] W f) Post := by
  intro m
  induction m using Nat.strongRecOn with
  | ind m ih =>
    intro fil i f hm hi
    refine jf_rng (fun hrg => ?_)
    have hrg : -2147483648 ≤ fil ∧ fil ≤ 2147483647 ∧ -2147483648 ≤ i ∧ i ≤ 2147483647 ∧ True := hrg
    refine s_k_sortp_11 ?_
    have hi1 := hi.1
    repeat' (first
      | (exact True.intro)
      | (exact hpre.1)
      | (refine And.intro ?_ ?_)
      | (refine (ih _ (by omega) _ _ _ rfl ?_); (first | omega | trivial | (simp (config := { decide := true }) only [fg_in, fg_fin, fg_out, fg_fout, fg_up, fg_same, true_and, and_true] <;> omega)))
      | (refine jf_put (S := [204]) (o := 0) (F := []) (W := W) (by repeat (first | exact fw_sm_refl | exact fw_sm_put0 | refine fw_sm_arr ?_ rfl | refine fw_sm_up ?_ rfl | refine fw_sm_put ?_ rfl | refine fw_sm_cp ?_ rfl)) (ih _ (by omega) _ _ _ rfl ?_); (first | omega | trivial | (simp (config := { decide := true }) only [fg_in, fg_fin, fg_out, fg_fout, fg_up, fg_same, true_and, and_true] <;> omega)))
      | (refine (lm_k_sortp_29 hpre hP ((fw_g W 12 0) - i) (fun a0 a1 af hi hl => ih _ (by omega) a0 a1 af rfl hi) _ _ _ _ _ rfl ?_ (by omega)); (
        rcases hi.2 with e | e
        · omega
        · exact ⟨by omega, e⟩))
      | (refine jf_put (S := [204]) (o := 0) (F := []) (W := W) (by repeat (first | exact fw_sm_refl | exact fw_sm_put0 | refine fw_sm_arr ?_ rfl | refine fw_sm_up ?_ rfl | refine fw_sm_put ?_ rfl | refine fw_sm_cp ?_ rfl)) (lm_k_sortp_29 hpre hP ((fw_g W 12 0) - i) (fun a0 a1 af hi hl => ih _ (by omega) a0 a1 af rfl hi) _ _ _ _ _ rfl ?_ (by omega)); (
        rcases hi.2 with e | e
        · omega
        · exact ⟨by omega, e⟩))
      | (refine hP _ (by repeat (first | exact fw_sm_refl | exact fw_sm_put0 | refine fw_sm_arr ?_ rfl | refine fw_sm_up ?_ rfl | refine fw_sm_put ?_ rfl | refine fw_sm_cp ?_ rfl)) ?_; (
        rcases hi.2 with e | e
        · exact fun j j1 j2 => absurd j2 (by rw [e]; omega)
        · have e1 := so_le e
          exact (so_end hpre.1 (by have := e.1.1; omega) e (by omega)).2))
      | omega
      | (intro _))
def x_k_sortp : fw_X := fun as W Q => match as with
  | [.inr (.inl s_)] => fw_if (Nat.beq s_ 203) ((tr ((fw_g W 12 0)) (fun z_ => (fw_g W 13 z_)) ∧ 0 ≤ (fw_g W 12 0) ∧ (fw_g W 12 0) ≤ 14) ∧ (∀ (f : fw_W), ((∀ j_, 1 ≤ j_ → j_ < (fw_g W 12 0) → 1 ≤ (fw_g f 204 j_) ∧ (fw_g f 204 j_) < (fw_g W 12 0))) → Q none (fw_put [204] 0 [] W f)))
  | _ => False
theorem x_k_sortp_ok (d : Nat) (as : List fw_V) (W : fw_W) (Q : Option fw_V → fw_W → Prop) (hx : x_k_sortp as W Q) : jf fw_T (d + 1) 121 0 (fw_args 0 as) [] W Q := by
  unfold x_k_sortp at hx
  split at hx
  · rename_i s_
    obtain ⟨e_, hpre, hQ⟩ := fw_if_ok hx
    have e_ := Nat.eq_of_beq_eq_true e_
    subst e_
    have hP : ∀ (W2 : fw_W), fw_sm [204] 0 [] W W2 → _ → Q none W2 := fun W2 hs hr => fw_sm_use (Q := fun Z => Q none Z) hs (hQ W2 hr)
    refine s_k_sortp_0 ?_
    repeat' (first
      | (exact True.intro)
      | (exact hpre.1)
      | (refine And.intro ?_ ?_)
      | (refine jf_put (S := [204]) (o := 0) (F := []) (W := W) (by repeat (first | exact fw_sm_refl | exact fw_sm_put0 | refine fw_sm_arr ?_ rfl | refine fw_sm_up ?_ rfl | refine fw_sm_put ?_ rfl | refine fw_sm_cp ?_ rfl)) (lm_k_sortp_11 hpre hP _ _ _ _ rfl ?_); (
        refine ⟨by omega, ?_⟩
        by_cases e : (fw_g W 12 0) = 0
        · exact Or.inl e
        · exact Or.inr (so_init (by omega) (fg_same (by omega) (by omega)))))
      | (refine jf_put (S := [204]) (o := 0) (F := []) (W := W) (by repeat (first | exact fw_sm_refl | exact fw_sm_put0 | refine fw_sm_arr ?_ rfl | refine fw_sm_up ?_ rfl | refine fw_sm_put ?_ rfl | refine fw_sm_cp ?_ rfl)) (lm_k_sortp_29 hpre hP M11 h11 _ _ _ _ _ rfl ?_ (by omega)); (first | omega | trivial | (simp (config := { decide := true }) only [fg_in, fg_fin, fg_out, fg_fout, fg_up, fg_same, true_and, and_true] <;> omega)))
      | (refine hP _ (by repeat (first | exact fw_sm_refl | exact fw_sm_put0 | refine fw_sm_arr ?_ rfl | refine fw_sm_up ?_ rfl | refine fw_sm_put ?_ rfl | refine fw_sm_cp ?_ rfl)) ?_; (
        rcases hi.2 with e | e
        · exact fun j j1 j2 => absurd j2 (by rw [e]; omega)
        · have e1 := so_le e
          exact (so_end hpre.1 (by have := e.1.1; omega) e (by omega)).2))
      | omega
      | (intro _))
  · exact hx.elim

def fr_120 : fw_P := [(0, 2, 0, 0, 0), (1, 64, 121, 0, 410), (4, 0, 0, 0, 0), (5, 3, 1, 0, 0), (6, 1, 1, 0, 0), (7, 2, 0, 0, 0), (8, 50, 10, 5, 0), (11, 50, 9, 0, 0), (14, 13, 111, 0, 0), (17, 2, 0, 0, 0), (18, 50, 10, 0, 0), (21, 1, 1, 0, 0), (22, 52, 0, 0, 0), (23, 3, 2, 0, 0), (24, 2, 0, 0, 0), (25, 50, 10, 1, 0), (28, 1, 2, 0, 0), (29, 56, 0, 0, 0), (30, 1, 2, 0, 0), (31, 0, 0, 0, 0), (32, 53, 0, 0, 0), (33, 0, 0, 0, 0), (34, 3, 3, 0, 0), (35, 1, 3, 0, 0), (36, 1, 1, 0, 0), (37, 13, 105, 0, 0), (40, 2, 0, 0, 0), (41, 50, 10, 0, 0), (44, 1, 3, 0, 0), (45, 52, 0, 0, 0), (46, 3, 4, 0, 0), (48, 2, 0, 0, 0), (49, 50, 10, 1, 0), (52, 2, 0, 0, 0), (53, 50, 10, 5, 0), (56, 50, 9, 2, 0), (59, 1, 2, 0, 0), (60, 52, 0, 0, 0), (61, 56, 0, 0, 0), (62, 1, 4, 0, 0), (64, 52, 0, 0, 0), (65, 2, 0, 0, 0), (66, 50, 10, 5, 0), (69, 50, 9, 3, 0), (72, 1, 2, 0, 0), (73, 52, 0, 0, 0), (74, 30, 0, 0, 0), (75, 3, 5, 0, 0), (77, 2, 0, 0, 0), (78, 50, 10, 1, 0), (81, 1, 2, 0, 0), (82, 56, 0, 0, 0), (83, 1, 4, 0, 0), (85, 1, 5, 0, 0), (87, 53, 0, 0, 0), (88, 2, 0, 0, 0), (89, 50, 10, 1, 0), (92, 1, 4, 0, 0), (94, 56, 0, 0, 0), (95, 1, 2, 0, 0), (96, 1, 5, 0, 0), (98, 53, 0, 0, 0), (99, 5, 3, 0, 1), (102, 6, 35, 0, 0), (105, 5, 1, 0, 1), (108, 6, 6, 0, 0), (111, 72, 0, 0, 0)]
theorem fr_120_ok : fw_mk 120 6 10 none fr_120 = true := by decide +kernel
def ct_k_measurep : List (Nat × fw_X) := [(121, x_k_sortp)]
theorem ct_k_measurep_ok (d : Nat) : fw_cok fw_T (d + 1) ct_k_measurep := by
  intro q hq as W Q h
  simp only [ct_k_measurep, List.mem_cons, List.not_mem_nil, or_false] at hq
  rcases hq with rfl
  · exact jc_of (x_k_sortp_ok (d + 0) as W Q h)
theorem s_k_measurep_0 {Post : Option fw_V → fw_W → Prop} {d : Nat} {W : fw_W}
    (hw_ : (tr ((fw_g W 12 0)) (fun z_ => (fw_g W 13 z_)) ∧ 0 ≤ (fw_g W 12 0) ∧ (fw_g W 12 0) ≤ 14) ∧ (∀ (f1 : fw_W), (((∀ j_, 1 ≤ j_ → j_ < (fw_g W 12 0) → 1 ≤ (fw_g f1 204 j_) ∧ (fw_g f1 204 j_) < (fw_g W 12 0)))) → jf fw_T (d + 2) 120 6 [(0, .inr (.inl 203)), (1, .inl (0 : Int))] [] (fw_put [204] 0 [] W f1) Post)) :
    jf fw_T (d + 2) 120 0 [(0, .inr (.inl 203))] [] W Post := fw_ok (n := 5) (ss := [(6, [0, 1]), (35, [0, 1, 2, 3])]) (hv := [74]) fr_120_ok fv_waysp_ok (ct_k_measurep_ok d) hw_

theorem s_k_measurep_35 {Post : Option fw_V → fw_W → Prop} {d : Nat} {W : fw_W} {i h j : Int} {f : fw_W}
    (hw_ : ((i ≤ j → -2147483648 ≤ i + (1 : Int) ∧ i + (1 : Int) ≤ 2147483647 ∧ (jf fw_T (d + 2) 120 6 [(0, .inr (.inl 203)), (1, .inl (i + (1 : Int)))] [] (fw_put [204] 0 [] W f) Post)) ∧ (j < i → 0 ≤ j ∧ j < 14 ∧ (0 ≤ (fw_g f 204 j) → (fw_g f 204 j) ≤ 13 → 0 ≤ h ∧ h < 14 ∧ (-1 ≤ (fw_g W 13 h) → (fw_g W 13 h) ≤ 13 → 0 ≤ (fw_g W 13 h) ∧ (fw_g W 13 h) < 14 ∧ (0 ≤ (fw_g f 204 j) ∧ (fw_g f 204 j) < 14 ∧ (∀ v1 : Int, -2147483648 ≤ v1 → v1 ≤ 2147483647 → 0 ≤ h ∧ h < 14 ∧ (0 ≤ (fw_g W 14 h) → (fw_g W 14 h) ≤ 99 → ∀ v2 : Int, -2147483648 ≤ v2 → v2 ≤ 2147483647 → 0 ≤ h ∧ h < 14 ∧ (0 ≤ (fw_g f 204 j) ∧ (fw_g f 204 j) < 14 ∧ -2147483648 ≤ v2 ∧ v2 ≤ 2147483647 ∧ (0 ≤ (fw_g f 204 j) ∧ (fw_g f 204 j) < 14 ∧ (0 ≤ h ∧ h < 14 ∧ -2147483648 ≤ v2 ∧ v2 ≤ 2147483647 ∧ (-2147483648 ≤ j + (1 : Int) ∧ j + (1 : Int) ≤ 2147483647 ∧ (jf fw_T (d + 2) 120 35 [(0, .inr (.inl 203)), (1, .inl i), (2, .inl h), (3, .inl (j + (1 : Int)))] [] (fw_put [204] 0 [] W f) Post))))))))))))) :
    jf fw_T (d + 2) 120 35 [(0, .inr (.inl 203)), (1, .inl i), (2, .inl h), (3, .inl j)] [] (fw_put [204] 0 [] W f) Post := fw_ok (n := 42) (ss := [(6, [0, 1]), (35, [0, 1, 2, 3])]) (hv := [74]) fr_120_ok fv_waysp_ok (ct_k_measurep_ok d) hw_

theorem s_k_measurep_6 {Post : Option fw_V → fw_W → Prop} {d : Nat} {W : fw_W} {i : Int} {f : fw_W}
    (hw_ : (0 ≤ (fw_g W 12 0) → (fw_g W 12 0) ≤ 14 → (((fw_g W 12 0) ≤ i → Post none (fw_put [204] 0 [] W f)) ∧ (i < (fw_g W 12 0) → 0 ≤ i ∧ i < 14 ∧ (0 ≤ (fw_g f 204 i) → (fw_g f 204 i) ≤ 13 → 0 ≤ (fw_g f 204 i) ∧ (fw_g f 204 i) < 14 ∧ (0 ≤ (fw_g f 204 i) ∧ (fw_g f 204 i) < 14 ∧ -2147483648 ≤ (0 : Int) ∧ (0 : Int) ≤ 2147483647 ∧ (jf fw_T (d + 2) 120 35 [(0, .inr (.inl 203)), (1, .inl i), (2, .inl (fw_g f 204 i)), (3, .inl (0 : Int))] [] (fw_put [204] 0 [] W f) Post))))))) :
    jf fw_T (d + 2) 120 6 [(0, .inr (.inl 203)), (1, .inl i)] [] (fw_put [204] 0 [] W f) Post := fw_ok (n := 20) (ss := [(6, [0, 1]), (35, [0, 1, 2, 3])]) (hv := [74]) fr_120_ok fv_waysp_ok (ct_k_measurep_ok d) hw_

theorem lm_k_measurep_35 {Post : Option fw_V → fw_W → Prop} {d : Nat} {W : fw_W} (hpre : tr ((fw_g W 12 0)) (fun z_ => (fw_g W 13 z_)) ∧ 0 ≤ (fw_g W 12 0) ∧ (fw_g W 12 0) ≤ 14) (hP : ∀ (W2 : fw_W), fw_sm [204] 0 [] W W2 → ((∀ j_, 1 ≤ j_ → j_ < (fw_g W 12 0) → 1 ≤ (fw_g W2 204 j_) ∧ (fw_g W2 204 j_) < (fw_g W 12 0))) → Post none W2) (M6 : Int) (h6 : ∀ (i : Int) (f : fw_W), (0 ≤ i ∧ (∀ j_, 1 ≤ j_ → j_ < (fw_g W 12 0) → 1 ≤ (fw_g f 204 j_) ∧ (fw_g f 204 j_) < (fw_g W 12 0))) → ((fw_g W 12 0) - i) < M6 → jf fw_T (d + 2) 120 6 [(0, .inr (.inl 203)), (1, .inl i)] [] (fw_put [204] 0 [] W f) Post) : ∀ (m : Nat) (i h j : Int) (f : fw_W), (i - j).toNat = m → ((0 ≤ j ∧ 0 ≤ i ∧ i < (fw_g W 12 0) ∧ 0 ≤ h ∧ h < 14 ∧ (1 ≤ i → 1 ≤ h ∧ h < (fw_g W 12 0))) ∧ (∀ j_, 1 ≤ j_ → j_ < (fw_g W 12 0) → 1 ≤ (fw_g f 204 j_) ∧ (fw_g f 204 j_) < (fw_g W 12 0))) → ((fw_g W 12 0) - i) ≤ M6 → jf fw_T (d + 2) 120 35 [(0, .inr (.inl 203)), (1, .inl i), (2, .inl h), (3, .inl j)] [] (fw_put [204] 0 [] W f) Post := by
  intro m
  induction m using Nat.strongRecOn with
  | ind m ih =>
    intro i h j f hm hi e6
    refine jf_rng (fun hrg => ?_)
    have hrg : -2147483648 ≤ i ∧ i ≤ 2147483647 ∧ -2147483648 ≤ h ∧ h ≤ 2147483647 ∧ -2147483648 ≤ j ∧ j ≤ 2147483647 ∧ True := hrg
    refine s_k_measurep_35 ?_
    have hi1 := hi.1
    have hp : 1 ≤ i → 0 ≤ (fw_g W 13 h) ∧ (fw_g W 13 h) < (fw_g W 12 0) := fun z => tr_p hpre.1 (by omega) (by omega)
    repeat' (first
      | (exact True.intro)
      | (exact hpre.1)
      | (refine And.intro ?_ ?_)
      | (refine (h6 _ _ ?_ (by omega)); (exact ⟨by omega, hi.2⟩))
      | (refine jf_put (S := [204]) (o := 0) (F := []) (W := W) (by repeat (first | exact fw_sm_refl | exact fw_sm_put0 | refine fw_sm_arr ?_ rfl | refine fw_sm_up ?_ rfl | refine fw_sm_put ?_ rfl | refine fw_sm_cp ?_ rfl)) (h6 _ _ ?_ (by omega)); (exact ⟨by omega, hi.2⟩))
      | (refine (ih _ (by omega) _ _ _ _ rfl ?_ (by omega)); (exact ⟨by omega, hi.2⟩))
      | (refine jf_put (S := [204]) (o := 0) (F := []) (W := W) (by repeat (first | exact fw_sm_refl | exact fw_sm_put0 | refine fw_sm_arr ?_ rfl | refine fw_sm_up ?_ rfl | refine fw_sm_put ?_ rfl | refine fw_sm_cp ?_ rfl)) (ih _ (by omega) _ _ _ _ rfl ?_ (by omega)); (exact ⟨by omega, hi.2⟩))
      | (refine hP _ (by repeat (first | exact fw_sm_refl | exact fw_sm_put0 | refine fw_sm_arr ?_ rfl | refine fw_sm_up ?_ rfl | refine fw_sm_put ?_ rfl | refine fw_sm_cp ?_ rfl)) ?_; (exact hi.2))
      | omega
      | (intro _))
theorem lm_k_measurep_6 {Post : Option fw_V → fw_W → Prop} {d : Nat} {W : fw_W} (hpre : tr ((fw_g W 12 0)) (fun z_ => (fw_g W 13 z_)) ∧ 0 ≤ (fw_g W 12 0) ∧ (fw_g W 12 0) ≤ 14) (hP : ∀ (W2 : fw_W), fw_sm [204] 0 [] W W2 → ((∀ j_, 1 ≤ j_ → j_ < (fw_g W 12 0) → 1 ≤ (fw_g W2 204 j_) ∧ (fw_g W2 204 j_) < (fw_g W 12 0))) → Post none W2)  : ∀ (m : Nat) (i : Int) (f : fw_W), ((fw_g W 12 0) - i).toNat = m → (0 ≤ i ∧ (∀ j_, 1 ≤ j_ → j_ < (fw_g W 12 0) → 1 ≤ (fw_g f 204 j_) ∧ (fw_g f 204 j_) < (fw_g W 12 0))) → jf fw_T (d + 2) 120 6 [(0, .inr (.inl 203)), (1, .inl i)] [] (fw_put [204] 0 [] W f) Post := by
  intro m
  induction m using Nat.strongRecOn with
  | ind m ih =>
    intro i f hm hi
    refine jf_rng (fun hrg => ?_)
    have hrg : -2147483648 ≤ i ∧ i ≤ 2147483647 ∧ True := hrg
    refine s_k_measurep_6 ?_
    have hi1 := hi.1
    have hi2 := fun z => hi.2 i z
    repeat' (first
      | (exact True.intro)
      | (exact hpre.1)
      | (refine And.intro ?_ ?_)
      | (refine (ih _ (by omega) _ _ rfl ?_); (first | omega | trivial | (simp (config := { decide := true }) only [fg_in, fg_fin, fg_out, fg_fout, fg_up, fg_same, true_and, and_true] <;> omega)))
      | (refine jf_put (S := [204]) (o := 0) (F := []) (W := W) (by repeat (first | exact fw_sm_refl | exact fw_sm_put0 | refine fw_sm_arr ?_ rfl | refine fw_sm_up ?_ rfl | refine fw_sm_put ?_ rfl | refine fw_sm_cp ?_ rfl)) (ih _ (by omega) _ _ rfl ?_); (first | omega | trivial | (simp (config := { decide := true }) only [fg_in, fg_fin, fg_out, fg_fout, fg_up, fg_same, true_and, and_true] <;> omega)))
      | (refine (lm_k_measurep_35 hpre hP ((fw_g W 12 0) - i) (fun a0 af hi hl => ih _ (by omega) a0 af rfl hi) _ _ _ _ _ rfl ?_ (by omega)); (
        refine ⟨⟨by omega, by omega, by omega, by omega, by omega, fun z => ?_⟩, hi.2⟩
        have b := hi.2 i z (by omega)
        omega))
      | (refine jf_put (S := [204]) (o := 0) (F := []) (W := W) (by repeat (first | exact fw_sm_refl | exact fw_sm_put0 | refine fw_sm_arr ?_ rfl | refine fw_sm_up ?_ rfl | refine fw_sm_put ?_ rfl | refine fw_sm_cp ?_ rfl)) (lm_k_measurep_35 hpre hP ((fw_g W 12 0) - i) (fun a0 af hi hl => ih _ (by omega) a0 af rfl hi) _ _ _ _ _ rfl ?_ (by omega)); (
        refine ⟨⟨by omega, by omega, by omega, by omega, by omega, fun z => ?_⟩, hi.2⟩
        have b := hi.2 i z (by omega)
        omega))
      | (refine hP _ (by repeat (first | exact fw_sm_refl | exact fw_sm_put0 | refine fw_sm_arr ?_ rfl | refine fw_sm_up ?_ rfl | refine fw_sm_put ?_ rfl | refine fw_sm_cp ?_ rfl)) ?_; (exact hi.2))
      | omega
      | (intro _))
def x_k_measurep : fw_X := fun as W Q => match as with
  | [.inr (.inl s_)] => fw_if (Nat.beq s_ 203) ((tr ((fw_g W 12 0)) (fun z_ => (fw_g W 13 z_)) ∧ 0 ≤ (fw_g W 12 0) ∧ (fw_g W 12 0) ≤ 14) ∧ (∀ (f : fw_W), ((∀ j_, 1 ≤ j_ → j_ < (fw_g W 12 0) → 1 ≤ (fw_g f 204 j_) ∧ (fw_g f 204 j_) < (fw_g W 12 0))) → Q none (fw_put [204] 0 [] W f)))
  | _ => False
theorem x_k_measurep_ok (d : Nat) (as : List fw_V) (W : fw_W) (Q : Option fw_V → fw_W → Prop) (hx : x_k_measurep as W Q) : jf fw_T (d + 2) 120 0 (fw_args 0 as) [] W Q := by
  unfold x_k_measurep at hx
  split at hx
  · rename_i s_
    obtain ⟨e_, hpre, hQ⟩ := fw_if_ok hx
    have e_ := Nat.eq_of_beq_eq_true e_
    subst e_
    have hP : ∀ (W2 : fw_W), fw_sm [204] 0 [] W W2 → _ → Q none W2 := fun W2 hs hr => fw_sm_use (Q := fun Z => Q none Z) hs (hQ W2 hr)
    refine s_k_measurep_0 ?_
    repeat' (first
      | (exact hpre.1)
      | (exact True.intro)
      | (exact hpre.1)
      | (refine And.intro ?_ ?_)
      | (refine jf_put (S := [204]) (o := 0) (F := []) (W := W) (by repeat (first | exact fw_sm_refl | exact fw_sm_put0 | refine fw_sm_arr ?_ rfl | refine fw_sm_up ?_ rfl | refine fw_sm_put ?_ rfl | refine fw_sm_cp ?_ rfl)) (lm_k_measurep_6 hpre hP _ _ _ rfl ?_); (rename_i f1 h1; exact ⟨by omega, h1⟩))
      | (refine jf_put (S := [204]) (o := 0) (F := []) (W := W) (by repeat (first | exact fw_sm_refl | exact fw_sm_put0 | refine fw_sm_arr ?_ rfl | refine fw_sm_up ?_ rfl | refine fw_sm_put ?_ rfl | refine fw_sm_cp ?_ rfl)) (lm_k_measurep_35 hpre hP M6 h6 _ _ _ _ _ rfl ?_ (by omega)); (first | omega | trivial | (simp (config := { decide := true }) only [fg_in, fg_fin, fg_out, fg_fout, fg_up, fg_same, true_and, and_true] <;> omega)))
      | (refine hP _ (by repeat (first | exact fw_sm_refl | exact fw_sm_put0 | refine fw_sm_arr ?_ rfl | refine fw_sm_up ?_ rfl | refine fw_sm_put ?_ rfl | refine fw_sm_cp ?_ rfl)) ?_; (exact hi.2))
      | omega
      | (intro _))
  · exact hx.elim

def fr_132 : fw_P := [(0, 0, 0, 0, 0), (1, 3, 1, 0, 0), (2, 1, 1, 0, 0), (3, 2, 0, 0, 0), (4, 50, 10, 5, 0), (7, 50, 9, 0, 0), (10, 13, 34, 0, 0), (13, 2, 0, 0, 0), (14, 50, 10, 6, 0), (17, 1, 1, 0, 0), (18, 2, 0, 0, 0), (19, 50, 10, 5, 0), (22, 50, 9, 4, 0), (25, 1, 1, 0, 0), (26, 52, 0, 0, 0), (27, 53, 0, 0, 0), (28, 5, 1, 0, 1), (31, 6, 2, 0, 0), (34, 2, 0, 0, 0), (35, 50, 10, 5, 0), (38, 50, 9, 0, 0), (41, 0, 0, 0, 1), (42, 31, 0, 0, 0), (43, 3, 1, 0, 0), (44, 1, 1, 0, 0), (45, 25, 84, 0, 0), (48, 2, 0, 0, 0), (49, 50, 10, 0, 0), (52, 1, 1, 0, 0), (53, 52, 0, 0, 0), (54, 3, 2, 0, 0), (55, 2, 0, 0, 0), (56, 50, 10, 6, 0), (59, 2, 0, 0, 0), (60, 50, 10, 5, 0), (63, 50, 9, 2, 0), (66, 1, 2, 0, 0), (67, 52, 0, 0, 0), (68, 44, 0, 0, 0), (69, 52, 0, 0, 0), (70, 2, 0, 0, 0), (71, 50, 10, 6, 0), (74, 1, 2, 0, 0), (75, 52, 0, 0, 0), (76, 30, 0, 0, 0), (77, 53, 0, 0, 0), (78, 5, 1, 0, -1), (81, 6, 44, 0, 0), (84, 72, 0, 0, 0)]
theorem fr_132_ok : fw_mk 132 3 10 none fr_132 = true := by decide +kernel
theorem s_k_sumBehindp_0 {Post : Option fw_V → fw_W → Prop} {d : Nat} {W : fw_W}
    (hw_ : jf fw_T (d + 1) 132 2 [(0, .inr (.inl 203)), (1, .inl (0 : Int))] [] W Post) :
    jf fw_T (d + 1) 132 0 [(0, .inr (.inl 203))] [] W Post := fw_ok (n := 3) (ss := [(2, [0, 1]), (44, [0, 1])]) (hv := [76]) fr_132_ok fv_waysp_ok (fw_c0 _ _) hw_

theorem s_k_sumBehindp_44 {Post : Option fw_V → fw_W → Prop} {d : Nat} {W : fw_W} {i : Int} {f : fw_W}
    (hw_ : ((i ≤ 0 → Post none (fw_put [220] 0 [] W f)) ∧ (0 < i → 0 ≤ i ∧ i < 14 ∧ (0 ≤ (fw_g W 204 i) → (fw_g W 204 i) ≤ 13 → 0 ≤ (fw_g W 204 i) ∧ (fw_g W 204 i) < 14 ∧ (-1 ≤ (fw_g W 13 (fw_g W 204 i)) → (fw_g W 13 (fw_g W 204 i)) ≤ 13 → 0 ≤ (fw_g W 13 (fw_g W 204 i)) ∧ (fw_g W 13 (fw_g W 204 i)) < 14 ∧ (-2147483648 ≤ (fw_g f 220 (fw_g W 13 (fw_g W 204 i))) → (fw_g f 220 (fw_g W 13 (fw_g W 204 i))) ≤ 2147483647 → 0 ≤ (fw_g W 204 i) ∧ (fw_g W 204 i) < 14 ∧ (-2147483648 ≤ (fw_g f 220 (fw_g W 204 i)) → (fw_g f 220 (fw_g W 204 i)) ≤ 2147483647 → ∀ v1 : Int, -2147483648 ≤ v1 → v1 ≤ 2147483647 → 0 ≤ (fw_g W 13 (fw_g W 204 i)) ∧ (fw_g W 13 (fw_g W 204 i)) < 14 ∧ -2147483648 ≤ v1 ∧ v1 ≤ 2147483647 ∧ (-2147483648 ≤ i + (-1 : Int) ∧ i + (-1 : Int) ≤ 2147483647 ∧ (jf fw_T (d + 1) 132 44 [(0, .inr (.inl 203)), (1, .inl (i + (-1 : Int)))] [] (fw_up (fw_put [220] 0 [] W f) 220 (fw_g W 13 (fw_g W 204 i)) v1) Post))))))))) :
    jf fw_T (d + 1) 132 44 [(0, .inr (.inl 203)), (1, .inl i)] [] (fw_put [220] 0 [] W f) Post := fw_ok (n := 25) (ss := [(2, [0, 1]), (44, [0, 1])]) (hv := [76]) fr_132_ok fv_waysp_ok (fw_c0 _ _) hw_

theorem s_k_sumBehindp_2 {Post : Option fw_V → fw_W → Prop} {d : Nat} {W : fw_W} {i : Int} {f : fw_W}
    (hw_ : (0 ≤ (fw_g W 12 0) → (fw_g W 12 0) ≤ 14 → (((fw_g W 12 0) ≤ i → (0 ≤ (fw_g W 12 0) → (fw_g W 12 0) ≤ 14 → -2147483648 ≤ (fw_g W 12 0) - (1 : Int) ∧ (fw_g W 12 0) - (1 : Int) ≤ 2147483647 ∧ (jf fw_T (d + 1) 132 44 [(0, .inr (.inl 203)), (1, .inl ((fw_g W 12 0) - (1 : Int)))] [] (fw_put [220] 0 [] W f) Post))) ∧ (i < (fw_g W 12 0) → 0 ≤ i ∧ i < 14 ∧ (0 ≤ (fw_g W 15 i) → (fw_g W 15 i) ≤ 99 → 0 ≤ i ∧ i < 14 ∧ -2147483648 ≤ (fw_g W 15 i) ∧ (fw_g W 15 i) ≤ 2147483647 ∧ (-2147483648 ≤ i + (1 : Int) ∧ i + (1 : Int) ≤ 2147483647 ∧ (jf fw_T (d + 1) 132 2 [(0, .inr (.inl 203)), (1, .inl (i + (1 : Int)))] [] (fw_up (fw_put [220] 0 [] W f) 220 i (fw_g W 15 i)) Post))))))) :
    jf fw_T (d + 1) 132 2 [(0, .inr (.inl 203)), (1, .inl i)] [] (fw_put [220] 0 [] W f) Post := fw_ok (n := 17) (ss := [(2, [0, 1]), (44, [0, 1])]) (hv := [76]) fr_132_ok fv_waysp_ok (fw_c0 _ _) hw_

theorem lm_k_sumBehindp_44 {Post : Option fw_V → fw_W → Prop} {d : Nat} {W : fw_W} (hpre : tr ((fw_g W 12 0)) (fun z_ => (fw_g W 13 z_)) ∧ 0 ≤ (fw_g W 12 0) ∧ (fw_g W 12 0) ≤ 14 ∧ (∀ j_, 1 ≤ j_ → j_ < (fw_g W 12 0) → 1 ≤ (fw_g W 204 j_) ∧ (fw_g W 204 j_) < (fw_g W 12 0))) (hP : ∀ (W2 : fw_W), fw_sm [220] 0 [] W W2 → (True) → Post none W2)  : ∀ (m : Nat) (i : Int) (f : fw_W), (i).toNat = m → i < (fw_g W 12 0) → jf fw_T (d + 1) 132 44 [(0, .inr (.inl 203)), (1, .inl i)] [] (fw_put [220] 0 [] W f) Post := by
  intro m
  induction m using Nat.strongRecOn with
  | ind m ih =>
    intro i f hm hi
    refine jf_rng (fun hrg => ?_)
    have hrg : -2147483648 ≤ i ∧ i ≤ 2147483647 ∧ True := hrg
    refine s_k_sumBehindp_44 ?_
    have ho : 1 ≤ i → 1 ≤ (fw_g W 204 i) ∧ (fw_g W 204 i) < (fw_g W 12 0) := fun z => hpre.2.2.2 i z hi
    have hp : 1 ≤ i → 0 ≤ (fw_g W 13 (fw_g W 204 i)) ∧ (fw_g W 13 (fw_g W 204 i)) < (fw_g W 12 0) := fun z => tr_p hpre.1 (ho z).1 (ho z).2
    repeat' (first
      | (exact True.intro)
      | (exact hpre.1)
      | (refine And.intro ?_ ?_)
      | (refine jf_put (S := [220]) (o := 0) (F := []) (W := W) (by repeat (first | exact fw_sm_refl | exact fw_sm_put0 | refine fw_sm_arr ?_ rfl | refine fw_sm_up ?_ rfl | refine fw_sm_put ?_ rfl | refine fw_sm_cp ?_ rfl)) (ih _ (by omega) _ _ rfl ?_); (first | omega | trivial | (simp (config := { decide := true }) only [fg_in, fg_fin, fg_out, fg_fout, fg_up, fg_same, true_and, and_true] <;> omega)))
      | (refine hP _ (by repeat (first | exact fw_sm_refl | exact fw_sm_put0 | refine fw_sm_arr ?_ rfl | refine fw_sm_up ?_ rfl | refine fw_sm_put ?_ rfl | refine fw_sm_cp ?_ rfl)) ?_; (first | trivial | omega))
      | omega
      | (intro _))
theorem lm_k_sumBehindp_2 {Post : Option fw_V → fw_W → Prop} {d : Nat} {W : fw_W} (hpre : tr ((fw_g W 12 0)) (fun z_ => (fw_g W 13 z_)) ∧ 0 ≤ (fw_g W 12 0) ∧ (fw_g W 12 0) ≤ 14 ∧ (∀ j_, 1 ≤ j_ → j_ < (fw_g W 12 0) → 1 ≤ (fw_g W 204 j_) ∧ (fw_g W 204 j_) < (fw_g W 12 0))) (hP : ∀ (W2 : fw_W), fw_sm [220] 0 [] W W2 → (True) → Post none W2)  : ∀ (m : Nat) (i : Int) (f : fw_W), ((fw_g W 12 0) - i).toNat = m → 0 ≤ i → jf fw_T (d + 1) 132 2 [(0, .inr (.inl 203)), (1, .inl i)] [] (fw_put [220] 0 [] W f) Post := by
  intro m
  induction m using Nat.strongRecOn with
  | ind m ih =>
    intro i f hm hi
    refine jf_rng (fun hrg => ?_)
    have hrg : -2147483648 ≤ i ∧ i ≤ 2147483647 ∧ True := hrg
    refine s_k_sumBehindp_2 ?_
    repeat' (first
      | (exact True.intro)
      | (exact hpre.1)
      | (refine And.intro ?_ ?_)
      | (refine jf_put (S := [220]) (o := 0) (F := []) (W := W) (by repeat (first | exact fw_sm_refl | exact fw_sm_put0 | refine fw_sm_arr ?_ rfl | refine fw_sm_up ?_ rfl | refine fw_sm_put ?_ rfl | refine fw_sm_cp ?_ rfl)) (ih _ (by omega) _ _ rfl ?_); (first | omega | trivial | (simp (config := { decide := true }) only [fg_in, fg_fin, fg_out, fg_fout, fg_up, fg_same, true_and, and_true] <;> omega)))
      | (refine jf_put (S := [220]) (o := 0) (F := []) (W := W) (by repeat (first | exact fw_sm_refl | exact fw_sm_put0 | refine fw_sm_arr ?_ rfl | refine fw_sm_up ?_ rfl | refine fw_sm_put ?_ rfl | refine fw_sm_cp ?_ rfl)) (lm_k_sumBehindp_44 hpre hP _ _ _ rfl ?_); (first | omega | trivial | (simp (config := { decide := true }) only [fg_in, fg_fin, fg_out, fg_fout, fg_up, fg_same, true_and, and_true] <;> omega)))
      | (refine hP _ (by repeat (first | exact fw_sm_refl | exact fw_sm_put0 | refine fw_sm_arr ?_ rfl | refine fw_sm_up ?_ rfl | refine fw_sm_put ?_ rfl | refine fw_sm_cp ?_ rfl)) ?_; (first | trivial | omega))
      | omega
      | (intro _))
def x_k_sumBehindp : fw_X := fun as W Q => match as with
  | [.inr (.inl s_)] => fw_if (Nat.beq s_ 203) ((tr ((fw_g W 12 0)) (fun z_ => (fw_g W 13 z_)) ∧ 0 ≤ (fw_g W 12 0) ∧ (fw_g W 12 0) ≤ 14 ∧ (∀ j_, 1 ≤ j_ → j_ < (fw_g W 12 0) → 1 ≤ (fw_g W 204 j_) ∧ (fw_g W 204 j_) < (fw_g W 12 0))) ∧ (∀ (f : fw_W), (True) → Q none (fw_put [220] 0 [] W f)))
  | _ => False
theorem x_k_sumBehindp_ok (d : Nat) (as : List fw_V) (W : fw_W) (Q : Option fw_V → fw_W → Prop) (hx : x_k_sumBehindp as W Q) : jf fw_T (d + 1) 132 0 (fw_args 0 as) [] W Q := by
  unfold x_k_sumBehindp at hx
  split at hx
  · rename_i s_
    obtain ⟨e_, hpre, hQ⟩ := fw_if_ok hx
    have e_ := Nat.eq_of_beq_eq_true e_
    subst e_
    have hP : ∀ (W2 : fw_W), fw_sm [220] 0 [] W W2 → _ → Q none W2 := fun W2 hs hr => fw_sm_use (Q := fun Z => Q none Z) hs (hQ W2 hr)
    refine s_k_sumBehindp_0 ?_
    repeat' (first
      | (exact True.intro)
      | (exact hpre.1)
      | (refine And.intro ?_ ?_)
      | (refine jf_put (S := [220]) (o := 0) (F := []) (W := W) (by repeat (first | exact fw_sm_refl | exact fw_sm_put0 | refine fw_sm_arr ?_ rfl | refine fw_sm_up ?_ rfl | refine fw_sm_put ?_ rfl | refine fw_sm_cp ?_ rfl)) (lm_k_sumBehindp_2 hpre hP _ _ _ rfl ?_); (first | omega | trivial | (simp (config := { decide := true }) only [fg_in, fg_fin, fg_out, fg_fout, fg_up, fg_same, true_and, and_true] <;> omega)))
      | (refine jf_put (S := [220]) (o := 0) (F := []) (W := W) (by repeat (first | exact fw_sm_refl | exact fw_sm_put0 | refine fw_sm_arr ?_ rfl | refine fw_sm_up ?_ rfl | refine fw_sm_put ?_ rfl | refine fw_sm_cp ?_ rfl)) (lm_k_sumBehindp_44 hpre hP _ _ _ rfl ?_); (first | omega | trivial | (simp (config := { decide := true }) only [fg_in, fg_fin, fg_out, fg_fout, fg_up, fg_same, true_and, and_true] <;> omega)))
      | (refine hP _ (by repeat (first | exact fw_sm_refl | exact fw_sm_put0 | refine fw_sm_arr ?_ rfl | refine fw_sm_up ?_ rfl | refine fw_sm_put ?_ rfl | refine fw_sm_cp ?_ rfl)) ?_; (first | trivial | omega))
      | omega
      | (intro _))
  · exact hx.elim

