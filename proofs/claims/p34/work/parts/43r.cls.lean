/-! the class, the laws tried, exactly -/
def fv_wayx : List (Nat × ai_C) := [(276, .inr (.inr (.inr (10, [.inr (.inl [277]), .inr (.inl [278]), .inl (-2147483648, 2147483647, true), .inl (-2147483648, 2147483647, true), .inl (-2147483648, 2147483647, true), .inr (.inl [272]), .inr (.inl [293]), .inr (.inl [294]), .inr (.inl [295])])))), (277, .inl (.int, 14, 0, 13, true)), (293, .inl (.int, 14, -2147483648, 2147483647, true)), (294, .inl (.int, 14, -2147483648, 2147483647, true)), (295, .inl (.int, 14, -2147483648, 2147483647, true)), (272, .inr (.inr (.inr (9, [.inl (0, 14, true), .inl (0, 999, true), .inr (.inl [273]), .inr (.inl [274]), .inr (.inl [275])])))), (273, .inl (.int, 14, -1, 13, true)), (274, .inl (.int, 14, 0, 99, true)), (275, .inl (.int, 14, 0, 99, true))]
def fg_wayx_G : fw_G := []
theorem fv_wayx_ok : fw_view fw_T fv_wayx fg_wayx_G := fw_vb_ok (by decide +kernel)
theorem s_k_sortX_0 {Post : Option fw_V → fw_W → Prop} {d : Nat} {W : fw_W}
    (hw_ : 0 ≤ (0 : Int) ∧ (0 : Int) < 14 ∧ 0 ≤ (0 : Int) ∧ (0 : Int) ≤ 13 ∧ (jf fw_T (d + 1) 121 11 [(0, .inr (.inl 276)), (1, .inl (1 : Int)), (2, .inl (0 : Int))] [] (fw_up W 277 (0 : Int) (0 : Int)) Post)) :
    jf fw_T (d + 1) 121 0 [(0, .inr (.inl 276))] [] W Post := fw_ok (n := 10) (ss := [(11, [0, 1, 2]), (29, [0, 1, 2, 3])]) (hv := []) fr_121_ok fv_wayx_ok (fw_c0 _ _) hw_

theorem s_k_sortX_29 {Post : Option fw_V → fw_W → Prop} {d : Nat} {W : fw_W} {fil i h : Int} {f : fw_W}
    (hw_ : (0 ≤ (fw_g W 272 0) → (fw_g W 272 0) ≤ 14 → (((fw_g W 272 0) ≤ h → -2147483648 ≤ i + (1 : Int) ∧ i + (1 : Int) ≤ 2147483647 ∧ (jf fw_T (d + 1) 121 11 [(0, .inr (.inl 276)), (1, .inl fil), (2, .inl (i + (1 : Int)))] [] (fw_put [277] 0 [] W f) Post)) ∧ (h < (fw_g W 272 0) → 0 ≤ h ∧ h < 14 ∧ (-1 ≤ (fw_g W 273 h) → (fw_g W 273 h) ≤ 13 → 0 ≤ i ∧ i < 14 ∧ (0 ≤ (fw_g f 277 i) → (fw_g f 277 i) ≤ 13 → ((¬ (fw_g W 273 h) = (fw_g f 277 i) → -2147483648 ≤ h + (1 : Int) ∧ h + (1 : Int) ≤ 2147483647 ∧ (jf fw_T (d + 1) 121 29 [(0, .inr (.inl 276)), (1, .inl fil), (2, .inl i), (3, .inl (h + (1 : Int)))] [] (fw_put [277] 0 [] W f) Post)) ∧ ((fw_g W 273 h) = (fw_g f 277 i) → (((14 : Int) ≤ fil → -2147483648 ≤ h + (1 : Int) ∧ h + (1 : Int) ≤ 2147483647 ∧ (jf fw_T (d + 1) 121 29 [(0, .inr (.inl 276)), (1, .inl fil), (2, .inl i), (3, .inl (h + (1 : Int)))] [] (fw_put [277] 0 [] W f) Post)) ∧ (fil < (14 : Int) → 0 ≤ fil ∧ fil < 14 ∧ 0 ≤ h ∧ h ≤ 13 ∧ (-2147483648 ≤ fil + (1 : Int) ∧ fil + (1 : Int) ≤ 2147483647 ∧ (-2147483648 ≤ h + (1 : Int) ∧ h + (1 : Int) ≤ 2147483647 ∧ (jf fw_T (d + 1) 121 29 [(0, .inr (.inl 276)), (1, .inl (fil + (1 : Int))), (2, .inl i), (3, .inl (h + (1 : Int)))] [] (fw_up (fw_put [277] 0 [] W f) 277 fil h) Post))))))))))))) :
    jf fw_T (d + 1) 121 29 [(0, .inr (.inl 276)), (1, .inl fil), (2, .inl i), (3, .inl h)] [] (fw_put [277] 0 [] W f) Post := fw_ok (n := 27) (ss := [(11, [0, 1, 2]), (29, [0, 1, 2, 3])]) (hv := []) fr_121_ok fv_wayx_ok (fw_c0 _ _) hw_

theorem s_k_sortX_11 {Post : Option fw_V → fw_W → Prop} {d : Nat} {W : fw_W} {fil i : Int} {f : fw_W}
    (hw_ : (0 ≤ (fw_g W 272 0) → (fw_g W 272 0) ≤ 14 → (((fw_g W 272 0) ≤ i → Post none (fw_put [277] 0 [] W f)) ∧ (i < (fw_g W 272 0) → ((fil ≤ i → Post none (fw_put [277] 0 [] W f)) ∧ (i < fil → jf fw_T (d + 1) 121 29 [(0, .inr (.inl 276)), (1, .inl fil), (2, .inl i), (3, .inl (1 : Int))] [] (fw_put [277] 0 [] W f) Post)))))) :
    jf fw_T (d + 1) 121 11 [(0, .inr (.inl 276)), (1, .inl fil), (2, .inl i)] [] (fw_put [277] 0 [] W f) Post := fw_ok (n := 11) (ss := [(11, [0, 1, 2]), (29, [0, 1, 2, 3])]) (hv := []) fr_121_ok fv_wayx_ok (fw_c0 _ _) hw_

theorem lm_k_sortX_29 {Post : Option fw_V → fw_W → Prop} {d : Nat} {W : fw_W} (q : List Nat) (hgh : (qok ((fw_g W 272 0)).toNat q = true ∧ qk2 ((fw_g W 272 0)).toNat q = true) ∧ 2 ≤ (fw_g W 272 0) ∧ (fw_g W 272 0) ≤ 6 ∧ (∀ x_, 1 ≤ x_ → x_ < (fw_g W 272 0) → (fw_g W 273 x_) = ((qp q x_.toNat : Nat) : Int))) (hpre : True) (hP : ∀ (W2 : fw_W), fw_sm [277] 0 [] W W2 → ((∀ j_, 0 ≤ j_ → j_ < (fw_g W 272 0) → (fw_g W2 277 j_) = zo q ((fw_g W 272 0)) j_)) → Post none W2) (M11 : Int) (h11 : ∀ (fil i : Int) (f : fw_W), ((0 ≤ i ∧ i ≤ (fw_g W 272 0) ∧ fil ≤ 6) ∧ fil = zbl q ((fw_g W 272 0)) i ∧ (∀ j_, 0 ≤ j_ → j_ < fil → (fw_g f 277 j_) = zbo q ((fw_g W 272 0)) i j_)) → ((fw_g W 272 0) - i) < M11 → jf fw_T (d + 1) 121 11 [(0, .inr (.inl 276)), (1, .inl fil), (2, .inl i)] [] (fw_put [277] 0 [] W f) Post) : ∀ (m : Nat) (fil i h : Int) (f : fw_W), ((fw_g W 272 0) - h).toNat = m → ((1 ≤ h ∧ h ≤ (fw_g W 272 0) ∧ 0 ≤ i ∧ i < (fw_g W 272 0) ∧ i < fil ∧ fil ≤ 6) ∧ fil = zbk q ((fw_g W 272 0)) i h ∧ (∀ j_, 0 ≤ j_ → j_ < fil → (fw_g f 277 j_) = zbi q ((fw_g W 272 0)) i h j_)) → ((fw_g W 272 0) - i) ≤ M11 → jf fw_T (d + 1) 121 29 [(0, .inr (.inl 276)), (1, .inl fil), (2, .inl i), (3, .inl h)] [] (fw_put [277] 0 [] W f) Post := by
  intro m
  induction m using Nat.strongRecOn with
  | ind m ih =>
    intro fil i h f hm hi e11
    refine jf_rng (fun hrg => ?_)
    have hrg : -2147483648 ≤ fil ∧ fil ≤ 2147483647 ∧ -2147483648 ≤ i ∧ i ≤ 2147483647 ∧ -2147483648 ≤ h ∧ h ≤ 2147483647 ∧ True := hrg
    refine s_k_sortX_29 ?_
    have hi1 := hi.1
    have hi2 := hi.2.1
    have qk := fun z : h < (fw_g W 272 0) => (qk_1 hgh.1.2 (i := i) (by omega) (by omega)).2 (h + 1) (by omega) (by omega)
    have oi := hi.2.2 i (by omega) (by omega)
    have hp := fun z : h < (fw_g W 272 0) => hgh.2.2.2 h (by omega) z
    repeat' (first
      | (exact True.intro)
      | (exact hpre.1)
      | (refine And.intro ?_ ?_)
      | (refine (h11 _ _ _ ?_ (by omega)); (
        have o := zb_out q ((fw_g W 272 0)) (i := i) (by omega)
        have hh : h = (fw_g W 272 0) := by omega
        subst hh
        exact ⟨by omega, hi.2.1.trans o.1.symm, fun j j0 j1 => (hi.2.2 j j0 j1).trans (o.2 j).symm⟩))
      | (refine jf_put (S := [277]) (o := 0) (F := []) (W := W) (by repeat (first | exact fw_sm_refl | exact fw_sm_put0 | refine fw_sm_arr ?_ rfl | refine fw_sm_up ?_ rfl | refine fw_sm_put ?_ rfl | refine fw_sm_cp ?_ rfl | refine fw_sm_upr ?_ rfl)) (h11 _ _ _ ?_ (by omega)); (
        have o := zb_out q ((fw_g W 272 0)) (i := i) (by omega)
        have hh : h = (fw_g W 272 0) := by omega
        subst hh
        exact ⟨by omega, hi.2.1.trans o.1.symm, fun j j0 j1 => (hi.2.2 j j0 j1).trans (o.2 j).symm⟩))
      | (refine (ih _ (by omega) _ _ _ _ rfl ?_ (by omega)); (
        have hp1 := hp (by omega)
        have qk1 := qk (by omega)
        first
          | (have st := zb_f (q := q) (n := (fw_g W 272 0)) (i := i) (h := h) (by omega) (by omega)
             exact ⟨by omega, by omega, fun j j0 j1 => (hi.2.2 j j0 j1).trans (st.2 j).symm⟩)
          | (have st := zb_t (q := q) (n := (fw_g W 272 0)) (i := i) (h := h) (by omega) (by omega)
             refine ⟨by omega, by omega, fun j j0 j1 => ?_⟩
             rw [st.2 j j0, fg_if (by omega) (by omega) (by omega) (by omega), ← hi2]
             by_cases e : fil = j
             · rw [if_pos e, if_pos e]
             · rw [if_neg e, if_neg e]; exact hi.2.2 j j0 (by omega))
          | (exfalso; omega)))
      | (refine jf_put (S := [277]) (o := 0) (F := []) (W := W) (by repeat (first | exact fw_sm_refl | exact fw_sm_put0 | refine fw_sm_arr ?_ rfl | refine fw_sm_up ?_ rfl | refine fw_sm_put ?_ rfl | refine fw_sm_cp ?_ rfl | refine fw_sm_upr ?_ rfl)) (ih _ (by omega) _ _ _ _ rfl ?_ (by omega)); (
        have hp1 := hp (by omega)
        have qk1 := qk (by omega)
        first
          | (have st := zb_f (q := q) (n := (fw_g W 272 0)) (i := i) (h := h) (by omega) (by omega)
             exact ⟨by omega, by omega, fun j j0 j1 => (hi.2.2 j j0 j1).trans (st.2 j).symm⟩)
          | (have st := zb_t (q := q) (n := (fw_g W 272 0)) (i := i) (h := h) (by omega) (by omega)
             refine ⟨by omega, by omega, fun j j0 j1 => ?_⟩
             rw [st.2 j j0, fg_if (by omega) (by omega) (by omega) (by omega), ← hi2]
             by_cases e : fil = j
             · rw [if_pos e, if_pos e]
             · rw [if_neg e, if_neg e]; exact hi.2.2 j j0 (by omega))
          | (exfalso; omega)))
      | (refine hP _ (by repeat (first | exact fw_sm_refl | exact fw_sm_put0 | refine fw_sm_arr ?_ rfl | refine fw_sm_up ?_ rfl | refine fw_sm_put ?_ rfl | refine fw_sm_cp ?_ rfl | refine fw_sm_upr ?_ rfl)) ?_; (
        have hN : i = (fw_g W 272 0) := by
          apply Classical.byContradiction
          intro z
          have := (qk_1 hgh.1.2 (i := i) (by omega) (by omega)).1
          omega
        have hl := zo_l (by omega) hgh.1.2
        subst hN
        exact fun j j0 j1 => hi.2.2 j j0 (by omega)))
      | omega
      | (intro _))
theorem lm_k_sortX_11 {Post : Option fw_V → fw_W → Prop} {d : Nat} {W : fw_W} (q : List Nat) (hgh : (qok ((fw_g W 272 0)).toNat q = true ∧ qk2 ((fw_g W 272 0)).toNat q = true) ∧ 2 ≤ (fw_g W 272 0) ∧ (fw_g W 272 0) ≤ 6 ∧ (∀ x_, 1 ≤ x_ → x_ < (fw_g W 272 0) → (fw_g W 273 x_) = ((qp q x_.toNat : Nat) : Int))) (hpre : True) (hP : ∀ (W2 : fw_W), fw_sm [277] 0 [] W W2 → ((∀ j_, 0 ≤ j_ → j_ < (fw_g W 272 0) → (fw_g W2 277 j_) = zo q ((fw_g W 272 0)) j_)) → Post none W2)  : ∀ (m : Nat) (fil i : Int) (f : fw_W), ((fw_g W 272 0) - i).toNat = m → ((0 ≤ i ∧ i ≤ (fw_g W 272 0) ∧ fil ≤ 6) ∧ fil = zbl q ((fw_g W 272 0)) i ∧ (∀ j_, 0 ≤ j_ → j_ < fil → (fw_g f 277 j_) = zbo q ((fw_g W 272 0)) i j_)) → jf fw_T (d + 1) 121 11 [(0, .inr (.inl 276)), (1, .inl fil), (2, .inl i)] [] (fw_put [277] 0 [] W f) Post := by
  intro m
  induction m using Nat.strongRecOn with
  | ind m ih =>
    intro fil i f hm hi
    refine jf_rng (fun hrg => ?_)
    have hrg : -2147483648 ≤ fil ∧ fil ≤ 2147483647 ∧ -2147483648 ≤ i ∧ i ≤ 2147483647 ∧ True := hrg
    refine s_k_sortX_11 ?_
    have hi1 := hi.1
    have hi2 := hi.2.1
    repeat' (first
      | (exact True.intro)
      | (exact hpre.1)
      | (refine And.intro ?_ ?_)
      | (refine (ih _ (by omega) _ _ _ rfl ?_); (first | omega | trivial | (simp (config := { decide := true }) only [fg_in, fg_fin, fg_out, fg_fout, fg_up, fg_same, true_and, and_true] <;> omega)))
      | (refine jf_put (S := [277]) (o := 0) (F := []) (W := W) (by repeat (first | exact fw_sm_refl | exact fw_sm_put0 | refine fw_sm_arr ?_ rfl | refine fw_sm_up ?_ rfl | refine fw_sm_put ?_ rfl | refine fw_sm_cp ?_ rfl | refine fw_sm_upr ?_ rfl)) (ih _ (by omega) _ _ _ rfl ?_); (first | omega | trivial | (simp (config := { decide := true }) only [fg_in, fg_fin, fg_out, fg_fout, fg_up, fg_same, true_and, and_true] <;> omega)))
      | (refine (lm_k_sortX_29 q hgh hpre hP ((fw_g W 272 0) - i) (fun a0 a1 af hi hl => ih _ (by omega) a0 a1 af rfl hi) _ _ _ _ _ rfl ?_ (by omega)); (
        have o := zb_in q ((fw_g W 272 0)) i
        exact ⟨by omega, hi.2.1.trans o.1.symm, fun j j0 j1 => (hi.2.2 j j0 j1).trans (o.2 j).symm⟩))
      | (refine jf_put (S := [277]) (o := 0) (F := []) (W := W) (by repeat (first | exact fw_sm_refl | exact fw_sm_put0 | refine fw_sm_arr ?_ rfl | refine fw_sm_up ?_ rfl | refine fw_sm_put ?_ rfl | refine fw_sm_cp ?_ rfl | refine fw_sm_upr ?_ rfl)) (lm_k_sortX_29 q hgh hpre hP ((fw_g W 272 0) - i) (fun a0 a1 af hi hl => ih _ (by omega) a0 a1 af rfl hi) _ _ _ _ _ rfl ?_ (by omega)); (
        have o := zb_in q ((fw_g W 272 0)) i
        exact ⟨by omega, hi.2.1.trans o.1.symm, fun j j0 j1 => (hi.2.2 j j0 j1).trans (o.2 j).symm⟩))
      | (refine hP _ (by repeat (first | exact fw_sm_refl | exact fw_sm_put0 | refine fw_sm_arr ?_ rfl | refine fw_sm_up ?_ rfl | refine fw_sm_put ?_ rfl | refine fw_sm_cp ?_ rfl | refine fw_sm_upr ?_ rfl)) ?_; (
        have hN : i = (fw_g W 272 0) := by
          apply Classical.byContradiction
          intro z
          have := (qk_1 hgh.1.2 (i := i) (by omega) (by omega)).1
          omega
        have hl := zo_l (by omega) hgh.1.2
        subst hN
        exact fun j j0 j1 => hi.2.2 j j0 (by omega)))
      | omega
      | (intro _))
def x_k_sortX : fw_X := fun as W Q => match as with
  | [.inr (.inl s_)] => fw_if (Nat.beq s_ 276) (∃ (q : List Nat), ((qok ((fw_g W 272 0)).toNat q = true ∧ qk2 ((fw_g W 272 0)).toNat q = true) ∧ 2 ≤ (fw_g W 272 0) ∧ (fw_g W 272 0) ≤ 6 ∧ (∀ x_, 1 ≤ x_ → x_ < (fw_g W 272 0) → (fw_g W 273 x_) = ((qp q x_.toNat : Nat) : Int))) ∧ (True) ∧ (∀ (f : fw_W), ((∀ j_, 0 ≤ j_ → j_ < (fw_g W 272 0) → (fw_g f 277 j_) = zo q ((fw_g W 272 0)) j_)) → Q none (fw_put [277] 0 [] W f)))
  | _ => False
theorem x_k_sortX_ok (d : Nat) (as : List fw_V) (W : fw_W) (Q : Option fw_V → fw_W → Prop) (hx : x_k_sortX as W Q) : jf fw_T (d + 1) 121 0 (fw_args 0 as) [] W Q := by
  unfold x_k_sortX at hx
  split at hx
  · rename_i s_
    obtain ⟨e_, q, hgh, hpre, hQ⟩ := fw_if_ok hx
    have e_ := Nat.eq_of_beq_eq_true e_
    subst e_
    have hP : ∀ (W2 : fw_W), fw_sm [277] 0 [] W W2 → _ → Q none W2 := fun W2 hs hr => fw_sm_use (Q := fun Z => Q none Z) hs (hQ W2 hr)
    refine s_k_sortX_0 ?_
    repeat' (first
      | (exact True.intro)
      | (exact hpre.1)
      | (refine And.intro ?_ ?_)
      | (refine jf_put (S := [277]) (o := 0) (F := []) (W := W) (by repeat (first | exact fw_sm_refl | exact fw_sm_put0 | refine fw_sm_arr ?_ rfl | refine fw_sm_up ?_ rfl | refine fw_sm_put ?_ rfl | refine fw_sm_cp ?_ rfl | refine fw_sm_upr ?_ rfl)) (lm_k_sortX_11 q hgh hpre hP _ _ _ _ rfl ?_); (
        refine ⟨by omega, (zb_0 q ((fw_g W 272 0))).1.symm, fun j j0 j1 => ?_⟩
        have e : j = 0 := by omega
        subst e
        exact (fg_same (by omega) (by omega)).trans (zb_0 q ((fw_g W 272 0))).2.symm))
      | (refine jf_put (S := [277]) (o := 0) (F := []) (W := W) (by repeat (first | exact fw_sm_refl | exact fw_sm_put0 | refine fw_sm_arr ?_ rfl | refine fw_sm_up ?_ rfl | refine fw_sm_put ?_ rfl | refine fw_sm_cp ?_ rfl | refine fw_sm_upr ?_ rfl)) (lm_k_sortX_29 q hgh hpre hP M11 h11 _ _ _ _ _ rfl ?_ (by omega)); (first | omega | trivial | (simp (config := { decide := true }) only [fg_in, fg_fin, fg_out, fg_fout, fg_up, fg_same, true_and, and_true] <;> omega)))
      | (refine hP _ (by repeat (first | exact fw_sm_refl | exact fw_sm_put0 | refine fw_sm_arr ?_ rfl | refine fw_sm_up ?_ rfl | refine fw_sm_put ?_ rfl | refine fw_sm_cp ?_ rfl | refine fw_sm_upr ?_ rfl)) ?_; (
        have hN : i = (fw_g W 272 0) := by
          apply Classical.byContradiction
          intro z
          have := (qk_1 hgh.1.2 (i := i) (by omega) (by omega)).1
          omega
        have hl := zo_l (by omega) hgh.1.2
        subst hN
        exact fun j j0 j1 => hi.2.2 j j0 (by omega)))
      | omega
      | (intro _))
  · exact hx.elim

