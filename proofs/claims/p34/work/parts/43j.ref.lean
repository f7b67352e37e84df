/-! the reference, method by method -/
def ct_wardensBy4 : List (Nat × fw_X) := [(251, x_bitsOf2), (252, x_isFirst), (249, x_layNear2), (188, x_many), (250, x_sets)]
theorem ct_wardensBy4_ok (d : Nat) : fw_cok fw_T (d + 5) ct_wardensBy4 := by
  intro q hq as W Q h
  simp only [ct_wardensBy4, List.mem_cons, List.not_mem_nil, or_false] at hq
  rcases hq with rfl | rfl | rfl | rfl | rfl
  · exact jc_of (x_bitsOf2_ok (d + 4) as W Q h)
  · exact jc_of (x_isFirst_ok (d + 4) as W Q h)
  · exact jc_of (x_layNear2_ok (d + 0) as W Q h)
  · exact jc_of (x_many_ok (d + 4) as W Q h)
  · exact jc_of (x_sets_ok (d + 3) as W Q h)
theorem s_wardensBy4_0 {Post : Option fw_V → fw_W → Prop} {d : Nat} {W : fw_W} {d_ : Int}
    (hw_ : ∃ (δ_1 : Int → Int), ∃ (D_2 : Int → Int → Int), (tr_dep ((fw_g W 366 0)) (fun z_ => (fw_g W 366 (2 + 3 * z_))) δ_1 ∧ tr_met ((fw_g W 366 0)) (fun z_ => (fw_g W 366 (2 + 3 * z_))) (fun z_ => (fw_g W 366 (3 + 3 * z_))) δ_1 D_2) ∧ (mt W ∧ 0 ≤ (fw_g W 366 0) ∧ (fw_g W 366 0) ≤ 14) ∧ (∀ (f3 : fw_W), (((∀ u t, 0 ≤ u → u < (fw_g W 366 0) → 0 ≤ t → t < (fw_g W 366 0) → (fw_g f3 367 (14 * u + t)) = D_2 u t) ∧ (∀ x q, 0 ≤ x → x < (fw_g W 366 0) → 0 ≤ q → q < (fw_g W 366 0) → (0 ≤ (fw_g f3 370 x) ∧ (fw_g f3 370 x) < 16384 ∧ ((fw_g f3 370 x).toNat.testBit q.toNat = true ↔ D_2 x q ≤ d_))))) → (True) ∧ (-2147483648 ≤ (fw_shl 1 (fw_g W 366 0)) - (1 : Int) ∧ (fw_shl 1 (fw_g W 366 0)) - (1 : Int) ≤ 2147483647 ∧ (jf fw_T (d + 6) 248 14 [(0, .inr (.inl 352)), (2, .inl ((fw_shl 1 (fw_g W 366 0)) - (1 : Int))), (3, .inl (0 : Int))] [] (fw_put [367, 370] 352 [] W f3) Post)))) :
    jf fw_T (d + 6) 248 0 [(0, .inr (.inl 352)), (1, .inl d_)] [] W Post := fw_ok (n := 11) (ss := [(14, [0, 2, 3]), (61, [0, 2, 3, 4, 5])]) (hv := []) fr_248_ok fm_ok (ct_wardensBy4_ok d) hw_

theorem s_wardensBy4_61 {Post : Option fw_V → fw_W → Prop} {d : Nat} {W : fw_W} {best set is h : Int} {f : fw_W}
    (hw_ : (True) ∧ ((((fw_g W 366 0) ≤ h → ((is = 0 → -2147483648 ≤ set + (1 : Int) ∧ set + (1 : Int) ≤ 2147483647 ∧ (jf fw_T (d + 6) 248 14 [(0, .inr (.inl 352)), (2, .inl best), (3, .inl (set + (1 : Int)))] [] (fw_put [367, 370] 352 [] W f) Post)) ∧ (¬ is = 0 → -2147483648 ≤ set + (1 : Int) ∧ set + (1 : Int) ≤ 2147483647 ∧ (jf fw_T (d + 6) 248 14 [(0, .inr (.inl 352)), (2, .inl set), (3, .inl (set + (1 : Int)))] [] (fw_put [367, 370] 352 [] W f) Post)))) ∧ (h < (fw_g W 366 0) → ((is = 0 → ((is = 0 → -2147483648 ≤ set + (1 : Int) ∧ set + (1 : Int) ≤ 2147483647 ∧ (jf fw_T (d + 6) 248 14 [(0, .inr (.inl 352)), (2, .inl best), (3, .inl (set + (1 : Int)))] [] (fw_put [367, 370] 352 [] W f) Post)) ∧ (¬ is = 0 → -2147483648 ≤ set + (1 : Int) ∧ set + (1 : Int) ≤ 2147483647 ∧ (jf fw_T (d + 6) 248 14 [(0, .inr (.inl 352)), (2, .inl set), (3, .inl (set + (1 : Int)))] [] (fw_put [367, 370] 352 [] W f) Post)))) ∧ (¬ is = 0 → 0 ≤ h ∧ h < 14 ∧ (-2147483648 ≤ (fw_g f 370 h) → (fw_g f 370 h) ≤ 2147483647 → (-2147483648 ≤ (fw_and (fw_g f 370 h) set) → (fw_and (fw_g f 370 h) set) ≤ 2147483647 → (((fw_and (fw_g f 370 h) set) = 0 → -2147483648 ≤ h + (1 : Int) ∧ h + (1 : Int) ≤ 2147483647 ∧ (jf fw_T (d + 6) 248 61 [(0, .inr (.inl 352)), (2, .inl best), (3, .inl set), (4, .inl (0 : Int)), (5, .inl (h + (1 : Int)))] [] (fw_put [367, 370] 352 [] W f) Post)) ∧ (¬ (fw_and (fw_g f 370 h) set) = 0 → -2147483648 ≤ h + (1 : Int) ∧ h + (1 : Int) ≤ 2147483647 ∧ (jf fw_T (d + 6) 248 61 [(0, .inr (.inl 352)), (2, .inl best), (3, .inl set), (4, .inl (1 : Int)), (5, .inl (h + (1 : Int)))] [] (fw_put [367, 370] 352 [] W f) Post))))))))))) :
    jf fw_T (d + 6) 248 61 [(0, .inr (.inl 352)), (2, .inl best), (3, .inl set), (4, .inl is), (5, .inl h)] [] (fw_put [367, 370] 352 [] W f) Post := fw_ok (n := 19) (ss := [(14, [0, 2, 3]), (61, [0, 2, 3, 4, 5])]) (hv := []) fr_248_ok fm_ok (ct_wardensBy4_ok d) hw_

theorem s_wardensBy4_14 {Post : Option fw_V → fw_W → Prop} {d : Nat} {W : fw_W} {best set : Int} {f : fw_W}
    (hw_ : (True) ∧ ((((fw_shl 1 (fw_g W 366 0)) ≤ set → (-2147483648 ≤ best → best ≤ 2147483647 → Post (some (.inl best)) (fw_put [367, 370] 352 [] W f))) ∧ (set < (fw_shl 1 (fw_g W 366 0)) → (0 ≤ set ∧ set ≤ 2147483647) ∧ (∀ (r1 : Int), ((-2147483648 ≤ r1 ∧ r1 ≤ 2147483647 ∧ (r1 = pcv set))) → (0 ≤ best ∧ best ≤ 2147483647) ∧ (∀ (r2 : Int), ((-2147483648 ≤ r2 ∧ r2 ≤ 2147483647 ∧ (r2 = pcv best))) → ((r2 < r1 → -2147483648 ≤ set + (1 : Int) ∧ set + (1 : Int) ≤ 2147483647 ∧ (jf fw_T (d + 6) 248 14 [(0, .inr (.inl 352)), (2, .inl best), (3, .inl (set + (1 : Int)))] [] (fw_put [367, 370] 352 [] W f) Post)) ∧ (r1 ≤ r2 → (0 ≤ set ∧ set ≤ 2147483647) ∧ (∀ (r3 : Int), ((-2147483648 ≤ r3 ∧ r3 ≤ 2147483647 ∧ (r3 = pcv set))) → (0 ≤ best ∧ best ≤ 2147483647) ∧ (∀ (r4 : Int), ((-2147483648 ≤ r4 ∧ r4 ≤ 2147483647 ∧ (r4 = pcv best))) → ((¬ r3 = r4 → jf fw_T (d + 6) 248 61 [(0, .inr (.inl 352)), (2, .inl best), (3, .inl set), (4, .inl (1 : Int)), (5, .inl (0 : Int))] [] (fw_put [367, 370] 352 [] W f) Post) ∧ (r3 = r4 → (True) ∧ (∀ (r5 : Int), ((0 ≤ r5 ∧ r5 ≤ 1 ∧ (True))) → ((¬ r5 = 0 → jf fw_T (d + 6) 248 61 [(0, .inr (.inl 352)), (2, .inl best), (3, .inl set), (4, .inl (1 : Int)), (5, .inl (0 : Int))] [] (fw_put [367, 370] 352 [] W f) Post) ∧ (r5 = 0 → -2147483648 ≤ set + (1 : Int) ∧ set + (1 : Int) ≤ 2147483647 ∧ (jf fw_T (d + 6) 248 14 [(0, .inr (.inl 352)), (2, .inl best), (3, .inl (set + (1 : Int)))] [] (fw_put [367, 370] 352 [] W f) Post)))))))))))))))) :
    jf fw_T (d + 6) 248 14 [(0, .inr (.inl 352)), (2, .inl best), (3, .inl set)] [] (fw_put [367, 370] 352 [] W f) Post := fw_ok (n := 23) (ss := [(14, [0, 2, 3]), (61, [0, 2, 3, 4, 5])]) (hv := []) fr_248_ok fm_ok (ct_wardensBy4_ok d) hw_

theorem lm_wardensBy4_61 {Post : Option fw_V → fw_W → Prop} {d : Nat} {W : fw_W} {d_ : Int} (q : List Nat) (u : Nat) (hgh : qok ((fw_g W 366 0)).toNat q = true ∧ 2 ≤ (fw_g W 366 0) ∧ (fw_g W 366 0) ≤ 6 ∧ (∀ x_, 1 ≤ x_ → x_ < (fw_g W 366 0) → (fw_g W 366 (2 + 3 * x_)) = ((qp q x_.toNat : Nat) : Int)) ∧ q2 ((fw_g W 366 0)).toNat u q = true) (hpre : mt W ∧ 0 ≤ (fw_g W 366 0) ∧ (fw_g W 366 0) ≤ 14 ∧ d_ = 1 ∧ (∀ x_, 1 ≤ x_ → x_ < (fw_g W 366 0) → (fw_g W 366 (3 + 3 * x_)) = 1)) (hP : ∀ (v : Int) (W2 : fw_W), fw_sm [367, 370] 352 [] W W2 → (-2147483648 ≤ v ∧ v ≤ 2147483647 ∧ (0 ≤ v ∧ v < 16384 ∧ pcv v = (u : Int))) → Post (some (.inl v)) W2) (M14 : Int) (h14 : ∀ (best set : Int) (f : fw_W), (0 ≤ set ∧ set ≤ fw_shl 1 ((fw_g W 366 0)) ∧ (∀ x_, 0 ≤ x_ → x_ < (fw_g W 366 0) → znr q ((fw_g W 366 0)) x_ ((fw_g f 370 x_))) ∧ (0 ≤ best ∧ best < fw_shl 1 ((fw_g W 366 0))) ∧ zdm ((fw_g W 366 0)) (fun z_ => (fw_g f 370 z_)) (best) ∧ (∀ s_, 0 ≤ s_ → s_ < set → zdm ((fw_g W 366 0)) (fun z_ => (fw_g f 370 z_)) (s_) → pcv best ≤ pcv s_)) → (fw_shl 1 ((fw_g W 366 0)) - set) < M14 → jf fw_T (d + 6) 248 14 [(0, .inr (.inl 352)), (2, .inl best), (3, .inl set)] [] (fw_put [367, 370] 352 [] W f) Post) : ∀ (m : Nat) (best set is h : Int) (f : fw_W), ((fw_g W 366 0) - h).toNat = m → (0 ≤ h ∧ h ≤ (fw_g W 366 0) ∧ (∀ x_, 0 ≤ x_ → x_ < (fw_g W 366 0) → znr q ((fw_g W 366 0)) x_ ((fw_g f 370 x_))) ∧ (0 ≤ best ∧ best < fw_shl 1 ((fw_g W 366 0))) ∧ zdm ((fw_g W 366 0)) (fun z_ => (fw_g f 370 z_)) (best) ∧ (0 ≤ set ∧ set < fw_shl 1 ((fw_g W 366 0))) ∧ (∀ s_, 0 ≤ s_ → s_ < set → zdm ((fw_g W 366 0)) (fun z_ => (fw_g f 370 z_)) (s_) → pcv best ≤ pcv s_) ∧ pcv set ≤ pcv best ∧ ((is = 1 ∧ ∀ j_, 0 ≤ j_ → j_ < h → ¬ fw_and ((fw_g f 370 j_)) set = 0) ∨ (is = 0 ∧ ∃ j_, 0 ≤ j_ ∧ j_ < (fw_g W 366 0) ∧ fw_and ((fw_g f 370 j_)) set = 0))) → (fw_shl 1 ((fw_g W 366 0)) - set) ≤ M14 → jf fw_T (d + 6) 248 61 [(0, .inr (.inl 352)), (2, .inl best), (3, .inl set), (4, .inl is), (5, .inl h)] [] (fw_put [367, 370] 352 [] W f) Post := by
  intro m
  induction m using Nat.strongRecOn with
  | ind m ih =>
    intro best set is h f hm hi e14
    refine jf_rng (fun hrg => ?_)
    have hrg : -2147483648 ≤ best ∧ best ≤ 2147483647 ∧ -2147483648 ≤ set ∧ set ≤ 2147483647 ∧ -2147483648 ≤ is ∧ is ≤ 2147483647 ∧ -2147483648 ≤ h ∧ h ≤ 2147483647 ∧ True := hrg
    refine s_wardensBy4_61 ?_
    have s1 := fw_shl1 hpre.2.1 hpre.2.2.1
    have hi1 := hi.1
    have hi2 := hi.2.1
    have hi4 := hi.2.2.2.1
    have hi6 := hi.2.2.2.2.2.1
    have hi8 := hi.2.2.2.2.2.2.2.1
    repeat' (first
      | (exact True.intro)
      | (exact hpre.1)
      | (refine And.intro ?_ ?_)
      | (refine (h14 _ _ _ ?_ (by omega)); (
        obtain ⟨i1, i2, i3, i4, i5, i6, i7, i8, i9⟩ := hi
        first
          | (refine ⟨by omega, by omega, i3, by omega, ?_, fun s s0 s1 hs => ?_⟩
             · rcases i9 with ⟨e1, e2⟩ | ⟨e1, e2⟩
               · exact fun x x1 x2 => e2 x x1 (by omega)
               · omega
             · by_cases e : s = set
               · subst e; exact Int.le_refl _
               · have := i7 s s0 (by omega) hs
                 omega)
          | (refine ⟨by omega, by omega, i3, by omega, i5, fun s s0 s1 hs => ?_⟩
             by_cases e : s = set
             · subst e
               rcases i9 with ⟨e1, e2⟩ | ⟨e1, j, j0, j1, j2⟩
               · omega
               · exact absurd j2 (hs j j0 j1)
             · exact i7 s s0 (by omega) hs)))
      | (refine jf_put (S := [367, 370]) (o := 352) (F := []) (W := W) (by repeat (first | exact fw_sm_refl | exact fw_sm_put0 | refine fw_sm_arr ?_ rfl | refine fw_sm_up ?_ rfl | refine fw_sm_put ?_ rfl | refine fw_sm_cp ?_ rfl)) (h14 _ _ _ ?_ (by omega)); (
        obtain ⟨i1, i2, i3, i4, i5, i6, i7, i8, i9⟩ := hi
        first
          | (refine ⟨by omega, by omega, i3, by omega, ?_, fun s s0 s1 hs => ?_⟩
             · rcases i9 with ⟨e1, e2⟩ | ⟨e1, e2⟩
               · exact fun x x1 x2 => e2 x x1 (by omega)
               · omega
             · by_cases e : s = set
               · subst e; exact Int.le_refl _
               · have := i7 s s0 (by omega) hs
                 omega)
          | (refine ⟨by omega, by omega, i3, by omega, i5, fun s s0 s1 hs => ?_⟩
             by_cases e : s = set
             · subst e
               rcases i9 with ⟨e1, e2⟩ | ⟨e1, j, j0, j1, j2⟩
               · omega
               · exact absurd j2 (hs j j0 j1)
             · exact i7 s s0 (by omega) hs)))
      | (refine (ih _ (by omega) _ _ _ _ _ rfl ?_ (by omega)); (
        obtain ⟨i1, i2, i3, i4, i5, i6, i7, i8, i9⟩ := hi
        refine ⟨by omega, by omega, i3, by omega, i5, by omega, i7, by omega, ?_⟩
        rcases i9 with ⟨e1, e2⟩ | ⟨e1, e2⟩
        · first
            | (refine Or.inl ⟨rfl, fun j j0 j1 => ?_⟩
               by_cases e : j = h
               · subst e; assumption
               · exact e2 j j0 (by omega))
            | exact Or.inr ⟨rfl, h, by omega, by omega, by assumption⟩
        · omega))
      | (refine jf_put (S := [367, 370]) (o := 352) (F := []) (W := W) (by repeat (first | exact fw_sm_refl | exact fw_sm_put0 | refine fw_sm_arr ?_ rfl | refine fw_sm_up ?_ rfl | refine fw_sm_put ?_ rfl | refine fw_sm_cp ?_ rfl)) (ih _ (by omega) _ _ _ _ _ rfl ?_ (by omega)); (
        obtain ⟨i1, i2, i3, i4, i5, i6, i7, i8, i9⟩ := hi
        refine ⟨by omega, by omega, i3, by omega, i5, by omega, i7, by omega, ?_⟩
        rcases i9 with ⟨e1, e2⟩ | ⟨e1, e2⟩
        · first
            | (refine Or.inl ⟨rfl, fun j j0 j1 => ?_⟩
               by_cases e : j = h
               · subst e; assumption
               · exact e2 j j0 (by omega))
            | exact Or.inr ⟨rfl, h, by omega, by omega, by assumption⟩
        · omega))
      | (refine hP _ _ (by repeat (first | exact fw_sm_refl | exact fw_sm_put0 | refine fw_sm_arr ?_ rfl | refine fw_sm_up ?_ rfl | refine fw_sm_put ?_ rfl | refine fw_sm_cp ?_ rfl)) ?_; (refine ⟨by omega, by omega, ?_⟩; (exact ⟨by omega, by omega, zdm_u hgh.2.2.2.2 hi.2.2.1 (by omega) (by omega) (by omega) (by omega) hi.2.2.2.2.1 (fun s s0 s1 hs => hi.2.2.2.2.2 s s0 (by omega) hs)⟩)))
      | omega
      | (intro _))
theorem lm_wardensBy4_14 {Post : Option fw_V → fw_W → Prop} {d : Nat} {W : fw_W} {d_ : Int} (q : List Nat) (u : Nat) (hgh : qok ((fw_g W 366 0)).toNat q = true ∧ 2 ≤ (fw_g W 366 0) ∧ (fw_g W 366 0) ≤ 6 ∧ (∀ x_, 1 ≤ x_ → x_ < (fw_g W 366 0) → (fw_g W 366 (2 + 3 * x_)) = ((qp q x_.toNat : Nat) : Int)) ∧ q2 ((fw_g W 366 0)).toNat u q = true) (hpre : mt W ∧ 0 ≤ (fw_g W 366 0) ∧ (fw_g W 366 0) ≤ 14 ∧ d_ = 1 ∧ (∀ x_, 1 ≤ x_ → x_ < (fw_g W 366 0) → (fw_g W 366 (3 + 3 * x_)) = 1)) (hP : ∀ (v : Int) (W2 : fw_W), fw_sm [367, 370] 352 [] W W2 → (-2147483648 ≤ v ∧ v ≤ 2147483647 ∧ (0 ≤ v ∧ v < 16384 ∧ pcv v = (u : Int))) → Post (some (.inl v)) W2)  : ∀ (m : Nat) (best set : Int) (f : fw_W), (fw_shl 1 ((fw_g W 366 0)) - set).toNat = m → (0 ≤ set ∧ set ≤ fw_shl 1 ((fw_g W 366 0)) ∧ (∀ x_, 0 ≤ x_ → x_ < (fw_g W 366 0) → znr q ((fw_g W 366 0)) x_ ((fw_g f 370 x_))) ∧ (0 ≤ best ∧ best < fw_shl 1 ((fw_g W 366 0))) ∧ zdm ((fw_g W 366 0)) (fun z_ => (fw_g f 370 z_)) (best) ∧ (∀ s_, 0 ≤ s_ → s_ < set → zdm ((fw_g W 366 0)) (fun z_ => (fw_g f 370 z_)) (s_) → pcv best ≤ pcv s_)) → jf fw_T (d + 6) 248 14 [(0, .inr (.inl 352)), (2, .inl best), (3, .inl set)] [] (fw_put [367, 370] 352 [] W f) Post := by
  intro m
  induction m using Nat.strongRecOn with
  | ind m ih =>
    intro best set f hm hi
    refine jf_rng (fun hrg => ?_)
    have hrg : -2147483648 ≤ best ∧ best ≤ 2147483647 ∧ -2147483648 ≤ set ∧ set ≤ 2147483647 ∧ True := hrg
    refine s_wardensBy4_14 ?_
    have s1 := fw_shl1 hpre.2.1 hpre.2.2.1
    have hi1 := hi.1
    have hi2 := hi.2.1
    have hi4 := hi.2.2.2.1
    repeat' (first
      | (exact True.intro)
      | (exact hpre.1)
      | (refine And.intro ?_ ?_)
      | (refine (ih _ (by omega) _ _ _ rfl ?_); (
        refine ⟨by omega, by omega, hi.2.2.1, by omega, hi.2.2.2.2.1, fun s s0 s1 hs => ?_⟩
        by_cases e : s = set
        · subst e; omega
        · exact hi.2.2.2.2.2 s s0 (by omega) hs))
      | (refine jf_put (S := [367, 370]) (o := 352) (F := []) (W := W) (by repeat (first | exact fw_sm_refl | exact fw_sm_put0 | refine fw_sm_arr ?_ rfl | refine fw_sm_up ?_ rfl | refine fw_sm_put ?_ rfl | refine fw_sm_cp ?_ rfl)) (ih _ (by omega) _ _ _ rfl ?_); (
        refine ⟨by omega, by omega, hi.2.2.1, by omega, hi.2.2.2.2.1, fun s s0 s1 hs => ?_⟩
        by_cases e : s = set
        · subst e; omega
        · exact hi.2.2.2.2.2 s s0 (by omega) hs))
      | (refine (lm_wardensBy4_61 (d_ := d_) q u hgh hpre hP (fw_shl 1 ((fw_g W 366 0)) - set) (fun a0 a1 af hi hl => ih _ (by omega) a0 a1 af rfl hi) _ _ _ _ _ _ rfl ?_ (by omega)); (exact ⟨by omega, by omega, hi.2.2.1, by omega, hi.2.2.2.2.1, by omega, hi.2.2.2.2.2, by omega, Or.inl ⟨rfl, fun j j0 j1 => by omega⟩⟩))
      | (refine jf_put (S := [367, 370]) (o := 352) (F := []) (W := W) (by repeat (first | exact fw_sm_refl | exact fw_sm_put0 | refine fw_sm_arr ?_ rfl | refine fw_sm_up ?_ rfl | refine fw_sm_put ?_ rfl | refine fw_sm_cp ?_ rfl)) (lm_wardensBy4_61 (d_ := d_) q u hgh hpre hP (fw_shl 1 ((fw_g W 366 0)) - set) (fun a0 a1 af hi hl => ih _ (by omega) a0 a1 af rfl hi) _ _ _ _ _ _ rfl ?_ (by omega)); (exact ⟨by omega, by omega, hi.2.2.1, by omega, hi.2.2.2.2.1, by omega, hi.2.2.2.2.2, by omega, Or.inl ⟨rfl, fun j j0 j1 => by omega⟩⟩))
      | (refine hP _ _ (by repeat (first | exact fw_sm_refl | exact fw_sm_put0 | refine fw_sm_arr ?_ rfl | refine fw_sm_up ?_ rfl | refine fw_sm_put ?_ rfl | refine fw_sm_cp ?_ rfl)) ?_; (refine ⟨by omega, by omega, ?_⟩; (exact ⟨by omega, by omega, zdm_u hgh.2.2.2.2 hi.2.2.1 (by omega) (by omega) (by omega) (by omega) hi.2.2.2.2.1 (fun s s0 s1 hs => hi.2.2.2.2.2 s s0 (by omega) hs)⟩)))
      | omega
      | (intro _))
def x_wardensBy4 : fw_X := fun as W Q => match as with
  | [.inr (.inl s_), .inl d_] => fw_if (Nat.beq s_ 352) (∃ (q : List Nat), ∃ (u : Nat), (qok ((fw_g W 366 0)).toNat q = true ∧ 2 ≤ (fw_g W 366 0) ∧ (fw_g W 366 0) ≤ 6 ∧ (∀ x_, 1 ≤ x_ → x_ < (fw_g W 366 0) → (fw_g W 366 (2 + 3 * x_)) = ((qp q x_.toNat : Nat) : Int)) ∧ q2 ((fw_g W 366 0)).toNat u q = true) ∧ (mt W ∧ 0 ≤ (fw_g W 366 0) ∧ (fw_g W 366 0) ≤ 14 ∧ d_ = 1 ∧ (∀ x_, 1 ≤ x_ → x_ < (fw_g W 366 0) → (fw_g W 366 (3 + 3 * x_)) = 1)) ∧ (∀ (v : Int) (f : fw_W), (-2147483648 ≤ v ∧ v ≤ 2147483647 ∧ (0 ≤ v ∧ v < 16384 ∧ pcv v = (u : Int))) → Q (some (.inl v)) (fw_put [367, 370] 352 [] W f)))
  | _ => False
theorem x_wardensBy4_ok (d : Nat) (as : List fw_V) (W : fw_W) (Q : Option fw_V → fw_W → Prop) (hx : x_wardensBy4 as W Q) : jf fw_T (d + 6) 248 0 (fw_args 0 as) [] W Q := by
  unfold x_wardensBy4 at hx
  split at hx
  · rename_i s_ d_
    obtain ⟨e_, q, u, hgh, hpre, hQ⟩ := fw_if_ok hx
    have e_ := Nat.eq_of_beq_eq_true e_
    subst e_
    have hP : ∀ (v : Int) (W2 : fw_W), fw_sm [367, 370] 352 [] W W2 → _ → Q (some (.inl v)) W2 := fun v W2 hs hr => fw_sm_use (Q := fun Z => Q (some (.inl v)) Z) hs (hQ v W2 hr)
    have hm : tr_dep (fw_g W 366 0) (fun z_ => fw_g W 366 (2 + 3 * z_)) (zd q) ∧ tr_met (fw_g W 366 0) (fun z_ => fw_g W 366 (2 + 3 * z_)) (fun z_ => fw_g W 366 (3 + 3 * z_)) (zd q) (zD q) := ⟨q_dep hgh.2.1 (qok_k hgh.1) (fun x x1 x2 => hgh.2.2.2.1 x x1 x2), q_met hgh.2.1 (qok_k hgh.1) (fun x x1 x2 => hgh.2.2.2.1 x x1 x2) (fun x x1 x2 => hpre.2.2.2.2 x x1 x2)⟩
    refine s_wardensBy4_0 ?_
    have s1 := fw_shl1 hpre.2.1 hpre.2.2.1
    repeat' (first
      | (refine ⟨zd q, zD q, hm, ?_⟩)
      | (exact True.intro)
      | (exact hpre.1)
      | (refine And.intro ?_ ?_)
      | (refine jf_put (S := [367, 370]) (o := 352) (F := []) (W := W) (by repeat (first | exact fw_sm_refl | exact fw_sm_put0 | refine fw_sm_arr ?_ rfl | refine fw_sm_up ?_ rfl | refine fw_sm_put ?_ rfl | refine fw_sm_cp ?_ rfl)) (lm_wardensBy4_14 (d_ := d_) q u hgh hpre hP _ _ _ _ rfl ?_); (
        rename_i f1 hw1
        have hd := hpre.2.2.2.1
        have hz : ∀ x, 0 ≤ x → x < fw_g W 366 0 → znr q (fw_g W 366 0) x (fw_g f1 370 x) := fun x x1 x2 => by
          have a := hw1.2 x 0 x1 x2 (by omega) (by omega)
          refine ⟨a.1, a.2.1, fun k k1 k2 => ?_⟩
          have b := (hw1.2 x k x1 x2 k1 k2).2.2
          rw [hd] at b
          exact b
        exact ⟨by omega, by omega, hz, ⟨by omega, by omega⟩, zdm_all hz (by omega), fun s s0 s1 => by omega⟩))
      | (refine jf_put (S := [367, 370]) (o := 352) (F := []) (W := W) (by repeat (first | exact fw_sm_refl | exact fw_sm_put0 | refine fw_sm_arr ?_ rfl | refine fw_sm_up ?_ rfl | refine fw_sm_put ?_ rfl | refine fw_sm_cp ?_ rfl)) (lm_wardensBy4_61 (d_ := d_) q u hgh hpre hP M14 h14 _ _ _ _ _ _ rfl ?_ (by omega)); (first | omega | trivial | (simp (config := { decide := true }) only [fg_in, fg_fin, fg_out, fg_fout, fg_up, fg_same, true_and, and_true] <;> omega)))
      | (refine hP _ _ (by repeat (first | exact fw_sm_refl | exact fw_sm_put0 | refine fw_sm_arr ?_ rfl | refine fw_sm_up ?_ rfl | refine fw_sm_put ?_ rfl | refine fw_sm_cp ?_ rfl)) ?_; (refine ⟨by omega, by omega, ?_⟩; (exact ⟨by omega, by omega, zdm_u hgh.2.2.2.2 hi.2.2.1 (by omega) (by omega) (by omega) (by omega) hi.2.2.2.2.1 (fun s s0 s1 hs => hi.2.2.2.2.2 s s0 (by omega) hs)⟩)))
      | omega
      | (intro _))
  · exact hx.elim

