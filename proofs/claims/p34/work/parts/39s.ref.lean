/-! the reference, method by method -/
theorem pcv_1 : pcv 1 = 1 := by decide
def ct_wardensBy3 : List (Nat × fw_X) := [(251, x_bitsOf2), (252, x_isFirst), (249, x_layNear2), (188, x_many), (250, x_sets)]
theorem ct_wardensBy3_ok (d : Nat) : fw_cok fw_T (d + 5) ct_wardensBy3 := by
  intro q hq as W Q h
  simp only [ct_wardensBy3, List.mem_cons, List.not_mem_nil, or_false] at hq
  rcases hq with rfl | rfl | rfl | rfl | rfl
  · exact jc_of (x_bitsOf2_ok (d + 4) as W Q h)
  · exact jc_of (x_isFirst_ok (d + 4) as W Q h)
  · exact jc_of (x_layNear2_ok (d + 0) as W Q h)
  · exact jc_of (x_many_ok (d + 4) as W Q h)
  · exact jc_of (x_sets_ok (d + 3) as W Q h)
theorem s_wardensBy3_0 {Post : Option fw_V → fw_W → Prop} {d : Nat} {W : fw_W} {d_ : Int}
    (hw_ : ∃ (δ_1 : Int → Int), ∃ (D_2 : Int → Int → Int), (tr_dep ((fw_g W 366 0)) (fun z_ => (fw_g W 366 (2 + 3 * z_))) δ_1 ∧ tr_met ((fw_g W 366 0)) (fun z_ => (fw_g W 366 (2 + 3 * z_))) (fun z_ => (fw_g W 366 (3 + 3 * z_))) δ_1 D_2) ∧ (mt W ∧ 0 ≤ (fw_g W 366 0) ∧ (fw_g W 366 0) ≤ 14) ∧ (∀ (f3 : fw_W), (((∀ u t, 0 ≤ u → u < (fw_g W 366 0) → 0 ≤ t → t < (fw_g W 366 0) → (fw_g f3 367 (14 * u + t)) = D_2 u t) ∧ (∀ x q, 0 ≤ x → x < (fw_g W 366 0) → 0 ≤ q → q < (fw_g W 366 0) → (0 ≤ (fw_g f3 370 x) ∧ (fw_g f3 370 x) < 16384 ∧ ((fw_g f3 370 x).toNat.testBit q.toNat = true ↔ D_2 x q ≤ d_))))) → (True) ∧ (-2147483648 ≤ (fw_shl 1 (fw_g W 366 0)) - (1 : Int) ∧ (fw_shl 1 (fw_g W 366 0)) - (1 : Int) ≤ 2147483647 ∧ (jf fw_T (d + 6) 248 14 [(0, .inr (.inl 352)), (2, .inl ((fw_shl 1 (fw_g W 366 0)) - (1 : Int))), (3, .inl (0 : Int))] [] (fw_put [367, 370] 352 [] W f3) Post)))) :
    jf fw_T (d + 6) 248 0 [(0, .inr (.inl 352)), (1, .inl d_)] [] W Post := fw_ok (n := 11) (ss := [(14, [0, 2, 3]), (61, [0, 2, 3, 4, 5])]) (hv := []) fr_248_ok fm_ok (ct_wardensBy3_ok d) hw_

theorem s_wardensBy3_61 {Post : Option fw_V → fw_W → Prop} {d : Nat} {W : fw_W} {best set is h : Int} {f : fw_W}
    (hw_ : (True) ∧ ((((fw_g W 366 0) ≤ h → ((is = 0 → -2147483648 ≤ set + (1 : Int) ∧ set + (1 : Int) ≤ 2147483647 ∧ (jf fw_T (d + 6) 248 14 [(0, .inr (.inl 352)), (2, .inl best), (3, .inl (set + (1 : Int)))] [] (fw_put [367, 370] 352 [] W f) Post)) ∧ (¬ is = 0 → -2147483648 ≤ set + (1 : Int) ∧ set + (1 : Int) ≤ 2147483647 ∧ (jf fw_T (d + 6) 248 14 [(0, .inr (.inl 352)), (2, .inl set), (3, .inl (set + (1 : Int)))] [] (fw_put [367, 370] 352 [] W f) Post)))) ∧ (h < (fw_g W 366 0) → ((is = 0 → ((is = 0 → -2147483648 ≤ set + (1 : Int) ∧ set + (1 : Int) ≤ 2147483647 ∧ (jf fw_T (d + 6) 248 14 [(0, .inr (.inl 352)), (2, .inl best), (3, .inl (set + (1 : Int)))] [] (fw_put [367, 370] 352 [] W f) Post)) ∧ (¬ is = 0 → -2147483648 ≤ set + (1 : Int) ∧ set + (1 : Int) ≤ 2147483647 ∧ (jf fw_T (d + 6) 248 14 [(0, .inr (.inl 352)), (2, .inl set), (3, .inl (set + (1 : Int)))] [] (fw_put [367, 370] 352 [] W f) Post)))) ∧ (¬ is = 0 → 0 ≤ h ∧ h < 14 ∧ (-2147483648 ≤ (fw_g f 370 h) → (fw_g f 370 h) ≤ 2147483647 → (-2147483648 ≤ (fw_and (fw_g f 370 h) set) → (fw_and (fw_g f 370 h) set) ≤ 2147483647 → (((fw_and (fw_g f 370 h) set) = 0 → -2147483648 ≤ h + (1 : Int) ∧ h + (1 : Int) ≤ 2147483647 ∧ (jf fw_T (d + 6) 248 61 [(0, .inr (.inl 352)), (2, .inl best), (3, .inl set), (4, .inl (0 : Int)), (5, .inl (h + (1 : Int)))] [] (fw_put [367, 370] 352 [] W f) Post)) ∧ (¬ (fw_and (fw_g f 370 h) set) = 0 → -2147483648 ≤ h + (1 : Int) ∧ h + (1 : Int) ≤ 2147483647 ∧ (jf fw_T (d + 6) 248 61 [(0, .inr (.inl 352)), (2, .inl best), (3, .inl set), (4, .inl (1 : Int)), (5, .inl (h + (1 : Int)))] [] (fw_put [367, 370] 352 [] W f) Post))))))))))) :
    jf fw_T (d + 6) 248 61 [(0, .inr (.inl 352)), (2, .inl best), (3, .inl set), (4, .inl is), (5, .inl h)] [] (fw_put [367, 370] 352 [] W f) Post := fw_ok (n := 19) (ss := [(14, [0, 2, 3]), (61, [0, 2, 3, 4, 5])]) (hv := []) fr_248_ok fm_ok (ct_wardensBy3_ok d) hw_

theorem s_wardensBy3_14 {Post : Option fw_V → fw_W → Prop} {d : Nat} {W : fw_W} {best set : Int} {f : fw_W}
    (hw_ : (True) ∧ ((((fw_shl 1 (fw_g W 366 0)) ≤ set → (-2147483648 ≤ best → best ≤ 2147483647 → Post (some (.inl best)) (fw_put [367, 370] 352 [] W f))) ∧ (set < (fw_shl 1 (fw_g W 366 0)) → (0 ≤ set ∧ set ≤ 2147483647) ∧ (∀ (r1 : Int), ((-2147483648 ≤ r1 ∧ r1 ≤ 2147483647 ∧ (r1 = pcv set))) → (0 ≤ best ∧ best ≤ 2147483647) ∧ (∀ (r2 : Int), ((-2147483648 ≤ r2 ∧ r2 ≤ 2147483647 ∧ (r2 = pcv best))) → ((r2 < r1 → -2147483648 ≤ set + (1 : Int) ∧ set + (1 : Int) ≤ 2147483647 ∧ (jf fw_T (d + 6) 248 14 [(0, .inr (.inl 352)), (2, .inl best), (3, .inl (set + (1 : Int)))] [] (fw_put [367, 370] 352 [] W f) Post)) ∧ (r1 ≤ r2 → (0 ≤ set ∧ set ≤ 2147483647) ∧ (∀ (r3 : Int), ((-2147483648 ≤ r3 ∧ r3 ≤ 2147483647 ∧ (r3 = pcv set))) → (0 ≤ best ∧ best ≤ 2147483647) ∧ (∀ (r4 : Int), ((-2147483648 ≤ r4 ∧ r4 ≤ 2147483647 ∧ (r4 = pcv best))) → ((¬ r3 = r4 → jf fw_T (d + 6) 248 61 [(0, .inr (.inl 352)), (2, .inl best), (3, .inl set), (4, .inl (1 : Int)), (5, .inl (0 : Int))] [] (fw_put [367, 370] 352 [] W f) Post) ∧ (r3 = r4 → (True) ∧ (∀ (r5 : Int), ((0 ≤ r5 ∧ r5 ≤ 1 ∧ (True))) → ((¬ r5 = 0 → jf fw_T (d + 6) 248 61 [(0, .inr (.inl 352)), (2, .inl best), (3, .inl set), (4, .inl (1 : Int)), (5, .inl (0 : Int))] [] (fw_put [367, 370] 352 [] W f) Post) ∧ (r5 = 0 → -2147483648 ≤ set + (1 : Int) ∧ set + (1 : Int) ≤ 2147483647 ∧ (jf fw_T (d + 6) 248 14 [(0, .inr (.inl 352)), (2, .inl best), (3, .inl (set + (1 : Int)))] [] (fw_put [367, 370] 352 [] W f) Post)))))))))))))))) :
    jf fw_T (d + 6) 248 14 [(0, .inr (.inl 352)), (2, .inl best), (3, .inl set)] [] (fw_put [367, 370] 352 [] W f) Post := fw_ok (n := 23) (ss := [(14, [0, 2, 3]), (61, [0, 2, 3, 4, 5])]) (hv := []) fr_248_ok fm_ok (ct_wardensBy3_ok d) hw_

theorem lm_wardensBy3_61 {Post : Option fw_V → fw_W → Prop} {d : Nat} {W : fw_W} {d_ : Int} (δ : Int → Int) (D : Int → Int → Int) (hgh : tr_dep ((fw_g W 366 0)) (fun z_ => (fw_g W 366 (2 + 3 * z_))) δ ∧ tr_met ((fw_g W 366 0)) (fun z_ => (fw_g W 366 (2 + 3 * z_))) (fun z_ => (fw_g W 366 (3 + 3 * z_))) δ D) (hpre : mt W ∧ 0 ≤ (fw_g W 366 0) ∧ (fw_g W 366 0) ≤ 14 ∧ 1 ≤ (fw_g W 366 0)) (hP : ∀ (v : Int) (W2 : fw_W), fw_sm [367, 370] 352 [] W W2 → (-2147483648 ≤ v ∧ v ≤ 2147483647 ∧ ((∀ u t, 0 ≤ u → u < (fw_g W 366 0) → 0 ≤ t → t < (fw_g W 366 0) → (fw_g W2 367 (14 * u + t)) = D u t) ∧ 0 ≤ v ∧ v < 16384 ∧ ((∀ x, 0 ≤ x → x < (fw_g W 366 0) → D x 0 ≤ d_) → pcv v ≤ 1))) → Post (some (.inl v)) W2) (M14 : Int) (h14 : ∀ (best set : Int) (f : fw_W), (0 ≤ set ∧ (∀ u t, 0 ≤ u → u < (fw_g W 366 0) → 0 ≤ t → t < (fw_g W 366 0) → (fw_g f 367 (14 * u + t)) = D u t) ∧ (∀ x, 0 ≤ x → x < (fw_g W 366 0) → 0 ≤ (fw_g f 370 x) ∧ (fw_g f 370 x) < 16384 ∧ ((∀ x, 0 ≤ x → x < (fw_g W 366 0) → D x 0 ≤ d_) → (fw_g f 370 x).toNat.testBit 0 = true)) ∧ 0 ≤ best ∧ best < 16384 ∧ ((∀ x, 0 ≤ x → x < (fw_g W 366 0) → D x 0 ≤ d_) → 2 ≤ set → pcv best ≤ 1)) → (fw_shl 1 (fw_g W 366 0) - set) < M14 → jf fw_T (d + 6) 248 14 [(0, .inr (.inl 352)), (2, .inl best), (3, .inl set)] [] (fw_put [367, 370] 352 [] W f) Post) : ∀ (m : Nat) (best set is h : Int) (f : fw_W), ((fw_g W 366 0) - h).toNat = m → (0 ≤ h ∧ (∀ u t, 0 ≤ u → u < (fw_g W 366 0) → 0 ≤ t → t < (fw_g W 366 0) → (fw_g f 367 (14 * u + t)) = D u t) ∧ (∀ x, 0 ≤ x → x < (fw_g W 366 0) → 0 ≤ (fw_g f 370 x) ∧ (fw_g f 370 x) < 16384 ∧ ((∀ x, 0 ≤ x → x < (fw_g W 366 0) → D x 0 ≤ d_) → (fw_g f 370 x).toNat.testBit 0 = true)) ∧ (0 ≤ best ∧ best < 16384) ∧ (0 ≤ set ∧ set < fw_shl 1 (fw_g W 366 0)) ∧ ((∀ x, 0 ≤ x → x < (fw_g W 366 0) → D x 0 ≤ d_) → 2 ≤ set → pcv best ≤ 1) ∧ pcv set ≤ pcv best ∧ ((∀ x, 0 ≤ x → x < (fw_g W 366 0) → D x 0 ≤ d_) → set = 1 → is = 1)) → (fw_shl 1 (fw_g W 366 0) - set) ≤ M14 → jf fw_T (d + 6) 248 61 [(0, .inr (.inl 352)), (2, .inl best), (3, .inl set), (4, .inl is), (5, .inl h)] [] (fw_put [367, 370] 352 [] W f) Post := by
  intro m
  induction m using Nat.strongRecOn with
  | ind m ih =>
    intro best set is h f hm hi e14
    refine jf_rng (fun hrg => ?_)
    have hrg : -2147483648 ≤ best ∧ best ≤ 2147483647 ∧ -2147483648 ≤ set ∧ set ≤ 2147483647 ∧ -2147483648 ≤ is ∧ is ≤ 2147483647 ∧ -2147483648 ≤ h ∧ h ≤ 2147483647 ∧ True := hrg
    refine s_wardensBy3_61 ?_
    have s1 := fw_shl1 hpre.2.1 hpre.2.2.1
    have s2 : 2 ≤ fw_shl 1 (fw_g W 366 0) := by
      have hp : (2 : Nat) ^ 1 ≤ 2 ^ (fw_g W 366 0).toNat := Nat.pow_le_pow_right (by omega) (by omega)
      omega
    have hi1 := hi.1
    have hi4 := hi.2.2.2.1
    have hi5 := hi.2.2.2.2.1
    have hp2 := hi.2.2.2.2.2.2.1
    repeat' (first
      | (exact True.intro)
      | (exact hpre.1)
      | (refine And.intro ?_ ?_)
      | (refine (h14 _ _ _ ?_ (by omega)); (
        obtain ⟨i1, i2, i3, i4, i5, i6, i7, i8⟩ := hi
        refine ⟨by omega, i2, i3, by omega, by omega, fun hc z => ?_⟩
        by_cases e : set = 1
        · have p1 := pcv_1
          have := i8 hc e
          first
            | (rw [e]; omega)
            | omega
        · have := i6 hc (by omega)
          omega))
      | (refine jf_put (S := [367, 370]) (o := 352) (F := []) (W := W) (by repeat (first | exact fw_sm_refl | exact fw_sm_put0 | refine fw_sm_arr ?_ rfl | refine fw_sm_up ?_ rfl | refine fw_sm_put ?_ rfl | refine fw_sm_cp ?_ rfl)) (h14 _ _ _ ?_ (by omega)); (
        obtain ⟨i1, i2, i3, i4, i5, i6, i7, i8⟩ := hi
        refine ⟨by omega, i2, i3, by omega, by omega, fun hc z => ?_⟩
        by_cases e : set = 1
        · have p1 := pcv_1
          have := i8 hc e
          first
            | (rw [e]; omega)
            | omega
        · have := i6 hc (by omega)
          omega))
      | (refine (ih _ (by omega) _ _ _ _ _ rfl ?_ (by omega)); (
        have hn := hi.2.2.1 h (by omega) (by omega)
        refine ⟨by omega, hi.2.1, hi.2.2.1, by omega, by omega, hi.2.2.2.2.2.1, hp2, fun hc e => ?_⟩
        first
          | rfl
          | (exfalso
             have a1 := (and_one (x := (fw_g f 370 h)) hn.1 (by omega)).mp (by rw [← e]; omega)
             rw [hn.2.2 hc] at a1
             cases a1)))
      | (refine jf_put (S := [367, 370]) (o := 352) (F := []) (W := W) (by repeat (first | exact fw_sm_refl | exact fw_sm_put0 | refine fw_sm_arr ?_ rfl | refine fw_sm_up ?_ rfl | refine fw_sm_put ?_ rfl | refine fw_sm_cp ?_ rfl)) (ih _ (by omega) _ _ _ _ _ rfl ?_ (by omega)); (
        have hn := hi.2.2.1 h (by omega) (by omega)
        refine ⟨by omega, hi.2.1, hi.2.2.1, by omega, by omega, hi.2.2.2.2.2.1, hp2, fun hc e => ?_⟩
        first
          | rfl
          | (exfalso
             have a1 := (and_one (x := (fw_g f 370 h)) hn.1 (by omega)).mp (by rw [← e]; omega)
             rw [hn.2.2 hc] at a1
             cases a1)))
      | (refine hP _ _ (by repeat (first | exact fw_sm_refl | exact fw_sm_put0 | refine fw_sm_arr ?_ rfl | refine fw_sm_up ?_ rfl | refine fw_sm_put ?_ rfl | refine fw_sm_cp ?_ rfl)) ?_; (refine ⟨by omega, by omega, ?_⟩; (exact ⟨hi.2.1, hi.2.2.2.1, hi.2.2.2.2.1, fun hc => hi.2.2.2.2.2 hc (by omega)⟩)))
      | omega
      | (intro _))
theorem lm_wardensBy3_14 {Post : Option fw_V → fw_W → Prop} {d : Nat} {W : fw_W} {d_ : Int} (δ : Int → Int) (D : Int → Int → Int) (hgh : tr_dep ((fw_g W 366 0)) (fun z_ => (fw_g W 366 (2 + 3 * z_))) δ ∧ tr_met ((fw_g W 366 0)) (fun z_ => (fw_g W 366 (2 + 3 * z_))) (fun z_ => (fw_g W 366 (3 + 3 * z_))) δ D) (hpre : mt W ∧ 0 ≤ (fw_g W 366 0) ∧ (fw_g W 366 0) ≤ 14 ∧ 1 ≤ (fw_g W 366 0)) (hP : ∀ (v : Int) (W2 : fw_W), fw_sm [367, 370] 352 [] W W2 → (-2147483648 ≤ v ∧ v ≤ 2147483647 ∧ ((∀ u t, 0 ≤ u → u < (fw_g W 366 0) → 0 ≤ t → t < (fw_g W 366 0) → (fw_g W2 367 (14 * u + t)) = D u t) ∧ 0 ≤ v ∧ v < 16384 ∧ ((∀ x, 0 ≤ x → x < (fw_g W 366 0) → D x 0 ≤ d_) → pcv v ≤ 1))) → Post (some (.inl v)) W2)  : ∀ (m : Nat) (best set : Int) (f : fw_W), (fw_shl 1 (fw_g W 366 0) - set).toNat = m → (0 ≤ set ∧ (∀ u t, 0 ≤ u → u < (fw_g W 366 0) → 0 ≤ t → t < (fw_g W 366 0) → (fw_g f 367 (14 * u + t)) = D u t) ∧ (∀ x, 0 ≤ x → x < (fw_g W 366 0) → 0 ≤ (fw_g f 370 x) ∧ (fw_g f 370 x) < 16384 ∧ ((∀ x, 0 ≤ x → x < (fw_g W 366 0) → D x 0 ≤ d_) → (fw_g f 370 x).toNat.testBit 0 = true)) ∧ 0 ≤ best ∧ best < 16384 ∧ ((∀ x, 0 ≤ x → x < (fw_g W 366 0) → D x 0 ≤ d_) → 2 ≤ set → pcv best ≤ 1)) → jf fw_T (d + 6) 248 14 [(0, .inr (.inl 352)), (2, .inl best), (3, .inl set)] [] (fw_put [367, 370] 352 [] W f) Post := by
  intro m
  induction m using Nat.strongRecOn with
  | ind m ih =>
    intro best set f hm hi
    refine jf_rng (fun hrg => ?_)
    have hrg : -2147483648 ≤ best ∧ best ≤ 2147483647 ∧ -2147483648 ≤ set ∧ set ≤ 2147483647 ∧ True := hrg
    refine s_wardensBy3_14 ?_
    have s1 := fw_shl1 hpre.2.1 hpre.2.2.1
    have s2 : 2 ≤ fw_shl 1 (fw_g W 366 0) := by
      have hp : (2 : Nat) ^ 1 ≤ 2 ^ (fw_g W 366 0).toNat := Nat.pow_le_pow_right (by omega) (by omega)
      omega
    have hi1 := hi.1
    have hi4 := hi.2.2.2.1
    have hi5 := hi.2.2.2.2.1
    repeat' (first
      | (exact True.intro)
      | (exact hpre.1)
      | (refine And.intro ?_ ?_)
      | (refine (ih _ (by omega) _ _ _ rfl ?_); (
        refine ⟨by omega, hi.2.1, hi.2.2.1, by omega, by omega, fun hc z => ?_⟩
        have h9 := hi.2.2.2.2.2 hc
        by_cases e : set = 1
        · subst e
          have p1 := pcv_1
          omega
        · exact h9 (by omega)))
      | (refine jf_put (S := [367, 370]) (o := 352) (F := []) (W := W) (by repeat (first | exact fw_sm_refl | exact fw_sm_put0 | refine fw_sm_arr ?_ rfl | refine fw_sm_up ?_ rfl | refine fw_sm_put ?_ rfl | refine fw_sm_cp ?_ rfl)) (ih _ (by omega) _ _ _ rfl ?_); (
        refine ⟨by omega, hi.2.1, hi.2.2.1, by omega, by omega, fun hc z => ?_⟩
        have h9 := hi.2.2.2.2.2 hc
        by_cases e : set = 1
        · subst e
          have p1 := pcv_1
          omega
        · exact h9 (by omega)))
      | (refine (lm_wardensBy3_61 (d_ := d_) δ D hgh hpre hP (fw_shl 1 (fw_g W 366 0) - set) (fun a0 a1 af hi hl => ih _ (by omega) a0 a1 af rfl hi) _ _ _ _ _ _ rfl ?_ (by omega)); (exact ⟨by omega, hi.2.1, hi.2.2.1, by omega, by omega, hi.2.2.2.2.2, by omega, fun _ _ => rfl⟩))
      | (refine jf_put (S := [367, 370]) (o := 352) (F := []) (W := W) (by repeat (first | exact fw_sm_refl | exact fw_sm_put0 | refine fw_sm_arr ?_ rfl | refine fw_sm_up ?_ rfl | refine fw_sm_put ?_ rfl | refine fw_sm_cp ?_ rfl)) (lm_wardensBy3_61 (d_ := d_) δ D hgh hpre hP (fw_shl 1 (fw_g W 366 0) - set) (fun a0 a1 af hi hl => ih _ (by omega) a0 a1 af rfl hi) _ _ _ _ _ _ rfl ?_ (by omega)); (exact ⟨by omega, hi.2.1, hi.2.2.1, by omega, by omega, hi.2.2.2.2.2, by omega, fun _ _ => rfl⟩))
      | (refine hP _ _ (by repeat (first | exact fw_sm_refl | exact fw_sm_put0 | refine fw_sm_arr ?_ rfl | refine fw_sm_up ?_ rfl | refine fw_sm_put ?_ rfl | refine fw_sm_cp ?_ rfl)) ?_; (refine ⟨by omega, by omega, ?_⟩; (exact ⟨hi.2.1, hi.2.2.2.1, hi.2.2.2.2.1, fun hc => hi.2.2.2.2.2 hc (by omega)⟩)))
      | omega
      | (intro _))
def x_wardensBy3 : fw_X := fun as W Q => match as with
  | [.inr (.inl s_), .inl d_] => fw_if (Nat.beq s_ 352) (∃ (δ : Int → Int), ∃ (D : Int → Int → Int), (tr_dep ((fw_g W 366 0)) (fun z_ => (fw_g W 366 (2 + 3 * z_))) δ ∧ tr_met ((fw_g W 366 0)) (fun z_ => (fw_g W 366 (2 + 3 * z_))) (fun z_ => (fw_g W 366 (3 + 3 * z_))) δ D) ∧ (mt W ∧ 0 ≤ (fw_g W 366 0) ∧ (fw_g W 366 0) ≤ 14 ∧ 1 ≤ (fw_g W 366 0)) ∧ (∀ (v : Int) (f : fw_W), (-2147483648 ≤ v ∧ v ≤ 2147483647 ∧ ((∀ u t, 0 ≤ u → u < (fw_g W 366 0) → 0 ≤ t → t < (fw_g W 366 0) → (fw_g f 367 (14 * u + t)) = D u t) ∧ 0 ≤ v ∧ v < 16384 ∧ ((∀ x, 0 ≤ x → x < (fw_g W 366 0) → D x 0 ≤ d_) → pcv v ≤ 1))) → Q (some (.inl v)) (fw_put [367, 370] 352 [] W f)))
  | _ => False
theorem x_wardensBy3_ok (d : Nat) (as : List fw_V) (W : fw_W) (Q : Option fw_V → fw_W → Prop) (hx : x_wardensBy3 as W Q) : jf fw_T (d + 6) 248 0 (fw_args 0 as) [] W Q := by
  unfold x_wardensBy3 at hx
  split at hx
  · rename_i s_ d_
    obtain ⟨e_, δ, D, hgh, hpre, hQ⟩ := fw_if_ok hx
    have e_ := Nat.eq_of_beq_eq_true e_
    subst e_
    have hP : ∀ (v : Int) (W2 : fw_W), fw_sm [367, 370] 352 [] W W2 → _ → Q (some (.inl v)) W2 := fun v W2 hs hr => fw_sm_use (Q := fun Z => Q (some (.inl v)) Z) hs (hQ v W2 hr)
    refine s_wardensBy3_0 ?_
    have s1 := fw_shl1 hpre.2.1 hpre.2.2.1
    have s2 : 2 ≤ fw_shl 1 (fw_g W 366 0) := by
      have hp : (2 : Nat) ^ 1 ≤ 2 ^ (fw_g W 366 0).toNat := Nat.pow_le_pow_right (by omega) (by omega)
      omega
    repeat' (first
      | (exact True.intro)
      | (exact hpre.1)
      | (refine And.intro ?_ ?_)
      | (refine jf_put (S := [367, 370]) (o := 352) (F := []) (W := W) (by repeat (first | exact fw_sm_refl | exact fw_sm_put0 | refine fw_sm_arr ?_ rfl | refine fw_sm_up ?_ rfl | refine fw_sm_put ?_ rfl | refine fw_sm_cp ?_ rfl)) (lm_wardensBy3_14 (d_ := d_) δ D hgh hpre hP _ _ _ _ rfl ?_); (
        rename_i f1 hw1
        refine ⟨by omega, hw1.1, fun x x1 x2 => ?_, by omega, by omega, fun _ z => by omega⟩
        have h9 := hw1.2 x 0 x1 x2 (by omega) (by omega)
        exact ⟨h9.1, h9.2.1, fun hc => h9.2.2.mpr (hc x x1 x2)⟩))
      | (refine jf_put (S := [367, 370]) (o := 352) (F := []) (W := W) (by repeat (first | exact fw_sm_refl | exact fw_sm_put0 | refine fw_sm_arr ?_ rfl | refine fw_sm_up ?_ rfl | refine fw_sm_put ?_ rfl | refine fw_sm_cp ?_ rfl)) (lm_wardensBy3_61 (d_ := d_) δ D hgh hpre hP M14 h14 _ _ _ _ _ _ rfl ?_ (by omega)); (first | omega | trivial | (simp (config := { decide := true }) only [fg_in, fg_fin, fg_out, fg_fout, fg_up, fg_same, true_and, and_true] <;> omega)))
      | (refine hP _ _ (by repeat (first | exact fw_sm_refl | exact fw_sm_put0 | refine fw_sm_arr ?_ rfl | refine fw_sm_up ?_ rfl | refine fw_sm_put ?_ rfl | refine fw_sm_cp ?_ rfl)) ?_; (refine ⟨by omega, by omega, ?_⟩; (exact ⟨hi.2.1, hi.2.2.2.1, hi.2.2.2.2.1, fun hc => hi.2.2.2.2.2 hc (by omega)⟩)))
      | (refine ⟨δ, D, hgh, ?_⟩)
      | omega
      | (intro _))
  · exact hx.elim

def ct_nextFar2 : List (Nat × fw_X) := [(188, x_many)]
theorem ct_nextFar2_ok (d : Nat) : fw_cok fw_T (d + 1) ct_nextFar2 := by
  intro q hq as W Q h
  simp only [ct_nextFar2, List.mem_cons, List.not_mem_nil, or_false] at hq
  rcases hq with rfl
  · exact jc_of (x_many_ok (d + 0) as W Q h)
theorem s_nextFar2_0 {Post : Option fw_V → fw_W → Prop} {d : Nat} {W : fw_W} {d_ : Int}
    (hw_ : jf fw_T (d + 2) 258 4 [(0, .inr (.inl 352)), (1, .inl d_), (2, .inl (-1 : Int)), (3, .inl (0 : Int))] [] W Post) :
    jf fw_T (d + 2) 258 0 [(0, .inr (.inl 352)), (1, .inl d_)] [] W Post := fw_ok (n := 5) (ss := [(4, [0, 1, 2, 3]), (15, [0, 1, 2, 3, 4])]) (hv := []) fr_258_ok fm_ok (ct_nextFar2_ok d) hw_

theorem s_nextFar2_15 {Post : Option fw_V → fw_W → Prop} {d : Nat} {W : fw_W} {d_ best a b : Int}
    (hw_ : (True) ∧ ((((fw_g W 366 0) ≤ b → -2147483648 ≤ a + (1 : Int) ∧ a + (1 : Int) ≤ 2147483647 ∧ (jf fw_T (d + 2) 258 4 [(0, .inr (.inl 352)), (1, .inl d_), (2, .inl best), (3, .inl (a + (1 : Int)))] [] W Post)) ∧ (b < (fw_g W 366 0) → -2147483648 ≤ (14 : Int) * a ∧ (14 : Int) * a ≤ 2147483647 ∧ (-2147483648 ≤ ((14 : Int) * a) + b ∧ ((14 : Int) * a) + b ≤ 2147483647 ∧ (0 ≤ (((14 : Int) * a) + b) ∧ (((14 : Int) * a) + b) < 196 ∧ (-2147483648 ≤ (fw_g W 367 (((14 : Int) * a) + b)) → (fw_g W 367 (((14 : Int) * a) + b)) ≤ 2147483647 → (((fw_g W 367 (((14 : Int) * a) + b)) ≤ d_ → -2147483648 ≤ b + (1 : Int) ∧ b + (1 : Int) ≤ 2147483647 ∧ (jf fw_T (d + 2) 258 15 [(0, .inr (.inl 352)), (1, .inl d_), (2, .inl best), (3, .inl a), (4, .inl (b + (1 : Int)))] [] W Post)) ∧ (d_ < (fw_g W 367 (((14 : Int) * a) + b)) → ((best < 0 → -2147483648 ≤ b + (1 : Int) ∧ b + (1 : Int) ≤ 2147483647 ∧ (jf fw_T (d + 2) 258 15 [(0, .inr (.inl 352)), (1, .inl d_), (2, .inl (fw_g W 367 (((14 : Int) * a) + b))), (3, .inl a), (4, .inl (b + (1 : Int)))] [] W Post)) ∧ (0 ≤ best → ((best ≤ (fw_g W 367 (((14 : Int) * a) + b)) → -2147483648 ≤ b + (1 : Int) ∧ b + (1 : Int) ≤ 2147483647 ∧ (jf fw_T (d + 2) 258 15 [(0, .inr (.inl 352)), (1, .inl d_), (2, .inl best), (3, .inl a), (4, .inl (b + (1 : Int)))] [] W Post)) ∧ ((fw_g W 367 (((14 : Int) * a) + b)) < best → -2147483648 ≤ b + (1 : Int) ∧ b + (1 : Int) ≤ 2147483647 ∧ (jf fw_T (d + 2) 258 15 [(0, .inr (.inl 352)), (1, .inl d_), (2, .inl (fw_g W 367 (((14 : Int) * a) + b))), (3, .inl a), (4, .inl (b + (1 : Int)))] [] W Post)))))))))))))) :
    jf fw_T (d + 2) 258 15 [(0, .inr (.inl 352)), (1, .inl d_), (2, .inl best), (3, .inl a), (4, .inl b)] [] W Post := fw_ok (n := 26) (ss := [(4, [0, 1, 2, 3]), (15, [0, 1, 2, 3, 4])]) (hv := []) fr_258_ok fm_ok (ct_nextFar2_ok d) hw_

theorem s_nextFar2_4 {Post : Option fw_V → fw_W → Prop} {d : Nat} {W : fw_W} {d_ best a : Int}
    (hw_ : (True) ∧ ((((fw_g W 366 0) ≤ a → (-2147483648 ≤ best → best ≤ 2147483647 → Post (some (.inl best)) W)) ∧ (a < (fw_g W 366 0) → jf fw_T (d + 2) 258 15 [(0, .inr (.inl 352)), (1, .inl d_), (2, .inl best), (3, .inl a), (4, .inl (0 : Int))] [] W Post)))) :
    jf fw_T (d + 2) 258 4 [(0, .inr (.inl 352)), (1, .inl d_), (2, .inl best), (3, .inl a)] [] W Post := fw_ok (n := 7) (ss := [(4, [0, 1, 2, 3]), (15, [0, 1, 2, 3, 4])]) (hv := []) fr_258_ok fm_ok (ct_nextFar2_ok d) hw_

theorem lm_nextFar2_15 {Post : Option fw_V → fw_W → Prop} {d : Nat} {W : fw_W} {d_ : Int} (δ : Int → Int) (D : Int → Int → Int) (hgh : tr_dep ((fw_g W 366 0)) (fun z_ => (fw_g W 366 (2 + 3 * z_))) δ ∧ tr_met ((fw_g W 366 0)) (fun z_ => (fw_g W 366 (2 + 3 * z_))) (fun z_ => (fw_g W 366 (3 + 3 * z_))) δ D) (hpre : mt W ∧ 0 ≤ (fw_g W 366 0) ∧ (fw_g W 366 0) ≤ 14 ∧ (∀ u t, 0 ≤ u → u < (fw_g W 366 0) → 0 ≤ t → t < (fw_g W 366 0) → (fw_g W 367 (14 * u + t)) = D u t) ∧ ∃ x y : Int, 0 ≤ x ∧ x < (fw_g W 366 0) ∧ 0 ≤ y ∧ y < (fw_g W 366 0) ∧ d_ < D x y) (hP : ∀ (v : Int) , (-2147483648 ≤ v ∧ v ≤ 2147483647 ∧ (d_ < v ∧ v ≤ 2574)) → Post (some (.inl v)) W) (M4 : Int) (h4 : ∀ (best a : Int), (0 ≤ a ∧ (best = -1 ∨ (d_ < best ∧ best ≤ 2574)) ∧ (∀ x y, 0 ≤ x → x < a → 0 ≤ y → y < (fw_g W 366 0) → d_ < D x y → best ≠ -1)) → ((fw_g W 366 0) - a) < M4 → jf fw_T (d + 2) 258 4 [(0, .inr (.inl 352)), (1, .inl d_), (2, .inl best), (3, .inl a)] [] W Post) : ∀ (m : Nat) (best a b : Int), ((fw_g W 366 0) - b).toNat = m → (0 ≤ b ∧ (0 ≤ a ∧ a < (fw_g W 366 0)) ∧ (best = -1 ∨ (d_ < best ∧ best ≤ 2574)) ∧ (∀ x y, 0 ≤ x → 0 ≤ y → y < (fw_g W 366 0) → (x < a ∨ (x = a ∧ y < b)) → d_ < D x y → best ≠ -1)) → ((fw_g W 366 0) - a) ≤ M4 → jf fw_T (d + 2) 258 15 [(0, .inr (.inl 352)), (1, .inl d_), (2, .inl best), (3, .inl a), (4, .inl b)] [] W Post := by
  intro m
  induction m using Nat.strongRecOn with
  | ind m ih =>
    intro best a b hm hi e4
    refine jf_rng (fun hrg => ?_)
    have hrg : -2147483648 ≤ d_ ∧ d_ ≤ 2147483647 ∧ -2147483648 ≤ best ∧ best ≤ 2147483647 ∧ -2147483648 ≤ a ∧ a ≤ 2147483647 ∧ -2147483648 ≤ b ∧ b ≤ 2147483647 ∧ True := hrg
    refine s_nextFar2_15 ?_
    have hi1 := hi.1
    have hi2 := hi.2.1
    have hi3 := hi.2.2.1
    have w1 : b < (fw_g W 366 0) → (fw_g W 367 (14 * a + b)) = D a b ∧ 0 ≤ D a b ∧ D a b ≤ 2574 := fun z => by
      have u := mt_ms hpre.1 hgh.1 hgh.2 hi2.1 hi2.2 hi1 z
      exact ⟨hpre.2.2.2.1 a b hi2.1 hi2.2 hi1 z, u.1, u.2.1⟩
    repeat' (first
      | (exact True.intro)
      | (exact hpre.1)
      | (refine And.intro ?_ ?_)
      | (refine (h4 _ _ ?_ (by omega)); (exact ⟨by omega, by omega, fun x y x1 x2 y1 y2 hxy => hi.2.2.2 x y x1 y1 y2 (by omega) hxy⟩))
      | (refine (ih _ (by omega) _ _ _ rfl ?_ (by omega)); (
        refine ⟨by omega, by omega, by omega, fun x y x1 y1 y2 hc hxy => ?_⟩
        by_cases e : x = a ∧ y = b
        · obtain ⟨ex, ey⟩ := e
          subst ex
          subst ey
          omega
        · have := hi.2.2.2 x y x1 y1 y2 (by omega) hxy
          omega))
      | (refine hP _ ?_; (refine ⟨by omega, by omega, ?_⟩; (
        obtain ⟨x, y, x1, x2, y1, y2, hxy⟩ := hpre.2.2.2.2
        have := hi.2.2 x y x1 (by omega) y1 y2 hxy
        omega)))
      | omega
      | (intro _))
theorem lm_nextFar2_4 {Post : Option fw_V → fw_W → Prop} {d : Nat} {W : fw_W} {d_ : Int} (δ : Int → Int) (D : Int → Int → Int) (hgh : tr_dep ((fw_g W 366 0)) (fun z_ => (fw_g W 366 (2 + 3 * z_))) δ ∧ tr_met ((fw_g W 366 0)) (fun z_ => (fw_g W 366 (2 + 3 * z_))) (fun z_ => (fw_g W 366 (3 + 3 * z_))) δ D) (hpre : mt W ∧ 0 ≤ (fw_g W 366 0) ∧ (fw_g W 366 0) ≤ 14 ∧ (∀ u t, 0 ≤ u → u < (fw_g W 366 0) → 0 ≤ t → t < (fw_g W 366 0) → (fw_g W 367 (14 * u + t)) = D u t) ∧ ∃ x y : Int, 0 ≤ x ∧ x < (fw_g W 366 0) ∧ 0 ≤ y ∧ y < (fw_g W 366 0) ∧ d_ < D x y) (hP : ∀ (v : Int) , (-2147483648 ≤ v ∧ v ≤ 2147483647 ∧ (d_ < v ∧ v ≤ 2574)) → Post (some (.inl v)) W)  : ∀ (m : Nat) (best a : Int), ((fw_g W 366 0) - a).toNat = m → (0 ≤ a ∧ (best = -1 ∨ (d_ < best ∧ best ≤ 2574)) ∧ (∀ x y, 0 ≤ x → x < a → 0 ≤ y → y < (fw_g W 366 0) → d_ < D x y → best ≠ -1)) → jf fw_T (d + 2) 258 4 [(0, .inr (.inl 352)), (1, .inl d_), (2, .inl best), (3, .inl a)] [] W Post := by
  intro m
  induction m using Nat.strongRecOn with
  | ind m ih =>
    intro best a hm hi
    refine jf_rng (fun hrg => ?_)
    have hrg : -2147483648 ≤ d_ ∧ d_ ≤ 2147483647 ∧ -2147483648 ≤ best ∧ best ≤ 2147483647 ∧ -2147483648 ≤ a ∧ a ≤ 2147483647 ∧ True := hrg
    refine s_nextFar2_4 ?_
    have hi1 := hi.1
    have hi2 := hi.2.1
    repeat' (first
      | (exact True.intro)
      | (exact hpre.1)
      | (refine And.intro ?_ ?_)
      | (refine (ih _ (by omega) _ _ rfl ?_); (first | omega | trivial))
      | (refine (lm_nextFar2_15 (d_ := d_) δ D hgh hpre hP ((fw_g W 366 0) - a) (fun a0 a1 hi hl => ih _ (by omega) a0 a1 rfl hi) _ _ _ _ rfl ?_ (by omega)); (exact ⟨by omega, by omega, by omega, fun x y x1 y1 y2 hc hxy => hi.2.2 x y x1 (by omega) y1 y2 hxy⟩))
      | (refine hP _ ?_; (refine ⟨by omega, by omega, ?_⟩; (
        obtain ⟨x, y, x1, x2, y1, y2, hxy⟩ := hpre.2.2.2.2
        have := hi.2.2 x y x1 (by omega) y1 y2 hxy
        omega)))
      | omega
      | (intro _))
def x_nextFar2 : fw_X := fun as W Q => match as with
  | [.inr (.inl s_), .inl d_] => fw_if (Nat.beq s_ 352) (∃ (δ : Int → Int), ∃ (D : Int → Int → Int), (tr_dep ((fw_g W 366 0)) (fun z_ => (fw_g W 366 (2 + 3 * z_))) δ ∧ tr_met ((fw_g W 366 0)) (fun z_ => (fw_g W 366 (2 + 3 * z_))) (fun z_ => (fw_g W 366 (3 + 3 * z_))) δ D) ∧ (mt W ∧ 0 ≤ (fw_g W 366 0) ∧ (fw_g W 366 0) ≤ 14 ∧ (∀ u t, 0 ≤ u → u < (fw_g W 366 0) → 0 ≤ t → t < (fw_g W 366 0) → (fw_g W 367 (14 * u + t)) = D u t) ∧ ∃ x y : Int, 0 ≤ x ∧ x < (fw_g W 366 0) ∧ 0 ≤ y ∧ y < (fw_g W 366 0) ∧ d_ < D x y) ∧ (∀ (v : Int), (-2147483648 ≤ v ∧ v ≤ 2147483647 ∧ (d_ < v ∧ v ≤ 2574)) → Q (some (.inl v)) W))
  | _ => False
theorem x_nextFar2_ok (d : Nat) (as : List fw_V) (W : fw_W) (Q : Option fw_V → fw_W → Prop) (hx : x_nextFar2 as W Q) : jf fw_T (d + 2) 258 0 (fw_args 0 as) [] W Q := by
  unfold x_nextFar2 at hx
  split at hx
  · rename_i s_ d_
    obtain ⟨e_, δ, D, hgh, hpre, hQ⟩ := fw_if_ok hx
    have e_ := Nat.eq_of_beq_eq_true e_
    subst e_
    have hP := hQ
    refine s_nextFar2_0 ?_
    repeat' (first
      | (exact True.intro)
      | (exact hpre.1)
      | (refine And.intro ?_ ?_)
      | (refine (lm_nextFar2_4 (d_ := d_) δ D hgh hpre hP _ _ _ rfl ?_); (exact ⟨by omega, by omega, fun x y x1 x2 => by omega⟩))
      | (refine (lm_nextFar2_15 (d_ := d_) δ D hgh hpre hP M4 h4 _ _ _ _ rfl ?_ (by omega)); (first | omega | trivial))
      | (refine hP _ ?_; (refine ⟨by omega, by omega, ?_⟩; (
        obtain ⟨x, y, x1, x2, y1, y2, hxy⟩ := hpre.2.2.2.2
        have := hi.2.2 x y x1 (by omega) y1 y2 hxy
        omega)))
      | omega
      | (intro _))
  · exact hx.elim

def fr_257 : fw_P := [(0, 2, 0, 0, 0), (1, 0, 0, 0, 0), (2, 51, 12, 27, 0), (5, 1, 1, 0, 0), (6, 0, 0, 0, 1), (7, 0, 0, 0, 4), (8, 65, 214, 3, 300), (11, 20, 21, 0, 0), (14, 2, 0, 0, 0), (15, 64, 188, 0, 112), (18, 21, 23, 0, 0), (21, 0, 0, 0, -1), (22, 70, 0, 0, 0), (23, 0, 0, 0, 0), (24, 3, 2, 0, 0), (25, 2, 0, 0, 0), (26, 1, 2, 0, 0), (27, 64, 248, 1, 612), (30, 65, 251, 1, 300), (33, 1, 1, 0, 0), (34, 15, 46, 0, 0), (37, 2, 0, 0, 0), (38, 1, 2, 0, 0), (39, 64, 258, 1, 612), (42, 3, 2, 0, 0), (43, 6, 25, 0, 0), (46, 2, 0, 0, 0), (47, 1, 2, 0, 0), (48, 64, 248, 1, 612), (51, 3, 3, 0, 0), (52, 0, 0, 0, 0), (53, 3, 4, 0, 0), (55, 1, 4, 0, 0), (57, 2, 0, 0, 0), (58, 64, 188, 0, 112), (61, 13, 86, 0, 0), (64, 1, 3, 0, 0), (65, 1, 4, 0, 0), (67, 40, 0, 0, 0), (68, 0, 0, 0, 1), (69, 36, 0, 0, 0), (70, 0, 0, 0, 1), (71, 11, 80, 0, 0), (74, 2, 0, 0, 0), (75, 1, 4, 0, 0), (77, 64, 225, 1, 212), (80, 5, 4, 0, 1), (83, 6, 55, 0, 0), (86, 1, 2, 0, 0), (87, 70, 0, 0, 0)]
theorem fr_257_ok : fw_mk 257 5 12 (some .int) fr_257 = true := by decide +kernel
def ct_wells : List (Nat × fw_X) := [(225, x_add), (251, x_bitsOf2), (214, x_isIn), (188, x_many), (258, x_nextFar2), (248, x_wardensBy3)]
theorem ct_wells_ok (d : Nat) : fw_cok fw_T (d + 6) ct_wells := by
  intro q hq as W Q h
  simp only [ct_wells, List.mem_cons, List.not_mem_nil, or_false] at hq
  rcases hq with rfl | rfl | rfl | rfl | rfl | rfl
  · exact jc_of (x_add_ok (d + 5) as W Q h)
  · exact jc_of (x_bitsOf2_ok (d + 5) as W Q h)
  · exact jc_of (x_isIn_ok (d + 5) as W Q h)
  · exact jc_of (x_many_ok (d + 5) as W Q h)
  · exact jc_of (x_nextFar2_ok (d + 4) as W Q h)
  · exact jc_of (x_wardensBy3_ok (d + 0) as W Q h)
theorem s_wells_0 {Post : Option fw_V → fw_W → Prop} {d : Nat} {W : fw_W} {k_ : Int}
    (hw_ : 0 ≤ (0 : Int) ∧ (0 : Int) ≤ 16 ∧ ((True) ∧ (∀ (r1 : Int), ((0 ≤ r1 ∧ r1 ≤ 1 ∧ ((r1 = 1 ∧ (1 : Int) ≤ k_ ∧ k_ ≤ (4 : Int)) ∨ (r1 = 0 ∧ (k_ < (1 : Int) ∨ (4 : Int) < k_))))) → ((r1 = 0 → (-2147483648 ≤ (-1 : Int) → (-1 : Int) ≤ 2147483647 → Post (some (.inl (-1 : Int))) (fw_up W 352 27 (0 : Int)))) ∧ (¬ r1 = 0 → (True) ∧ (((¬ (fw_g W 366 0) = 0 → jf fw_T (d + 7) 257 25 [(0, .inr (.inl 352)), (1, .inl k_), (2, .inl (0 : Int))] [] (fw_up W 352 27 (0 : Int)) Post) ∧ ((fw_g W 366 0) = 0 → (-2147483648 ≤ (-1 : Int) → (-1 : Int) ≤ 2147483647 → Post (some (.inl (-1 : Int))) (fw_up W 352 27 (0 : Int))))))))))) :
    jf fw_T (d + 7) 257 0 [(0, .inr (.inl 352)), (1, .inl k_)] [] W Post := fw_ok (n := 14) (ss := [(25, [0, 1, 2]), (55, [0, 2, 3, 4])]) (hv := []) fr_257_ok fm_ok (ct_wells_ok d) hw_

theorem s_wells_55 {Post : Option fw_V → fw_W → Prop} {d : Nat} {W : fw_W} {dd set h : Int} {f : fw_W}
    (hw_ : (True) ∧ ((((fw_g W 366 0) ≤ h → (-2147483648 ≤ dd → dd ≤ 2147483647 → Post (some (.inl dd)) (fw_put [367, 370, 368] 352 [27] W f))) ∧ (h < (fw_g W 366 0) → (-2147483648 ≤ (fw_shr set h) → (fw_shr set h) ≤ 2147483647 → (-2147483648 ≤ (fw_and (fw_shr set h) (1 : Int)) → (fw_and (fw_shr set h) (1 : Int)) ≤ 2147483647 → ((¬ (fw_and (fw_shr set h) (1 : Int)) = (1 : Int) → -2147483648 ≤ h + (1 : Int) ∧ h + (1 : Int) ≤ 2147483647 ∧ (jf fw_T (d + 7) 257 55 [(0, .inr (.inl 352)), (2, .inl dd), (3, .inl set), (4, .inl (h + (1 : Int)))] [] (fw_put [367, 370, 368] 352 [27] W f) Post)) ∧ ((fw_and (fw_shr set h) (1 : Int)) = (1 : Int) → (0 ≤ (fw_g f 352 27) ∧ (fw_g f 352 27) ≤ 15) ∧ (∀ (f1 : fw_W), (((fw_g f1 352 27) = (fw_g f 352 27) + 1)) → -2147483648 ≤ h + (1 : Int) ∧ h + (1 : Int) ≤ 2147483647 ∧ (jf fw_T (d + 7) 257 55 [(0, .inr (.inl 352)), (2, .inl dd), (3, .inl set), (4, .inl (h + (1 : Int)))] [] (fw_put [368] 352 [27] (fw_put [367, 370, 368] 352 [27] W f) f1) Post)))))))))) :
    jf fw_T (d + 7) 257 55 [(0, .inr (.inl 352)), (2, .inl dd), (3, .inl set), (4, .inl h)] [] (fw_put [367, 370, 368] 352 [27] W f) Post := fw_ok (n := 17) (ss := [(25, [0, 1, 2]), (55, [0, 2, 3, 4])]) (hv := []) fr_257_ok fm_ok (ct_wells_ok d) hw_

theorem s_wells_25 {Post : Option fw_V → fw_W → Prop} {d : Nat} {W : fw_W} {k_ dd : Int} {f : fw_W}
    (hw_ : ∃ (δ_1 : Int → Int), ∃ (D_2 : Int → Int → Int), (tr_dep ((fw_g W 366 0)) (fun z_ => (fw_g W 366 (2 + 3 * z_))) δ_1 ∧ tr_met ((fw_g W 366 0)) (fun z_ => (fw_g W 366 (2 + 3 * z_))) (fun z_ => (fw_g W 366 (3 + 3 * z_))) δ_1 D_2) ∧ (mt (fw_put [367, 370, 368] 352 [27] W f) ∧ 0 ≤ (fw_g W 366 0) ∧ (fw_g W 366 0) ≤ 14 ∧ 1 ≤ (fw_g W 366 0)) ∧ (∀ (r3 : Int) (f4 : fw_W), ((-2147483648 ≤ r3 ∧ r3 ≤ 2147483647 ∧ ((∀ u t, 0 ≤ u → u < (fw_g W 366 0) → 0 ≤ t → t < (fw_g W 366 0) → (fw_g f4 367 (14 * u + t)) = D_2 u t) ∧ 0 ≤ r3 ∧ r3 < 16384 ∧ ((∀ x, 0 ≤ x → x < (fw_g W 366 0) → D_2 x 0 ≤ dd) → pcv r3 ≤ 1)))) → (0 ≤ r3 ∧ r3 ≤ 2147483647) ∧ (∀ (r5 : Int), ((-2147483648 ≤ r5 ∧ r5 ≤ 2147483647 ∧ (r5 = pcv r3))) → ((r5 ≤ k_ → ∃ (δ_6 : Int → Int), ∃ (D_7 : Int → Int → Int), (tr_dep ((fw_g W 366 0)) (fun z_ => (fw_g W 366 (2 + 3 * z_))) δ_6 ∧ tr_met ((fw_g W 366 0)) (fun z_ => (fw_g W 366 (2 + 3 * z_))) (fun z_ => (fw_g W 366 (3 + 3 * z_))) δ_6 D_7) ∧ (mt (fw_put [367, 370] 352 [] (fw_put [367, 370, 368] 352 [27] W f) f4) ∧ 0 ≤ (fw_g W 366 0) ∧ (fw_g W 366 0) ≤ 14 ∧ 1 ≤ (fw_g W 366 0)) ∧ (∀ (r8 : Int) (f9 : fw_W), ((-2147483648 ≤ r8 ∧ r8 ≤ 2147483647 ∧ ((∀ u t, 0 ≤ u → u < (fw_g W 366 0) → 0 ≤ t → t < (fw_g W 366 0) → (fw_g f9 367 (14 * u + t)) = D_7 u t) ∧ 0 ≤ r8 ∧ r8 < 16384 ∧ ((∀ x, 0 ≤ x → x < (fw_g W 366 0) → D_7 x 0 ≤ dd) → pcv r8 ≤ 1)))) → jf fw_T (d + 7) 257 55 [(0, .inr (.inl 352)), (2, .inl dd), (3, .inl r8), (4, .inl (0 : Int))] [] (fw_put [367, 370] 352 [] (fw_put [367, 370] 352 [] (fw_put [367, 370, 368] 352 [27] W f) f4) f9) Post)) ∧ (k_ < r5 → ∃ (δ_10 : Int → Int), ∃ (D_11 : Int → Int → Int), (tr_dep ((fw_g W 366 0)) (fun z_ => (fw_g W 366 (2 + 3 * z_))) δ_10 ∧ tr_met ((fw_g W 366 0)) (fun z_ => (fw_g W 366 (2 + 3 * z_))) (fun z_ => (fw_g W 366 (3 + 3 * z_))) δ_10 D_11) ∧ (mt (fw_put [367, 370] 352 [] (fw_put [367, 370, 368] 352 [27] W f) f4) ∧ 0 ≤ (fw_g W 366 0) ∧ (fw_g W 366 0) ≤ 14 ∧ (∀ u t, 0 ≤ u → u < (fw_g W 366 0) → 0 ≤ t → t < (fw_g W 366 0) → (fw_g f4 367 (14 * u + t)) = D_11 u t) ∧ ∃ x y : Int, 0 ≤ x ∧ x < (fw_g W 366 0) ∧ 0 ≤ y ∧ y < (fw_g W 366 0) ∧ dd < D_11 x y) ∧ (∀ (r12 : Int), ((-2147483648 ≤ r12 ∧ r12 ≤ 2147483647 ∧ (dd < r12 ∧ r12 ≤ 2574))) → jf fw_T (d + 7) 257 25 [(0, .inr (.inl 352)), (1, .inl k_), (2, .inl r12)] [] (fw_put [367, 370] 352 [] (fw_put [367, 370, 368] 352 [27] W f) f4) Post)))))) :
    jf fw_T (d + 7) 257 25 [(0, .inr (.inl 352)), (1, .inl k_), (2, .inl dd)] [] (fw_put [367, 370, 368] 352 [27] W f) Post := fw_ok (n := 13) (ss := [(25, [0, 1, 2]), (55, [0, 2, 3, 4])]) (hv := []) fr_257_ok fm_ok (ct_wells_ok d) hw_

theorem lm_wells_55 {Post : Option fw_V → fw_W → Prop} {d : Nat} {W : fw_W} {k_ : Int} (δ : Int → Int) (D : Int → Int → Int) (hgh : tr_dep ((fw_g W 366 0)) (fun z_ => (fw_g W 366 (2 + 3 * z_))) δ ∧ tr_met ((fw_g W 366 0)) (fun z_ => (fw_g W 366 (2 + 3 * z_))) (fun z_ => (fw_g W 366 (3 + 3 * z_))) δ D) (hpre : mt W ∧ 0 ≤ (fw_g W 366 0) ∧ (fw_g W 366 0) ≤ 14) (hP : ∀ (v : Int) (W2 : fw_W), fw_sm [367, 370, 368] 352 [27] W W2 → (-2147483648 ≤ v ∧ v ≤ 2147483647 ∧ (True)) → Post (some (.inl v)) W2)  : ∀ (m : Nat) (dd set h : Int) (f : fw_W), ((fw_g W 366 0) - h).toNat = m → 0 ≤ h ∧ (0 ≤ (fw_g f 352 27) ∧ (fw_g f 352 27) ≤ h) → jf fw_T (d + 7) 257 55 [(0, .inr (.inl 352)), (2, .inl dd), (3, .inl set), (4, .inl h)] [] (fw_put [367, 370, 368] 352 [27] W f) Post := by
  intro m
  induction m using Nat.strongRecOn with
  | ind m ih =>
    intro dd set h f hm hi
    refine jf_rng (fun hrg => ?_)
    have hrg : -2147483648 ≤ dd ∧ dd ≤ 2147483647 ∧ -2147483648 ≤ set ∧ set ≤ 2147483647 ∧ -2147483648 ≤ h ∧ h ≤ 2147483647 ∧ True := hrg
    refine s_wells_55 ?_
    repeat' (first
      | (exact True.intro)
      | (exact hpre.1)
      | (refine And.intro ?_ ?_)
      | (refine (ih _ (by omega) _ _ _ _ rfl ?_); (first | omega | trivial | (simp (config := { decide := true }) only [fg_in, fg_fin, fg_out, fg_fout, fg_up, fg_same, true_and, and_true] <;> omega)))
      | (refine jf_put (S := [367, 370, 368]) (o := 352) (F := [27]) (W := W) (by repeat (first | exact fw_sm_refl | exact fw_sm_put0 | refine fw_sm_arr ?_ rfl | refine fw_sm_up ?_ rfl | refine fw_sm_put ?_ rfl | refine fw_sm_cp ?_ rfl)) (ih _ (by omega) _ _ _ _ rfl ?_); (first | omega | trivial | (simp (config := { decide := true }) only [fg_in, fg_fin, fg_out, fg_fout, fg_up, fg_same, true_and, and_true] <;> omega)))
      | (refine hP _ _ (by repeat (first | exact fw_sm_refl | exact fw_sm_put0 | refine fw_sm_arr ?_ rfl | refine fw_sm_up ?_ rfl | refine fw_sm_put ?_ rfl | refine fw_sm_cp ?_ rfl)) ?_; (refine ⟨by omega, by omega, ?_⟩; (first | trivial | omega)))
      | omega
      | (intro _))
theorem lm_wells_25 {Post : Option fw_V → fw_W → Prop} {d : Nat} {W : fw_W} {k_ : Int} (δ : Int → Int) (D : Int → Int → Int) (hgh : tr_dep ((fw_g W 366 0)) (fun z_ => (fw_g W 366 (2 + 3 * z_))) δ ∧ tr_met ((fw_g W 366 0)) (fun z_ => (fw_g W 366 (2 + 3 * z_))) (fun z_ => (fw_g W 366 (3 + 3 * z_))) δ D) (hpre : mt W ∧ 0 ≤ (fw_g W 366 0) ∧ (fw_g W 366 0) ≤ 14) (hP : ∀ (v : Int) (W2 : fw_W), fw_sm [367, 370, 368] 352 [27] W W2 → (-2147483648 ≤ v ∧ v ≤ 2147483647 ∧ (True)) → Post (some (.inl v)) W2)  : ∀ (m : Nat) (dd : Int) (f : fw_W), (2574 - dd).toNat = m → (0 ≤ dd ∧ dd ≤ 2574) ∧ 1 ≤ (fw_g W 366 0) ∧ (fw_g f 352 27) = 0 ∧ 1 ≤ k_ → jf fw_T (d + 7) 257 25 [(0, .inr (.inl 352)), (1, .inl k_), (2, .inl dd)] [] (fw_put [367, 370, 368] 352 [27] W f) Post := by
  intro m
  induction m using Nat.strongRecOn with
  | ind m ih =>
    intro dd f hm hi
    refine jf_rng (fun hrg => ?_)
    have hrg : -2147483648 ≤ k_ ∧ k_ ≤ 2147483647 ∧ -2147483648 ≤ dd ∧ dd ≤ 2147483647 ∧ True := hrg
    refine s_wells_25 ?_
    repeat' (first
      | (refine ⟨δ, D, hgh, ?_⟩)
      | (rename_i r1 f1 hw1 r2 h2 hc
         refine ⟨hw1.2.2.1, ?_⟩
         apply Classical.byContradiction
         intro hne
         have hall : ∀ y, 0 ≤ y → y < (fw_g W 366 0) → D y 0 ≤ dd := fun y y1 y2 => by
           apply Classical.byContradiction
           intro hgt
           exact hne ⟨y, 0, y1, y2, by omega, by omega, by omega⟩
         have := hw1.2.2.2.2.2 hall
         omega)
      | (exact True.intro)
      | (exact hpre.1)
      | (refine And.intro ?_ ?_)
      | (refine (ih _ (by omega) _ _ rfl ?_); (refine ⟨by omega, by omega, ?_, by omega⟩; simp (config := { decide := true }) only [fg_in, fg_fin, fg_out, fg_fout, fg_up, fg_same, true_and, and_true]; omega))
      | (refine jf_put (S := [367, 370, 368]) (o := 352) (F := [27]) (W := W) (by repeat (first | exact fw_sm_refl | exact fw_sm_put0 | refine fw_sm_arr ?_ rfl | refine fw_sm_up ?_ rfl | refine fw_sm_put ?_ rfl | refine fw_sm_cp ?_ rfl)) (ih _ (by omega) _ _ rfl ?_); (refine ⟨by omega, by omega, ?_, by omega⟩; simp (config := { decide := true }) only [fg_in, fg_fin, fg_out, fg_fout, fg_up, fg_same, true_and, and_true]; omega))
      | (refine (lm_wells_55 (k_ := k_) δ D hgh hpre hP _ _ _ _ _ rfl ?_); (first | omega | trivial | (simp (config := { decide := true }) only [fg_in, fg_fin, fg_out, fg_fout, fg_up, fg_same, true_and, and_true] <;> omega)))
      | (refine jf_put (S := [367, 370, 368]) (o := 352) (F := [27]) (W := W) (by repeat (first | exact fw_sm_refl | exact fw_sm_put0 | refine fw_sm_arr ?_ rfl | refine fw_sm_up ?_ rfl | refine fw_sm_put ?_ rfl | refine fw_sm_cp ?_ rfl)) (lm_wells_55 (k_ := k_) δ D hgh hpre hP _ _ _ _ _ rfl ?_); (first | omega | trivial | (simp (config := { decide := true }) only [fg_in, fg_fin, fg_out, fg_fout, fg_up, fg_same, true_and, and_true] <;> omega)))
      | (refine hP _ _ (by repeat (first | exact fw_sm_refl | exact fw_sm_put0 | refine fw_sm_arr ?_ rfl | refine fw_sm_up ?_ rfl | refine fw_sm_put ?_ rfl | refine fw_sm_cp ?_ rfl)) ?_; (refine ⟨by omega, by omega, ?_⟩; (first | trivial | omega)))
      | omega
      | (intro _))
def x_wells : fw_X := fun as W Q => match as with
  | [.inr (.inl s_), .inl k_] => fw_if (Nat.beq s_ 352) ((mt W ∧ 0 ≤ (fw_g W 366 0) ∧ (fw_g W 366 0) ≤ 14) ∧ (∀ (v : Int) (f : fw_W), (-2147483648 ≤ v ∧ v ≤ 2147483647 ∧ (True)) → Q (some (.inl v)) (fw_put [367, 370, 368] 352 [27] W f)))
  | _ => False
theorem x_wells_ok (d : Nat) (as : List fw_V) (W : fw_W) (Q : Option fw_V → fw_W → Prop) (hx : x_wells as W Q) : jf fw_T (d + 7) 257 0 (fw_args 0 as) [] W Q := by
  unfold x_wells at hx
  split at hx
  · rename_i s_ k_
    obtain ⟨e_, hpre, hQ⟩ := fw_if_ok hx
    have e_ := Nat.eq_of_beq_eq_true e_
    subst e_
    have hP : ∀ (v : Int) (W2 : fw_W), fw_sm [367, 370, 368] 352 [27] W W2 → _ → Q (some (.inl v)) W2 := fun v W2 hs hr => fw_sm_use (Q := fun Z => Q (some (.inl v)) Z) hs (hQ v W2 hr)
    obtain ⟨δ, hδ⟩ := tr_has hpre.1.2.2.1
    obtain ⟨D, hD⟩ := tr_hasm hpre.1.2.2.1 hδ hpre.2.2 (fun z_ => fw_g W 366 (3 + 3 * z_))
    have hgh : _ ∧ _ := ⟨hδ, hD⟩
    refine s_wells_0 ?_
    repeat' (first
      | (exact True.intro)
      | (exact hpre.1)
      | (refine And.intro ?_ ?_)
      | (refine jf_put (S := [367, 370, 368]) (o := 352) (F := [27]) (W := W) (by repeat (first | exact fw_sm_refl | exact fw_sm_put0 | refine fw_sm_arr ?_ rfl | refine fw_sm_up ?_ rfl | refine fw_sm_put ?_ rfl | refine fw_sm_cp ?_ rfl)) (lm_wells_25 (k_ := k_) δ D hgh hpre hP _ _ _ rfl ?_); (refine ⟨by omega, by omega, ?_, by omega⟩; exact fg_same (by omega) (by omega)))
      | (refine jf_put (S := [367, 370, 368]) (o := 352) (F := [27]) (W := W) (by repeat (first | exact fw_sm_refl | exact fw_sm_put0 | refine fw_sm_arr ?_ rfl | refine fw_sm_up ?_ rfl | refine fw_sm_put ?_ rfl | refine fw_sm_cp ?_ rfl)) (lm_wells_55 (k_ := k_) δ D hgh hpre hP _ _ _ _ _ rfl ?_); (first | omega | trivial | (simp (config := { decide := true }) only [fg_in, fg_fin, fg_out, fg_fout, fg_up, fg_same, true_and, and_true] <;> omega)))
      | (refine hP _ _ (by repeat (first | exact fw_sm_refl | exact fw_sm_put0 | refine fw_sm_arr ?_ rfl | refine fw_sm_up ?_ rfl | refine fw_sm_put ?_ rfl | refine fw_sm_cp ?_ rfl)) ?_; (refine ⟨by omega, by omega, ?_⟩; (first | trivial | omega)))
      | omega
      | (intro _))
  · exact hx.elim

