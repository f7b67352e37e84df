/-! the reference, method by method -/
theorem or_bit {x k : Int} (h0 : 0 ≤ x) (h1 : x < 16384) (k0 : 0 ≤ k) (k1 : k < 14) : 0 ≤ fw_or x (fw_shl 1 k) ∧ fw_or x (fw_shl 1 k) < 16384 ∧ ∀ q : Nat, (fw_or x (fw_shl 1 k)).toNat.testBit q = (x.toNat.testBit q || decide (q = k.toNat)) := by
  have e := fw_shl1 k0 (by omega)
  have hp : (2 : Nat) ^ k.toNat < 2 ^ 14 := Nat.pow_lt_pow_right (by omega) (by omega)
  have b := fw_or_b (x := x) (y := fw_shl 1 k) 14 (by omega) h0 (by omega) (by omega) (by omega)
  refine ⟨b.1, b.2, fun q => ?_⟩
  rw [fw_or_nat h0 (by omega) (by omega) (by omega), Int.toNat_natCast, Nat.testBit_or, e.1, Int.toNat_natCast, Nat.testBit_two_pow]
  congr 1
  exact decide_eq_decide.mpr ⟨fun h => h.symm, fun h => h.symm⟩
theorem or_zero {x : Int} (h0 : 0 ≤ x) (h1 : x ≤ 2147483647) : fw_or x 0 = x := by
  rw [fw_or_nat h0 h1 (by omega) (by omega)]
  have : (0 : Int).toNat = 0 := rfl
  rw [this, Nat.or_zero]
  omega
theorem and_one {x : Int} (h0 : 0 ≤ x) (h1 : x ≤ 2147483647) : (fw_and x 1 = 0 ↔ x.toNat.testBit 0 = false) := by
  have e := fw_and_nat (x := x) (y := 1) h0 h1 (by omega) (by omega)
  have e1 : (1 : Int).toNat = 1 := rfl
  rw [e1, Nat.and_one_is_mod] at e
  rw [e, Nat.testBit_zero]
  by_cases c : x.toNat % 2 = 1
  · simp [c]
  · have c0 : x.toNat % 2 = 0 := by omega
    simp [c0]
def ct_layNear2 : List (Nat × fw_X) := [(222, x_layWays2), (188, x_many)]
theorem ct_layNear2_ok (d : Nat) : fw_cok fw_T (d + 4) ct_layNear2 := by
  intro q hq as W Q h
  simp only [ct_layNear2, List.mem_cons, List.not_mem_nil, or_false] at hq
  rcases hq with rfl | rfl
  · exact jc_of (x_layWays2_ok (d + 0) as W Q h)
  · exact jc_of (x_many_ok (d + 3) as W Q h)
theorem s_layNear2_0 {Post : Option fw_V → fw_W → Prop} {d : Nat} {W : fw_W} {d_ : Int}
    (hw_ : ∃ (δ_1 : Int → Int), ∃ (D_2 : Int → Int → Int), (tr_dep ((fw_g W 366 0)) (fun z_ => (fw_g W 366 (2 + 3 * z_))) δ_1 ∧ tr_met ((fw_g W 366 0)) (fun z_ => (fw_g W 366 (2 + 3 * z_))) (fun z_ => (fw_g W 366 (3 + 3 * z_))) δ_1 D_2) ∧ (mt W ∧ 0 ≤ (fw_g W 366 0) ∧ (fw_g W 366 0) ≤ 14) ∧ (∀ (f3 : fw_W), ((∀ x y, 0 ≤ x → x < (fw_g W 366 0) → 0 ≤ y → y < (fw_g W 366 0) → (fw_g f3 367 (14 * x + y)) = D_2 x y)) → jf fw_T (d + 5) 249 6 [(0, .inr (.inl 352)), (1, .inl d_), (2, .inl (0 : Int))] [] (fw_put [367] 352 [] W f3) Post)) :
    jf fw_T (d + 5) 249 0 [(0, .inr (.inl 352)), (1, .inl d_)] [] W Post := fw_ok (n := 5) (ss := [(6, [0, 1, 2]), (23, [0, 1, 2, 3])]) (hv := []) fr_249_ok fm_ok (ct_layNear2_ok d) hw_

theorem s_layNear2_23 {Post : Option fw_V → fw_W → Prop} {d : Nat} {W : fw_W} {d_ h k : Int} {f : fw_W}
    (hw_ : (True) ∧ ((((fw_g W 366 0) ≤ k → -2147483648 ≤ h + (1 : Int) ∧ h + (1 : Int) ≤ 2147483647 ∧ (jf fw_T (d + 5) 249 6 [(0, .inr (.inl 352)), (1, .inl d_), (2, .inl (h + (1 : Int)))] [] (fw_put [367, 370] 352 [] W f) Post)) ∧ (k < (fw_g W 366 0) → 0 ≤ h ∧ h < 14 ∧ (-2147483648 ≤ (fw_g f 370 h) → (fw_g f 370 h) ≤ 2147483647 → -2147483648 ≤ (14 : Int) * h ∧ (14 : Int) * h ≤ 2147483647 ∧ (-2147483648 ≤ ((14 : Int) * h) + k ∧ ((14 : Int) * h) + k ≤ 2147483647 ∧ (0 ≤ (((14 : Int) * h) + k) ∧ (((14 : Int) * h) + k) < 196 ∧ (-2147483648 ≤ (fw_g f 367 (((14 : Int) * h) + k)) → (fw_g f 367 (((14 : Int) * h) + k)) ≤ 2147483647 → ((d_ < (fw_g f 367 (((14 : Int) * h) + k)) → (-2147483648 ≤ (fw_or (fw_g f 370 h) (0 : Int)) → (fw_or (fw_g f 370 h) (0 : Int)) ≤ 2147483647 → 0 ≤ h ∧ h < 14 ∧ -2147483648 ≤ (fw_or (fw_g f 370 h) (0 : Int)) ∧ (fw_or (fw_g f 370 h) (0 : Int)) ≤ 2147483647 ∧ (-2147483648 ≤ k + (1 : Int) ∧ k + (1 : Int) ≤ 2147483647 ∧ (jf fw_T (d + 5) 249 23 [(0, .inr (.inl 352)), (1, .inl d_), (2, .inl h), (3, .inl (k + (1 : Int)))] [] (fw_up (fw_put [367, 370] 352 [] W f) 370 h (fw_or (fw_g f 370 h) (0 : Int))) Post)))) ∧ ((fw_g f 367 (((14 : Int) * h) + k)) ≤ d_ → (-2147483648 ≤ (fw_shl (1 : Int) k) → (fw_shl (1 : Int) k) ≤ 2147483647 → (-2147483648 ≤ (fw_or (fw_g f 370 h) (fw_shl (1 : Int) k)) → (fw_or (fw_g f 370 h) (fw_shl (1 : Int) k)) ≤ 2147483647 → 0 ≤ h ∧ h < 14 ∧ -2147483648 ≤ (fw_or (fw_g f 370 h) (fw_shl (1 : Int) k)) ∧ (fw_or (fw_g f 370 h) (fw_shl (1 : Int) k)) ≤ 2147483647 ∧ (-2147483648 ≤ k + (1 : Int) ∧ k + (1 : Int) ≤ 2147483647 ∧ (jf fw_T (d + 5) 249 23 [(0, .inr (.inl 352)), (1, .inl d_), (2, .inl h), (3, .inl (k + (1 : Int)))] [] (fw_up (fw_put [367, 370] 352 [] W f) 370 h (fw_or (fw_g f 370 h) (fw_shl (1 : Int) k))) Post)))))))))))))) :
    jf fw_T (d + 5) 249 23 [(0, .inr (.inl 352)), (1, .inl d_), (2, .inl h), (3, .inl k)] [] (fw_put [367, 370] 352 [] W f) Post := fw_ok (n := 28) (ss := [(6, [0, 1, 2]), (23, [0, 1, 2, 3])]) (hv := []) fr_249_ok fm_ok (ct_layNear2_ok d) hw_

theorem s_layNear2_6 {Post : Option fw_V → fw_W → Prop} {d : Nat} {W : fw_W} {d_ h : Int} {f : fw_W}
    (hw_ : (True) ∧ ((((fw_g W 366 0) ≤ h → Post none (fw_put [367, 370] 352 [] W f)) ∧ (h < (fw_g W 366 0) → 0 ≤ h ∧ h < 14 ∧ -2147483648 ≤ (0 : Int) ∧ (0 : Int) ≤ 2147483647 ∧ (jf fw_T (d + 5) 249 23 [(0, .inr (.inl 352)), (1, .inl d_), (2, .inl h), (3, .inl (0 : Int))] [] (fw_up (fw_put [367, 370] 352 [] W f) 370 h (0 : Int)) Post))))) :
    jf fw_T (d + 5) 249 6 [(0, .inr (.inl 352)), (1, .inl d_), (2, .inl h)] [] (fw_put [367, 370] 352 [] W f) Post := fw_ok (n := 12) (ss := [(6, [0, 1, 2]), (23, [0, 1, 2, 3])]) (hv := []) fr_249_ok fm_ok (ct_layNear2_ok d) hw_

theorem lm_layNear2_23 {Post : Option fw_V → fw_W → Prop} {d : Nat} {W : fw_W} {d_ : Int} (δ : Int → Int) (D : Int → Int → Int) (hgh : tr_dep ((fw_g W 366 0)) (fun z_ => (fw_g W 366 (2 + 3 * z_))) δ ∧ tr_met ((fw_g W 366 0)) (fun z_ => (fw_g W 366 (2 + 3 * z_))) (fun z_ => (fw_g W 366 (3 + 3 * z_))) δ D) (hpre : mt W ∧ 0 ≤ (fw_g W 366 0) ∧ (fw_g W 366 0) ≤ 14) (hP : ∀ (W2 : fw_W), fw_sm [367, 370] 352 [] W W2 → ((∀ u t, 0 ≤ u → u < (fw_g W 366 0) → 0 ≤ t → t < (fw_g W 366 0) → (fw_g W2 367 (14 * u + t)) = D u t) ∧ (∀ x q, 0 ≤ x → x < (fw_g W 366 0) → 0 ≤ q → q < (fw_g W 366 0) → (0 ≤ (fw_g W2 370 x) ∧ (fw_g W2 370 x) < 16384 ∧ ((fw_g W2 370 x).toNat.testBit q.toNat = true ↔ D x q ≤ d_)))) → Post none W2) (M6 : Int) (h6 : ∀ (h : Int) (f : fw_W), (0 ≤ h ∧ (∀ u t, 0 ≤ u → u < (fw_g W 366 0) → 0 ≤ t → t < (fw_g W 366 0) → (fw_g f 367 (14 * u + t)) = D u t) ∧ (∀ x q, 0 ≤ x → x < h → 0 ≤ q → q < (fw_g W 366 0) → (0 ≤ (fw_g f 370 x) ∧ (fw_g f 370 x) < 16384 ∧ ((fw_g f 370 x).toNat.testBit q.toNat = true ↔ D x q ≤ d_)))) → ((fw_g W 366 0) - h) < M6 → jf fw_T (d + 5) 249 6 [(0, .inr (.inl 352)), (1, .inl d_), (2, .inl h)] [] (fw_put [367, 370] 352 [] W f) Post) : ∀ (m : Nat) (h k : Int) (f : fw_W), ((fw_g W 366 0) - k).toNat = m → (0 ≤ k ∧ (∀ u t, 0 ≤ u → u < (fw_g W 366 0) → 0 ≤ t → t < (fw_g W 366 0) → (fw_g f 367 (14 * u + t)) = D u t) ∧ (0 ≤ h ∧ h < (fw_g W 366 0) ∧ k ≤ (fw_g W 366 0)) ∧ (∀ x q, 0 ≤ x → x < h → 0 ≤ q → q < (fw_g W 366 0) → (0 ≤ (fw_g f 370 x) ∧ (fw_g f 370 x) < 16384 ∧ ((fw_g f 370 x).toNat.testBit q.toNat = true ↔ D x q ≤ d_))) ∧ (0 ≤ (fw_g f 370 h) ∧ (fw_g f 370 h) < 16384 ∧ (∀ q, 0 ≤ q → (q < k → ((fw_g f 370 h).toNat.testBit q.toNat = true ↔ D h q ≤ d_)) ∧ (k ≤ q → (fw_g f 370 h).toNat.testBit q.toNat = false))) ∧ True) → ((fw_g W 366 0) - h) ≤ M6 → jf fw_T (d + 5) 249 23 [(0, .inr (.inl 352)), (1, .inl d_), (2, .inl h), (3, .inl k)] [] (fw_put [367, 370] 352 [] W f) Post := by
  intro m
  induction m using Nat.strongRecOn with
  | ind m ih =>
    intro h k f hm hi e6
    refine jf_rng (fun hrg => ?_)
    have hrg : -2147483648 ≤ d_ ∧ d_ ≤ 2147483647 ∧ -2147483648 ≤ h ∧ h ≤ 2147483647 ∧ -2147483648 ≤ k ∧ k ≤ 2147483647 ∧ True := hrg
    refine s_layNear2_23 ?_
    have hi1 := hi.1
    have hi3 := hi.2.2.1
    have hi5 := hi.2.2.2.2.1.1
    have hi6 := hi.2.2.2.2.1.2.1
    have wk := fun z : k < (fw_g W 366 0) => hi.2.1 h k hi3.1 hi3.2.1 hi1 z
    have or1 := fun z : k < (fw_g W 366 0) => or_bit hi5 hi6 hi1 (by omega)
    have or2 := fun z : k < (fw_g W 366 0) => (or1 z).1
    have or3 := fun z : k < (fw_g W 366 0) => (or1 z).2.1
    repeat' (first
      | (exact True.intro)
      | (exact hpre.1)
      | (refine And.intro ?_ ?_)
      | (refine jf_put (S := [367, 370]) (o := 352) (F := []) (W := W) (by repeat (first | exact fw_sm_refl | exact fw_sm_put0 | refine fw_sm_arr ?_ rfl | refine fw_sm_up ?_ rfl | refine fw_sm_put ?_ rfl | refine fw_sm_cp ?_ rfl)) (h6 _ _ ?_ (by omega)); (
        obtain ⟨i1, i2, i3, i4, i5, i6⟩ := hi
        refine ⟨by omega, i2, fun x q x1 x2 q1 q2 => ?_⟩
        by_cases e : x = h
        · subst e
          have h9 := i5.2.2 q q1
          refine ⟨i5.1, i5.2.1, ?_⟩
          rw [fg_in rfl]
          exact (i5.2.2 q q1).1 (by omega)
        · exact i4 x q x1 (by omega) q1 q2))
      | (refine jf_put (S := [367, 370]) (o := 352) (F := []) (W := W) (by repeat (first | exact fw_sm_refl | exact fw_sm_put0 | refine fw_sm_arr ?_ rfl | refine fw_sm_up ?_ rfl | refine fw_sm_put ?_ rfl | refine fw_sm_cp ?_ rfl)) (ih _ (by omega) _ _ _ rfl ?_ (by omega)); (
        obtain ⟨i1, i2, i3, i4, i5, -⟩ := hi
        refine ⟨by omega, ?_, by omega, ?_, ?_, trivial⟩
        · intro u t u1 u2 t1 t2; rw [fg_up rfl]; exact i2 u t u1 u2 t1 t2
        · intro x q x1 x2 q1 q2
          have := i4 x q x1 x2 q1 q2
          rw [fg_if (by omega) (by omega) (by omega) (by omega), if_neg (by omega)]
          exact this
        · rw [fg_same (by omega) (by omega)]
          first
            | (have hb := (or1 (by omega)).2.2
               refine ⟨by omega, by omega, fun q q1 => ⟨fun q2 => ?_, fun q2 => ?_⟩⟩
               · rw [hb q.toNat]
                 by_cases e : q = k
                 · subst e
                   simp
                   omega
                 · have e2 : ¬ q.toNat = k.toNat := by omega
                   simp [e2]
                   exact (i5.2.2 q q1).1 (by omega)
               · rw [hb q.toNat, (i5.2.2 q q1).2 (by omega)]
                 have e2 : ¬ q.toNat = k.toNat := by omega
                 simp [e2])
            | (rw [or_zero (by omega) (by omega)]
               refine ⟨by omega, by omega, fun q q1 => ⟨fun q2 => ?_, fun q2 => (i5.2.2 q q1).2 (by omega)⟩⟩
               by_cases e : q = k
               · subst e
                 rw [(i5.2.2 q q1).2 (by omega)]
                 exact ⟨fun z => absurd z (by decide), fun z => absurd z (by omega)⟩
               · exact (i5.2.2 q q1).1 (by omega))))
      | (refine hP _ (by repeat (first | exact fw_sm_refl | exact fw_sm_put0 | refine fw_sm_arr ?_ rfl | refine fw_sm_up ?_ rfl | refine fw_sm_put ?_ rfl | refine fw_sm_cp ?_ rfl)) ?_; (exact ⟨hi.2.1, fun x q x1 x2 q1 q2 => hi.2.2 x q x1 (by omega) q1 q2⟩))
      | omega
      | (intro _))
theorem lm_layNear2_6 {Post : Option fw_V → fw_W → Prop} {d : Nat} {W : fw_W} {d_ : Int} (δ : Int → Int) (D : Int → Int → Int) (hgh : tr_dep ((fw_g W 366 0)) (fun z_ => (fw_g W 366 (2 + 3 * z_))) δ ∧ tr_met ((fw_g W 366 0)) (fun z_ => (fw_g W 366 (2 + 3 * z_))) (fun z_ => (fw_g W 366 (3 + 3 * z_))) δ D) (hpre : mt W ∧ 0 ≤ (fw_g W 366 0) ∧ (fw_g W 366 0) ≤ 14) (hP : ∀ (W2 : fw_W), fw_sm [367, 370] 352 [] W W2 → ((∀ u t, 0 ≤ u → u < (fw_g W 366 0) → 0 ≤ t → t < (fw_g W 366 0) → (fw_g W2 367 (14 * u + t)) = D u t) ∧ (∀ x q, 0 ≤ x → x < (fw_g W 366 0) → 0 ≤ q → q < (fw_g W 366 0) → (0 ≤ (fw_g W2 370 x) ∧ (fw_g W2 370 x) < 16384 ∧ ((fw_g W2 370 x).toNat.testBit q.toNat = true ↔ D x q ≤ d_)))) → Post none W2)  : ∀ (m : Nat) (h : Int) (f : fw_W), ((fw_g W 366 0) - h).toNat = m → (0 ≤ h ∧ (∀ u t, 0 ≤ u → u < (fw_g W 366 0) → 0 ≤ t → t < (fw_g W 366 0) → (fw_g f 367 (14 * u + t)) = D u t) ∧ (∀ x q, 0 ≤ x → x < h → 0 ≤ q → q < (fw_g W 366 0) → (0 ≤ (fw_g f 370 x) ∧ (fw_g f 370 x) < 16384 ∧ ((fw_g f 370 x).toNat.testBit q.toNat = true ↔ D x q ≤ d_)))) → jf fw_T (d + 5) 249 6 [(0, .inr (.inl 352)), (1, .inl d_), (2, .inl h)] [] (fw_put [367, 370] 352 [] W f) Post := by
  intro m
  induction m using Nat.strongRecOn with
  | ind m ih =>
    intro h f hm hi
    refine jf_rng (fun hrg => ?_)
    have hrg : -2147483648 ≤ d_ ∧ d_ ≤ 2147483647 ∧ -2147483648 ≤ h ∧ h ≤ 2147483647 ∧ True := hrg
    refine s_layNear2_6 ?_
    have hi1 := hi.1
    repeat' (first
      | (exact True.intro)
      | (exact hpre.1)
      | (refine And.intro ?_ ?_)
      | (refine jf_put (S := [367, 370]) (o := 352) (F := []) (W := W) (by repeat (first | exact fw_sm_refl | exact fw_sm_put0 | refine fw_sm_arr ?_ rfl | refine fw_sm_up ?_ rfl | refine fw_sm_put ?_ rfl | refine fw_sm_cp ?_ rfl)) (ih _ (by omega) _ _ rfl ?_); (first | omega | trivial | (simp (config := { decide := true }) only [fg_in, fg_fin, fg_out, fg_fout, fg_up, fg_same, true_and, and_true] <;> omega)))
      | (refine jf_put (S := [367, 370]) (o := 352) (F := []) (W := W) (by repeat (first | exact fw_sm_refl | exact fw_sm_put0 | refine fw_sm_arr ?_ rfl | refine fw_sm_up ?_ rfl | refine fw_sm_put ?_ rfl | refine fw_sm_cp ?_ rfl)) (lm_layNear2_23 (d_ := d_) δ D hgh hpre hP ((fw_g W 366 0) - h) (fun a0 af hi hl => ih _ (by omega) a0 af rfl hi) _ _ _ _ rfl ?_ (by omega)); (
        refine ⟨by omega, ?_, by omega, ?_, ?_, trivial⟩
        · intro u t u1 u2 t1 t2; rw [fg_up rfl]; exact hi.2.1 u t u1 u2 t1 t2
        · intro x q x1 x2 q1 q2
          have := hi.2.2 x q x1 x2 q1 q2
          rw [fg_if (by omega) (by omega) (by omega) (by omega), if_neg (by omega)]
          exact this
        · rw [fg_same (by omega) (by omega)]
          exact ⟨by omega, by omega, fun q q1 => ⟨fun q2 => by omega, fun _ => by simp⟩⟩))
      | (refine hP _ (by repeat (first | exact fw_sm_refl | exact fw_sm_put0 | refine fw_sm_arr ?_ rfl | refine fw_sm_up ?_ rfl | refine fw_sm_put ?_ rfl | refine fw_sm_cp ?_ rfl)) ?_; (exact ⟨hi.2.1, fun x q x1 x2 q1 q2 => hi.2.2 x q x1 (by omega) q1 q2⟩))
      | omega
      | (intro _))
def x_layNear2 : fw_X := fun as W Q => match as with
  | [.inr (.inl s_), .inl d_] => fw_if (Nat.beq s_ 352) (∃ (δ : Int → Int), ∃ (D : Int → Int → Int), (tr_dep ((fw_g W 366 0)) (fun z_ => (fw_g W 366 (2 + 3 * z_))) δ ∧ tr_met ((fw_g W 366 0)) (fun z_ => (fw_g W 366 (2 + 3 * z_))) (fun z_ => (fw_g W 366 (3 + 3 * z_))) δ D) ∧ (mt W ∧ 0 ≤ (fw_g W 366 0) ∧ (fw_g W 366 0) ≤ 14) ∧ (∀ (f : fw_W), ((∀ u t, 0 ≤ u → u < (fw_g W 366 0) → 0 ≤ t → t < (fw_g W 366 0) → (fw_g f 367 (14 * u + t)) = D u t) ∧ (∀ x q, 0 ≤ x → x < (fw_g W 366 0) → 0 ≤ q → q < (fw_g W 366 0) → (0 ≤ (fw_g f 370 x) ∧ (fw_g f 370 x) < 16384 ∧ ((fw_g f 370 x).toNat.testBit q.toNat = true ↔ D x q ≤ d_)))) → Q none (fw_put [367, 370] 352 [] W f)))
  | _ => False
theorem x_layNear2_ok (d : Nat) (as : List fw_V) (W : fw_W) (Q : Option fw_V → fw_W → Prop) (hx : x_layNear2 as W Q) : jf fw_T (d + 5) 249 0 (fw_args 0 as) [] W Q := by
  unfold x_layNear2 at hx
  split at hx
  · rename_i s_ d_
    obtain ⟨e_, δ, D, hgh, hpre, hQ⟩ := fw_if_ok hx
    have e_ := Nat.eq_of_beq_eq_true e_
    subst e_
    have hP : ∀ (W2 : fw_W), fw_sm [367, 370] 352 [] W W2 → _ → Q none W2 := fun W2 hs hr => fw_sm_use (Q := fun Z => Q none Z) hs (hQ W2 hr)
    refine s_layNear2_0 ?_
    repeat' (first
      | (exact True.intro)
      | (exact hpre.1)
      | (refine And.intro ?_ ?_)
      | (refine jf_put (S := [367, 370]) (o := 352) (F := []) (W := W) (by repeat (first | exact fw_sm_refl | exact fw_sm_put0 | refine fw_sm_arr ?_ rfl | refine fw_sm_up ?_ rfl | refine fw_sm_put ?_ rfl | refine fw_sm_cp ?_ rfl)) (lm_layNear2_6 (d_ := d_) δ D hgh hpre hP _ _ _ rfl ?_); (rename_i f1 hw1; exact ⟨by omega, hw1, fun x q x1 x2 => by omega⟩))
      | (refine jf_put (S := [367, 370]) (o := 352) (F := []) (W := W) (by repeat (first | exact fw_sm_refl | exact fw_sm_put0 | refine fw_sm_arr ?_ rfl | refine fw_sm_up ?_ rfl | refine fw_sm_put ?_ rfl | refine fw_sm_cp ?_ rfl)) (lm_layNear2_23 (d_ := d_) δ D hgh hpre hP M6 h6 _ _ _ _ rfl ?_ (by omega)); (first | omega | trivial | (simp (config := { decide := true }) only [fg_in, fg_fin, fg_out, fg_fout, fg_up, fg_same, true_and, and_true] <;> omega)))
      | (refine hP _ (by repeat (first | exact fw_sm_refl | exact fw_sm_put0 | refine fw_sm_arr ?_ rfl | refine fw_sm_up ?_ rfl | refine fw_sm_put ?_ rfl | refine fw_sm_cp ?_ rfl)) ?_; (exact ⟨hi.2.1, fun x q x1 x2 q1 q2 => hi.2.2 x q x1 (by omega) q1 q2⟩))
      | (refine ⟨δ, D, hgh, ?_⟩)
      | omega
      | (intro _))
  · exact hx.elim

