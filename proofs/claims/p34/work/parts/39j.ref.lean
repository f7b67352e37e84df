/-! the reference, method by method -/
def fr_245 : fw_P := [(0, 0, 0, 0, 0), (1, 3, 1, 0, 0), (2, 1, 1, 0, 0), (3, 0, 0, 0, 44), (5, 13, 56, 0, 0), (8, 2, 0, 0, 0), (9, 50, 12, 28, 0), (12, 0, 0, 0, 44), (14, 2, 0, 0, 0), (15, 50, 12, 29, 0), (18, 32, 0, 0, 0), (19, 1, 1, 0, 0), (20, 30, 0, 0, 0), (21, 52, 0, 0, 0), (22, 3, 2, 0, 0), (23, 2, 0, 0, 0), (24, 50, 12, 28, 0), (27, 0, 0, 0, 44), (29, 2, 0, 0, 0), (30, 50, 12, 29, 0), (33, 32, 0, 0, 0), (34, 1, 1, 0, 0), (35, 30, 0, 0, 0), (36, 2, 0, 0, 0), (37, 50, 12, 24, 0), (40, 1, 1, 0, 0), (41, 52, 0, 0, 0), (42, 53, 0, 0, 0), (43, 2, 0, 0, 0), (44, 50, 12, 24, 0), (47, 1, 1, 0, 0), (48, 1, 2, 0, 0), (49, 53, 0, 0, 0), (50, 5, 1, 0, 1), (53, 6, 2, 0, 0), (56, 72, 0, 0, 0)]
theorem fr_245_ok : fw_mk 245 3 12 none fr_245 = true := by decide +kernel
theorem s_exchange_0 {Post : Option fw_V → fw_W → Prop} {d : Nat} {W : fw_W}
    (hw_ : jf fw_T (d + 1) 245 2 [(0, .inr (.inl 352)), (1, .inl (0 : Int))] [] W Post) :
    jf fw_T (d + 1) 245 0 [(0, .inr (.inl 352))] [] W Post := fw_ok (n := 3) (ss := [(2, [0, 1])]) (hv := []) fr_245_ok fm_ok (fw_c0 _ _) hw_

theorem s_exchange_2 {Post : Option fw_V → fw_W → Prop} {d : Nat} {W : fw_W} {k : Int} {f : fw_W}
    (hw_ : (((44 : Int) ≤ k → Post none (fw_put [369, 366] 352 [] W f)) ∧ (k < (44 : Int) → (0 ≤ (fw_g W 352 29) → (fw_g W 352 29) ≤ 40 → -2147483648 ≤ (44 : Int) * (fw_g W 352 29) ∧ (44 : Int) * (fw_g W 352 29) ≤ 2147483647 ∧ (-2147483648 ≤ ((44 : Int) * (fw_g W 352 29)) + k ∧ ((44 : Int) * (fw_g W 352 29)) + k ≤ 2147483647 ∧ (0 ≤ (((44 : Int) * (fw_g W 352 29)) + k) ∧ (((44 : Int) * (fw_g W 352 29)) + k) < 1804 ∧ (-2147483648 ≤ (fw_g f 369 (((44 : Int) * (fw_g W 352 29)) + k)) → (fw_g f 369 (((44 : Int) * (fw_g W 352 29)) + k)) ≤ 2147483647 → (0 ≤ (fw_g W 352 29) → (fw_g W 352 29) ≤ 40 → -2147483648 ≤ (44 : Int) * (fw_g W 352 29) ∧ (44 : Int) * (fw_g W 352 29) ≤ 2147483647 ∧ (-2147483648 ≤ ((44 : Int) * (fw_g W 352 29)) + k ∧ ((44 : Int) * (fw_g W 352 29)) + k ≤ 2147483647 ∧ (0 ≤ k ∧ k < 44 ∧ (-2147483648 ≤ (fw_g f 366 k) → (fw_g f 366 k) ≤ 2147483647 → 0 ≤ (((44 : Int) * (fw_g W 352 29)) + k) ∧ (((44 : Int) * (fw_g W 352 29)) + k) < 1804 ∧ -2147483648 ≤ (fw_g f 366 k) ∧ (fw_g f 366 k) ≤ 2147483647 ∧ (0 ≤ k ∧ k < 44 ∧ -2147483648 ≤ (fw_g f 369 (((44 : Int) * (fw_g W 352 29)) + k)) ∧ (fw_g f 369 (((44 : Int) * (fw_g W 352 29)) + k)) ≤ 2147483647 ∧ (-2147483648 ≤ k + (1 : Int) ∧ k + (1 : Int) ≤ 2147483647 ∧ (jf fw_T (d + 1) 245 2 [(0, .inr (.inl 352)), (1, .inl (k + (1 : Int)))] [] (fw_up (fw_up (fw_put [369, 366] 352 [] W f) 369 (((44 : Int) * (fw_g W 352 29)) + k) (fw_g f 366 k)) 366 k (fw_g f 369 (((44 : Int) * (fw_g W 352 29)) + k))) Post)))))))))))))) :
    jf fw_T (d + 1) 245 2 [(0, .inr (.inl 352)), (1, .inl k)] [] (fw_put [369, 366] 352 [] W f) Post := fw_ok (n := 34) (ss := [(2, [0, 1])]) (hv := []) fr_245_ok fm_ok (fw_c0 _ _) hw_

theorem lm_exchange_2 {Post : Option fw_V → fw_W → Prop} {d : Nat} {W : fw_W} (hpre : mt W ∧ 0 ≤ (fw_g W 366 0) ∧ (fw_g W 366 0) ≤ 14 ∧ (∀ s, 0 ≤ s → s ≤ 40 → tw (fun z_ => (fw_g W 369 (44 * s + z_)))) ∧ 0 ≤ (fw_g W 352 29) ∧ (fw_g W 352 29) ≤ 40) (hP : ∀ (W2 : fw_W), fw_sm [369, 366] 352 [] W W2 → ((∀ s, 0 ≤ s → s ≤ 40 → tw (fun z_ => (fw_g W2 369 (44 * s + z_)))) ∧ tw (fun z_ => (fw_g W2 366 z_))) → Post none W2)  : ∀ (m : Nat) (k : Int) (f : fw_W), (44 - k).toNat = m → (0 ≤ k ∧ k ≤ 44 ∧ (∀ i, 0 ≤ i → i < k → (fw_g f 366 i) = fw_g W 369 (44 * fw_g W 352 29 + i) ∧ (fw_g f 369 (44 * fw_g W 352 29 + i)) = fw_g W 366 i) ∧ (∀ i, k ≤ i → i < 44 → (fw_g f 366 i) = fw_g W 366 i ∧ (fw_g f 369 (44 * fw_g W 352 29 + i)) = fw_g W 369 (44 * fw_g W 352 29 + i)) ∧ (∀ j, 0 ≤ j → (j < 44 * fw_g W 352 29 ∨ 44 * fw_g W 352 29 + 44 ≤ j) → (fw_g f 369 j) = fw_g W 369 j)) → jf fw_T (d + 1) 245 2 [(0, .inr (.inl 352)), (1, .inl k)] [] (fw_put [369, 366] 352 [] W f) Post := by
  intro m
  induction m using Nat.strongRecOn with
  | ind m ih =>
    intro k f hm hi
    refine jf_rng (fun hrg => ?_)
    have hrg : -2147483648 ≤ k ∧ k ≤ 2147483647 ∧ True := hrg
    refine s_exchange_2 ?_
    have hk : 0 ≤ k ∧ k ≤ 44 := ⟨hi.1, hi.2.1⟩
    repeat' (first
      | (exact True.intro)
      | (exact hpre.1)
      | (refine And.intro ?_ ?_)
      | (refine jf_put (S := [369, 366]) (o := 352) (F := []) (W := W) (by repeat (first | exact fw_sm_refl | exact fw_sm_put0 | refine fw_sm_arr ?_ rfl | refine fw_sm_up ?_ rfl | refine fw_sm_put ?_ rfl | refine fw_sm_cp ?_ rfl)) (ih _ (by omega) _ _ rfl ?_); (
        obtain ⟨i1, i2, i3, i4, i5⟩ := hi
        have k4 := i4 k (by omega) (by omega)
        refine ⟨by omega, by omega, fun i j1 j2 => ⟨?_, ?_⟩, fun i j1 j2 => ⟨?_, ?_⟩, fun j j1 j2 => ?_⟩
        · rw [fg_if (by omega) (by omega) (by omega) (by omega)]
          by_cases e : k = i
          · rw [if_pos e, ← e]; exact k4.2
          · rw [if_neg e, fg_up rfl]; exact (i3 i j1 (by omega)).1
        · rw [fg_up rfl, fg_if (by omega) (by omega) (by omega) (by omega)]
          by_cases e : k = i
          · rw [if_pos (by omega), ← e]; exact k4.1
          · rw [if_neg (by omega)]; exact (i3 i j1 (by omega)).2
        · rw [fg_if (by omega) (by omega) (by omega) (by omega), if_neg (by omega), fg_up rfl]; exact (i4 i (by omega) j2).1
        · rw [fg_up rfl, fg_if (by omega) (by omega) (by omega) (by omega), if_neg (by omega)]; exact (i4 i (by omega) j2).2
        · rw [fg_up rfl, fg_if (by omega) (by omega) (by omega) (by omega), if_neg (by omega)]; exact i5 j j1 j2))
      | (refine hP _ (by repeat (first | exact fw_sm_refl | exact fw_sm_put0 | refine fw_sm_arr ?_ rfl | refine fw_sm_up ?_ rfl | refine fw_sm_put ?_ rfl | refine fw_sm_cp ?_ rfl)) ?_; (
        obtain ⟨i1, i2, i3, i4, i5⟩ := hi
        refine ⟨fun s s1 s2 => ?_, ?_⟩
        · by_cases e : s = fw_g W 352 29
          · refine tw_c (g := fun z_ => fw_g W 366 z_) hpre.1 (fun z z1 z2 => ?_)
            show fw_g _ _ _ = fw_g _ _ _
            rw [fg_in rfl, e]
            exact (i3 z z1 (by omega)).2
          · refine tw_c (hpre.2.2.2.1 s s1 s2) (fun z z1 z2 => ?_)
            show fw_g _ _ _ = fw_g _ _ _
            rw [fg_in rfl]
            exact i5 _ (by omega) (by omega)
        · refine tw_c (hpre.2.2.2.1 (fw_g W 352 29) (by omega) (by omega)) (fun z z1 z2 => ?_)
          show fw_g _ _ _ = fw_g _ _ _
          rw [fg_in rfl]
          exact (i3 z z1 (by omega)).1))
      | omega
      | (intro _))
def x_exchange : fw_X := fun as W Q => match as with
  | [.inr (.inl s_)] => fw_if (Nat.beq s_ 352) ((mt W ∧ 0 ≤ (fw_g W 366 0) ∧ (fw_g W 366 0) ≤ 14 ∧ (∀ s, 0 ≤ s → s ≤ 40 → tw (fun z_ => (fw_g W 369 (44 * s + z_)))) ∧ 0 ≤ (fw_g W 352 29) ∧ (fw_g W 352 29) ≤ 40) ∧ (∀ (f : fw_W), ((∀ s, 0 ≤ s → s ≤ 40 → tw (fun z_ => (fw_g f 369 (44 * s + z_)))) ∧ tw (fun z_ => (fw_g f 366 z_))) → Q none (fw_put [369, 366] 352 [] W f)))
  | _ => False
theorem x_exchange_ok (d : Nat) (as : List fw_V) (W : fw_W) (Q : Option fw_V → fw_W → Prop) (hx : x_exchange as W Q) : jf fw_T (d + 1) 245 0 (fw_args 0 as) [] W Q := by
  unfold x_exchange at hx
  split at hx
  · rename_i s_
    obtain ⟨e_, hpre, hQ⟩ := fw_if_ok hx
    have e_ := Nat.eq_of_beq_eq_true e_
    subst e_
    have hP : ∀ (W2 : fw_W), fw_sm [369, 366] 352 [] W W2 → _ → Q none W2 := fun W2 hs hr => fw_sm_use (Q := fun Z => Q none Z) hs (hQ W2 hr)
    refine s_exchange_0 ?_
    repeat' (first
      | (exact True.intro)
      | (exact hpre.1)
      | (refine And.intro ?_ ?_)
      | (refine jf_put (S := [369, 366]) (o := 352) (F := []) (W := W) (by repeat (first | exact fw_sm_refl | exact fw_sm_put0 | refine fw_sm_arr ?_ rfl | refine fw_sm_up ?_ rfl | refine fw_sm_put ?_ rfl | refine fw_sm_cp ?_ rfl)) (lm_exchange_2 hpre hP _ _ _ rfl ?_); (exact ⟨by omega, by omega, fun i i1 i2 => by omega, fun i i1 i2 => ⟨rfl, rfl⟩, fun j j1 j2 => rfl⟩))
      | (refine hP _ (by repeat (first | exact fw_sm_refl | exact fw_sm_put0 | refine fw_sm_arr ?_ rfl | refine fw_sm_up ?_ rfl | refine fw_sm_put ?_ rfl | refine fw_sm_cp ?_ rfl)) ?_; (
        obtain ⟨i1, i2, i3, i4, i5⟩ := hi
        refine ⟨fun s s1 s2 => ?_, ?_⟩
        · by_cases e : s = fw_g W 352 29
          · refine tw_c (g := fun z_ => fw_g W 366 z_) hpre.1 (fun z z1 z2 => ?_)
            show fw_g _ _ _ = fw_g _ _ _
            rw [fg_in rfl, e]
            exact (i3 z z1 (by omega)).2
          · refine tw_c (hpre.2.2.2.1 s s1 s2) (fun z z1 z2 => ?_)
            show fw_g _ _ _ = fw_g _ _ _
            rw [fg_in rfl]
            exact i5 _ (by omega) (by omega)
        · refine tw_c (hpre.2.2.2.1 (fw_g W 352 29) (by omega) (by omega)) (fun z z1 z2 => ?_)
          show fw_g _ _ _ = fw_g _ _ _
          rw [fg_in rfl]
          exact (i3 z z1 (by omega)).1))
      | omega
      | (intro _))
  · exact hx.elim

