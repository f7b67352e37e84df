/-! the reference, method by method -/
theorem tw_grow {g k : Int → Int} (t : tw g) (hn : 0 < g 0) (h13 : g 0 ≤ 13) (c1 : 0 ≤ k (2 + 3 * g 0)) (c2 : k (2 + 3 * g 0) < g 0) (c3 : 1 ≤ k (3 + 3 * g 0)) (c4 : k (3 + 3 * g 0) ≤ 99) (e0 : k 0 = g 0 + 1) (h : ∀ i, 0 ≤ i → i ≠ 0 → i ≠ 2 + 3 * g 0 → i ≠ 3 + 3 * g 0 → i ≠ 4 + 3 * g 0 → k i = g i) : tw k := by
  obtain ⟨t1, t2, t3, t4, t5, t6⟩ := t
  have e1 := h 1 (by omega) (by omega) (by omega) (by omega) (by omega)
  refine ⟨by omega, by omega, ?_, fun x x1 x2 => ?_, by omega, by omega⟩
  · rw [e0]
    exact tr_grow t3 t1 (fun z => by omega) (fun _ => ⟨c1, c2⟩) (fun x x1 x2 => h (2 + 3 * x) (by omega) (by omega) (by omega) (by omega) (by omega))
  · by_cases e : x = g 0
    · subst e; exact ⟨c3, c4⟩
    · rw [h (3 + 3 * x) (by omega) (by omega) (by omega) (by omega) (by omega)]
      exact t4 x x1 (by omega)
theorem tw_ppl {g k : Int → Int} {x : Int} (t : tw g) (hx : 0 ≤ x) (h : ∀ i, 0 ≤ i → i < 44 → i ≠ 4 + 3 * x → k i = g i) : tw k := by
  obtain ⟨t1, t2, t3, t4, t5, t6⟩ := t
  have e0 := h 0 (by omega) (by omega) (by omega)
  have e1 := h 1 (by omega) (by omega) (by omega)
  refine ⟨by omega, by omega, ?_, fun y y1 y2 => ?_, by omega, by omega⟩
  · rw [e0]
    exact tr_congr t3 (fun y y1 y2 => h (2 + 3 * y) (by omega) (by omega) (by omega))
  · rw [h (3 + 3 * y) (by omega) (by omega) (by omega)]
    exact t4 y y1 (by omega)
theorem tw_move {g k : Int → Int} {x to : Int} {B : Int → Prop} (t : tw g) (b : tr_beh (g 0) (fun h => g (2 + 3 * h)) x B) (x1 : 1 ≤ x) (x2 : x < g 0) (t1 : 0 ≤ to) (t2 : to < g 0) (hb : ¬ B to) (e : k (2 + 3 * x) = to) (h : ∀ i, 0 ≤ i → i < 44 → i ≠ 2 + 3 * x → k i = g i) : tw k := by
  obtain ⟨s1, s2, s3, s4, s5, s6⟩ := t
  have e0 := h 0 (by omega) (by omega) (by omega)
  have e1 := h 1 (by omega) (by omega) (by omega)
  refine ⟨by omega, by omega, ?_, fun y y1 y2 => ?_, by omega, by omega⟩
  · rw [e0]
    exact tr_move s3 b x1 x2 t1 t2 hb e (fun y y1 y2 y3 => h (2 + 3 * y) (by omega) (by omega) (by omega))
  · rw [h (3 + 3 * y) (by omega) (by omega) (by omega)]
    exact s4 y y1 (by omega)
theorem tw_seed {g k : Int → Int} (t : tw g) (h1 : 0 ≤ k 1) (h2 : k 1 ≤ 999) (h : ∀ i, 0 ≤ i → i < 44 → i ≠ 1 → k i = g i) : tw k := by
  obtain ⟨t1, t2, t3, t4, t5, t6⟩ := t
  have e0 := h 0 (by omega) (by omega) (by omega)
  refine ⟨by omega, by omega, ?_, fun y y1 y2 => ?_, h1, h2⟩
  · rw [e0]
    exact tr_congr t3 (fun y y1 y2 => h (2 + 3 * y) (by omega) (by omega) (by omega))
  · rw [h (3 + 3 * y) (by omega) (by omega) (by omega)]
    exact t4 y y1 (by omega)
def fr_237 : fw_P := [(0, 2, 0, 0, 0), (1, 50, 12, 29, 0), (4, 0, 0, 0, 40), (6, 11, 49, 0, 0), (9, 0, 0, 0, 0), (10, 3, 1, 0, 0), (11, 1, 1, 0, 0), (12, 0, 0, 0, 1760), (15, 13, 39, 0, 0), (18, 2, 0, 0, 0), (19, 50, 12, 28, 0), (22, 1, 1, 0, 0), (23, 2, 0, 0, 0), (24, 50, 12, 28, 0), (27, 1, 1, 0, 0), (28, 0, 0, 0, 44), (30, 30, 0, 0, 0), (31, 52, 0, 0, 0), (32, 53, 0, 0, 0), (33, 5, 1, 0, 1), (36, 6, 11, 0, 0), (39, 2, 0, 0, 0), (40, 43, 0, 0, 0), (41, 50, 12, 29, 0), (44, 0, 0, 0, 1), (45, 31, 0, 0, 0), (46, 51, 12, 29, 0), (49, 0, 0, 0, 0), (50, 3, 1, 0, 0), (51, 1, 1, 0, 0), (52, 0, 0, 0, 44), (54, 13, 83, 0, 0), (57, 2, 0, 0, 0), (58, 50, 12, 28, 0), (61, 0, 0, 0, 44), (63, 2, 0, 0, 0), (64, 50, 12, 29, 0), (67, 32, 0, 0, 0), (68, 1, 1, 0, 0), (69, 30, 0, 0, 0), (70, 2, 0, 0, 0), (71, 50, 12, 24, 0), (74, 1, 1, 0, 0), (75, 52, 0, 0, 0), (76, 53, 0, 0, 0), (77, 5, 1, 0, 1), (80, 6, 51, 0, 0), (83, 2, 0, 0, 0), (84, 43, 0, 0, 0), (85, 50, 12, 29, 0), (88, 0, 0, 0, 1), (89, 30, 0, 0, 0), (90, 51, 12, 29, 0), (93, 2, 0, 0, 0), (94, 0, 0, 0, 0), (95, 51, 12, 30, 0), (98, 72, 0, 0, 0)]
theorem fr_237_ok : fw_mk 237 2 12 none fr_237 = true := by decide +kernel
theorem s_keepAct_0 {Post : Option fw_V → fw_W → Prop} {d : Nat} {W : fw_W}
    (hw_ : (0 ≤ (fw_g W 352 29) → (fw_g W 352 29) ≤ 40 → ((¬ (fw_g W 352 29) = (40 : Int) → jf fw_T (d + 1) 237 51 [(0, .inr (.inl 352)), (1, .inl (0 : Int))] [] W Post) ∧ ((fw_g W 352 29) = (40 : Int) → jf fw_T (d + 1) 237 11 [(0, .inr (.inl 352)), (1, .inl (0 : Int))] [] W Post)))) :
    jf fw_T (d + 1) 237 0 [(0, .inr (.inl 352))] [] W Post := fw_ok (n := 7) (ss := [(11, [0, 1]), (51, [0, 1])]) (hv := []) fr_237_ok fm_ok (fw_c0 _ _) hw_

theorem s_keepAct_51 {Post : Option fw_V → fw_W → Prop} {d : Nat} {W : fw_W} {k : Int} {f : fw_W}
    (hw_ : (((44 : Int) ≤ k → (0 ≤ (fw_g f 352 29) → (fw_g f 352 29) ≤ 40 → -2147483648 ≤ (fw_g f 352 29) + (1 : Int) ∧ (fw_g f 352 29) + (1 : Int) ≤ 2147483647 ∧ (0 ≤ ((fw_g f 352 29) + (1 : Int)) ∧ ((fw_g f 352 29) + (1 : Int)) ≤ 40 ∧ (0 ≤ (0 : Int) ∧ (0 : Int) ≤ 40 ∧ (Post none (fw_up (fw_up (fw_put [369] 352 [29, 30] W f) 352 29 ((fw_g f 352 29) + (1 : Int))) 352 30 (0 : Int))))))) ∧ (k < (44 : Int) → (0 ≤ (fw_g f 352 29) → (fw_g f 352 29) ≤ 40 → -2147483648 ≤ (44 : Int) * (fw_g f 352 29) ∧ (44 : Int) * (fw_g f 352 29) ≤ 2147483647 ∧ (-2147483648 ≤ ((44 : Int) * (fw_g f 352 29)) + k ∧ ((44 : Int) * (fw_g f 352 29)) + k ≤ 2147483647 ∧ (0 ≤ k ∧ k < 44 ∧ (-2147483648 ≤ (fw_g W 366 k) → (fw_g W 366 k) ≤ 2147483647 → 0 ≤ (((44 : Int) * (fw_g f 352 29)) + k) ∧ (((44 : Int) * (fw_g f 352 29)) + k) < 1804 ∧ -2147483648 ≤ (fw_g W 366 k) ∧ (fw_g W 366 k) ≤ 2147483647 ∧ (-2147483648 ≤ k + (1 : Int) ∧ k + (1 : Int) ≤ 2147483647 ∧ (jf fw_T (d + 1) 237 51 [(0, .inr (.inl 352)), (1, .inl (k + (1 : Int)))] [] (fw_up (fw_put [369] 352 [29, 30] W f) 369 (((44 : Int) * (fw_g f 352 29)) + k) (fw_g W 366 k)) Post))))))))) :
    jf fw_T (d + 1) 237 51 [(0, .inr (.inl 352)), (1, .inl k)] [] (fw_put [369] 352 [29, 30] W f) Post := fw_ok (n := 19) (ss := [(11, [0, 1]), (51, [0, 1])]) (hv := []) fr_237_ok fm_ok (fw_c0 _ _) hw_

theorem s_keepAct_11 {Post : Option fw_V → fw_W → Prop} {d : Nat} {W : fw_W} {k : Int} {f : fw_W}
    (hw_ : (((1760 : Int) ≤ k → (0 ≤ (fw_g f 352 29) → (fw_g f 352 29) ≤ 40 → -2147483648 ≤ (fw_g f 352 29) - (1 : Int) ∧ (fw_g f 352 29) - (1 : Int) ≤ 2147483647 ∧ (0 ≤ ((fw_g f 352 29) - (1 : Int)) ∧ ((fw_g f 352 29) - (1 : Int)) ≤ 40 ∧ (jf fw_T (d + 1) 237 51 [(0, .inr (.inl 352)), (1, .inl (0 : Int))] [] (fw_up (fw_put [369] 352 [29, 30] W f) 352 29 ((fw_g f 352 29) - (1 : Int))) Post)))) ∧ (k < (1760 : Int) → -2147483648 ≤ k + (44 : Int) ∧ k + (44 : Int) ≤ 2147483647 ∧ (0 ≤ (k + (44 : Int)) ∧ (k + (44 : Int)) < 1804 ∧ (-2147483648 ≤ (fw_g f 369 (k + (44 : Int))) → (fw_g f 369 (k + (44 : Int))) ≤ 2147483647 → 0 ≤ k ∧ k < 1804 ∧ -2147483648 ≤ (fw_g f 369 (k + (44 : Int))) ∧ (fw_g f 369 (k + (44 : Int))) ≤ 2147483647 ∧ (-2147483648 ≤ k + (1 : Int) ∧ k + (1 : Int) ≤ 2147483647 ∧ (jf fw_T (d + 1) 237 11 [(0, .inr (.inl 352)), (1, .inl (k + (1 : Int)))] [] (fw_up (fw_put [369] 352 [29, 30] W f) 369 k (fw_g f 369 (k + (44 : Int)))) Post))))))) :
    jf fw_T (d + 1) 237 11 [(0, .inr (.inl 352)), (1, .inl k)] [] (fw_put [369] 352 [29, 30] W f) Post := fw_ok (n := 16) (ss := [(11, [0, 1]), (51, [0, 1])]) (hv := []) fr_237_ok fm_ok (fw_c0 _ _) hw_

theorem lm_keepAct_51 {Post : Option fw_V → fw_W → Prop} {d : Nat} {W : fw_W} (hpre : mt W ∧ 0 ≤ (fw_g W 366 0) ∧ (fw_g W 366 0) ≤ 14 ∧ (∀ s, 0 ≤ s → s ≤ 40 → tw (fun z_ => (fw_g W 369 (44 * s + z_)))) ∧ 0 ≤ (fw_g W 352 29) ∧ (fw_g W 352 29) ≤ 40) (hP : ∀ (W2 : fw_W), fw_sm [369] 352 [29, 30] W W2 → ((∀ s, 0 ≤ s → s ≤ 40 → tw (fun z_ => (fw_g W2 369 (44 * s + z_)))) ∧ 0 ≤ (fw_g W2 352 29) ∧ (fw_g W2 352 29) ≤ 40 ∧ (fw_g W2 352 30) = 0) → Post none W2)  : ∀ (m : Nat) (k : Int) (f : fw_W), (44 - k).toNat = m → (0 ≤ k ∧ k ≤ 44 ∧ 0 ≤ (fw_g f 352 29) ∧ (fw_g f 352 29) ≤ 39 ∧ (∀ i, 0 ≤ i → i < k → (fw_g f 369 (44 * (fw_g f 352 29) + i)) = fw_g W 366 i) ∧ (∀ s, 0 ≤ s → s ≤ 40 → s ≠ (fw_g f 352 29) → tw (fun z_ => (fw_g f 369 (44 * s + z_))))) → jf fw_T (d + 1) 237 51 [(0, .inr (.inl 352)), (1, .inl k)] [] (fw_put [369] 352 [29, 30] W f) Post := by
  intro m
  induction m using Nat.strongRecOn with
  | ind m ih =>
    intro k f hm hi
    refine jf_rng (fun hrg => ?_)
    have hrg : -2147483648 ≤ k ∧ k ≤ 2147483647 ∧ True := hrg
    refine s_keepAct_51 ?_
    have hk : 0 ≤ k ∧ k ≤ 44 ∧ 0 ≤ (fw_g f 352 29) ∧ (fw_g f 352 29) ≤ 39 := ⟨hi.1, hi.2.1, hi.2.2.1, hi.2.2.2.1⟩
    repeat' (first
      | (exact True.intro)
      | (exact hpre.1)
      | (refine And.intro ?_ ?_)
      | (refine jf_put (S := [369]) (o := 352) (F := [29, 30]) (W := W) (by repeat (first | exact fw_sm_refl | exact fw_sm_put0 | refine fw_sm_arr ?_ rfl | refine fw_sm_up ?_ rfl | refine fw_sm_put ?_ rfl | refine fw_sm_cp ?_ rfl)) (ih _ (by omega) _ _ rfl ?_); (
        obtain ⟨i1, i2, i3, i4, i5, i6⟩ := hi
        have ea : fw_g (fw_up (fw_put [369] 352 [29, 30] W f) 369 (44 * fw_g f 352 29 + k) (fw_g W 366 k)) 352 29 = fw_g f 352 29 := by rw [fg_up rfl]; rfl
        refine ⟨by omega, by omega, by omega, by omega, fun i j1 j2 => ?_, fun s s1 s2 s3 => ?_⟩
        · rw [ea, fg_if (by omega) (by omega) (by omega) (by omega)]
          by_cases e : k = i
          · rw [if_pos (by omega), e]
          · rw [if_neg (by omega)]; exact i5 i j1 (by omega)
        · rw [ea] at s3
          refine tw_c (i6 s s1 s2 s3) (fun z z1 z2 => ?_)
          show fw_g _ _ _ = fw_g _ _ _
          rw [fg_if (by omega) (by omega) (by omega) (by omega), if_neg (by omega)]
          rfl))
      | (refine hP _ (by repeat (first | exact fw_sm_refl | exact fw_sm_put0 | refine fw_sm_arr ?_ rfl | refine fw_sm_up ?_ rfl | refine fw_sm_put ?_ rfl | refine fw_sm_cp ?_ rfl)) ?_; (
        obtain ⟨i1, i2, i3, i4, i5, i6⟩ := hi
        refine ⟨fun s s1 s2 => ?_, ?_, ?_, ?_⟩
        · by_cases e : s = (fw_g f 352 29)
          · refine tw_c (g := fun z_ => fw_g W 366 z_) hpre.1 (fun z z1 z2 => ?_)
            show fw_g _ _ _ = fw_g _ _ _
            rw [fg_up rfl, fg_up rfl, fg_in rfl, e]
            exact i5 z z1 (by omega)
          · refine tw_c (i6 s s1 s2 e) (fun z z1 z2 => ?_)
            show fw_g _ _ _ = fw_g _ _ _
            rw [fg_up rfl, fg_up rfl, fg_in rfl]
        · rw [fg_if (by omega) (by omega) (by omega) (by omega), if_neg (by omega), fg_same (by omega) (by omega)]; omega
        · rw [fg_if (by omega) (by omega) (by omega) (by omega), if_neg (by omega), fg_same (by omega) (by omega)]; omega
        · rw [fg_same (by omega) (by omega)]))
      | omega
      | (intro _))
theorem lm_keepAct_11 {Post : Option fw_V → fw_W → Prop} {d : Nat} {W : fw_W} (hpre : mt W ∧ 0 ≤ (fw_g W 366 0) ∧ (fw_g W 366 0) ≤ 14 ∧ (∀ s, 0 ≤ s → s ≤ 40 → tw (fun z_ => (fw_g W 369 (44 * s + z_)))) ∧ 0 ≤ (fw_g W 352 29) ∧ (fw_g W 352 29) ≤ 40) (hP : ∀ (W2 : fw_W), fw_sm [369] 352 [29, 30] W W2 → ((∀ s, 0 ≤ s → s ≤ 40 → tw (fun z_ => (fw_g W2 369 (44 * s + z_)))) ∧ 0 ≤ (fw_g W2 352 29) ∧ (fw_g W2 352 29) ≤ 40 ∧ (fw_g W2 352 30) = 0) → Post none W2)  : ∀ (m : Nat) (k : Int) (f : fw_W), (1760 - k).toNat = m → (0 ≤ k ∧ k ≤ 1760 ∧ (fw_g f 352 29) = 40 ∧ (∀ i, 0 ≤ i → i < k → (fw_g f 369 i) = fw_g W 369 (i + 44)) ∧ (∀ i, k ≤ i → i < 1804 → (fw_g f 369 i) = fw_g W 369 i)) → jf fw_T (d + 1) 237 11 [(0, .inr (.inl 352)), (1, .inl k)] [] (fw_put [369] 352 [29, 30] W f) Post := by
  intro m
  induction m using Nat.strongRecOn with
  | ind m ih =>
    intro k f hm hi
    refine jf_rng (fun hrg => ?_)
    have hrg : -2147483648 ≤ k ∧ k ≤ 2147483647 ∧ True := hrg
    refine s_keepAct_11 ?_
    obtain ⟨i1, i2, i3, i4, i5⟩ := hi
    repeat' (first
      | (exact True.intro)
      | (exact hpre.1)
      | (refine And.intro ?_ ?_)
      | (refine jf_put (S := [369]) (o := 352) (F := [29, 30]) (W := W) (by repeat (first | exact fw_sm_refl | exact fw_sm_put0 | refine fw_sm_arr ?_ rfl | refine fw_sm_up ?_ rfl | refine fw_sm_put ?_ rfl | refine fw_sm_cp ?_ rfl)) (ih _ (by omega) _ _ rfl ?_); (
        refine ⟨by omega, by omega, ?_, fun i j1 j2 => ?_, fun i j1 j2 => ?_⟩
        · rw [fg_up rfl]; exact i3
        · rw [fg_if (by omega) (by omega) (by omega) (by omega)]
          by_cases e : k = i
          · rw [if_pos e, ← e]
            rw [i5 (k + 44) (by omega) (by omega)]
          · rw [if_neg e]; exact i4 i j1 (by omega)
        · rw [fg_if (by omega) (by omega) (by omega) (by omega), if_neg (by omega)]
          exact i5 i (by omega) (by omega)))
      | (refine jf_put (S := [369]) (o := 352) (F := [29, 30]) (W := W) (by repeat (first | exact fw_sm_refl | exact fw_sm_put0 | refine fw_sm_arr ?_ rfl | refine fw_sm_up ?_ rfl | refine fw_sm_put ?_ rfl | refine fw_sm_cp ?_ rfl)) (lm_keepAct_51 hpre hP _ _ _ rfl ?_); (
        have e39 : fw_g (fw_up (fw_put [369] 352 [29, 30] W f) 352 29 (fw_g f 352 29 - 1)) 352 29 = 39 := by rw [fg_same (by omega) (by omega)]; omega
        refine ⟨by omega, by omega, by omega, by omega, fun i j1 j2 => by omega, fun s s1 s2 s3 => ?_⟩
        rw [e39] at s3
        by_cases e : s = 40
        · refine tw_c (hpre.2.2.2.1 s s1 s2) (fun z z1 z2 => ?_)
          show fw_g _ _ _ = fw_g _ _ _
          rw [fg_up rfl, fg_in rfl]
          exact i5 (44 * s + z) (by omega) (by omega)
        · refine tw_c (hpre.2.2.2.1 (s + 1) (by omega) (by omega)) (fun z z1 z2 => ?_)
          show fw_g _ _ _ = fw_g _ _ _
          rw [fg_up rfl, fg_in rfl, i4 (44 * s + z) (by omega) (by omega)]
          congr 1
          omega))
      | (refine hP _ (by repeat (first | exact fw_sm_refl | exact fw_sm_put0 | refine fw_sm_arr ?_ rfl | refine fw_sm_up ?_ rfl | refine fw_sm_put ?_ rfl | refine fw_sm_cp ?_ rfl)) ?_; (
        obtain ⟨i1, i2, i3, i4, i5, i6⟩ := hi
        refine ⟨fun s s1 s2 => ?_, ?_, ?_, ?_⟩
        · by_cases e : s = (fw_g f 352 29)
          · refine tw_c (g := fun z_ => fw_g W 366 z_) hpre.1 (fun z z1 z2 => ?_)
            show fw_g _ _ _ = fw_g _ _ _
            rw [fg_up rfl, fg_up rfl, fg_in rfl, e]
            exact i5 z z1 (by omega)
          · refine tw_c (i6 s s1 s2 e) (fun z z1 z2 => ?_)
            show fw_g _ _ _ = fw_g _ _ _
            rw [fg_up rfl, fg_up rfl, fg_in rfl]
        · rw [fg_if (by omega) (by omega) (by omega) (by omega), if_neg (by omega), fg_same (by omega) (by omega)]; omega
        · rw [fg_if (by omega) (by omega) (by omega) (by omega), if_neg (by omega), fg_same (by omega) (by omega)]; omega
        · rw [fg_same (by omega) (by omega)]))
      | omega
      | (intro _))
def x_keepAct : fw_X := fun as W Q => match as with
  | [.inr (.inl s_)] => fw_if (Nat.beq s_ 352) ((mt W ∧ 0 ≤ (fw_g W 366 0) ∧ (fw_g W 366 0) ≤ 14 ∧ (∀ s, 0 ≤ s → s ≤ 40 → tw (fun z_ => (fw_g W 369 (44 * s + z_)))) ∧ 0 ≤ (fw_g W 352 29) ∧ (fw_g W 352 29) ≤ 40) ∧ (∀ (f : fw_W), ((∀ s, 0 ≤ s → s ≤ 40 → tw (fun z_ => (fw_g f 369 (44 * s + z_)))) ∧ 0 ≤ (fw_g f 352 29) ∧ (fw_g f 352 29) ≤ 40 ∧ (fw_g f 352 30) = 0) → Q none (fw_put [369] 352 [29, 30] W f)))
  | _ => False
theorem x_keepAct_ok (d : Nat) (as : List fw_V) (W : fw_W) (Q : Option fw_V → fw_W → Prop) (hx : x_keepAct as W Q) : jf fw_T (d + 1) 237 0 (fw_args 0 as) [] W Q := by
  unfold x_keepAct at hx
  split at hx
  · rename_i s_
    obtain ⟨e_, hpre, hQ⟩ := fw_if_ok hx
    have e_ := Nat.eq_of_beq_eq_true e_
    subst e_
    have hP : ∀ (W2 : fw_W), fw_sm [369] 352 [29, 30] W W2 → _ → Q none W2 := fun W2 hs hr => fw_sm_use (Q := fun Z => Q none Z) hs (hQ W2 hr)
    refine s_keepAct_0 ?_
    repeat' (first
      | (exact True.intro)
      | (exact hpre.1)
      | (refine And.intro ?_ ?_)
      | (refine jf_put (S := [369]) (o := 352) (F := [29, 30]) (W := W) (by repeat (first | exact fw_sm_refl | exact fw_sm_put0 | refine fw_sm_arr ?_ rfl | refine fw_sm_up ?_ rfl | refine fw_sm_put ?_ rfl | refine fw_sm_cp ?_ rfl)) (lm_keepAct_11 hpre hP _ _ _ rfl ?_); (
        refine ⟨by omega, by omega, by omega, fun i i1 i2 => by omega, fun i i1 i2 => rfl⟩))
      | (refine jf_put (S := [369]) (o := 352) (F := [29, 30]) (W := W) (by repeat (first | exact fw_sm_refl | exact fw_sm_put0 | refine fw_sm_arr ?_ rfl | refine fw_sm_up ?_ rfl | refine fw_sm_put ?_ rfl | refine fw_sm_cp ?_ rfl)) (lm_keepAct_51 hpre hP _ _ _ rfl ?_); (
        refine ⟨by omega, by omega, by omega, by omega, fun i i1 i2 => by omega, fun s s1 s2 _ => hpre.2.2.2.1 s s1 s2⟩))
      | (refine hP _ (by repeat (first | exact fw_sm_refl | exact fw_sm_put0 | refine fw_sm_arr ?_ rfl | refine fw_sm_up ?_ rfl | refine fw_sm_put ?_ rfl | refine fw_sm_cp ?_ rfl)) ?_; (
        obtain ⟨i1, i2, i3, i4, i5, i6⟩ := hi
        refine ⟨fun s s1 s2 => ?_, ?_, ?_, ?_⟩
        · by_cases e : s = (fw_g f 352 29)
          · refine tw_c (g := fun z_ => fw_g W 366 z_) hpre.1 (fun z z1 z2 => ?_)
            show fw_g _ _ _ = fw_g _ _ _
            rw [fg_up rfl, fg_up rfl, fg_in rfl, e]
            exact i5 z z1 (by omega)
          · refine tw_c (i6 s s1 s2 e) (fun z z1 z2 => ?_)
            show fw_g _ _ _ = fw_g _ _ _
            rw [fg_up rfl, fg_up rfl, fg_in rfl]
        · rw [fg_if (by omega) (by omega) (by omega) (by omega), if_neg (by omega), fg_same (by omega) (by omega)]; omega
        · rw [fg_if (by omega) (by omega) (by omega) (by omega), if_neg (by omega), fg_same (by omega) (by omega)]; omega
        · rw [fg_same (by omega) (by omega)]))
      | omega
      | (intro _))
  · exact hx.elim

