/-! the reference, method by method -/
def fr_187 : fw_P := [(0, 0, 0, 0, 0), (1, 3, 1, 0, 0), (2, 1, 1, 0, 0), (3, 0, 0, 0, 44), (5, 13, 21, 0, 0), (8, 2, 0, 0, 0), (9, 50, 12, 24, 0), (12, 1, 1, 0, 0), (13, 0, 0, 0, 0), (14, 53, 0, 0, 0), (15, 5, 1, 0, 1), (18, 6, 2, 0, 0), (21, 2, 0, 0, 0), (22, 50, 12, 24, 0), (25, 0, 0, 0, 0), (26, 2, 0, 0, 0), (27, 50, 12, 11, 0), (30, 2, 0, 0, 0), (31, 50, 12, 22, 0), (34, 52, 0, 0, 0), (35, 53, 0, 0, 0), (36, 2, 0, 0, 0), (37, 50, 12, 24, 0), (40, 0, 0, 0, 1), (41, 2, 0, 0, 0), (42, 50, 12, 13, 0), (45, 2, 0, 0, 0), (46, 50, 12, 22, 0), (49, 52, 0, 0, 0), (50, 53, 0, 0, 0), (51, 0, 0, 0, 0), (52, 3, 1, 0, 0), (53, 1, 1, 0, 0), (54, 2, 0, 0, 0), (55, 64, 188, 0, 112), (58, 13, 114, 0, 0), (61, 2, 0, 0, 0), (62, 1, 1, 0, 0), (63, 2, 0, 0, 0), (64, 50, 12, 14, 0), (67, 0, 0, 0, 14), (69, 2, 0, 0, 0), (70, 50, 12, 22, 0), (73, 32, 0, 0, 0), (74, 1, 1, 0, 0), (75, 30, 0, 0, 0), (76, 52, 0, 0, 0), (77, 2, 0, 0, 0), (78, 50, 12, 15, 0), (81, 0, 0, 0, 14), (83, 2, 0, 0, 0), (84, 50, 12, 22, 0), (87, 32, 0, 0, 0), (88, 1, 1, 0, 0), (89, 30, 0, 0, 0), (90, 52, 0, 0, 0), (91, 2, 0, 0, 0), (92, 50, 12, 16, 0), (95, 0, 0, 0, 14), (97, 2, 0, 0, 0), (98, 50, 12, 22, 0), (101, 32, 0, 0, 0), (102, 1, 1, 0, 0), (103, 30, 0, 0, 0), (104, 52, 0, 0, 0), (105, 64, 189, 4, 512), (108, 5, 1, 0, 1), (111, 6, 53, 0, 0), (114, 2, 0, 0, 0), (115, 0, 0, 0, 0), (116, 51, 12, 29, 0), (119, 2, 0, 0, 0), (120, 0, 0, 0, 0), (121, 51, 12, 30, 0), (124, 72, 0, 0, 0)]
theorem fr_187_ok : fw_mk 187 2 12 none fr_187 = true := by decide +kernel
def ct_begin : List (Nat × fw_X) := [(189, x_lay), (188, x_many)]
theorem ct_begin_ok (d : Nat) : fw_cok fw_T (d + 1) ct_begin := by
  intro q hq as W Q h
  simp only [ct_begin, List.mem_cons, List.not_mem_nil, or_false] at hq
  rcases hq with rfl | rfl
  · exact jc_of (x_lay_ok (d + 0) as W Q h)
  · exact jc_of (x_many_ok (d + 0) as W Q h)
theorem s_begin_0 {Post : Option fw_V → fw_W → Prop} {d : Nat} {W : fw_W}
    (hw_ : jf fw_T (d + 2) 187 2 [(0, .inr (.inl 352)), (1, .inl (0 : Int))] [] W Post) :
    jf fw_T (d + 2) 187 0 [(0, .inr (.inl 352))] [] W Post := fw_ok (n := 3) (ss := [(2, [0, 1]), (53, [0, 1])]) (hv := []) fr_187_ok fm_ok (ct_begin_ok d) hw_

theorem s_begin_53 {Post : Option fw_V → fw_W → Prop} {d : Nat} {W : fw_W} {h : Int} {f : fw_W}
    (hw_ : (True) ∧ ((((fw_g f 366 0) ≤ h → 0 ≤ (0 : Int) ∧ (0 : Int) ≤ 40 ∧ (0 ≤ (0 : Int) ∧ (0 : Int) ≤ 40 ∧ (Post none (fw_up (fw_up (fw_put [366] 352 [29, 30] W f) 352 29 (0 : Int)) 352 30 (0 : Int))))) ∧ (h < (fw_g f 366 0) → (0 ≤ (fw_g W 352 22) → (fw_g W 352 22) ≤ 1 → -2147483648 ≤ (14 : Int) * (fw_g W 352 22) ∧ (14 : Int) * (fw_g W 352 22) ≤ 2147483647 ∧ (-2147483648 ≤ ((14 : Int) * (fw_g W 352 22)) + h ∧ ((14 : Int) * (fw_g W 352 22)) + h ≤ 2147483647 ∧ (0 ≤ (((14 : Int) * (fw_g W 352 22)) + h) ∧ (((14 : Int) * (fw_g W 352 22)) + h) < 28 ∧ (-1 ≤ (fw_g W 358 (((14 : Int) * (fw_g W 352 22)) + h)) → (fw_g W 358 (((14 : Int) * (fw_g W 352 22)) + h)) ≤ 13 → (0 ≤ (fw_g W 352 22) → (fw_g W 352 22) ≤ 1 → -2147483648 ≤ (14 : Int) * (fw_g W 352 22) ∧ (14 : Int) * (fw_g W 352 22) ≤ 2147483647 ∧ (-2147483648 ≤ ((14 : Int) * (fw_g W 352 22)) + h ∧ ((14 : Int) * (fw_g W 352 22)) + h ≤ 2147483647 ∧ (0 ≤ (((14 : Int) * (fw_g W 352 22)) + h) ∧ (((14 : Int) * (fw_g W 352 22)) + h) < 28 ∧ (0 ≤ (fw_g W 359 (((14 : Int) * (fw_g W 352 22)) + h)) → (fw_g W 359 (((14 : Int) * (fw_g W 352 22)) + h)) ≤ 99 → (0 ≤ (fw_g W 352 22) → (fw_g W 352 22) ≤ 1 → -2147483648 ≤ (14 : Int) * (fw_g W 352 22) ∧ (14 : Int) * (fw_g W 352 22) ≤ 2147483647 ∧ (-2147483648 ≤ ((14 : Int) * (fw_g W 352 22)) + h ∧ ((14 : Int) * (fw_g W 352 22)) + h ≤ 2147483647 ∧ (0 ≤ (((14 : Int) * (fw_g W 352 22)) + h) ∧ (((14 : Int) * (fw_g W 352 22)) + h) < 28 ∧ (0 ≤ (fw_g W 360 (((14 : Int) * (fw_g W 352 22)) + h)) → (fw_g W 360 (((14 : Int) * (fw_g W 352 22)) + h)) ≤ 99 → (0 ≤ h ∧ h < 14) ∧ (∀ (f1 : fw_W), (((fw_g f1 366 (2 + 3 * h)) = (fw_g W 358 (((14 : Int) * (fw_g W 352 22)) + h)) ∧ (fw_g f1 366 (3 + 3 * h)) = (fw_g W 359 (((14 : Int) * (fw_g W 352 22)) + h)) ∧ (fw_g f1 366 (4 + 3 * h)) = (fw_g W 360 (((14 : Int) * (fw_g W 352 22)) + h)) ∧ ∀ i, 0 ≤ i → i ≠ 2 + 3 * h → i ≠ 3 + 3 * h → i ≠ 4 + 3 * h → (fw_g f1 366 i) = (fw_g f 366 i))) → -2147483648 ≤ h + (1 : Int) ∧ h + (1 : Int) ≤ 2147483647 ∧ (jf fw_T (d + 2) 187 53 [(0, .inr (.inl 352)), (1, .inl (h + (1 : Int)))] [] (fw_put [366] 352 [] (fw_put [366] 352 [29, 30] W f) f1) Post)))))))))))))))))) :
    jf fw_T (d + 2) 187 53 [(0, .inr (.inl 352)), (1, .inl h)] [] (fw_put [366] 352 [29, 30] W f) Post := fw_ok (n := 37) (ss := [(2, [0, 1]), (53, [0, 1])]) (hv := []) fr_187_ok fm_ok (ct_begin_ok d) hw_

theorem s_begin_2 {Post : Option fw_V → fw_W → Prop} {d : Nat} {W : fw_W} {h : Int} {f : fw_W}
    (hw_ : (((44 : Int) ≤ h → (0 ≤ (fw_g W 352 22) → (fw_g W 352 22) ≤ 1 → 0 ≤ (fw_g W 352 22) ∧ (fw_g W 352 22) < 2 ∧ (0 ≤ (fw_g W 355 (fw_g W 352 22)) → (fw_g W 355 (fw_g W 352 22)) ≤ 14 → 0 ≤ (0 : Int) ∧ (0 : Int) < 44 ∧ -2147483648 ≤ (fw_g W 355 (fw_g W 352 22)) ∧ (fw_g W 355 (fw_g W 352 22)) ≤ 2147483647 ∧ ((0 ≤ (fw_g W 352 22) → (fw_g W 352 22) ≤ 1 → 0 ≤ (fw_g W 352 22) ∧ (fw_g W 352 22) < 2 ∧ (0 ≤ (fw_g W 357 (fw_g W 352 22)) → (fw_g W 357 (fw_g W 352 22)) ≤ 999 → 0 ≤ (1 : Int) ∧ (1 : Int) < 44 ∧ -2147483648 ≤ (fw_g W 357 (fw_g W 352 22)) ∧ (fw_g W 357 (fw_g W 352 22)) ≤ 2147483647 ∧ (jf fw_T (d + 2) 187 53 [(0, .inr (.inl 352)), (1, .inl (0 : Int))] [] (fw_up (fw_up (fw_put [366] 352 [29, 30] W f) 366 (0 : Int) (fw_g W 355 (fw_g W 352 22))) 366 (1 : Int) (fw_g W 357 (fw_g W 352 22))) Post))))))) ∧ (h < (44 : Int) → 0 ≤ h ∧ h < 44 ∧ -2147483648 ≤ (0 : Int) ∧ (0 : Int) ≤ 2147483647 ∧ (-2147483648 ≤ h + (1 : Int) ∧ h + (1 : Int) ≤ 2147483647 ∧ (jf fw_T (d + 2) 187 2 [(0, .inr (.inl 352)), (1, .inl (h + (1 : Int)))] [] (fw_up (fw_put [366] 352 [29, 30] W f) 366 h (0 : Int)) Post))))) :
    jf fw_T (d + 2) 187 2 [(0, .inr (.inl 352)), (1, .inl h)] [] (fw_put [366] 352 [29, 30] W f) Post := fw_ok (n := 24) (ss := [(2, [0, 1]), (53, [0, 1])]) (hv := []) fr_187_ok fm_ok (ct_begin_ok d) hw_

theorem lm_begin_53 {Post : Option fw_V → fw_W → Prop} {d : Nat} {W : fw_W} (hpre : 0 ≤ (fw_g W 352 22) ∧ (fw_g W 352 22) ≤ 1 ∧ 0 ≤ (fw_g W 355 (fw_g W 352 22)) ∧ (fw_g W 355 (fw_g W 352 22)) ≤ 14 ∧ (∀ x_, 0 ≤ x_ → x_ < (fw_g W 355 (fw_g W 352 22)) → (x_ = 0 → (fw_g W 358 (14 * (fw_g W 352 22) + x_)) = -1) ∧ (1 ≤ x_ → 0 ≤ (fw_g W 358 (14 * (fw_g W 352 22) + x_)) ∧ (fw_g W 358 (14 * (fw_g W 352 22) + x_)) < x_ ∧ 1 ≤ (fw_g W 359 (14 * (fw_g W 352 22) + x_)) ∧ (fw_g W 359 (14 * (fw_g W 352 22) + x_)) ≤ 99))) (hP : ∀ (W2 : fw_W), fw_sm [366] 352 [29, 30] W W2 → (mt W2 ∧ (fw_g W2 352 29) = 0 ∧ (fw_g W2 352 30) = 0) → Post none W2)  : ∀ (m : Nat) (h : Int) (f : fw_W), ((fw_g W 355 (fw_g W 352 22)) - h).toNat = m → ((0 ≤ h ∧ (fw_g f 366 0) = (fw_g W 355 (fw_g W 352 22)) ∧ 0 ≤ (fw_g f 366 1) ∧ (fw_g f 366 1) ≤ 999) ∧ (∀ x_, 0 ≤ x_ → x_ < h → (fw_g f 366 (2 + 3 * x_)) = fw_g W 358 (14 * fw_g W 352 22 + x_) ∧ (fw_g f 366 (3 + 3 * x_)) = fw_g W 359 (14 * fw_g W 352 22 + x_))) → jf fw_T (d + 2) 187 53 [(0, .inr (.inl 352)), (1, .inl h)] [] (fw_put [366] 352 [29, 30] W f) Post := by
  intro m
  induction m using Nat.strongRecOn with
  | ind m ih =>
    intro h f hm hi
    refine jf_rng (fun hrg => ?_)
    have hrg : -2147483648 ≤ h ∧ h ≤ 2147483647 ∧ True := hrg
    refine s_begin_53 ?_
    have hi1 := hi.1
    repeat' (first
      | (exact True.intro)
      | (exact hpre.1)
      | (refine And.intro ?_ ?_)
      | (refine (ih _ (by omega) _ _ rfl ?_); (
        rename_i f2 hf2
        obtain ⟨q1, q2, q3, q4⟩ := hf2
        have z0 : fw_g f2 366 0 = fw_g f 366 0 := q4 0 (by omega) (by omega) (by omega) (by omega)
        have z1 : fw_g f2 366 1 = fw_g f 366 1 := q4 1 (by omega) (by omega) (by omega) (by omega)
        refine ⟨⟨by omega, z0.trans hi1.2.1, ?_, ?_⟩, fun x x1 x2 => ?_⟩
        · show 0 ≤ fw_g f2 366 1; omega
        · show fw_g f2 366 1 ≤ 999; omega
        · by_cases e : x = h
          · subst e
            exact ⟨q1, q2⟩
          · have r1 := q4 (2 + 3 * x) (by omega) (by omega) (by omega) (by omega)
            have r2 := q4 (3 + 3 * x) (by omega) (by omega) (by omega) (by omega)
            have b := hi.2 x x1 (by omega)
            exact ⟨r1.trans b.1, r2.trans b.2⟩))
      | (refine jf_put (S := [366]) (o := 352) (F := [29, 30]) (W := W) (by repeat (first | exact fw_sm_refl | exact fw_sm_put0 | refine fw_sm_arr ?_ rfl | refine fw_sm_up ?_ rfl | refine fw_sm_put ?_ rfl | refine fw_sm_cp ?_ rfl)) (ih _ (by omega) _ _ rfl ?_); (
        rename_i f2 hf2
        obtain ⟨q1, q2, q3, q4⟩ := hf2
        have z0 : fw_g f2 366 0 = fw_g f 366 0 := q4 0 (by omega) (by omega) (by omega) (by omega)
        have z1 : fw_g f2 366 1 = fw_g f 366 1 := q4 1 (by omega) (by omega) (by omega) (by omega)
        refine ⟨⟨by omega, z0.trans hi1.2.1, ?_, ?_⟩, fun x x1 x2 => ?_⟩
        · show 0 ≤ fw_g f2 366 1; omega
        · show fw_g f2 366 1 ≤ 999; omega
        · by_cases e : x = h
          · subst e
            exact ⟨q1, q2⟩
          · have r1 := q4 (2 + 3 * x) (by omega) (by omega) (by omega) (by omega)
            have r2 := q4 (3 + 3 * x) (by omega) (by omega) (by omega) (by omega)
            have b := hi.2 x x1 (by omega)
            exact ⟨r1.trans b.1, r2.trans b.2⟩))
      | (refine hP _ (by repeat (first | exact fw_sm_refl | exact fw_sm_put0 | refine fw_sm_arr ?_ rfl | refine fw_sm_up ?_ rfl | refine fw_sm_put ?_ rfl | refine fw_sm_cp ?_ rfl)) ?_; (
        have hn : fw_g f 366 0 = (fw_g W 355 (fw_g W 352 22)) := hi1.2.1
        have hb := fun x x1 x2 => hpre.2.2.2.2 x x1 x2
        refine ⟨?_, by rw [fg_lit rfl, fg_same (by omega) (by omega)], by rw [fg_same (by omega) (by omega)]⟩
        have key : 0 ≤ fw_g f 366 0 ∧ fw_g f 366 0 ≤ 14 ∧ tr (fw_g f 366 0) (fun h => fw_g f 366 (2 + 3 * h)) ∧ (∀ h, 1 ≤ h → h < fw_g f 366 0 → (1 ≤ fw_g f 366 (3 + 3 * h) ∧ fw_g f 366 (3 + 3 * h) ≤ 99)) ∧ 0 ≤ fw_g f 366 1 ∧ fw_g f 366 1 ≤ 999 := by
          rw [hn]
          refine ⟨by omega, by omega, ⟨fun z => ?_, fun x => x.toNat, fun x x1 x2 => ?_⟩, fun x x1 x2 => ?_, by omega, by omega⟩
          · have a := hi.2 0 (by omega) (by omega)
            have b := (hb 0 (by omega) z).1 rfl
            show fw_g f 366 (2 + 3 * 0) = -1
            rw [a.1]; exact b
          · have a := hi.2 x (by omega) (by omega)
            have b := (hb x (by omega) x2).2 x1
            show 0 ≤ fw_g f 366 (2 + 3 * x) ∧ fw_g f 366 (2 + 3 * x) < (fw_g W 355 (fw_g W 352 22)) ∧ (fw_g f 366 (2 + 3 * x)).toNat < x.toNat
            rw [a.1]
            have b1 := b.1
            have b2 := b.2.1
            omega
          · have a := hi.2 x (by omega) (by omega)
            have b := (hb x (by omega) x2).2 x1
            rw [a.2]
            exact ⟨b.2.2.1, b.2.2.2⟩
        exact key))
      | omega
      | (intro _))
theorem lm_begin_2 {Post : Option fw_V → fw_W → Prop} {d : Nat} {W : fw_W} (hpre : 0 ≤ (fw_g W 352 22) ∧ (fw_g W 352 22) ≤ 1 ∧ 0 ≤ (fw_g W 355 (fw_g W 352 22)) ∧ (fw_g W 355 (fw_g W 352 22)) ≤ 14 ∧ (∀ x_, 0 ≤ x_ → x_ < (fw_g W 355 (fw_g W 352 22)) → (x_ = 0 → (fw_g W 358 (14 * (fw_g W 352 22) + x_)) = -1) ∧ (1 ≤ x_ → 0 ≤ (fw_g W 358 (14 * (fw_g W 352 22) + x_)) ∧ (fw_g W 358 (14 * (fw_g W 352 22) + x_)) < x_ ∧ 1 ≤ (fw_g W 359 (14 * (fw_g W 352 22) + x_)) ∧ (fw_g W 359 (14 * (fw_g W 352 22) + x_)) ≤ 99))) (hP : ∀ (W2 : fw_W), fw_sm [366] 352 [29, 30] W W2 → (mt W2 ∧ (fw_g W2 352 29) = 0 ∧ (fw_g W2 352 30) = 0) → Post none W2)  : ∀ (m : Nat) (h : Int) (f : fw_W), (44 - h).toNat = m → 0 ≤ h → jf fw_T (d + 2) 187 2 [(0, .inr (.inl 352)), (1, .inl h)] [] (fw_put [366] 352 [29, 30] W f) Post := by
  intro m
  induction m using Nat.strongRecOn with
  | ind m ih =>
    intro h f hm hi
    refine jf_rng (fun hrg => ?_)
    have hrg : -2147483648 ≤ h ∧ h ≤ 2147483647 ∧ True := hrg
    refine s_begin_2 ?_
    repeat' (first
      | (exact True.intro)
      | (exact hpre.1)
      | (refine And.intro ?_ ?_)
      | (refine (ih _ (by omega) _ _ rfl ?_); (first | omega | trivial | (simp (config := { decide := true }) only [fg_in, fg_fin, fg_out, fg_fout, fg_up, fg_same, true_and, and_true] <;> omega)))
      | (refine jf_put (S := [366]) (o := 352) (F := [29, 30]) (W := W) (by repeat (first | exact fw_sm_refl | exact fw_sm_put0 | refine fw_sm_arr ?_ rfl | refine fw_sm_up ?_ rfl | refine fw_sm_put ?_ rfl | refine fw_sm_cp ?_ rfl)) (ih _ (by omega) _ _ rfl ?_); (first | omega | trivial | (simp (config := { decide := true }) only [fg_in, fg_fin, fg_out, fg_fout, fg_up, fg_same, true_and, and_true] <;> omega)))
      | (refine (lm_begin_53 hpre hP _ _ _ rfl ?_); (
        refine ⟨⟨by omega, ?_, ?_, ?_⟩, fun x x1 x2 => by omega⟩
        · rw [fg_lit rfl, fg_same (by omega) (by omega)]
        · rw [fg_same (by omega) (by omega)]; omega
        · rw [fg_same (by omega) (by omega)]; omega))
      | (refine jf_put (S := [366]) (o := 352) (F := [29, 30]) (W := W) (by repeat (first | exact fw_sm_refl | exact fw_sm_put0 | refine fw_sm_arr ?_ rfl | refine fw_sm_up ?_ rfl | refine fw_sm_put ?_ rfl | refine fw_sm_cp ?_ rfl)) (lm_begin_53 hpre hP _ _ _ rfl ?_); (
        refine ⟨⟨by omega, ?_, ?_, ?_⟩, fun x x1 x2 => by omega⟩
        · rw [fg_lit rfl, fg_same (by omega) (by omega)]
        · rw [fg_same (by omega) (by omega)]; omega
        · rw [fg_same (by omega) (by omega)]; omega))
      | (refine hP _ (by repeat (first | exact fw_sm_refl | exact fw_sm_put0 | refine fw_sm_arr ?_ rfl | refine fw_sm_up ?_ rfl | refine fw_sm_put ?_ rfl | refine fw_sm_cp ?_ rfl)) ?_; (
        have hn : fw_g f 366 0 = (fw_g W 355 (fw_g W 352 22)) := hi1.2.1
        have hb := fun x x1 x2 => hpre.2.2.2.2 x x1 x2
        refine ⟨?_, by rw [fg_lit rfl, fg_same (by omega) (by omega)], by rw [fg_same (by omega) (by omega)]⟩
        have key : 0 ≤ fw_g f 366 0 ∧ fw_g f 366 0 ≤ 14 ∧ tr (fw_g f 366 0) (fun h => fw_g f 366 (2 + 3 * h)) ∧ (∀ h, 1 ≤ h → h < fw_g f 366 0 → (1 ≤ fw_g f 366 (3 + 3 * h) ∧ fw_g f 366 (3 + 3 * h) ≤ 99)) ∧ 0 ≤ fw_g f 366 1 ∧ fw_g f 366 1 ≤ 999 := by
          rw [hn]
          refine ⟨by omega, by omega, ⟨fun z => ?_, fun x => x.toNat, fun x x1 x2 => ?_⟩, fun x x1 x2 => ?_, by omega, by omega⟩
          · have a := hi.2 0 (by omega) (by omega)
            have b := (hb 0 (by omega) z).1 rfl
            show fw_g f 366 (2 + 3 * 0) = -1
            rw [a.1]; exact b
          · have a := hi.2 x (by omega) (by omega)
            have b := (hb x (by omega) x2).2 x1
            show 0 ≤ fw_g f 366 (2 + 3 * x) ∧ fw_g f 366 (2 + 3 * x) < (fw_g W 355 (fw_g W 352 22)) ∧ (fw_g f 366 (2 + 3 * x)).toNat < x.toNat
            rw [a.1]
            have b1 := b.1
            have b2 := b.2.1
            omega
          · have a := hi.2 x (by omega) (by omega)
            have b := (hb x (by omega) x2).2 x1
            rw [a.2]
            exact ⟨b.2.2.1, b.2.2.2⟩
        exact key))
      | omega
      | (intro _))
def x_begin : fw_X := fun as W Q => match as with
  | [.inr (.inl s_)] => fw_if (Nat.beq s_ 352) ((0 ≤ (fw_g W 352 22) ∧ (fw_g W 352 22) ≤ 1 ∧ 0 ≤ (fw_g W 355 (fw_g W 352 22)) ∧ (fw_g W 355 (fw_g W 352 22)) ≤ 14 ∧ (∀ x_, 0 ≤ x_ → x_ < (fw_g W 355 (fw_g W 352 22)) → (x_ = 0 → (fw_g W 358 (14 * (fw_g W 352 22) + x_)) = -1) ∧ (1 ≤ x_ → 0 ≤ (fw_g W 358 (14 * (fw_g W 352 22) + x_)) ∧ (fw_g W 358 (14 * (fw_g W 352 22) + x_)) < x_ ∧ 1 ≤ (fw_g W 359 (14 * (fw_g W 352 22) + x_)) ∧ (fw_g W 359 (14 * (fw_g W 352 22) + x_)) ≤ 99))) ∧ (∀ (f : fw_W), (mt (fw_put [366] 352 [29, 30] W f) ∧ (fw_g f 352 29) = 0 ∧ (fw_g f 352 30) = 0) → Q none (fw_put [366] 352 [29, 30] W f)))
  | _ => False
theorem x_begin_ok (d : Nat) (as : List fw_V) (W : fw_W) (Q : Option fw_V → fw_W → Prop) (hx : x_begin as W Q) : jf fw_T (d + 2) 187 0 (fw_args 0 as) [] W Q := by
  unfold x_begin at hx
  split at hx
  · rename_i s_
    obtain ⟨e_, hpre, hQ⟩ := fw_if_ok hx
    have e_ := Nat.eq_of_beq_eq_true e_
    subst e_
    have hP : ∀ (W2 : fw_W), fw_sm [366] 352 [29, 30] W W2 → (mt W2 ∧ (fw_g W2 352 29) = 0 ∧ (fw_g W2 352 30) = 0) → Q none W2 := fun W2 hs hr => fw_sm_use (Q := fun Z => Q none Z) hs (hQ W2 (by rw [fw_sm_eq hs]; exact hr))
    refine s_begin_0 ?_
    repeat' (first
      | (exact True.intro)
      | (exact hpre.1)
      | (refine And.intro ?_ ?_)
      | (refine jf_put (S := [366]) (o := 352) (F := [29, 30]) (W := W) (by repeat (first | exact fw_sm_refl | exact fw_sm_put0 | refine fw_sm_arr ?_ rfl | refine fw_sm_up ?_ rfl | refine fw_sm_put ?_ rfl | refine fw_sm_cp ?_ rfl)) (lm_begin_2 hpre hP _ _ _ rfl ?_); (first | omega | trivial | (simp (config := { decide := true }) only [fg_in, fg_fin, fg_out, fg_fout, fg_up, fg_same, true_and, and_true] <;> omega)))
      | (refine jf_put (S := [366]) (o := 352) (F := [29, 30]) (W := W) (by repeat (first | exact fw_sm_refl | exact fw_sm_put0 | refine fw_sm_arr ?_ rfl | refine fw_sm_up ?_ rfl | refine fw_sm_put ?_ rfl | refine fw_sm_cp ?_ rfl)) (lm_begin_53 hpre hP _ _ _ rfl ?_); (first | omega | trivial | (simp (config := { decide := true }) only [fg_in, fg_fin, fg_out, fg_fout, fg_up, fg_same, true_and, and_true] <;> omega)))
      | (refine hP _ (by repeat (first | exact fw_sm_refl | exact fw_sm_put0 | refine fw_sm_arr ?_ rfl | refine fw_sm_up ?_ rfl | refine fw_sm_put ?_ rfl | refine fw_sm_cp ?_ rfl)) ?_; (
        have hn : fw_g f 366 0 = (fw_g W 355 (fw_g W 352 22)) := hi1.2.1
        have hb := fun x x1 x2 => hpre.2.2.2.2 x x1 x2
        refine ⟨?_, by rw [fg_lit rfl, fg_same (by omega) (by omega)], by rw [fg_same (by omega) (by omega)]⟩
        have key : 0 ≤ fw_g f 366 0 ∧ fw_g f 366 0 ≤ 14 ∧ tr (fw_g f 366 0) (fun h => fw_g f 366 (2 + 3 * h)) ∧ (∀ h, 1 ≤ h → h < fw_g f 366 0 → (1 ≤ fw_g f 366 (3 + 3 * h) ∧ fw_g f 366 (3 + 3 * h) ≤ 99)) ∧ 0 ≤ fw_g f 366 1 ∧ fw_g f 366 1 ≤ 999 := by
          rw [hn]
          refine ⟨by omega, by omega, ⟨fun z => ?_, fun x => x.toNat, fun x x1 x2 => ?_⟩, fun x x1 x2 => ?_, by omega, by omega⟩
          · have a := hi.2 0 (by omega) (by omega)
            have b := (hb 0 (by omega) z).1 rfl
            show fw_g f 366 (2 + 3 * 0) = -1
            rw [a.1]; exact b
          · have a := hi.2 x (by omega) (by omega)
            have b := (hb x (by omega) x2).2 x1
            show 0 ≤ fw_g f 366 (2 + 3 * x) ∧ fw_g f 366 (2 + 3 * x) < (fw_g W 355 (fw_g W 352 22)) ∧ (fw_g f 366 (2 + 3 * x)).toNat < x.toNat
            rw [a.1]
            have b1 := b.1
            have b2 := b.2.1
            omega
          · have a := hi.2 x (by omega) (by omega)
            have b := (hb x (by omega) x2).2 x1
            rw [a.2]
            exact ⟨b.2.2.1, b.2.2.2⟩
        exact key))
      | omega
      | (intro _))
  · exact hx.elim

