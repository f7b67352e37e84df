/-! the reference, method by method -/
def fr_287 : fw_P := [(0, 2, 0, 0, 0), (1, 0, 0, 0, 0), (2, 51, 12, 27, 0), (5, 0, 0, 0, 0), (6, 3, 1, 0, 0), (7, 1, 1, 0, 0), (8, 2, 0, 0, 0), (9, 64, 188, 0, 112), (12, 13, 32, 0, 0), (15, 2, 0, 0, 0), (16, 50, 12, 56, 0), (19, 1, 1, 0, 0), (20, 2, 0, 0, 0), (21, 1, 1, 0, 0), (22, 64, 218, 1, 412), (25, 53, 0, 0, 0), (26, 5, 1, 0, 1), (29, 6, 7, 0, 0), (32, 2, 0, 0, 0), (33, 64, 188, 0, 112), (36, 3, 1, 0, 0), (37, 1, 1, 0, 0), (38, 0, 0, 0, 2), (39, 15, 137, 0, 0), (42, 0, 0, 0, 0), (43, 3, 2, 0, 0), (44, 2, 0, 0, 0), (45, 50, 12, 56, 0), (48, 1, 2, 0, 0), (49, 52, 0, 0, 0), (50, 0, 0, 0, 1), (51, 10, 60, 0, 0), (54, 5, 2, 0, 1), (57, 6, 44, 0, 0), (60, 0, 0, 0, -1), (61, 3, 3, 0, 0), (62, 0, 0, 0, 0), (63, 3, 4, 0, 0), (65, 1, 4, 0, 0), (67, 2, 0, 0, 0), (68, 64, 188, 0, 112), (71, 13, 109, 0, 0), (74, 1, 4, 0, 0), (76, 1, 2, 0, 0), (77, 10, 103, 0, 0), (80, 2, 0, 0, 0), (81, 50, 12, 56, 0), (84, 1, 4, 0, 0), (86, 52, 0, 0, 0), (87, 25, 103, 0, 0), (90, 2, 0, 0, 0), (91, 1, 2, 0, 0), (92, 1, 4, 0, 0), (94, 64, 219, 2, 312), (97, 20, 103, 0, 0), (100, 1, 4, 0, 0), (102, 3, 3, 0, 0), (103, 5, 4, 0, 1), (106, 6, 65, 0, 0), (109, 2, 0, 0, 0), (110, 50, 12, 56, 0), (113, 1, 2, 0, 0), (114, 0, 0, 0, 0), (115, 53, 0, 0, 0), (116, 2, 0, 0, 0), (117, 50, 12, 56, 0), (120, 1, 3, 0, 0), (121, 44, 0, 0, 0), (122, 52, 0, 0, 0), (123, 0, 0, 0, 1), (124, 31, 0, 0, 0), (125, 53, 0, 0, 0), (126, 2, 0, 0, 0), (127, 1, 3, 0, 0), (128, 64, 225, 1, 212), (131, 5, 1, 0, -1), (134, 6, 37, 0, 0), (137, 72, 0, 0, 0)]
theorem fr_287_ok : fw_mk 287 5 12 none fr_287 = true := by decide +kernel
def ct_layMarks : List (Nat × fw_X) := [(225, x_add), (219, x_areNext), (188, x_many), (218, x_streetsOf2)]
theorem ct_layMarks_ok (d : Nat) : fw_cok fw_T (d + 3) ct_layMarks := by
  intro q hq as W Q h
  simp only [ct_layMarks, List.mem_cons, List.not_mem_nil, or_false] at hq
  rcases hq with rfl | rfl | rfl | rfl
  · exact jc_of (x_add_ok (d + 2) as W Q h)
  · exact jc_of (x_areNext_ok (d + 1) as W Q h)
  · exact jc_of (x_many_ok (d + 2) as W Q h)
  · exact jc_of (x_streetsOf2_ok (d + 0) as W Q h)
theorem s_layMarks_0 {Post : Option fw_V → fw_W → Prop} {d : Nat} {W : fw_W}
    (hw_ : 0 ≤ (0 : Int) ∧ (0 : Int) ≤ 16 ∧ (jf fw_T (d + 4) 287 7 [(0, .inr (.inl 352)), (1, .inl (0 : Int))] [] (fw_up W 352 27 (0 : Int)) Post)) :
    jf fw_T (d + 4) 287 0 [(0, .inr (.inl 352))] [] W Post := fw_ok (n := 6) (ss := [(7, [0, 1]), (37, [0, 1]), (44, [0, 1, 2]), (65, [0, 1, 2, 3, 4])]) (hv := []) fr_287_ok fm_ok (ct_layMarks_ok d) hw_

theorem s_layMarks_65 {Post : Option fw_V → fw_W → Prop} {d : Nat} {W : fw_W} {n h nb k : Int} {f : fw_W}
    (hw_ : (True) ∧ ((((fw_g W 366 0) ≤ k → 0 ≤ h ∧ h < 14 ∧ -2147483648 ≤ (0 : Int) ∧ (0 : Int) ≤ 2147483647 ∧ (0 ≤ nb ∧ nb < 14 ∧ (-2147483648 ≤ (fw_g (fw_up (fw_put [388, 368] 352 [27] W f) 388 h (0 : Int)) 388 nb) → (fw_g (fw_up (fw_put [388, 368] 352 [27] W f) 388 h (0 : Int)) 388 nb) ≤ 2147483647 → -2147483648 ≤ (fw_g (fw_up (fw_put [388, 368] 352 [27] W f) 388 h (0 : Int)) 388 nb) - (1 : Int) ∧ (fw_g (fw_up (fw_put [388, 368] 352 [27] W f) 388 h (0 : Int)) 388 nb) - (1 : Int) ≤ 2147483647 ∧ (0 ≤ nb ∧ nb < 14 ∧ -2147483648 ≤ ((fw_g (fw_up (fw_put [388, 368] 352 [27] W f) 388 h (0 : Int)) 388 nb) - (1 : Int)) ∧ ((fw_g (fw_up (fw_put [388, 368] 352 [27] W f) 388 h (0 : Int)) 388 nb) - (1 : Int)) ≤ 2147483647 ∧ ((0 ≤ (fw_g f 352 27) ∧ (fw_g f 352 27) ≤ 15) ∧ (∀ (f1 : fw_W), (((fw_g f1 352 27) = (fw_g f 352 27) + 1)) → -2147483648 ≤ n + (-1 : Int) ∧ n + (-1 : Int) ≤ 2147483647 ∧ (jf fw_T (d + 4) 287 37 [(0, .inr (.inl 352)), (1, .inl (n + (-1 : Int)))] [] (fw_put [368] 352 [27] (fw_up (fw_up (fw_put [388, 368] 352 [27] W f) 388 h (0 : Int)) 388 nb ((fw_g (fw_up (fw_put [388, 368] 352 [27] W f) 388 h (0 : Int)) 388 nb) - (1 : Int))) f1) Post))))))) ∧ (k < (fw_g W 366 0) → ((k = h → -2147483648 ≤ k + (1 : Int) ∧ k + (1 : Int) ≤ 2147483647 ∧ (jf fw_T (d + 4) 287 65 [(0, .inr (.inl 352)), (1, .inl n), (2, .inl h), (3, .inl nb), (4, .inl (k + (1 : Int)))] [] (fw_put [388, 368] 352 [27] W f) Post)) ∧ (¬ k = h → 0 ≤ k ∧ k < 14 ∧ (-2147483648 ≤ (fw_g f 388 k) → (fw_g f 388 k) ≤ 2147483647 → (((fw_g f 388 k) ≤ 0 → -2147483648 ≤ k + (1 : Int) ∧ k + (1 : Int) ≤ 2147483647 ∧ (jf fw_T (d + 4) 287 65 [(0, .inr (.inl 352)), (1, .inl n), (2, .inl h), (3, .inl nb), (4, .inl (k + (1 : Int)))] [] (fw_put [388, 368] 352 [27] W f) Post)) ∧ (0 < (fw_g f 388 k) → (0 ≤ h ∧ h < 14 ∧ 0 ≤ k ∧ k < 14) ∧ (∀ (r2 : Int), ((0 ≤ r2 ∧ r2 ≤ 1 ∧ ((r2 = 1 ∧ ((fw_g W 366 (2 + 3 * h)) = k ∨ (fw_g W 366 (2 + 3 * k)) = h)) ∨ (r2 = 0 ∧ ¬ (fw_g W 366 (2 + 3 * h)) = k ∧ ¬ (fw_g W 366 (2 + 3 * k)) = h)))) → ((r2 = 0 → -2147483648 ≤ k + (1 : Int) ∧ k + (1 : Int) ≤ 2147483647 ∧ (jf fw_T (d + 4) 287 65 [(0, .inr (.inl 352)), (1, .inl n), (2, .inl h), (3, .inl nb), (4, .inl (k + (1 : Int)))] [] (fw_put [388, 368] 352 [27] W f) Post)) ∧ (¬ r2 = 0 → -2147483648 ≤ k + (1 : Int) ∧ k + (1 : Int) ≤ 2147483647 ∧ (jf fw_T (d + 4) 287 65 [(0, .inr (.inl 352)), (1, .inl n), (2, .inl h), (3, .inl k), (4, .inl (k + (1 : Int)))] [] (fw_put [388, 368] 352 [27] W f) Post))))))))))))) :
    jf fw_T (d + 4) 287 65 [(0, .inr (.inl 352)), (1, .inl n), (2, .inl h), (3, .inl nb), (4, .inl k)] [] (fw_put [388, 368] 352 [27] W f) Post := fw_ok (n := 23) (ss := [(7, [0, 1]), (37, [0, 1]), (44, [0, 1, 2]), (65, [0, 1, 2, 3, 4])]) (hv := []) fr_287_ok fm_ok (ct_layMarks_ok d) hw_

theorem s_layMarks_44 {Post : Option fw_V → fw_W → Prop} {d : Nat} {W : fw_W} {n h : Int} {f : fw_W}
    (hw_ : 0 ≤ h ∧ h < 14 ∧ (-2147483648 ≤ (fw_g f 388 h) → (fw_g f 388 h) ≤ 2147483647 → (((fw_g f 388 h) = (1 : Int) → jf fw_T (d + 4) 287 65 [(0, .inr (.inl 352)), (1, .inl n), (2, .inl h), (3, .inl (-1 : Int)), (4, .inl (0 : Int))] [] (fw_put [388, 368] 352 [27] W f) Post) ∧ (¬ (fw_g f 388 h) = (1 : Int) → -2147483648 ≤ h + (1 : Int) ∧ h + (1 : Int) ≤ 2147483647 ∧ (jf fw_T (d + 4) 287 44 [(0, .inr (.inl 352)), (1, .inl n), (2, .inl (h + (1 : Int)))] [] (fw_put [388, 368] 352 [27] W f) Post))))) :
    jf fw_T (d + 4) 287 44 [(0, .inr (.inl 352)), (1, .inl n), (2, .inl h)] [] (fw_put [388, 368] 352 [27] W f) Post := fw_ok (n := 11) (ss := [(7, [0, 1]), (37, [0, 1]), (44, [0, 1, 2]), (65, [0, 1, 2, 3, 4])]) (hv := []) fr_287_ok fm_ok (ct_layMarks_ok d) hw_

theorem s_layMarks_37 {Post : Option fw_V → fw_W → Prop} {d : Nat} {W : fw_W} {n : Int} {f : fw_W}
    (hw_ : ((n ≤ (2 : Int) → Post none (fw_put [388, 368] 352 [27] W f)) ∧ ((2 : Int) < n → jf fw_T (d + 4) 287 44 [(0, .inr (.inl 352)), (1, .inl n), (2, .inl (0 : Int))] [] (fw_put [388, 368] 352 [27] W f) Post))) :
    jf fw_T (d + 4) 287 37 [(0, .inr (.inl 352)), (1, .inl n)] [] (fw_put [388, 368] 352 [27] W f) Post := fw_ok (n := 6) (ss := [(7, [0, 1]), (37, [0, 1]), (44, [0, 1, 2]), (65, [0, 1, 2, 3, 4])]) (hv := []) fr_287_ok fm_ok (ct_layMarks_ok d) hw_

theorem s_layMarks_7 {Post : Option fw_V → fw_W → Prop} {d : Nat} {W : fw_W} {n : Int} {f : fw_W}
    (hw_ : (True) ∧ ((((fw_g W 366 0) ≤ n → (True) ∧ (jf fw_T (d + 4) 287 37 [(0, .inr (.inl 352)), (1, .inl (fw_g W 366 0))] [] (fw_put [388, 368] 352 [27] W f) Post)) ∧ (n < (fw_g W 366 0) → (mt (fw_put [388, 368] 352 [27] W f) ∧ 0 ≤ (fw_g W 366 0) ∧ (fw_g W 366 0) ≤ 14 ∧ 0 ≤ n ∧ n < 14) ∧ (∀ (r1 : Int), ((-2147483648 ≤ r1 ∧ r1 ≤ 2147483647 ∧ (r1 = ((dga (fun z_ => (fw_g W 366 (2 + 3 * z_))) ((fw_g W 366 0)).toNat n : Nat) : Int)))) → 0 ≤ n ∧ n < 14 ∧ -2147483648 ≤ r1 ∧ r1 ≤ 2147483647 ∧ (-2147483648 ≤ n + (1 : Int) ∧ n + (1 : Int) ≤ 2147483647 ∧ (jf fw_T (d + 4) 287 7 [(0, .inr (.inl 352)), (1, .inl (n + (1 : Int)))] [] (fw_up (fw_put [388, 368] 352 [27] W f) 388 n r1) Post))))))) :
    jf fw_T (d + 4) 287 7 [(0, .inr (.inl 352)), (1, .inl n)] [] (fw_put [388, 368] 352 [27] W f) Post := fw_ok (n := 14) (ss := [(7, [0, 1]), (37, [0, 1]), (44, [0, 1, 2]), (65, [0, 1, 2, 3, 4])]) (hv := []) fr_287_ok fm_ok (ct_layMarks_ok d) hw_

theorem lm_layMarks_65 {Post : Option fw_V → fw_W → Prop} {d : Nat} {W : fw_W} (hpre : mt W ∧ 0 ≤ (fw_g W 366 0) ∧ (fw_g W 366 0) ≤ 14) (hP : ∀ (W2 : fw_W), fw_sm [388, 368] 352 [27] W W2 → (True) → Post none W2) (M37 : Int) (h37 : ∀ (n : Int) (f : fw_W), (0 ≤ n ∧ n ≤ (fw_g W 366 0) ∧ (fw_g f 352 27) = (fw_g W 366 0) - n) ∧ (3 ≤ n → mk_ok ((fw_g W 366 0)) (fun z_ => (fw_g W 366 (2 + 3 * z_))) (fun z_ => (fw_g f 388 z_)) n) → n < M37 → jf fw_T (d + 4) 287 37 [(0, .inr (.inl 352)), (1, .inl n)] [] (fw_put [388, 368] 352 [27] W f) Post) : ∀ (m : Nat) (n h nb k : Int) (f : fw_W), ((fw_g W 366 0) - k).toNat = m → ((0 ≤ k ∧ 0 ≤ h ∧ h < (fw_g W 366 0) ∧ 3 ≤ n ∧ n ≤ (fw_g W 366 0) ∧ (fw_g f 352 27) = (fw_g W 366 0) - n) ∧ mk_ok ((fw_g W 366 0)) (fun z_ => (fw_g W 366 (2 + 3 * z_))) (fun z_ => (fw_g f 388 z_)) n ∧ (fw_g f 388 h) = 1 ∧ (nb = -1 ∨ (0 ≤ nb ∧ nb < (fw_g W 366 0) ∧ nb ≠ h ∧ 0 < (fw_g f 388 nb) ∧ tr_nx (fun z_ => (fw_g W 366 (2 + 3 * z_))) h nb)) ∧ (∀ x_, 0 ≤ x_ → x_ < k → x_ ≠ h → 0 < (fw_g f 388 x_) → tr_nx (fun z_ => (fw_g W 366 (2 + 3 * z_))) h x_ → nb ≠ -1)) → n ≤ M37 → jf fw_T (d + 4) 287 65 [(0, .inr (.inl 352)), (1, .inl n), (2, .inl h), (3, .inl nb), (4, .inl k)] [] (fw_put [388, 368] 352 [27] W f) Post := by
  intro m
  induction m using Nat.strongRecOn with
  | ind m ih =>
    intro n h nb k f hm hi e37
    refine jf_rng (fun hrg => ?_)
    have hrg : -2147483648 ≤ n ∧ n ≤ 2147483647 ∧ -2147483648 ≤ h ∧ h ≤ 2147483647 ∧ -2147483648 ≤ nb ∧ nb ≤ 2147483647 ∧ -2147483648 ≤ k ∧ k ≤ 2147483647 ∧ True := hrg
    refine s_layMarks_65 ?_
    have hi1 := hi.1
    have hi3 := hi.2.2.1
    have hnb : (fw_g W 366 0) ≤ k → 0 ≤ nb ∧ nb < (fw_g W 366 0) ∧ nb ≠ h ∧ 2 ≤ (fw_g f 388 nb) ∧ tr_nx (fun z_ => (fw_g W 366 (2 + 3 * z_))) h nb ∧ (fw_g f 388 nb) ≤ 14 := fun hk => by
      obtain ⟨q, q1, q2, q3, q4, q5, _⟩ := mk_nb hi.2.1 hi1.2.1 hi1.2.2.1 hi3
      have hne := hi.2.2.2.2 q q1 (by omega) q3 q4 q5
      rcases hi.2.2.2.1 with e | e
      · exact absurd e hne
      · exact ⟨e.1, e.2.1, e.2.2.1, mk_two hpre.1.2.2.1 hi.2.1 (by omega) hi1.2.1 hi1.2.2.1 hi3 e.1 e.2.1 e.2.2.1 e.2.2.2.1 e.2.2.2.2, e.2.2.2.2, (hi.2.1.1 nb e.1 e.2.1).2⟩
    have hnb2 : (fw_g W 366 0) ≤ k → 0 ≤ nb ∧ nb < (fw_g W 366 0) ∧ 2 ≤ (fw_g f 388 nb) ∧ (fw_g f 388 nb) ≤ 14 ∧ fw_g (fw_up (fw_put [388, 368] 352 [27] W f) 388 h 0) 388 nb = (fw_g f 388 nb) := fun hk => by
      have e := hnb hk
      refine ⟨e.1, e.2.1, e.2.2.2.1, e.2.2.2.2.2, ?_⟩
      rw [fg_if (by omega) (by omega) (by omega) (by omega), if_neg (fun z => e.2.2.1 z.symm)]
      rfl
    repeat' (first
      | (exact True.intro)
      | (exact hpre.1)
      | (refine And.intro ?_ ?_)
      | (refine (h37 _ _ ?_ (by omega)); (
        rename_i f3 hf3
        have hn := hnb (by omega)
        refine ⟨?_, fun h3 => mk_take hpre.1.2.2.1 hi.2.1 (by omega) hi1.2.1 hi1.2.2.1 hi.2.2.1 hn.1 hn.2.1 hn.2.2.1 (by show 0 < fw_g f 388 nb; omega) hn.2.2.2.2.1 ?_ ?_ ?_⟩
        · have e1 : fw_g f3 352 27 = fw_g f 352 27 + 1 := hf3
          rw [fg_fin rfl]
          omega
        · show fw_g _ 388 h = 0
          rw [fg_out rfl rfl, fg_if (by omega) (by omega) (by omega) (by omega), if_neg hn.2.2.1, fg_same (by omega) (by omega)]
        · show fw_g _ 388 nb = fw_g f 388 nb - 1
          rw [fg_out rfl rfl, fg_same (by omega) (by omega)]
          omega
        · intro x x1 x2 xh xn
          show fw_g _ 388 x = fw_g f 388 x
          rw [fg_out rfl rfl, fg_if (by omega) (by omega) (by omega) (by omega), if_neg (fun e => xn e.symm), fg_if (by omega) (by omega) (by omega) (by omega), if_neg (fun e => xh e.symm)]
          rfl))
      | (refine jf_put (S := [388, 368]) (o := 352) (F := [27]) (W := W) (by repeat (first | exact fw_sm_refl | exact fw_sm_put0 | refine fw_sm_arr ?_ rfl | refine fw_sm_up ?_ rfl | refine fw_sm_put ?_ rfl | refine fw_sm_cp ?_ rfl)) (h37 _ _ ?_ (by omega)); (
        rename_i f3 hf3
        have hn := hnb (by omega)
        refine ⟨?_, fun h3 => mk_take hpre.1.2.2.1 hi.2.1 (by omega) hi1.2.1 hi1.2.2.1 hi.2.2.1 hn.1 hn.2.1 hn.2.2.1 (by show 0 < fw_g f 388 nb; omega) hn.2.2.2.2.1 ?_ ?_ ?_⟩
        · have e1 : fw_g f3 352 27 = fw_g f 352 27 + 1 := hf3
          rw [fg_fin rfl]
          omega
        · show fw_g _ 388 h = 0
          rw [fg_out rfl rfl, fg_if (by omega) (by omega) (by omega) (by omega), if_neg hn.2.2.1, fg_same (by omega) (by omega)]
        · show fw_g _ 388 nb = fw_g f 388 nb - 1
          rw [fg_out rfl rfl, fg_same (by omega) (by omega)]
          omega
        · intro x x1 x2 xh xn
          show fw_g _ 388 x = fw_g f 388 x
          rw [fg_out rfl rfl, fg_if (by omega) (by omega) (by omega) (by omega), if_neg (fun e => xn e.symm), fg_if (by omega) (by omega) (by omega) (by omega), if_neg (fun e => xh e.symm)]
          rfl))
      | (refine (ih _ (by omega) _ _ _ _ _ rfl ?_ (by omega)); (
        first
          | (rename_i c1 c2 r1 hr1 c3
             have nx : tr_nx (fun z_ => (fw_g W 366 (2 + 3 * z_))) h k := by
               show (fw_g W 366 (2 + 3 * h)) = k ∨ (fw_g W 366 (2 + 3 * k)) = h
               omega
             exact ⟨by omega, hi.2.1, hi3, Or.inr ⟨by omega, by omega, by omega, by omega, nx⟩, fun x _ _ _ _ _ => by omega⟩)
          | (refine ⟨by omega, hi.2.1, hi3, hi.2.2.2.1, fun x x1 x2 x3 x4 x5 => ?_⟩
             by_cases e : x = k
             · exfalso
               rw [e] at x4 x5 x3
               have x6 : (fw_g W 366 (2 + 3 * h)) = k ∨ (fw_g W 366 (2 + 3 * k)) = h := x5
               omega
             · exact hi.2.2.2.2 x x1 (by omega) x3 x4 x5)))
      | (refine jf_put (S := [388, 368]) (o := 352) (F := [27]) (W := W) (by repeat (first | exact fw_sm_refl | exact fw_sm_put0 | refine fw_sm_arr ?_ rfl | refine fw_sm_up ?_ rfl | refine fw_sm_put ?_ rfl | refine fw_sm_cp ?_ rfl)) (ih _ (by omega) _ _ _ _ _ rfl ?_ (by omega)); (
        first
          | (rename_i c1 c2 r1 hr1 c3
             have nx : tr_nx (fun z_ => (fw_g W 366 (2 + 3 * z_))) h k := by
               show (fw_g W 366 (2 + 3 * h)) = k ∨ (fw_g W 366 (2 + 3 * k)) = h
               omega
             exact ⟨by omega, hi.2.1, hi3, Or.inr ⟨by omega, by omega, by omega, by omega, nx⟩, fun x _ _ _ _ _ => by omega⟩)
          | (refine ⟨by omega, hi.2.1, hi3, hi.2.2.2.1, fun x x1 x2 x3 x4 x5 => ?_⟩
             by_cases e : x = k
             · exfalso
               rw [e] at x4 x5 x3
               have x6 : (fw_g W 366 (2 + 3 * h)) = k ∨ (fw_g W 366 (2 + 3 * k)) = h := x5
               omega
             · exact hi.2.2.2.2 x x1 (by omega) x3 x4 x5)))
      | (refine hP _ (by repeat (first | exact fw_sm_refl | exact fw_sm_put0 | refine fw_sm_arr ?_ rfl | refine fw_sm_up ?_ rfl | refine fw_sm_put ?_ rfl | refine fw_sm_cp ?_ rfl)) ?_; (first | trivial | omega))
      | omega
      | (intro _))
theorem lm_layMarks_44 {Post : Option fw_V → fw_W → Prop} {d : Nat} {W : fw_W} (hpre : mt W ∧ 0 ≤ (fw_g W 366 0) ∧ (fw_g W 366 0) ≤ 14) (hP : ∀ (W2 : fw_W), fw_sm [388, 368] 352 [27] W W2 → (True) → Post none W2) (M37 : Int) (h37 : ∀ (n : Int) (f : fw_W), (0 ≤ n ∧ n ≤ (fw_g W 366 0) ∧ (fw_g f 352 27) = (fw_g W 366 0) - n) ∧ (3 ≤ n → mk_ok ((fw_g W 366 0)) (fun z_ => (fw_g W 366 (2 + 3 * z_))) (fun z_ => (fw_g f 388 z_)) n) → n < M37 → jf fw_T (d + 4) 287 37 [(0, .inr (.inl 352)), (1, .inl n)] [] (fw_put [388, 368] 352 [27] W f) Post) : ∀ (m : Nat) (n h : Int) (f : fw_W), ((fw_g W 366 0) - h).toNat = m → ((0 ≤ h ∧ 3 ≤ n ∧ n ≤ (fw_g W 366 0) ∧ (fw_g f 352 27) = (fw_g W 366 0) - n) ∧ mk_ok ((fw_g W 366 0)) (fun z_ => (fw_g W 366 (2 + 3 * z_))) (fun z_ => (fw_g f 388 z_)) n ∧ (∀ x_, 0 ≤ x_ → x_ < h → (fw_g f 388 x_) ≠ 1)) → n ≤ M37 → jf fw_T (d + 4) 287 44 [(0, .inr (.inl 352)), (1, .inl n), (2, .inl h)] [] (fw_put [388, 368] 352 [27] W f) Post := by
  intro m
  induction m using Nat.strongRecOn with
  | ind m ih =>
    intro n h f hm hi e37
    refine jf_rng (fun hrg => ?_)
    have hrg : -2147483648 ≤ n ∧ n ≤ 2147483647 ∧ -2147483648 ≤ h ∧ h ≤ 2147483647 ∧ True := hrg
    refine s_layMarks_44 ?_
    have hi1 := hi.1
    have hl : h < (fw_g W 366 0) := by
      obtain ⟨l, l1, l2, l3⟩ := mk_end hpre.1.2.2.1 hi.2.1 (by omega)
      apply Classical.byContradiction
      intro hc
      exact hi.2.2 l l1 (by omega) l3
    repeat' (first
      | (exact True.intro)
      | (exact hpre.1)
      | (refine And.intro ?_ ?_)
      | (refine (h37 _ _ ?_ (by omega)); (first | omega | trivial | (simp (config := { decide := true }) only [fg_in, fg_fin, fg_out, fg_fout, fg_up, fg_same, true_and, and_true] <;> omega)))
      | (refine jf_put (S := [388, 368]) (o := 352) (F := [27]) (W := W) (by repeat (first | exact fw_sm_refl | exact fw_sm_put0 | refine fw_sm_arr ?_ rfl | refine fw_sm_up ?_ rfl | refine fw_sm_put ?_ rfl | refine fw_sm_cp ?_ rfl)) (h37 _ _ ?_ (by omega)); (first | omega | trivial | (simp (config := { decide := true }) only [fg_in, fg_fin, fg_out, fg_fout, fg_up, fg_same, true_and, and_true] <;> omega)))
      | (refine (ih _ (by omega) _ _ _ rfl ?_ (by omega)); (
        refine ⟨by omega, hi.2.1, fun x x1 x2 => ?_⟩
        by_cases e : x = h
        · rw [e]; omega
        · exact hi.2.2 x x1 (by omega)))
      | (refine jf_put (S := [388, 368]) (o := 352) (F := [27]) (W := W) (by repeat (first | exact fw_sm_refl | exact fw_sm_put0 | refine fw_sm_arr ?_ rfl | refine fw_sm_up ?_ rfl | refine fw_sm_put ?_ rfl | refine fw_sm_cp ?_ rfl)) (ih _ (by omega) _ _ _ rfl ?_ (by omega)); (
        refine ⟨by omega, hi.2.1, fun x x1 x2 => ?_⟩
        by_cases e : x = h
        · rw [e]; omega
        · exact hi.2.2 x x1 (by omega)))
      | (refine (lm_layMarks_65 hpre hP M37 h37 _ _ _ _ _ _ rfl ?_ (by omega)); (exact ⟨by omega, hi.2.1, by omega, Or.inl rfl, fun x x1 x2 => by omega⟩))
      | (refine jf_put (S := [388, 368]) (o := 352) (F := [27]) (W := W) (by repeat (first | exact fw_sm_refl | exact fw_sm_put0 | refine fw_sm_arr ?_ rfl | refine fw_sm_up ?_ rfl | refine fw_sm_put ?_ rfl | refine fw_sm_cp ?_ rfl)) (lm_layMarks_65 hpre hP M37 h37 _ _ _ _ _ _ rfl ?_ (by omega)); (exact ⟨by omega, hi.2.1, by omega, Or.inl rfl, fun x x1 x2 => by omega⟩))
      | (refine hP _ (by repeat (first | exact fw_sm_refl | exact fw_sm_put0 | refine fw_sm_arr ?_ rfl | refine fw_sm_up ?_ rfl | refine fw_sm_put ?_ rfl | refine fw_sm_cp ?_ rfl)) ?_; (first | trivial | omega))
      | omega
      | (intro _))
theorem lm_layMarks_37 {Post : Option fw_V → fw_W → Prop} {d : Nat} {W : fw_W} (hpre : mt W ∧ 0 ≤ (fw_g W 366 0) ∧ (fw_g W 366 0) ≤ 14) (hP : ∀ (W2 : fw_W), fw_sm [388, 368] 352 [27] W W2 → (True) → Post none W2)  : ∀ (m : Nat) (n : Int) (f : fw_W), (n).toNat = m → (0 ≤ n ∧ n ≤ (fw_g W 366 0) ∧ (fw_g f 352 27) = (fw_g W 366 0) - n) ∧ (3 ≤ n → mk_ok ((fw_g W 366 0)) (fun z_ => (fw_g W 366 (2 + 3 * z_))) (fun z_ => (fw_g f 388 z_)) n) → jf fw_T (d + 4) 287 37 [(0, .inr (.inl 352)), (1, .inl n)] [] (fw_put [388, 368] 352 [27] W f) Post := by
  intro m
  induction m using Nat.strongRecOn with
  | ind m ih =>
    intro n f hm hi
    refine jf_rng (fun hrg => ?_)
    have hrg : -2147483648 ≤ n ∧ n ≤ 2147483647 ∧ True := hrg
    refine s_layMarks_37 ?_
    have hi1 := hi.1
    repeat' (first
      | (exact True.intro)
      | (exact hpre.1)
      | (refine And.intro ?_ ?_)
      | (refine (ih _ (by omega) _ _ rfl ?_); (first | omega | trivial | (simp (config := { decide := true }) only [fg_in, fg_fin, fg_out, fg_fout, fg_up, fg_same, true_and, and_true] <;> omega)))
      | (refine jf_put (S := [388, 368]) (o := 352) (F := [27]) (W := W) (by repeat (first | exact fw_sm_refl | exact fw_sm_put0 | refine fw_sm_arr ?_ rfl | refine fw_sm_up ?_ rfl | refine fw_sm_put ?_ rfl | refine fw_sm_cp ?_ rfl)) (ih _ (by omega) _ _ rfl ?_); (first | omega | trivial | (simp (config := { decide := true }) only [fg_in, fg_fin, fg_out, fg_fout, fg_up, fg_same, true_and, and_true] <;> omega)))
      | (refine (lm_layMarks_44 hpre hP n (fun a0 af hi hl => ih _ (by omega) a0 af rfl hi) _ _ _ _ rfl ?_ (by omega)); (exact ⟨by omega, hi.2 (by omega), fun x x1 x2 => by omega⟩))
      | (refine jf_put (S := [388, 368]) (o := 352) (F := [27]) (W := W) (by repeat (first | exact fw_sm_refl | exact fw_sm_put0 | refine fw_sm_arr ?_ rfl | refine fw_sm_up ?_ rfl | refine fw_sm_put ?_ rfl | refine fw_sm_cp ?_ rfl)) (lm_layMarks_44 hpre hP n (fun a0 af hi hl => ih _ (by omega) a0 af rfl hi) _ _ _ _ rfl ?_ (by omega)); (exact ⟨by omega, hi.2 (by omega), fun x x1 x2 => by omega⟩))
      | (refine hP _ (by repeat (first | exact fw_sm_refl | exact fw_sm_put0 | refine fw_sm_arr ?_ rfl | refine fw_sm_up ?_ rfl | refine fw_sm_put ?_ rfl | refine fw_sm_cp ?_ rfl)) ?_; (first | trivial | omega))
      | omega
      | (intro _))
theorem lm_layMarks_7 {Post : Option fw_V → fw_W → Prop} {d : Nat} {W : fw_W} (hpre : mt W ∧ 0 ≤ (fw_g W 366 0) ∧ (fw_g W 366 0) ≤ 14) (hP : ∀ (W2 : fw_W), fw_sm [388, 368] 352 [27] W W2 → (True) → Post none W2)  : ∀ (m : Nat) (n : Int) (f : fw_W), ((fw_g W 366 0) - n).toNat = m → (0 ≤ n ∧ (fw_g f 352 27) = 0 ∧ ∀ x_, 0 ≤ x_ → x_ < n → (fw_g f 388 x_) = ((dga (fun z_ => (fw_g W 366 (2 + 3 * z_))) ((fw_g W 366 0)).toNat x_ : Nat) : Int)) → jf fw_T (d + 4) 287 7 [(0, .inr (.inl 352)), (1, .inl n)] [] (fw_put [388, 368] 352 [27] W f) Post := by
  intro m
  induction m using Nat.strongRecOn with
  | ind m ih =>
    intro n f hm hi
    refine jf_rng (fun hrg => ?_)
    have hrg : -2147483648 ≤ n ∧ n ≤ 2147483647 ∧ True := hrg
    refine s_layMarks_7 ?_
    have hi1 := hi.1
    have hi2 := hi.2.1
    repeat' (first
      | (exact True.intro)
      | (exact hpre.1)
      | (refine And.intro ?_ ?_)
      | (refine (ih _ (by omega) _ _ rfl ?_); (
        rename_i r1 hr1
        refine ⟨by omega, ?_, fun x x1 x2 => ?_⟩
        · rw [fg_up rfl]; exact hi2
        · rw [fg_if (by omega) (by omega) (by omega) (by omega)]
          by_cases e : n = x
          · rw [if_pos e, ← e]; exact hr1.2.2
          · rw [if_neg e]; exact hi.2.2 x x1 (by omega)))
      | (refine jf_put (S := [388, 368]) (o := 352) (F := [27]) (W := W) (by repeat (first | exact fw_sm_refl | exact fw_sm_put0 | refine fw_sm_arr ?_ rfl | refine fw_sm_up ?_ rfl | refine fw_sm_put ?_ rfl | refine fw_sm_cp ?_ rfl)) (ih _ (by omega) _ _ rfl ?_); (
        rename_i r1 hr1
        refine ⟨by omega, ?_, fun x x1 x2 => ?_⟩
        · rw [fg_up rfl]; exact hi2
        · rw [fg_if (by omega) (by omega) (by omega) (by omega)]
          by_cases e : n = x
          · rw [if_pos e, ← e]; exact hr1.2.2
          · rw [if_neg e]; exact hi.2.2 x x1 (by omega)))
      | (refine (lm_layMarks_37 hpre hP _ _ _ rfl ?_); (
        refine ⟨by omega, fun h3 => mk_init hpre.1.2.2.1 (by omega) (by omega) (fun x x1 x2 => hi.2.2 x x1 (by omega))⟩))
      | (refine jf_put (S := [388, 368]) (o := 352) (F := [27]) (W := W) (by repeat (first | exact fw_sm_refl | exact fw_sm_put0 | refine fw_sm_arr ?_ rfl | refine fw_sm_up ?_ rfl | refine fw_sm_put ?_ rfl | refine fw_sm_cp ?_ rfl)) (lm_layMarks_37 hpre hP _ _ _ rfl ?_); (
        refine ⟨by omega, fun h3 => mk_init hpre.1.2.2.1 (by omega) (by omega) (fun x x1 x2 => hi.2.2 x x1 (by omega))⟩))
      | (refine hP _ (by repeat (first | exact fw_sm_refl | exact fw_sm_put0 | refine fw_sm_arr ?_ rfl | refine fw_sm_up ?_ rfl | refine fw_sm_put ?_ rfl | refine fw_sm_cp ?_ rfl)) ?_; (first | trivial | omega))
      | omega
      | (intro _))
def x_layMarks : fw_X := fun as W Q => match as with
  | [.inr (.inl s_)] => fw_if (Nat.beq s_ 352) ((mt W ∧ 0 ≤ (fw_g W 366 0) ∧ (fw_g W 366 0) ≤ 14) ∧ (∀ (f : fw_W), (True) → Q none (fw_put [388, 368] 352 [27] W f)))
  | _ => False
theorem x_layMarks_ok (d : Nat) (as : List fw_V) (W : fw_W) (Q : Option fw_V → fw_W → Prop) (hx : x_layMarks as W Q) : jf fw_T (d + 4) 287 0 (fw_args 0 as) [] W Q := by
  unfold x_layMarks at hx
  split at hx
  · rename_i s_
    obtain ⟨e_, hpre, hQ⟩ := fw_if_ok hx
    have e_ := Nat.eq_of_beq_eq_true e_
    subst e_
    have hP : ∀ (W2 : fw_W), fw_sm [388, 368] 352 [27] W W2 → _ → Q none W2 := fun W2 hs hr => fw_sm_use (Q := fun Z => Q none Z) hs (hQ W2 hr)
    refine s_layMarks_0 ?_
    repeat' (first
      | (exact True.intro)
      | (exact hpre.1)
      | (refine And.intro ?_ ?_)
      | (refine jf_put (S := [388, 368]) (o := 352) (F := [27]) (W := W) (by repeat (first | exact fw_sm_refl | exact fw_sm_put0 | refine fw_sm_arr ?_ rfl | refine fw_sm_up ?_ rfl | refine fw_sm_put ?_ rfl | refine fw_sm_cp ?_ rfl)) (lm_layMarks_7 hpre hP _ _ _ rfl ?_); (refine ⟨by omega, ?_, fun x x1 x2 => by omega⟩; first | rfl | (rw [fg_same (by omega) (by omega)])))
      | (refine jf_put (S := [388, 368]) (o := 352) (F := [27]) (W := W) (by repeat (first | exact fw_sm_refl | exact fw_sm_put0 | refine fw_sm_arr ?_ rfl | refine fw_sm_up ?_ rfl | refine fw_sm_put ?_ rfl | refine fw_sm_cp ?_ rfl)) (lm_layMarks_37 hpre hP _ _ _ rfl ?_); (first | omega | trivial | (simp (config := { decide := true }) only [fg_in, fg_fin, fg_out, fg_fout, fg_up, fg_same, true_and, and_true] <;> omega)))
      | (refine jf_put (S := [388, 368]) (o := 352) (F := [27]) (W := W) (by repeat (first | exact fw_sm_refl | exact fw_sm_put0 | refine fw_sm_arr ?_ rfl | refine fw_sm_up ?_ rfl | refine fw_sm_put ?_ rfl | refine fw_sm_cp ?_ rfl)) (lm_layMarks_44 hpre hP M37 h37 _ _ _ _ rfl ?_ (by omega)); (first | omega | trivial | (simp (config := { decide := true }) only [fg_in, fg_fin, fg_out, fg_fout, fg_up, fg_same, true_and, and_true] <;> omega)))
      | (refine jf_put (S := [388, 368]) (o := 352) (F := [27]) (W := W) (by repeat (first | exact fw_sm_refl | exact fw_sm_put0 | refine fw_sm_arr ?_ rfl | refine fw_sm_up ?_ rfl | refine fw_sm_put ?_ rfl | refine fw_sm_cp ?_ rfl)) (lm_layMarks_65 hpre hP M37 h37 _ _ _ _ _ _ rfl ?_ (by omega)); (first | omega | trivial | (simp (config := { decide := true }) only [fg_in, fg_fin, fg_out, fg_fout, fg_up, fg_same, true_and, and_true] <;> omega)))
      | (refine hP _ (by repeat (first | exact fw_sm_refl | exact fw_sm_put0 | refine fw_sm_arr ?_ rfl | refine fw_sm_up ?_ rfl | refine fw_sm_put ?_ rfl | refine fw_sm_cp ?_ rfl)) ?_; (first | trivial | omega))
      | omega
      | (intro _))
  · exact hx.elim

def fr_286 : fw_P := [(0, 2, 0, 0, 0), (1, 64, 287, 0, 512), (4, 2, 0, 0, 0), (5, 50, 12, 27, 0), (8, 70, 0, 0, 0)]
theorem fr_286_ok : fw_mk 286 1 12 (some .int) fr_286 = true := by decide +kernel
def ct_marks : List (Nat × fw_X) := [(287, x_layMarks)]
theorem ct_marks_ok (d : Nat) : fw_cok fw_T (d + 4) ct_marks := by
  intro q hq as W Q h
  simp only [ct_marks, List.mem_cons, List.not_mem_nil, or_false] at hq
  rcases hq with rfl
  · exact jc_of (x_layMarks_ok (d + 0) as W Q h)
theorem s_marks_0 {Post : Option fw_V → fw_W → Prop} {d : Nat} {W : fw_W}
    (hw_ : (mt W ∧ 0 ≤ (fw_g W 366 0) ∧ (fw_g W 366 0) ≤ 14) ∧ (∀ (f1 : fw_W), ((True)) → (0 ≤ (fw_g f1 352 27) → (fw_g f1 352 27) ≤ 16 → (-2147483648 ≤ (fw_g f1 352 27) → (fw_g f1 352 27) ≤ 2147483647 → Post (some (.inl (fw_g f1 352 27))) (fw_put [388, 368] 352 [27] W f1))))) :
    jf fw_T (d + 5) 286 0 [(0, .inr (.inl 352))] [] W Post := fw_ok (n := 6) (ss := []) (hv := []) fr_286_ok fm_ok (ct_marks_ok d) hw_

def x_marks : fw_X := fun as W Q => match as with
  | [.inr (.inl s_)] => fw_if (Nat.beq s_ 352) ((mt W ∧ 0 ≤ (fw_g W 366 0) ∧ (fw_g W 366 0) ≤ 14) ∧ (∀ (v : Int) (f : fw_W), (-2147483648 ≤ v ∧ v ≤ 2147483647 ∧ (True)) → Q (some (.inl v)) (fw_put [388, 368] 352 [27] W f)))
  | _ => False
theorem x_marks_ok (d : Nat) (as : List fw_V) (W : fw_W) (Q : Option fw_V → fw_W → Prop) (hx : x_marks as W Q) : jf fw_T (d + 5) 286 0 (fw_args 0 as) [] W Q := by
  unfold x_marks at hx
  split at hx
  · rename_i s_
    obtain ⟨e_, hpre, hQ⟩ := fw_if_ok hx
    have e_ := Nat.eq_of_beq_eq_true e_
    subst e_
    have hP : ∀ (v : Int) (W2 : fw_W), fw_sm [388, 368] 352 [27] W W2 → _ → Q (some (.inl v)) W2 := fun v W2 hs hr => fw_sm_use (Q := fun Z => Q (some (.inl v)) Z) hs (hQ v W2 hr)
    refine s_marks_0 ?_
    repeat' (first
      | (exact True.intro)
      | (exact hpre.1)
      | (refine And.intro ?_ ?_)
      | (refine hP _ _ (by repeat (first | exact fw_sm_refl | exact fw_sm_put0 | refine fw_sm_arr ?_ rfl | refine fw_sm_up ?_ rfl | refine fw_sm_put ?_ rfl | refine fw_sm_cp ?_ rfl)) ?_; (refine ⟨by omega, by omega, ?_⟩; (first | trivial | omega)))
      | omega
      | (intro _))
  · exact hx.elim

