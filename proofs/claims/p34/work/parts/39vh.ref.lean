/-! the reference, method by method -/
def fr_276 : fw_P := [(0, 1, 1, 0, 0), (1, 0, 0, 0, 0), (2, 0, 0, 0, 2), (3, 65, 214, 3, 300), (6, 20, 18, 0, 0), (9, 2, 0, 0, 0), (10, 50, 12, 68, 0), (13, 1, 1, 0, 0), (14, 54, 0, 0, 0), (15, 21, 20, 0, 0), (18, 0, 0, 0, -1), (19, 70, 0, 0, 0), (20, 2, 0, 0, 0), (21, 0, 0, 0, 0), (22, 51, 12, 48, 0), (25, 2, 0, 0, 0), (26, 0, 0, 0, 0), (27, 51, 12, 49, 0), (30, 2, 0, 0, 0), (31, 1, 2, 0, 0), (32, 64, 277, 1, 512), (35, 3, 3, 0, 0), (36, 0, 0, 0, 0), (37, 3, 4, 0, 0), (39, 1, 4, 0, 0), (41, 0, 0, 0, 44), (43, 13, 85, 0, 0), (46, 2, 0, 0, 0), (47, 50, 12, 53, 0), (50, 1, 4, 0, 0), (52, 2, 0, 0, 0), (53, 50, 12, 24, 0), (56, 1, 4, 0, 0), (58, 52, 0, 0, 0), (59, 53, 0, 0, 0), (60, 2, 0, 0, 0), (61, 50, 12, 24, 0), (64, 1, 4, 0, 0), (66, 2, 0, 0, 0), (67, 50, 12, 67, 0), (70, 0, 0, 0, 44), (72, 1, 1, 0, 0), (73, 32, 0, 0, 0), (74, 1, 4, 0, 0), (76, 30, 0, 0, 0), (77, 52, 0, 0, 0), (78, 53, 0, 0, 0), (79, 5, 4, 0, 1), (82, 6, 39, 0, 0), (85, 2, 0, 0, 0), (86, 1, 2, 0, 0), (87, 64, 277, 1, 512), (90, 3, 4, 0, 0), (92, 0, 0, 0, 0), (93, 3, 5, 0, 0), (95, 1, 5, 0, 0), (97, 0, 0, 0, 44), (99, 13, 122, 0, 0), (102, 2, 0, 0, 0), (103, 50, 12, 24, 0), (106, 1, 5, 0, 0), (108, 2, 0, 0, 0), (109, 50, 12, 53, 0), (112, 1, 5, 0, 0), (114, 52, 0, 0, 0), (115, 53, 0, 0, 0), (116, 5, 5, 0, 1), (119, 6, 95, 0, 0), (122, 1, 3, 0, 0), (123, 1, 4, 0, 0), (125, 11, 132, 0, 0), (128, 0, 0, 0, 1), (129, 6, 133, 0, 0), (132, 0, 0, 0, 0), (133, 70, 0, 0, 0)]
theorem fr_276_ok : fw_mk 276 6 12 (some .int) fr_276 = true := by decide +kernel
def ct_alike : List (Nat × fw_X) := [(214, x_isIn), (277, x_markOf)]
theorem ct_alike_ok (d : Nat) : fw_cok fw_T (d + 5) ct_alike := by
  intro q hq as W Q h
  simp only [ct_alike, List.mem_cons, List.not_mem_nil, or_false] at hq
  rcases hq with rfl | rfl
  · exact jc_of (x_isIn_ok (d + 4) as W Q h)
  · exact jc_of (x_markOf_ok (d + 0) as W Q h)
theorem s_alike_0 {Post : Option fw_V → fw_W → Prop} {d : Nat} {W : fw_W} {box lg : Int}
    (hw_ : (True) ∧ (∀ (r1 : Int), ((0 ≤ r1 ∧ r1 ≤ 1 ∧ ((r1 = 1 ∧ (0 : Int) ≤ box ∧ box ≤ (2 : Int)) ∨ (r1 = 0 ∧ (box < (0 : Int) ∨ (2 : Int) < box))))) → ((r1 = 0 → (-2147483648 ≤ (-1 : Int) → (-1 : Int) ≤ 2147483647 → Post (some (.inl (-1 : Int))) W)) ∧ (¬ r1 = 0 → 0 ≤ box ∧ box < 3 ∧ (0 ≤ (fw_g W 398 box) → (fw_g W 398 box) ≤ 1 → ((¬ (fw_g W 398 box) = 0 → 0 ≤ (0 : Int) ∧ (0 : Int) ≤ 64 ∧ (0 ≤ (0 : Int) ∧ (0 : Int) ≤ 512 ∧ ((mt (fw_up (fw_up W 352 48 (0 : Int)) 352 49 (0 : Int)) ∧ 0 ≤ (fw_g W 366 0) ∧ (fw_g W 366 0) ≤ 14 ∧ 0 ≤ (fw_g (fw_up W 352 48 (0 : Int)) 352 48) ∧ (fw_g (fw_up W 352 48 (0 : Int)) 352 48) ≤ 28 ∧ 0 ≤ (fw_g (fw_up (fw_up W 352 48 (0 : Int)) 352 49 (0 : Int)) 352 49) ∧ (fw_g (fw_up (fw_up W 352 48 (0 : Int)) 352 49 (0 : Int)) 352 49) ≤ 300 ∧ (∀ q, 0 ≤ q → q < (fw_g (fw_up W 352 48 (0 : Int)) 352 48) → 0 ≤ (fw_g W 378 q) ∧ 0 ≤ (fw_g W 379 q) ∧ (fw_g W 378 q) + (fw_g W 379 q) ≤ (fw_g (fw_up (fw_up W 352 48 (0 : Int)) 352 49 (0 : Int)) 352 49))) ∧ (∀ (r2 : Int) (f3 : fw_W), ((-2147483648 ≤ r2 ∧ r2 ≤ 2147483647 ∧ ((0 ≤ (fw_g f3 352 48) ∧ (fw_g f3 352 48) ≤ (fw_g (fw_up W 352 48 (0 : Int)) 352 48) + 28 ∧ 0 ≤ (fw_g f3 352 49) ∧ (fw_g f3 352 49) ≤ (fw_g (fw_up (fw_up W 352 48 (0 : Int)) 352 49 (0 : Int)) 352 49) + 28) ∧ (∀ q, 0 ≤ q → q < (fw_g f3 352 48) → 0 ≤ (fw_g f3 378 q) ∧ 0 ≤ (fw_g f3 379 q) ∧ (fw_g f3 378 q) + (fw_g f3 379 q) ≤ (fw_g f3 352 49))))) → jf fw_T (d + 6) 276 39 [(0, .inr (.inl 352)), (1, .inl box), (2, .inl lg), (3, .inl r2), (4, .inl (0 : Int))] [] (fw_put [383, 382, 371, 373, 384, 381, 378, 379, 380] 352 [50, 51, 48, 49] (fw_up (fw_up W 352 48 (0 : Int)) 352 49 (0 : Int)) f3) Post)))) ∧ ((fw_g W 398 box) = 0 → (-2147483648 ≤ (-1 : Int) → (-1 : Int) ≤ 2147483647 → Post (some (.inl (-1 : Int))) W)))))))) :
    jf fw_T (d + 6) 276 0 [(0, .inr (.inl 352)), (1, .inl box), (2, .inl lg)] [] W Post := fw_ok (n := 23) (ss := [(39, [0, 1, 2, 3, 4]), (95, [0, 3, 4, 5])]) (hv := []) fr_276_ok fm_ok (ct_alike_ok d) hw_

theorem s_alike_95 {Post : Option fw_V → fw_W → Prop} {d : Nat} {W : fw_W} {one k j : Int} {f : fw_W}
    (hw_ : (((44 : Int) ≤ j → ((¬ one = k → (-2147483648 ≤ (0 : Int) → (0 : Int) ≤ 2147483647 → Post (some (.inl (0 : Int))) (fw_put [383, 382, 371, 373, 384, 381, 378, 379, 380, 385, 366] 352 [50, 51, 48, 49] W f))) ∧ (one = k → (-2147483648 ≤ (1 : Int) → (1 : Int) ≤ 2147483647 → Post (some (.inl (1 : Int))) (fw_put [383, 382, 371, 373, 384, 381, 378, 379, 380, 385, 366] 352 [50, 51, 48, 49] W f))))) ∧ (j < (44 : Int) → 0 ≤ j ∧ j < 44 ∧ (-2147483648 ≤ (fw_g f 385 j) → (fw_g f 385 j) ≤ 2147483647 → 0 ≤ j ∧ j < 44 ∧ -2147483648 ≤ (fw_g f 385 j) ∧ (fw_g f 385 j) ≤ 2147483647 ∧ (-2147483648 ≤ j + (1 : Int) ∧ j + (1 : Int) ≤ 2147483647 ∧ (jf fw_T (d + 6) 276 95 [(0, .inr (.inl 352)), (3, .inl one), (4, .inl k), (5, .inl (j + (1 : Int)))] [] (fw_up (fw_put [383, 382, 371, 373, 384, 381, 378, 379, 380, 385, 366] 352 [50, 51, 48, 49] W f) 366 j (fw_g f 385 j)) Post)))))) :
    jf fw_T (d + 6) 276 95 [(0, .inr (.inl 352)), (3, .inl one), (4, .inl k), (5, .inl j)] [] (fw_put [383, 382, 371, 373, 384, 381, 378, 379, 380, 385, 366] 352 [50, 51, 48, 49] W f) Post := fw_ok (n := 14) (ss := [(39, [0, 1, 2, 3, 4]), (95, [0, 3, 4, 5])]) (hv := []) fr_276_ok fm_ok (ct_alike_ok d) hw_

theorem s_alike_39 {Post : Option fw_V → fw_W → Prop} {d : Nat} {W : fw_W} {box lg one k : Int} {f : fw_W}
    (hw_ : (((44 : Int) ≤ k → (mt (fw_put [383, 382, 371, 373, 384, 381, 378, 379, 380, 385, 366] 352 [50, 51, 48, 49] W f) ∧ 0 ≤ (fw_g f 366 0) ∧ (fw_g f 366 0) ≤ 14 ∧ 0 ≤ (fw_g f 352 48) ∧ (fw_g f 352 48) ≤ 28 ∧ 0 ≤ (fw_g f 352 49) ∧ (fw_g f 352 49) ≤ 300 ∧ (∀ q, 0 ≤ q → q < (fw_g f 352 48) → 0 ≤ (fw_g f 378 q) ∧ 0 ≤ (fw_g f 379 q) ∧ (fw_g f 378 q) + (fw_g f 379 q) ≤ (fw_g f 352 49))) ∧ (∀ (r1 : Int) (f2 : fw_W), ((-2147483648 ≤ r1 ∧ r1 ≤ 2147483647 ∧ ((0 ≤ (fw_g f2 352 48) ∧ (fw_g f2 352 48) ≤ (fw_g f 352 48) + 28 ∧ 0 ≤ (fw_g f2 352 49) ∧ (fw_g f2 352 49) ≤ (fw_g f 352 49) + 28) ∧ (∀ q, 0 ≤ q → q < (fw_g f2 352 48) → 0 ≤ (fw_g f2 378 q) ∧ 0 ≤ (fw_g f2 379 q) ∧ (fw_g f2 378 q) + (fw_g f2 379 q) ≤ (fw_g f2 352 49))))) → jf fw_T (d + 6) 276 95 [(0, .inr (.inl 352)), (3, .inl one), (4, .inl r1), (5, .inl (0 : Int))] [] (fw_put [383, 382, 371, 373, 384, 381, 378, 379, 380] 352 [50, 51, 48, 49] (fw_put [383, 382, 371, 373, 384, 381, 378, 379, 380, 385, 366] 352 [50, 51, 48, 49] W f) f2) Post)) ∧ (k < (44 : Int) → 0 ≤ k ∧ k < 44 ∧ (-2147483648 ≤ (fw_g f 366 k) → (fw_g f 366 k) ≤ 2147483647 → 0 ≤ k ∧ k < 44 ∧ -2147483648 ≤ (fw_g f 366 k) ∧ (fw_g f 366 k) ≤ 2147483647 ∧ (-2147483648 ≤ (44 : Int) * box ∧ (44 : Int) * box ≤ 2147483647 ∧ (-2147483648 ≤ ((44 : Int) * box) + k ∧ ((44 : Int) * box) + k ≤ 2147483647 ∧ (0 ≤ (((44 : Int) * box) + k) ∧ (((44 : Int) * box) + k) < 132 ∧ (-2147483648 ≤ (fw_g W 397 (((44 : Int) * box) + k)) → (fw_g W 397 (((44 : Int) * box) + k)) ≤ 2147483647 → 0 ≤ k ∧ k < 44 ∧ -2147483648 ≤ (fw_g W 397 (((44 : Int) * box) + k)) ∧ (fw_g W 397 (((44 : Int) * box) + k)) ≤ 2147483647 ∧ (-2147483648 ≤ k + (1 : Int) ∧ k + (1 : Int) ≤ 2147483647 ∧ (jf fw_T (d + 6) 276 39 [(0, .inr (.inl 352)), (1, .inl box), (2, .inl lg), (3, .inl one), (4, .inl (k + (1 : Int)))] [] (fw_up (fw_up (fw_put [383, 382, 371, 373, 384, 381, 378, 379, 380, 385, 366] 352 [50, 51, 48, 49] W f) 385 k (fw_g f 366 k)) 366 k (fw_g W 397 (((44 : Int) * box) + k))) Post)))))))))) :
    jf fw_T (d + 6) 276 39 [(0, .inr (.inl 352)), (1, .inl box), (2, .inl lg), (3, .inl one), (4, .inl k)] [] (fw_put [383, 382, 371, 373, 384, 381, 378, 379, 380, 385, 366] 352 [50, 51, 48, 49] W f) Post := fw_ok (n := 26) (ss := [(39, [0, 1, 2, 3, 4]), (95, [0, 3, 4, 5])]) (hv := []) fr_276_ok fm_ok (ct_alike_ok d) hw_

theorem lm_alike_95 {Post : Option fw_V → fw_W → Prop} {d : Nat} {W : fw_W} {box lg : Int} (hpre : mt W ∧ 0 ≤ (fw_g W 366 0) ∧ (fw_g W 366 0) ≤ 14 ∧ mi W ∧ 0 ≤ (fw_g W 352 29) ∧ 0 ≤ (fw_g W 352 30) ∧ (fw_g W 352 29) + (fw_g W 352 30) ≤ 40) (hP : ∀ (v : Int) (W2 : fw_W), fw_sm [383, 382, 371, 373, 384, 381, 378, 379, 380, 385, 366] 352 [50, 51, 48, 49] W W2 → (-2147483648 ≤ v ∧ v ≤ 2147483647 ∧ (mi W2)) → Post (some (.inl v)) W2)  : ∀ (m : Nat) (one k j : Int) (f : fw_W), (44 - j).toNat = m → (0 ≤ j ∧ (∀ i_, 0 ≤ i_ → i_ < 44 → (fw_g f 385 i_) = fw_g W 366 i_) ∧ (∀ i_, 0 ≤ i_ → i_ < j → (fw_g f 366 i_) = fw_g W 366 i_)) → jf fw_T (d + 6) 276 95 [(0, .inr (.inl 352)), (3, .inl one), (4, .inl k), (5, .inl j)] [] (fw_put [383, 382, 371, 373, 384, 381, 378, 379, 380, 385, 366] 352 [50, 51, 48, 49] W f) Post := by
  intro m
  induction m using Nat.strongRecOn with
  | ind m ih =>
    intro one k j f hm hi
    refine jf_rng (fun hrg => ?_)
    have hrg : -2147483648 ≤ one ∧ one ≤ 2147483647 ∧ -2147483648 ≤ k ∧ k ≤ 2147483647 ∧ -2147483648 ≤ j ∧ j ≤ 2147483647 ∧ True := hrg
    refine s_alike_95 ?_
    have hi1 := hi.1
    repeat' (first
      | (exact True.intro)
      | (exact hpre.1)
      | (refine And.intro ?_ ?_)
      | (refine (ih _ (by omega) _ _ _ _ rfl ?_); (
        refine ⟨by omega, hi.2.1, fun i i1 i2 => ?_⟩
        rw [fg_if (by omega) (by omega) (by omega) (by omega)]
        by_cases e : j = i
        · rw [if_pos e, e]; exact hi.2.1 i i1 (by omega)
        · rw [if_neg e]; exact hi.2.2 i i1 (by omega)))
      | (refine jf_put (S := [383, 382, 371, 373, 384, 381, 378, 379, 380, 385, 366]) (o := 352) (F := [50, 51, 48, 49]) (W := W) (by repeat (first | exact fw_sm_refl | exact fw_sm_put0 | refine fw_sm_arr ?_ rfl | refine fw_sm_up ?_ rfl | refine fw_sm_put ?_ rfl | refine fw_sm_cp ?_ rfl)) (ih _ (by omega) _ _ _ _ rfl ?_); (
        refine ⟨by omega, hi.2.1, fun i i1 i2 => ?_⟩
        rw [fg_if (by omega) (by omega) (by omega) (by omega)]
        by_cases e : j = i
        · rw [if_pos e, e]; exact hi.2.1 i i1 (by omega)
        · rw [if_neg e]; exact hi.2.2 i i1 (by omega)))
      | (refine hP _ _ (by repeat (first | exact fw_sm_refl | exact fw_sm_put0 | refine fw_sm_arr ?_ rfl | refine fw_sm_up ?_ rfl | refine fw_sm_put ?_ rfl | refine fw_sm_cp ?_ rfl)) ?_; (refine ⟨by omega, by omega, ?_⟩; (first
          | (exact hpre.2.2.2.1)
          | (exact ⟨tw_c hpre.2.2.2.1.1 (fun z z1 z2 => hi.2.2 z z1 (by omega)), hpre.2.2.2.1.2⟩))))
      | omega
      | (intro _))
theorem lm_alike_39 {Post : Option fw_V → fw_W → Prop} {d : Nat} {W : fw_W} {box lg : Int} (hpre : mt W ∧ 0 ≤ (fw_g W 366 0) ∧ (fw_g W 366 0) ≤ 14 ∧ mi W ∧ 0 ≤ (fw_g W 352 29) ∧ 0 ≤ (fw_g W 352 30) ∧ (fw_g W 352 29) + (fw_g W 352 30) ≤ 40) (hP : ∀ (v : Int) (W2 : fw_W), fw_sm [383, 382, 371, 373, 384, 381, 378, 379, 380, 385, 366] 352 [50, 51, 48, 49] W W2 → (-2147483648 ≤ v ∧ v ≤ 2147483647 ∧ (mi W2)) → Post (some (.inl v)) W2)  : ∀ (m : Nat) (one k : Int) (f : fw_W), (44 - k).toNat = m → ((0 ≤ k ∧ 0 ≤ box ∧ box ≤ 2 ∧ 0 ≤ (fw_g f 352 48) ∧ (fw_g f 352 48) ≤ 28 ∧ 0 ≤ (fw_g f 352 49) ∧ (fw_g f 352 49) ≤ 28) ∧ (∀ q, 0 ≤ q → q < (fw_g f 352 48) → 0 ≤ (fw_g f 378 q) ∧ 0 ≤ (fw_g f 379 q) ∧ (fw_g f 378 q) + (fw_g f 379 q) ≤ (fw_g f 352 49)) ∧ (∀ i_, 0 ≤ i_ → i_ < k → i_ < 44 → (fw_g f 385 i_) = fw_g W 366 i_) ∧ (∀ i_, 0 ≤ i_ → i_ < k → i_ < 44 → (fw_g f 366 i_) = fw_g W 397 (44 * box + i_)) ∧ (∀ i_, k ≤ i_ → (fw_g f 366 i_) = fw_g W 366 i_)) → jf fw_T (d + 6) 276 39 [(0, .inr (.inl 352)), (1, .inl box), (2, .inl lg), (3, .inl one), (4, .inl k)] [] (fw_put [383, 382, 371, 373, 384, 381, 378, 379, 380, 385, 366] 352 [50, 51, 48, 49] W f) Post := by
  intro m
  induction m using Nat.strongRecOn with
  | ind m ih =>
    intro one k f hm hi
    refine jf_rng (fun hrg => ?_)
    have hrg : -2147483648 ≤ box ∧ box ≤ 2147483647 ∧ -2147483648 ≤ lg ∧ lg ≤ 2147483647 ∧ -2147483648 ≤ one ∧ one ≤ 2147483647 ∧ -2147483648 ≤ k ∧ k ≤ 2147483647 ∧ True := hrg
    refine s_alike_39 ?_
    have hi1 := hi.1
    have hN : 44 ≤ k → mt (fw_put [383, 382, 371, 373, 384, 381, 378, 379, 380, 385, 366] 352 [50, 51, 48, 49] W f) ∧ 0 ≤ (fw_g f 366 0) ∧ (fw_g f 366 0) ≤ 14 := fun z => by
      have t := tw_c (k := fun i => fw_g (fw_put [383, 382, 371, 373, 384, 381, 378, 379, 380, 385, 366] 352 [50, 51, 48, 49] W f) 366 i) (hpre.2.2.2.1.2.2.1 box (by omega) (by omega)) (fun z z1 z2 => hi.2.2.2.1 z z1 (by omega) z2)
      exact ⟨t, t.1, t.2.1⟩
    have hN2 : 44 ≤ k → 0 ≤ (fw_g f 366 0) ∧ (fw_g f 366 0) ≤ 14 := fun z => (hN z).2
    repeat' (first
      | (exact (hN (by omega)).1)
      | (exact hi.2.1)
      | (exact True.intro)
      | (exact hpre.1)
      | (refine And.intro ?_ ?_)
      | (refine (ih _ (by omega) _ _ _ rfl ?_); (
        refine ⟨⟨by omega, by omega, by omega, hi1.2.2.2⟩, hi.2.1, fun i i1 i2 i3 => ?_, fun i i1 i2 i3 => ?_, fun i i1 => ?_⟩
        · rw [fg_up rfl, fg_if (by omega) (by omega) (by omega) (by omega)]
          by_cases e : k = i
          · rw [if_pos e, e]; exact hi.2.2.2.2 i (by omega)
          · rw [if_neg e]; exact hi.2.2.1 i i1 (by omega) i3
        · rw [fg_if (by omega) (by omega) (by omega) (by omega)]
          by_cases e : k = i
          · rw [if_pos e, e]
          · rw [if_neg e, fg_up rfl]; exact hi.2.2.2.1 i i1 (by omega) i3
        · rw [fg_if (by omega) (by omega) (by omega) (by omega), if_neg (by omega), fg_up rfl]
          exact hi.2.2.2.2 i (by omega)))
      | (refine jf_put (S := [383, 382, 371, 373, 384, 381, 378, 379, 380, 385, 366]) (o := 352) (F := [50, 51, 48, 49]) (W := W) (by repeat (first | exact fw_sm_refl | exact fw_sm_put0 | refine fw_sm_arr ?_ rfl | refine fw_sm_up ?_ rfl | refine fw_sm_put ?_ rfl | refine fw_sm_cp ?_ rfl)) (ih _ (by omega) _ _ _ rfl ?_); (
        refine ⟨⟨by omega, by omega, by omega, hi1.2.2.2⟩, hi.2.1, fun i i1 i2 i3 => ?_, fun i i1 i2 i3 => ?_, fun i i1 => ?_⟩
        · rw [fg_up rfl, fg_if (by omega) (by omega) (by omega) (by omega)]
          by_cases e : k = i
          · rw [if_pos e, e]; exact hi.2.2.2.2 i (by omega)
          · rw [if_neg e]; exact hi.2.2.1 i i1 (by omega) i3
        · rw [fg_if (by omega) (by omega) (by omega) (by omega)]
          by_cases e : k = i
          · rw [if_pos e, e]
          · rw [if_neg e, fg_up rfl]; exact hi.2.2.2.1 i i1 (by omega) i3
        · rw [fg_if (by omega) (by omega) (by omega) (by omega), if_neg (by omega), fg_up rfl]
          exact hi.2.2.2.2 i (by omega)))
      | (refine (lm_alike_95 (box := box) (lg := lg) hpre hP _ _ _ _ _ rfl ?_); (exact ⟨by omega, fun i i1 i2 => hi.2.2.1 i i1 (by omega) i2, fun i i1 i2 => by omega⟩))
      | (refine jf_put (S := [383, 382, 371, 373, 384, 381, 378, 379, 380, 385, 366]) (o := 352) (F := [50, 51, 48, 49]) (W := W) (by repeat (first | exact fw_sm_refl | exact fw_sm_put0 | refine fw_sm_arr ?_ rfl | refine fw_sm_up ?_ rfl | refine fw_sm_put ?_ rfl | refine fw_sm_cp ?_ rfl)) (lm_alike_95 (box := box) (lg := lg) hpre hP _ _ _ _ _ rfl ?_); (exact ⟨by omega, fun i i1 i2 => hi.2.2.1 i i1 (by omega) i2, fun i i1 i2 => by omega⟩))
      | (refine hP _ _ (by repeat (first | exact fw_sm_refl | exact fw_sm_put0 | refine fw_sm_arr ?_ rfl | refine fw_sm_up ?_ rfl | refine fw_sm_put ?_ rfl | refine fw_sm_cp ?_ rfl)) ?_; (refine ⟨by omega, by omega, ?_⟩; (first
          | (exact hpre.2.2.2.1)
          | (exact ⟨tw_c hpre.2.2.2.1.1 (fun z z1 z2 => hi.2.2 z z1 (by omega)), hpre.2.2.2.1.2⟩))))
      | omega
      | (intro _))
def x_alike : fw_X := fun as W Q => match as with
  | [.inr (.inl s_), .inl box, .inl lg] => fw_if (Nat.beq s_ 352) ((mt W ∧ 0 ≤ (fw_g W 366 0) ∧ (fw_g W 366 0) ≤ 14 ∧ mi W ∧ 0 ≤ (fw_g W 352 29) ∧ 0 ≤ (fw_g W 352 30) ∧ (fw_g W 352 29) + (fw_g W 352 30) ≤ 40) ∧ (∀ (v : Int) (f : fw_W), (-2147483648 ≤ v ∧ v ≤ 2147483647 ∧ (mi (fw_put [383, 382, 371, 373, 384, 381, 378, 379, 380, 385, 366] 352 [50, 51, 48, 49] W f))) → Q (some (.inl v)) (fw_put [383, 382, 371, 373, 384, 381, 378, 379, 380, 385, 366] 352 [50, 51, 48, 49] W f)))
  | _ => False
theorem x_alike_ok (d : Nat) (as : List fw_V) (W : fw_W) (Q : Option fw_V → fw_W → Prop) (hx : x_alike as W Q) : jf fw_T (d + 6) 276 0 (fw_args 0 as) [] W Q := by
  unfold x_alike at hx
  split at hx
  · rename_i s_ box lg
    obtain ⟨e_, hpre, hQ⟩ := fw_if_ok hx
    have e_ := Nat.eq_of_beq_eq_true e_
    subst e_
    have hP : ∀ (v : Int) (W2 : fw_W), fw_sm [383, 382, 371, 373, 384, 381, 378, 379, 380, 385, 366] 352 [50, 51, 48, 49] W W2 → (-2147483648 ≤ v ∧ v ≤ 2147483647 ∧ (mi W2)) → Q (some (.inl v)) W2 := fun v W2 hs hr => fw_sm_use (Q := fun Z => Q (some (.inl v)) Z) hs (hQ v W2 (by rw [fw_sm_eq hs]; exact hr))
    refine s_alike_0 ?_
    repeat' (first
      | (first
         | (show 0 ≤ fw_g (fw_up (fw_up W 352 48 0) 352 49 0) 352 48; rw [fg_lit rfl, fg_same (by omega) (by omega)]; omega)
         | (show fw_g (fw_up (fw_up W 352 48 0) 352 49 0) 352 48 ≤ 28; rw [fg_lit rfl, fg_same (by omega) (by omega)]; omega)
         | (show 0 ≤ fw_g (fw_up (fw_up W 352 48 0) 352 49 0) 352 49; rw [fg_same (by omega) (by omega)]; omega)
         | (show fw_g (fw_up (fw_up W 352 48 0) 352 49 0) 352 49 ≤ 300; rw [fg_same (by omega) (by omega)]; omega))
      | (intro q q1 q2
         exfalso
         have q3 : q < fw_g (fw_up (fw_up W 352 48 0) 352 49 0) 352 48 := q2
         rw [fg_lit rfl, fg_same (by omega) (by omega)] at q3
         omega)
      | (exact True.intro)
      | (exact hpre.1)
      | (refine And.intro ?_ ?_)
      | (refine jf_put (S := [383, 382, 371, 373, 384, 381, 378, 379, 380, 385, 366]) (o := 352) (F := [50, 51, 48, 49]) (W := W) (by repeat (first | exact fw_sm_refl | exact fw_sm_put0 | refine fw_sm_arr ?_ rfl | refine fw_sm_up ?_ rfl | refine fw_sm_put ?_ rfl | refine fw_sm_cp ?_ rfl)) (lm_alike_39 (box := box) (lg := lg) hpre hP _ _ _ _ rfl ?_); (
        rename_i r1 f1 h1
        obtain ⟨q1, q2, q3, q4⟩ := h1
        have e1 : fw_g (fw_up (fw_up W 352 48 0) 352 49 0) 352 48 = 0 := by rw [fg_lit rfl, fg_same (by omega) (by omega)]
        have e2 : fw_g (fw_up (fw_up W 352 48 0) 352 49 0) 352 49 = 0 := fg_same (by omega) (by omega)
        have h9 : 0 ≤ fw_g f1 352 48 ∧ fw_g f1 352 48 ≤ 28 ∧ 0 ≤ fw_g f1 352 49 ∧ fw_g f1 352 49 ≤ 28 := by
          have q5 : 0 ≤ fw_g f1 352 48 ∧ fw_g f1 352 48 ≤ fw_g (fw_up (fw_up W 352 48 0) 352 49 0) 352 48 + 28 ∧ 0 ≤ fw_g f1 352 49 ∧ fw_g f1 352 49 ≤ fw_g (fw_up (fw_up W 352 48 0) 352 49 0) 352 49 + 28 := q3
          omega
        exact ⟨⟨by omega, by omega, by omega, h9⟩, q4, fun i i1 i2 => by omega, fun i i1 i2 => by omega, fun i i1 => rfl⟩))
      | (refine jf_put (S := [383, 382, 371, 373, 384, 381, 378, 379, 380, 385, 366]) (o := 352) (F := [50, 51, 48, 49]) (W := W) (by repeat (first | exact fw_sm_refl | exact fw_sm_put0 | refine fw_sm_arr ?_ rfl | refine fw_sm_up ?_ rfl | refine fw_sm_put ?_ rfl | refine fw_sm_cp ?_ rfl)) (lm_alike_95 (box := box) (lg := lg) hpre hP _ _ _ _ _ rfl ?_); (first | omega | trivial | (simp (config := { decide := true }) only [fg_in, fg_fin, fg_out, fg_fout, fg_up, fg_same, true_and, and_true] <;> omega)))
      | (refine hP _ _ (by repeat (first | exact fw_sm_refl | exact fw_sm_put0 | refine fw_sm_arr ?_ rfl | refine fw_sm_up ?_ rfl | refine fw_sm_put ?_ rfl | refine fw_sm_cp ?_ rfl)) ?_; (refine ⟨by omega, by omega, ?_⟩; (first
          | (exact hpre.2.2.2.1)
          | (exact ⟨tw_c hpre.2.2.2.1.1 (fun z z1 z2 => hi.2.2 z z1 (by omega)), hpre.2.2.2.1.2⟩))))
      | omega
      | (intro _))
  · exact hx.elim

theorem fw_put_w {S : List Nat} {o : Nat} {F : List Nat} {W : fw_W} : fw_put S o F W W = W := by
  funext c i
  unfold fw_put
  split <;> rfl
theorem fw_sm_r {S : List Nat} {o : Nat} {F : List Nat} {W X : fw_W} {c : Nat} {i : Int} (h : fw_sm S o F W X) (e : fw_inS S o F c i.toNat = false) : fw_g X c i = fw_g W c i := congrArg Int32.toInt (h c i.toNat e)
def fr_288 : fw_P := [(0, 1, 1, 0, 0), (1, 0, 0, 0, 2), (2, 0, 0, 0, 14), (4, 65, 214, 3, 300), (7, 21, 12, 0, 0), (10, 0, 0, 0, 0), (11, 71, 0, 0, 0), (12, 0, 0, 0, 4), (13, 2, 0, 0, 0), (14, 50, 12, 22, 0), (17, 32, 0, 0, 0), (18, 3, 4, 0, 0), (20, 1, 4, 0, 0), (22, 0, 0, 0, 4), (23, 2, 0, 0, 0), (24, 50, 12, 22, 0), (27, 32, 0, 0, 0), (28, 2, 0, 0, 0), (29, 50, 12, 12, 0), (32, 2, 0, 0, 0), (33, 50, 12, 22, 0), (36, 52, 0, 0, 0), (37, 30, 0, 0, 0), (38, 13, 71, 0, 0), (41, 2, 0, 0, 0), (42, 50, 12, 17, 0), (45, 1, 4, 0, 0), (47, 52, 0, 0, 0), (48, 1, 1, 0, 0), (49, 13, 63, 0, 0), (52, 2, 0, 0, 0), (53, 50, 12, 18, 0), (56, 1, 4, 0, 0), (58, 52, 0, 0, 0), (59, 1, 1, 0, 0), (60, 12, 65, 0, 0), (63, 0, 0, 0, 0), (64, 71, 0, 0, 0), (65, 5, 4, 0, 1), (68, 6, 20, 0, 0), (71, 0, 0, 0, 0), (72, 3, 4, 0, 0), (74, 1, 4, 0, 0), (76, 1, 1, 0, 0), (77, 0, 0, 0, 2), (78, 31, 0, 0, 0), (79, 13, 119, 0, 0), (82, 2, 0, 0, 0), (83, 50, 12, 55, 0), (86, 1, 4, 0, 0), (88, 81, 2, 0, 0), (89, 0, 0, 0, 4), (90, 1, 4, 0, 0), (92, 32, 0, 0, 0), (93, 89, 0, 0, 0), (94, 80, 1016, 0, 0), (97, 88, 0, 0, 0), (98, 92, 0, 0, 0), (99, 53, 0, 0, 0), (100, 2, 0, 0, 0), (101, 50, 12, 55, 0), (104, 1, 4, 0, 0), (106, 52, 0, 0, 0), (107, 1, 1, 0, 0), (108, 12, 113, 0, 0), (111, 0, 0, 0, 0), (112, 71, 0, 0, 0), (113, 5, 4, 0, 1), (116, 6, 74, 0, 0), (119, 2, 0, 0, 0), (120, 64, 237, 0, 212), (123, 2, 0, 0, 0), (124, 1, 1, 0, 0), (125, 64, 289, 1, 412), (128, 0, 0, 0, 1), (129, 71, 0, 0, 0)]
theorem fr_288_ok : fw_mk 288 5 12 (some .boolean) fr_288 = true := by decide +kernel
def ct_grown : List (Nat × fw_X) := [(289, x_growsFrom), (214, x_isIn), (237, x_keepAct)]
theorem ct_grown_ok (d : Nat) : fw_cok fw_T (d + 3) ct_grown := by
  intro q hq as W Q h
  simp only [ct_grown, List.mem_cons, List.not_mem_nil, or_false] at hq
  rcases hq with rfl | rfl | rfl
  · exact jc_of (x_growsFrom_ok (d + 0) as W Q h)
  · exact jc_of (x_isIn_ok (d + 2) as W Q h)
  · exact jc_of (x_keepAct_ok (d + 2) as W Q h)
theorem s_grown_0 {Post : Option fw_V → fw_W → Prop} {d : Nat} {W : fw_W} {nn : Int}
    (hw_ : (True) ∧ (∀ (r1 : Int), ((0 ≤ r1 ∧ r1 ≤ 1 ∧ ((r1 = 1 ∧ (2 : Int) ≤ nn ∧ nn ≤ (14 : Int)) ∨ (r1 = 0 ∧ (nn < (2 : Int) ∨ (14 : Int) < nn))))) → ((¬ r1 = 0 → (0 ≤ (fw_g W 352 22) → (fw_g W 352 22) ≤ 1 → -2147483648 ≤ (4 : Int) * (fw_g W 352 22) ∧ (4 : Int) * (fw_g W 352 22) ≤ 2147483647 ∧ (jf fw_T (d + 4) 288 20 [(0, .inr (.inl 352)), (1, .inl nn), (2, .inr (.inr 1000)), (4, .inl ((4 : Int) * (fw_g W 352 22)))] [] W Post))) ∧ (r1 = 0 → 0 ≤ (0 : Int) ∧ (0 : Int) ≤ 1 ∧ Post (some (.inl (0 : Int))) W)))) :
    jf fw_T (d + 4) 288 0 [(0, .inr (.inl 352)), (1, .inl nn), (2, .inr (.inr 1000))] [] W Post := fw_ok (n := 11) (ss := [(20, [0, 1, 2, 4]), (74, [0, 1, 2, 4])]) (hv := []) fr_288_ok fm_ok (ct_grown_ok d) hw_

theorem s_grown_74 {Post : Option fw_V → fw_W → Prop} {d : Nat} {W : fw_W} {nn c : Int} {f : fw_W}
    (hw_ : -2147483648 ≤ nn - (2 : Int) ∧ nn - (2 : Int) ≤ 2147483647 ∧ ((((nn - (2 : Int)) ≤ c → (mt (fw_put [387, 369, 389, 388, 366, 371] 352 [29, 30] W f) ∧ 0 ≤ (fw_g f 366 0) ∧ (fw_g f 366 0) ≤ 14 ∧ (∀ s, 0 ≤ s → s ≤ 40 → tw (fun z_ => (fw_g f 369 (44 * s + z_)))) ∧ 0 ≤ (fw_g f 352 29) ∧ (fw_g f 352 29) ≤ 40) ∧ (∀ (f1 : fw_W), (((∀ s, 0 ≤ s → s ≤ 40 → tw (fun z_ => (fw_g f1 369 (44 * s + z_)))) ∧ 0 ≤ (fw_g f1 352 29) ∧ (fw_g f1 352 29) ≤ 40 ∧ (fw_g f1 352 30) = 0)) → ((2 ≤ nn ∧ nn ≤ 14) ∧ (∀ i_, 0 ≤ i_ → i_ < nn - 2 → 0 ≤ (fw_g f 387 i_) ∧ (fw_g f 387 i_) < nn) ∧ 0 ≤ (fw_g f 366 1) ∧ (fw_g f 366 1) ≤ 999) ∧ (∀ (f2 : fw_W), ((mt (fw_put [389, 388, 366, 371] 352 [] (fw_put [369] 352 [29, 30] (fw_put [387, 369, 389, 388, 366, 371] 352 [29, 30] W f) f1) f2) ∧ (fw_g f2 366 0) = nn ∧ ∀ x_, 1 ≤ x_ → x_ < nn → (fw_g f2 366 (3 + 3 * x_)) = 1)) → 0 ≤ (1 : Int) ∧ (1 : Int) ≤ 1 ∧ Post (some (.inl (1 : Int))) (fw_put [389, 388, 366, 371] 352 [] (fw_put [369] 352 [29, 30] (fw_put [387, 369, 389, 388, 366, 371] 352 [29, 30] W f) f1) f2)))) ∧ (c < (nn - (2 : Int)) → -2147483648 ≤ (4 : Int) * c ∧ (4 : Int) * c ≤ 2147483647 ∧ ((∀ v3 : Int, 0 ≤ v3 → v3 + 1001 ≤ 1016 → 0 ≤ c ∧ c < 14 ∧ 0 ≤ v3 ∧ v3 ≤ 15 ∧ (0 ≤ c ∧ c < 14 ∧ (0 ≤ (fw_g (fw_up (fw_put [387, 369, 389, 388, 366, 371] 352 [29, 30] W f) 387 c v3) 387 c) → (fw_g (fw_up (fw_put [387, 369, 389, 388, 366, 371] 352 [29, 30] W f) 387 c v3) 387 c) ≤ 15 → (((fw_g (fw_up (fw_put [387, 369, 389, 388, 366, 371] 352 [29, 30] W f) 387 c v3) 387 c) < nn → -2147483648 ≤ c + (1 : Int) ∧ c + (1 : Int) ≤ 2147483647 ∧ (jf fw_T (d + 4) 288 74 [(0, .inr (.inl 352)), (1, .inl nn), (2, .inr (.inr 1000)), (4, .inl (c + (1 : Int)))] [] (fw_up (fw_put [387, 369, 389, 388, 366, 371] 352 [29, 30] W f) 387 c v3) Post)) ∧ (nn ≤ (fw_g (fw_up (fw_put [387, 369, 389, 388, 366, 371] 352 [29, 30] W f) 387 c v3) 387 c) → 0 ≤ (0 : Int) ∧ (0 : Int) ≤ 1 ∧ Post (some (.inl (0 : Int))) (fw_up (fw_put [387, 369, 389, 388, 366, 371] 352 [29, 30] W f) 387 c v3))))))))))) :
    jf fw_T (d + 4) 288 74 [(0, .inr (.inl 352)), (1, .inl nn), (2, .inr (.inr 1000)), (4, .inl c)] [] (fw_put [387, 369, 389, 388, 366, 371] 352 [29, 30] W f) Post := fw_ok (n := 26) (ss := [(20, [0, 1, 2, 4]), (74, [0, 1, 2, 4])]) (hv := []) fr_288_ok fm_ok (ct_grown_ok d) hw_

theorem s_grown_20 {Post : Option fw_V → fw_W → Prop} {d : Nat} {W : fw_W} {nn c : Int} {f : fw_W}
    (hw_ : (0 ≤ (fw_g W 352 22) → (fw_g W 352 22) ≤ 1 → -2147483648 ≤ (4 : Int) * (fw_g W 352 22) ∧ (4 : Int) * (fw_g W 352 22) ≤ 2147483647 ∧ ((0 ≤ (fw_g W 352 22) → (fw_g W 352 22) ≤ 1 → 0 ≤ (fw_g W 352 22) ∧ (fw_g W 352 22) < 2 ∧ (0 ≤ (fw_g W 356 (fw_g W 352 22)) → (fw_g W 356 (fw_g W 352 22)) ≤ 4 → -2147483648 ≤ ((4 : Int) * (fw_g W 352 22)) + (fw_g W 356 (fw_g W 352 22)) ∧ ((4 : Int) * (fw_g W 352 22)) + (fw_g W 356 (fw_g W 352 22)) ≤ 2147483647 ∧ ((((((4 : Int) * (fw_g W 352 22)) + (fw_g W 356 (fw_g W 352 22))) ≤ c → jf fw_T (d + 4) 288 74 [(0, .inr (.inl 352)), (1, .inl nn), (2, .inr (.inr 1000)), (4, .inl (0 : Int))] [] (fw_put [387, 369, 389, 388, 366, 371] 352 [29, 30] W f) Post) ∧ (c < (((4 : Int) * (fw_g W 352 22)) + (fw_g W 356 (fw_g W 352 22))) → 0 ≤ c ∧ c < 8 ∧ (0 ≤ (fw_g W 361 c) → (fw_g W 361 c) ≤ 13 → ((nn ≤ (fw_g W 361 c) → 0 ≤ (0 : Int) ∧ (0 : Int) ≤ 1 ∧ Post (some (.inl (0 : Int))) (fw_put [387, 369, 389, 388, 366, 371] 352 [29, 30] W f)) ∧ ((fw_g W 361 c) < nn → 0 ≤ c ∧ c < 8 ∧ (0 ≤ (fw_g W 362 c) → (fw_g W 362 c) ≤ 13 → (((fw_g W 362 c) < nn → -2147483648 ≤ c + (1 : Int) ∧ c + (1 : Int) ≤ 2147483647 ∧ (jf fw_T (d + 4) 288 20 [(0, .inr (.inl 352)), (1, .inl nn), (2, .inr (.inr 1000)), (4, .inl (c + (1 : Int)))] [] (fw_put [387, 369, 389, 388, 366, 371] 352 [29, 30] W f) Post)) ∧ (nn ≤ (fw_g W 362 c) → 0 ≤ (0 : Int) ∧ (0 : Int) ≤ 1 ∧ Post (some (.inl (0 : Int))) (fw_put [387, 369, 389, 388, 366, 371] 352 [29, 30] W f))))))))))))))) :
    jf fw_T (d + 4) 288 20 [(0, .inr (.inl 352)), (1, .inl nn), (2, .inr (.inr 1000)), (4, .inl c)] [] (fw_put [387, 369, 389, 388, 366, 371] 352 [29, 30] W f) Post := fw_ok (n := 27) (ss := [(20, [0, 1, 2, 4]), (74, [0, 1, 2, 4])]) (hv := []) fr_288_ok fm_ok (ct_grown_ok d) hw_

theorem lm_grown_74 {Post : Option fw_V → fw_W → Prop} {d : Nat} {W : fw_W} {nn : Int} (hpre : mt W ∧ 0 ≤ (fw_g W 366 0) ∧ (fw_g W 366 0) ≤ 14 ∧ mi W ∧ 0 ≤ (fw_g W 352 29) ∧ 0 ≤ (fw_g W 352 30) ∧ (fw_g W 352 29) + (fw_g W 352 30) ≤ 40) (hP : ∀ (v : Int) (W2 : fw_W), fw_sm [387, 369, 389, 388, 366, 371] 352 [29, 30] W W2 → (0 ≤ v ∧ v ≤ 1 ∧ (mi W2)) → Post (some (.inl v)) W2)  : ∀ (m : Nat) (c : Int) (f : fw_W), (nn - c).toNat = m → ((0 ≤ c ∧ c ≤ nn - 2 ∧ 2 ≤ nn ∧ nn ≤ 14) ∧ (∀ i_, 0 ≤ i_ → i_ < c → 0 ≤ (fw_g f 387 i_) ∧ (fw_g f 387 i_) < nn) ∧ fw_sm [387] 352 [] W (fw_put [387, 369, 389, 388, 366, 371] 352 [29, 30] W f)) → jf fw_T (d + 4) 288 74 [(0, .inr (.inl 352)), (1, .inl nn), (2, .inr (.inr 1000)), (4, .inl c)] [] (fw_put [387, 369, 389, 388, 366, 371] 352 [29, 30] W f) Post := by
  intro m
  induction m using Nat.strongRecOn with
  | ind m ih =>
    intro c f hm hi
    refine jf_rng (fun hrg => ?_)
    have hrg : -2147483648 ≤ nn ∧ nn ≤ 2147483647 ∧ -2147483648 ≤ c ∧ c ≤ 2147483647 ∧ True := hrg
    refine s_grown_74 ?_
    have hi1 := hi.1
    have eA : ∀ i, fw_g (fw_put [387, 369, 389, 388, 366, 371] 352 [29, 30] W f) 366 i = fw_g W 366 i := fun i => fw_sm_r hi.2.2 rfl
    have hm : mt (fw_put [387, 369, 389, 388, 366, 371] 352 [29, 30] W f) := tw_c (g := fun z => fw_g W 366 z) hpre.1 (fun z _ _ => eA z)
    have hw : ∀ s, 0 ≤ s → s ≤ 40 → tw (fun z_ => fw_g (fw_put [387, 369, 389, 388, 366, 371] 352 [29, 30] W f) 369 (44 * s + z_)) := fun s s1 s2 => tw_c (hpre.2.2.2.1.2.1 s s1 s2) (fun z _ _ => fw_sm_r hi.2.2 rfl)
    have e0 : (fw_g f 366 0) = fw_g W 366 0 := eA 0
    have e1 : (fw_g f 366 1) = fw_g W 366 1 := eA 1
    have hac0 : fw_g (fw_put [387, 369, 389, 388, 366, 371] 352 [29, 30] W f) 352 29 = fw_g W 352 29 := fw_sm_r hi.2.2 rfl
    have hun0 : fw_g (fw_put [387, 369, 389, 388, 366, 371] 352 [29, 30] W f) 352 30 = fw_g W 352 30 := fw_sm_r hi.2.2 rfl
    have hac : (fw_g f 352 29) = fw_g W 352 29 := hac0
    have hun : (fw_g f 352 30) = fw_g W 352 30 := hun0
    have h1a := hpre.1.2.2.2.2
    have hmi : mi (fw_put [387, 369, 389, 388, 366, 371] 352 [29, 30] W f) := ⟨hm, hw, hpre.2.2.2.1.2.2.1, by show 0 ≤ (fw_g f 352 29); omega, by show 0 ≤ (fw_g f 352 30); omega, by show (fw_g f 352 29) + (fw_g f 352 30) ≤ 40; omega⟩
    have hwr : ∀ v1, 0 ≤ v1 → v1 ≤ 15 → fw_g (fw_up (fw_put [387, 369, 389, 388, 366, 371] 352 [29, 30] W f) 387 c v1) 387 c = v1 := fun v1 a b => fg_same (by omega) (by omega)
    repeat' (first
      | (exact hm)
      | (exact hw)
      | (exact fun i i1 i2 => hi.2.1 i i1 (by omega))
      | (exact True.intro)
      | (exact hpre.1)
      | (refine And.intro ?_ ?_)
      | (refine (ih _ (by omega) _ _ rfl ?_); (
        rename_i v1 w1 w2 w3 w4 w5
        have w6 := hwr v1 (by omega) (by omega)
        refine ⟨by omega, fun i i1 i2 => ?_, ?_⟩
        · rw [fg_if (by omega) (by omega) (by omega) (by omega)]
          by_cases e : c = i
          · rw [if_pos e]; omega
          · rw [if_neg e]; exact hi.2.1 i i1 (by omega)
        · rw [fw_sm_eq (by repeat (first | exact fw_sm_refl | exact fw_sm_put0 | refine fw_sm_arr ?_ rfl))]
          exact fw_sm_arr hi.2.2 rfl))
      | (refine jf_put (S := [387, 369, 389, 388, 366, 371]) (o := 352) (F := [29, 30]) (W := W) (by repeat (first | exact fw_sm_refl | exact fw_sm_put0 | refine fw_sm_arr ?_ rfl | refine fw_sm_up ?_ rfl | refine fw_sm_put ?_ rfl | refine fw_sm_cp ?_ rfl)) (ih _ (by omega) _ _ rfl ?_); (
        rename_i v1 w1 w2 w3 w4 w5
        have w6 := hwr v1 (by omega) (by omega)
        refine ⟨by omega, fun i i1 i2 => ?_, ?_⟩
        · rw [fg_if (by omega) (by omega) (by omega) (by omega)]
          by_cases e : c = i
          · rw [if_pos e]; omega
          · rw [if_neg e]; exact hi.2.1 i i1 (by omega)
        · rw [fw_sm_eq (by repeat (first | exact fw_sm_refl | exact fw_sm_put0 | refine fw_sm_arr ?_ rfl))]
          exact fw_sm_arr hi.2.2 rfl))
      | (refine hP _ _ (by repeat (first | exact fw_sm_refl | exact fw_sm_put0 | refine fw_sm_arr ?_ rfl | refine fw_sm_up ?_ rfl | refine fw_sm_put ?_ rfl | refine fw_sm_cp ?_ rfl)) ?_; (refine ⟨by omega, by omega, ?_⟩; (first
          | (exact hpre.2.2.2.1)
          | (exact hmi)
          | (rename_i f1 h1 f2 h2
             refine ⟨h2.1, h1.1, hpre.2.2.2.1.2.2.1, h1.2.1, ?_, ?_⟩
             · show 0 ≤ fw_g f1 352 30
               omega
             · show fw_g f1 352 29 + fw_g f1 352 30 ≤ 40
               omega))))
      | omega
      | (intro _))
theorem lm_grown_20 {Post : Option fw_V → fw_W → Prop} {d : Nat} {W : fw_W} {nn : Int} (hpre : mt W ∧ 0 ≤ (fw_g W 366 0) ∧ (fw_g W 366 0) ≤ 14 ∧ mi W ∧ 0 ≤ (fw_g W 352 29) ∧ 0 ≤ (fw_g W 352 30) ∧ (fw_g W 352 29) + (fw_g W 352 30) ≤ 40) (hP : ∀ (v : Int) (W2 : fw_W), fw_sm [387, 369, 389, 388, 366, 371] 352 [29, 30] W W2 → (0 ≤ v ∧ v ≤ 1 ∧ (mi W2)) → Post (some (.inl v)) W2)  : ∀ (m : Nat) (c : Int) (f : fw_W), (8 - c).toNat = m → (0 ≤ c ∧ 2 ≤ nn ∧ nn ≤ 14) ∧ fw_sm [387] 352 [] W (fw_put [387, 369, 389, 388, 366, 371] 352 [29, 30] W f) → jf fw_T (d + 4) 288 20 [(0, .inr (.inl 352)), (1, .inl nn), (2, .inr (.inr 1000)), (4, .inl c)] [] (fw_put [387, 369, 389, 388, 366, 371] 352 [29, 30] W f) Post := by
  intro m
  induction m using Nat.strongRecOn with
  | ind m ih =>
    intro c f hm hi
    refine jf_rng (fun hrg => ?_)
    have hrg : -2147483648 ≤ nn ∧ nn ≤ 2147483647 ∧ -2147483648 ≤ c ∧ c ≤ 2147483647 ∧ True := hrg
    refine s_grown_20 ?_
    have hi1 := hi.1
    have eA : ∀ i, fw_g (fw_put [387, 369, 389, 388, 366, 371] 352 [29, 30] W f) 366 i = fw_g W 366 i := fun i => fw_sm_r hi.2 rfl
    have hm : mt (fw_put [387, 369, 389, 388, 366, 371] 352 [29, 30] W f) := tw_c (g := fun z => fw_g W 366 z) hpre.1 (fun z _ _ => eA z)
    have hw : ∀ s, 0 ≤ s → s ≤ 40 → tw (fun z_ => fw_g (fw_put [387, 369, 389, 388, 366, 371] 352 [29, 30] W f) 369 (44 * s + z_)) := fun s s1 s2 => tw_c (hpre.2.2.2.1.2.1 s s1 s2) (fun z _ _ => fw_sm_r hi.2 rfl)
    have e0 : (fw_g f 366 0) = fw_g W 366 0 := eA 0
    have e1 : (fw_g f 366 1) = fw_g W 366 1 := eA 1
    have hac0 : fw_g (fw_put [387, 369, 389, 388, 366, 371] 352 [29, 30] W f) 352 29 = fw_g W 352 29 := fw_sm_r hi.2 rfl
    have hun0 : fw_g (fw_put [387, 369, 389, 388, 366, 371] 352 [29, 30] W f) 352 30 = fw_g W 352 30 := fw_sm_r hi.2 rfl
    have hac : (fw_g f 352 29) = fw_g W 352 29 := hac0
    have hun : (fw_g f 352 30) = fw_g W 352 30 := hun0
    have h1a := hpre.1.2.2.2.2
    have hmi : mi (fw_put [387, 369, 389, 388, 366, 371] 352 [29, 30] W f) := ⟨hm, hw, hpre.2.2.2.1.2.2.1, by show 0 ≤ (fw_g f 352 29); omega, by show 0 ≤ (fw_g f 352 30); omega, by show (fw_g f 352 29) + (fw_g f 352 30) ≤ 40; omega⟩
    repeat' (first
      | (exact True.intro)
      | (exact hpre.1)
      | (refine And.intro ?_ ?_)
      | (refine (ih _ (by omega) _ _ rfl ?_); (exact ⟨by omega, hi.2⟩))
      | (refine jf_put (S := [387, 369, 389, 388, 366, 371]) (o := 352) (F := [29, 30]) (W := W) (by repeat (first | exact fw_sm_refl | exact fw_sm_put0 | refine fw_sm_arr ?_ rfl | refine fw_sm_up ?_ rfl | refine fw_sm_put ?_ rfl | refine fw_sm_cp ?_ rfl)) (ih _ (by omega) _ _ rfl ?_); (exact ⟨by omega, hi.2⟩))
      | (refine (lm_grown_74 (nn := nn) hpre hP _ _ _ rfl ?_); (exact ⟨by omega, fun i i1 i2 => by omega, hi.2⟩))
      | (refine jf_put (S := [387, 369, 389, 388, 366, 371]) (o := 352) (F := [29, 30]) (W := W) (by repeat (first | exact fw_sm_refl | exact fw_sm_put0 | refine fw_sm_arr ?_ rfl | refine fw_sm_up ?_ rfl | refine fw_sm_put ?_ rfl | refine fw_sm_cp ?_ rfl)) (lm_grown_74 (nn := nn) hpre hP _ _ _ rfl ?_); (exact ⟨by omega, fun i i1 i2 => by omega, hi.2⟩))
      | (refine hP _ _ (by repeat (first | exact fw_sm_refl | exact fw_sm_put0 | refine fw_sm_arr ?_ rfl | refine fw_sm_up ?_ rfl | refine fw_sm_put ?_ rfl | refine fw_sm_cp ?_ rfl)) ?_; (refine ⟨by omega, by omega, ?_⟩; (first
          | (exact hpre.2.2.2.1)
          | (exact hmi)
          | (rename_i f1 h1 f2 h2
             refine ⟨h2.1, h1.1, hpre.2.2.2.1.2.2.1, h1.2.1, ?_, ?_⟩
             · show 0 ≤ fw_g f1 352 30
               omega
             · show fw_g f1 352 29 + fw_g f1 352 30 ≤ 40
               omega))))
      | omega
      | (intro _))
def x_grown : fw_X := fun as W Q => match as with
  | [.inr (.inl s_), .inl nn, .inr (.inr l1_)] => fw_if (Nat.beq s_ 352) (fw_if (Nat.beq l1_ 1000) ((mt W ∧ 0 ≤ (fw_g W 366 0) ∧ (fw_g W 366 0) ≤ 14 ∧ mi W ∧ 0 ≤ (fw_g W 352 29) ∧ 0 ≤ (fw_g W 352 30) ∧ (fw_g W 352 29) + (fw_g W 352 30) ≤ 40) ∧ (∀ (v : Int) (f : fw_W), (0 ≤ v ∧ v ≤ 1 ∧ (mi (fw_put [387, 369, 389, 388, 366, 371] 352 [29, 30] W f))) → Q (some (.inl v)) (fw_put [387, 369, 389, 388, 366, 371] 352 [29, 30] W f))))
  | _ => False
theorem x_grown_ok (d : Nat) (as : List fw_V) (W : fw_W) (Q : Option fw_V → fw_W → Prop) (hx : x_grown as W Q) : jf fw_T (d + 4) 288 0 (fw_args 0 as) [] W Q := by
  unfold x_grown at hx
  split at hx
  · rename_i s_ nn l1_
    obtain ⟨e0_, hx0⟩ := fw_if_ok hx
    have e0_ := Nat.eq_of_beq_eq_true e0_
    clear hx
    subst e0_
    obtain ⟨e1_, hx1⟩ := fw_if_ok hx0
    have e1_ := Nat.eq_of_beq_eq_true e1_
    clear hx0
    subst e1_
    obtain ⟨hpre, hQ⟩ := hx1
    have hP : ∀ (v : Int) (W2 : fw_W), fw_sm [387, 369, 389, 388, 366, 371] 352 [29, 30] W W2 → (0 ≤ v ∧ v ≤ 1 ∧ (mi W2)) → Q (some (.inl v)) W2 := fun v W2 hs hr => fw_sm_use (Q := fun Z => Q (some (.inl v)) Z) hs (hQ v W2 (by rw [fw_sm_eq hs]; exact hr))
    refine s_grown_0 ?_
    repeat' (first
      | (exact True.intro)
      | (exact hpre.1)
      | (refine And.intro ?_ ?_)
      | (refine jf_put (S := [387, 369, 389, 388, 366, 371]) (o := 352) (F := [29, 30]) (W := W) (by repeat (first | exact fw_sm_refl | exact fw_sm_put0 | refine fw_sm_arr ?_ rfl | refine fw_sm_up ?_ rfl | refine fw_sm_put ?_ rfl | refine fw_sm_cp ?_ rfl)) (lm_grown_20 (nn := nn) hpre hP _ _ _ rfl ?_); (exact ⟨by omega, fun c i e => by rw [fw_put_w]⟩))
      | (refine jf_put (S := [387, 369, 389, 388, 366, 371]) (o := 352) (F := [29, 30]) (W := W) (by repeat (first | exact fw_sm_refl | exact fw_sm_put0 | refine fw_sm_arr ?_ rfl | refine fw_sm_up ?_ rfl | refine fw_sm_put ?_ rfl | refine fw_sm_cp ?_ rfl)) (lm_grown_74 (nn := nn) hpre hP _ _ _ rfl ?_); (first | omega | trivial | (simp (config := { decide := true }) only [fg_in, fg_fin, fg_out, fg_fout, fg_up, fg_same, true_and, and_true] <;> omega)))
      | (refine hP _ _ (by repeat (first | exact fw_sm_refl | exact fw_sm_put0 | refine fw_sm_arr ?_ rfl | refine fw_sm_up ?_ rfl | refine fw_sm_put ?_ rfl | refine fw_sm_cp ?_ rfl)) ?_; (refine ⟨by omega, by omega, ?_⟩; (first
          | (exact hpre.2.2.2.1)
          | (exact hmi)
          | (rename_i f1 h1 f2 h2
             refine ⟨h2.1, h1.1, hpre.2.2.2.1.2.2.1, h1.2.1, ?_, ?_⟩
             · show 0 ≤ fw_g f1 352 30
               omega
             · show fw_g f1 352 29 + fw_g f1 352 30 ≤ 40
               omega))))
      | omega
      | (intro _))
  · exact hx.elim

