/-! the reference, method by method -/
def fr_311 : fw_P := [(0, 2, 0, 0, 0), (1, 50, 12, 64, 0), (4, 0, 0, 0, 6), (6, 1, 2, 0, 0), (7, 32, 0, 0, 0), (8, 1, 3, 0, 0), (9, 30, 0, 0, 0), (10, 52, 0, 0, 0), (11, 3, 4, 0, 0), (13, 0, 0, 0, 1), (14, 3, 5, 0, 0), (16, 1, 5, 0, 0), (18, 0, 0, 0, 1000), (21, 13, 90, 0, 0), (24, 1, 4, 0, 0), (26, 1, 5, 0, 0), (28, 31, 0, 0, 0), (29, 3, 6, 0, 0), (31, 1, 6, 0, 0), (33, 1, 4, 0, 0), (35, 1, 5, 0, 0), (37, 30, 0, 0, 0), (38, 14, 84, 0, 0), (41, 2, 0, 0, 0), (42, 1, 2, 0, 0), (43, 1, 3, 0, 0), (44, 1, 6, 0, 0), (46, 64, 305, 3, 412), (49, 1, 6, 0, 0), (51, 0, 0, 0, 1), (52, 0, 0, 0, 999), (55, 65, 214, 3, 300), (58, 20, 72, 0, 0), (61, 2, 0, 0, 0), (62, 1, 1, 0, 0), (63, 64, 306, 1, 712), (66, 21, 72, 0, 0), (69, 1, 6, 0, 0), (71, 70, 0, 0, 0), (72, 1, 6, 0, 0), (74, 0, 0, 0, 2), (75, 1, 5, 0, 0), (77, 32, 0, 0, 0), (78, 30, 0, 0, 0), (79, 3, 6, 0, 0), (81, 6, 31, 0, 0), (84, 5, 5, 0, 1), (87, 6, 16, 0, 0), (90, 2, 0, 0, 0), (91, 1, 2, 0, 0), (92, 1, 3, 0, 0), (93, 1, 4, 0, 0), (95, 64, 305, 3, 412), (98, 0, 0, 0, -1), (99, 70, 0, 0, 0)]
theorem fr_311_ok : fw_mk 311 7 12 (some .int) fr_311 = true := by decide +kernel
def ct_mendOf : List (Nat × fw_X) := [(214, x_isIn), (305, x_set), (306, x_wrongOf)]
theorem ct_mendOf_ok (d : Nat) : fw_cok fw_T (d + 3) ct_mendOf := by
  intro q hq as W Q h
  simp only [ct_mendOf, List.mem_cons, List.not_mem_nil, or_false] at hq
  rcases hq with rfl | rfl | rfl
  · exact jc_of (x_isIn_ok (d + 2) as W Q h)
  · exact jc_of (x_set_ok (d + 2) as W Q h)
  · exact jc_of (x_wrongOf_ok (d + 0) as W Q h)
theorem s_mendOf_0 {Post : Option fw_V → fw_W → Prop} {d : Nat} {W : fw_W} {n a b : Int}
    (hw_ : -2147483648 ≤ (6 : Int) * a ∧ (6 : Int) * a ≤ 2147483647 ∧ (-2147483648 ≤ ((6 : Int) * a) + b ∧ ((6 : Int) * a) + b ≤ 2147483647 ∧ (0 ≤ (((6 : Int) * a) + b) ∧ (((6 : Int) * a) + b) < 36 ∧ (-2147483648 ≤ (fw_g W 396 (((6 : Int) * a) + b)) → (fw_g W 396 (((6 : Int) * a) + b)) ≤ 2147483647 → jf fw_T (d + 4) 311 16 [(0, .inr (.inl 352)), (1, .inl n), (2, .inl a), (3, .inl b), (4, .inl (fw_g W 396 (((6 : Int) * a) + b))), (5, .inl (1 : Int))] [] W Post)))) :
    jf fw_T (d + 4) 311 0 [(0, .inr (.inl 352)), (1, .inl n), (2, .inl a), (3, .inl b)] [] W Post := fw_ok (n := 12) (ss := [(16, [0, 1, 2, 3, 4, 5]), (31, [0, 1, 2, 3, 4, 5, 6])]) (hv := []) fr_311_ok fm_ok (ct_mendOf_ok d) hw_

theorem s_mendOf_31 {Post : Option fw_V → fw_W → Prop} {d : Nat} {W : fw_W} {n a b was0 off so : Int} {f : fw_W}
    (hw_ : -2147483648 ≤ was0 + off ∧ was0 + off ≤ 2147483647 ∧ ((((was0 + off) < so → -2147483648 ≤ off + (1 : Int) ∧ off + (1 : Int) ≤ 2147483647 ∧ (jf fw_T (d + 4) 311 16 [(0, .inr (.inl 352)), (1, .inl n), (2, .inl a), (3, .inl b), (4, .inl was0), (5, .inl (off + (1 : Int)))] [] (fw_put [396] 352 [] W f) Post)) ∧ (so ≤ (was0 + off) → (0 ≤ a ∧ a < 6 ∧ 0 ≤ b ∧ b < 6) ∧ (∀ (f1 : fw_W), ((∀ i, 0 ≤ i → (fw_g f1 396 i) = (if 6 * b + a = i then so else if 6 * a + b = i then so else (fw_g f 396 i)))) → (True) ∧ (∀ (r2 : Int), ((0 ≤ r2 ∧ r2 ≤ 1 ∧ ((r2 = 1 ∧ (1 : Int) ≤ so ∧ so ≤ (999 : Int)) ∨ (r2 = 0 ∧ (so < (1 : Int) ∨ (999 : Int) < so))))) → ((r2 = 0 → -2147483648 ≤ (2 : Int) * off ∧ (2 : Int) * off ≤ 2147483647 ∧ (-2147483648 ≤ so + ((2 : Int) * off) ∧ so + ((2 : Int) * off) ≤ 2147483647 ∧ (jf fw_T (d + 4) 311 31 [(0, .inr (.inl 352)), (1, .inl n), (2, .inl a), (3, .inl b), (4, .inl was0), (5, .inl off), (6, .inl (so + ((2 : Int) * off)))] [] (fw_put [396] 352 [] (fw_put [396] 352 [] W f) f1) Post))) ∧ (¬ r2 = 0 → (2 ≤ n ∧ n ≤ 6) ∧ (∀ (r3 : Int), ((-2147483648 ≤ r3 ∧ r3 ≤ 2147483647 ∧ (True))) → ((¬ r3 = 0 → -2147483648 ≤ (2 : Int) * off ∧ (2 : Int) * off ≤ 2147483647 ∧ (-2147483648 ≤ so + ((2 : Int) * off) ∧ so + ((2 : Int) * off) ≤ 2147483647 ∧ (jf fw_T (d + 4) 311 31 [(0, .inr (.inl 352)), (1, .inl n), (2, .inl a), (3, .inl b), (4, .inl was0), (5, .inl off), (6, .inl (so + ((2 : Int) * off)))] [] (fw_put [396] 352 [] (fw_put [396] 352 [] W f) f1) Post))) ∧ (r3 = 0 → (-2147483648 ≤ so → so ≤ 2147483647 → Post (some (.inl so)) (fw_put [396] 352 [] (fw_put [396] 352 [] W f) f1))))))))))))) :
    jf fw_T (d + 4) 311 31 [(0, .inr (.inl 352)), (1, .inl n), (2, .inl a), (3, .inl b), (4, .inl was0), (5, .inl off), (6, .inl so)] [] (fw_put [396] 352 [] W f) Post := fw_ok (n := 27) (ss := [(16, [0, 1, 2, 3, 4, 5]), (31, [0, 1, 2, 3, 4, 5, 6])]) (hv := []) fr_311_ok fm_ok (ct_mendOf_ok d) hw_

theorem s_mendOf_16 {Post : Option fw_V → fw_W → Prop} {d : Nat} {W : fw_W} {n a b was0 off : Int} {f : fw_W}
    (hw_ : (((1000 : Int) ≤ off → (0 ≤ a ∧ a < 6 ∧ 0 ≤ b ∧ b < 6) ∧ (∀ (f1 : fw_W), ((∀ i, 0 ≤ i → (fw_g f1 396 i) = (if 6 * b + a = i then was0 else if 6 * a + b = i then was0 else (fw_g f 396 i)))) → (-2147483648 ≤ (-1 : Int) → (-1 : Int) ≤ 2147483647 → Post (some (.inl (-1 : Int))) (fw_put [396] 352 [] (fw_put [396] 352 [] W f) f1)))) ∧ (off < (1000 : Int) → -2147483648 ≤ was0 - off ∧ was0 - off ≤ 2147483647 ∧ (jf fw_T (d + 4) 311 31 [(0, .inr (.inl 352)), (1, .inl n), (2, .inl a), (3, .inl b), (4, .inl was0), (5, .inl off), (6, .inl (was0 - off))] [] (fw_put [396] 352 [] W f) Post)))) :
    jf fw_T (d + 4) 311 16 [(0, .inr (.inl 352)), (1, .inl n), (2, .inl a), (3, .inl b), (4, .inl was0), (5, .inl off)] [] (fw_put [396] 352 [] W f) Post := fw_ok (n := 11) (ss := [(16, [0, 1, 2, 3, 4, 5]), (31, [0, 1, 2, 3, 4, 5, 6])]) (hv := []) fr_311_ok fm_ok (ct_mendOf_ok d) hw_

theorem lm_mendOf_31 {Post : Option fw_V → fw_W → Prop} {d : Nat} {W : fw_W} {n a b : Int} (hpre : 2 ≤ n ∧ n ≤ 6 ∧ 0 ≤ a ∧ a < 6 ∧ 0 ≤ b ∧ b < 6 ∧ (∀ i, 0 ≤ i → i < 36 → 0 ≤ (fw_g W 396 i) ∧ (fw_g W 396 i) ≤ 999)) (hP : ∀ (v : Int) (W2 : fw_W), fw_sm [396] 352 [] W W2 → (-2147483648 ≤ v ∧ v ≤ 2147483647 ∧ ((∀ i, 0 ≤ i → i < 36 → 0 ≤ (fw_g W2 396 i) ∧ (fw_g W2 396 i) ≤ 999))) → Post (some (.inl v)) W2) (M16 : Int) (h16 : ∀ (was0 off : Int) (f : fw_W), (1 ≤ off ∧ 0 ≤ was0 ∧ was0 ≤ 999 ∧ (∀ i, 0 ≤ i → i < 36 → i ≠ 6 * a + b → i ≠ 6 * b + a → 0 ≤ (fw_g f 396 i) ∧ (fw_g f 396 i) ≤ 999)) → ((1000 : Int) - off) < M16 → jf fw_T (d + 4) 311 16 [(0, .inr (.inl 352)), (1, .inl n), (2, .inl a), (3, .inl b), (4, .inl was0), (5, .inl off)] [] (fw_put [396] 352 [] W f) Post) : ∀ (m : Nat) (was0 off so : Int) (f : fw_W), (was0 + off - so + 1).toNat = m → ((1 ≤ off ∧ off < 1000) ∧ 0 ≤ was0 ∧ was0 ≤ 999 ∧ (was0 - off ≤ so ∧ so ≤ 5000) ∧ (∀ i, 0 ≤ i → i < 36 → i ≠ 6 * a + b → i ≠ 6 * b + a → 0 ≤ (fw_g f 396 i) ∧ (fw_g f 396 i) ≤ 999)) → ((1000 : Int) - off) ≤ M16 → jf fw_T (d + 4) 311 31 [(0, .inr (.inl 352)), (1, .inl n), (2, .inl a), (3, .inl b), (4, .inl was0), (5, .inl off), (6, .inl so)] [] (fw_put [396] 352 [] W f) Post := by
  intro m
  induction m using Nat.strongRecOn with
  | ind m ih =>
    intro was0 off so f hm hi e16
    refine jf_rng (fun hrg => ?_)
    have hrg : -2147483648 ≤ n ∧ n ≤ 2147483647 ∧ -2147483648 ≤ a ∧ a ≤ 2147483647 ∧ -2147483648 ≤ b ∧ b ≤ 2147483647 ∧ -2147483648 ≤ was0 ∧ was0 ≤ 2147483647 ∧ -2147483648 ≤ off ∧ off ≤ 2147483647 ∧ -2147483648 ≤ so ∧ so ≤ 2147483647 ∧ True := hrg
    refine s_mendOf_31 ?_
    have hab : 2 ≤ n ∧ n ≤ 6 ∧ 0 ≤ a ∧ a < 6 ∧ 0 ≤ b ∧ b < 6 := ⟨hpre.1, hpre.2.1, hpre.2.2.1, hpre.2.2.2.1, hpre.2.2.2.2.1, hpre.2.2.2.2.2.1⟩
    have hi1 := hi.1
    have hi2 := hi.2.1
    have hi3 := hi.2.2.1
    have hi4 := hi.2.2.2.1
    repeat' (first
      | (exact True.intro)
      | (exact hpre.1)
      | (refine And.intro ?_ ?_)
      | (refine (h16 _ _ _ ?_ (by omega)); (exact ⟨by omega, by omega, by omega, hi.2.2.2.2⟩))
      | (refine jf_put (S := [396]) (o := 352) (F := []) (W := W) (by repeat (first | exact fw_sm_refl | exact fw_sm_put0 | refine fw_sm_arr ?_ rfl | refine fw_sm_up ?_ rfl | refine fw_sm_put ?_ rfl | refine fw_sm_cp ?_ rfl)) (h16 _ _ _ ?_ (by omega)); (exact ⟨by omega, by omega, by omega, hi.2.2.2.2⟩))
      | (refine (ih _ (by omega) _ _ _ _ rfl ?_ (by omega)); (
        first
          | (rename_i f1 hs r1 hr1 hr2
             refine ⟨by omega, by omega, by omega, by omega, fun i j1 j2 j3 j4 => ?_⟩
             rw [fg_in rfl, hs i j1, if_neg (by omega), if_neg (by omega)]
             exact hi.2.2.2.2 i j1 j2 j3 j4)
          | (rename_i f1 hs r1 hr1 hr2 r2 hr3 hr4
             refine ⟨by omega, by omega, by omega, by omega, fun i j1 j2 j3 j4 => ?_⟩
             rw [fg_in rfl, hs i j1, if_neg (by omega), if_neg (by omega)]
             exact hi.2.2.2.2 i j1 j2 j3 j4)))
      | (refine jf_put (S := [396]) (o := 352) (F := []) (W := W) (by repeat (first | exact fw_sm_refl | exact fw_sm_put0 | refine fw_sm_arr ?_ rfl | refine fw_sm_up ?_ rfl | refine fw_sm_put ?_ rfl | refine fw_sm_cp ?_ rfl)) (ih _ (by omega) _ _ _ _ rfl ?_ (by omega)); (
        first
          | (rename_i f1 hs r1 hr1 hr2
             refine ⟨by omega, by omega, by omega, by omega, fun i j1 j2 j3 j4 => ?_⟩
             rw [fg_in rfl, hs i j1, if_neg (by omega), if_neg (by omega)]
             exact hi.2.2.2.2 i j1 j2 j3 j4)
          | (rename_i f1 hs r1 hr1 hr2 r2 hr3 hr4
             refine ⟨by omega, by omega, by omega, by omega, fun i j1 j2 j3 j4 => ?_⟩
             rw [fg_in rfl, hs i j1, if_neg (by omega), if_neg (by omega)]
             exact hi.2.2.2.2 i j1 j2 j3 j4)))
      | (refine hP _ _ (by repeat (first | exact fw_sm_refl | exact fw_sm_put0 | refine fw_sm_arr ?_ rfl | refine fw_sm_up ?_ rfl | refine fw_sm_put ?_ rfl | refine fw_sm_cp ?_ rfl)) ?_; (refine ⟨by omega, by omega, ?_⟩; (
        intro i j1 j2
        first
          | (rename_i f1 hs _ _
             rw [fg_in rfl, hs i j1]
             split
             · omega
             · split
               · omega
               · have h3 := hi.2.2.2 i j1 j2 (by omega) (by omega)
                 exact h3)
          | (rename_i f1 hs _ _ _ _ _ _ _ _ 
             rw [fg_in rfl, hs i j1]
             split
             · omega
             · split
               · omega
               · have h3 := hi.2.2.2.2 i j1 j2 (by omega) (by omega)
                 exact h3))))
      | omega
      | (intro _))
theorem lm_mendOf_16 {Post : Option fw_V → fw_W → Prop} {d : Nat} {W : fw_W} {n a b : Int} (hpre : 2 ≤ n ∧ n ≤ 6 ∧ 0 ≤ a ∧ a < 6 ∧ 0 ≤ b ∧ b < 6 ∧ (∀ i, 0 ≤ i → i < 36 → 0 ≤ (fw_g W 396 i) ∧ (fw_g W 396 i) ≤ 999)) (hP : ∀ (v : Int) (W2 : fw_W), fw_sm [396] 352 [] W W2 → (-2147483648 ≤ v ∧ v ≤ 2147483647 ∧ ((∀ i, 0 ≤ i → i < 36 → 0 ≤ (fw_g W2 396 i) ∧ (fw_g W2 396 i) ≤ 999))) → Post (some (.inl v)) W2)  : ∀ (m : Nat) (was0 off : Int) (f : fw_W), ((1000 : Int) - off).toNat = m → (1 ≤ off ∧ 0 ≤ was0 ∧ was0 ≤ 999 ∧ (∀ i, 0 ≤ i → i < 36 → i ≠ 6 * a + b → i ≠ 6 * b + a → 0 ≤ (fw_g f 396 i) ∧ (fw_g f 396 i) ≤ 999)) → jf fw_T (d + 4) 311 16 [(0, .inr (.inl 352)), (1, .inl n), (2, .inl a), (3, .inl b), (4, .inl was0), (5, .inl off)] [] (fw_put [396] 352 [] W f) Post := by
  intro m
  induction m using Nat.strongRecOn with
  | ind m ih =>
    intro was0 off f hm hi
    refine jf_rng (fun hrg => ?_)
    have hrg : -2147483648 ≤ n ∧ n ≤ 2147483647 ∧ -2147483648 ≤ a ∧ a ≤ 2147483647 ∧ -2147483648 ≤ b ∧ b ≤ 2147483647 ∧ -2147483648 ≤ was0 ∧ was0 ≤ 2147483647 ∧ -2147483648 ≤ off ∧ off ≤ 2147483647 ∧ True := hrg
    refine s_mendOf_16 ?_
    have hab : 2 ≤ n ∧ n ≤ 6 ∧ 0 ≤ a ∧ a < 6 ∧ 0 ≤ b ∧ b < 6 := ⟨hpre.1, hpre.2.1, hpre.2.2.1, hpre.2.2.2.1, hpre.2.2.2.2.1, hpre.2.2.2.2.2.1⟩
    have hi1 := hi.1
    have hi2 := hi.2.1
    have hi3 := hi.2.2.1
    repeat' (first
      | (exact True.intro)
      | (exact hpre.1)
      | (refine And.intro ?_ ?_)
      | (refine (ih _ (by omega) _ _ _ rfl ?_); (first | omega | trivial | (simp (config := { decide := true }) only [fg_in, fg_fin, fg_out, fg_fout, fg_up, fg_same, true_and, and_true] <;> omega)))
      | (refine jf_put (S := [396]) (o := 352) (F := []) (W := W) (by repeat (first | exact fw_sm_refl | exact fw_sm_put0 | refine fw_sm_arr ?_ rfl | refine fw_sm_up ?_ rfl | refine fw_sm_put ?_ rfl | refine fw_sm_cp ?_ rfl)) (ih _ (by omega) _ _ _ rfl ?_); (first | omega | trivial | (simp (config := { decide := true }) only [fg_in, fg_fin, fg_out, fg_fout, fg_up, fg_same, true_and, and_true] <;> omega)))
      | (refine (lm_mendOf_31 (n := n) (a := a) (b := b) hpre hP ((1000 : Int) - off) (fun a0 a1 af hi hl => ih _ (by omega) a0 a1 af rfl hi) _ _ _ _ _ rfl ?_ (by omega)); (exact ⟨by omega, by omega, by omega, by omega, hi.2.2.2⟩))
      | (refine jf_put (S := [396]) (o := 352) (F := []) (W := W) (by repeat (first | exact fw_sm_refl | exact fw_sm_put0 | refine fw_sm_arr ?_ rfl | refine fw_sm_up ?_ rfl | refine fw_sm_put ?_ rfl | refine fw_sm_cp ?_ rfl)) (lm_mendOf_31 (n := n) (a := a) (b := b) hpre hP ((1000 : Int) - off) (fun a0 a1 af hi hl => ih _ (by omega) a0 a1 af rfl hi) _ _ _ _ _ rfl ?_ (by omega)); (exact ⟨by omega, by omega, by omega, by omega, hi.2.2.2⟩))
      | (refine hP _ _ (by repeat (first | exact fw_sm_refl | exact fw_sm_put0 | refine fw_sm_arr ?_ rfl | refine fw_sm_up ?_ rfl | refine fw_sm_put ?_ rfl | refine fw_sm_cp ?_ rfl)) ?_; (refine ⟨by omega, by omega, ?_⟩; (
        intro i j1 j2
        first
          | (rename_i f1 hs _ _
             rw [fg_in rfl, hs i j1]
             split
             · omega
             · split
               · omega
               · have h3 := hi.2.2.2 i j1 j2 (by omega) (by omega)
                 exact h3)
          | (rename_i f1 hs _ _ _ _ _ _ _ _ 
             rw [fg_in rfl, hs i j1]
             split
             · omega
             · split
               · omega
               · have h3 := hi.2.2.2.2 i j1 j2 (by omega) (by omega)
                 exact h3))))
      | omega
      | (intro _))
def x_mendOf : fw_X := fun as W Q => match as with
  | [.inr (.inl s_), .inl n, .inl a, .inl b] => fw_if (Nat.beq s_ 352) ((2 ≤ n ∧ n ≤ 6 ∧ 0 ≤ a ∧ a < 6 ∧ 0 ≤ b ∧ b < 6 ∧ (∀ i, 0 ≤ i → i < 36 → 0 ≤ (fw_g W 396 i) ∧ (fw_g W 396 i) ≤ 999)) ∧ (∀ (v : Int) (f : fw_W), (-2147483648 ≤ v ∧ v ≤ 2147483647 ∧ ((∀ i, 0 ≤ i → i < 36 → 0 ≤ (fw_g f 396 i) ∧ (fw_g f 396 i) ≤ 999))) → Q (some (.inl v)) (fw_put [396] 352 [] W f)))
  | _ => False
theorem x_mendOf_ok (d : Nat) (as : List fw_V) (W : fw_W) (Q : Option fw_V → fw_W → Prop) (hx : x_mendOf as W Q) : jf fw_T (d + 4) 311 0 (fw_args 0 as) [] W Q := by
  unfold x_mendOf at hx
  split at hx
  · rename_i s_ n a b
    obtain ⟨e_, hpre, hQ⟩ := fw_if_ok hx
    have e_ := Nat.eq_of_beq_eq_true e_
    subst e_
    have hP : ∀ (v : Int) (W2 : fw_W), fw_sm [396] 352 [] W W2 → _ → Q (some (.inl v)) W2 := fun v W2 hs hr => fw_sm_use (Q := fun Z => Q (some (.inl v)) Z) hs (hQ v W2 hr)
    refine s_mendOf_0 ?_
    have hab : 2 ≤ n ∧ n ≤ 6 ∧ 0 ≤ a ∧ a < 6 ∧ 0 ≤ b ∧ b < 6 := ⟨hpre.1, hpre.2.1, hpre.2.2.1, hpre.2.2.2.1, hpre.2.2.2.2.1, hpre.2.2.2.2.2.1⟩
    have hw0 := hpre.2.2.2.2.2.2 (6 * a + b) (by omega) (by omega)
    repeat' (first
      | (exact True.intro)
      | (exact hpre.1)
      | (refine And.intro ?_ ?_)
      | (refine jf_put (S := [396]) (o := 352) (F := []) (W := W) (by repeat (first | exact fw_sm_refl | exact fw_sm_put0 | refine fw_sm_arr ?_ rfl | refine fw_sm_up ?_ rfl | refine fw_sm_put ?_ rfl | refine fw_sm_cp ?_ rfl)) (lm_mendOf_16 (n := n) (a := a) (b := b) hpre hP _ _ _ _ rfl ?_); (exact ⟨by omega, by omega, by omega, fun i j1 j2 _ _ => hpre.2.2.2.2.2.2 i j1 j2⟩))
      | (refine jf_put (S := [396]) (o := 352) (F := []) (W := W) (by repeat (first | exact fw_sm_refl | exact fw_sm_put0 | refine fw_sm_arr ?_ rfl | refine fw_sm_up ?_ rfl | refine fw_sm_put ?_ rfl | refine fw_sm_cp ?_ rfl)) (lm_mendOf_31 (n := n) (a := a) (b := b) hpre hP M16 h16 _ _ _ _ _ rfl ?_ (by omega)); (first | omega | trivial | (simp (config := { decide := true }) only [fg_in, fg_fin, fg_out, fg_fout, fg_up, fg_same, true_and, and_true] <;> omega)))
      | (refine hP _ _ (by repeat (first | exact fw_sm_refl | exact fw_sm_put0 | refine fw_sm_arr ?_ rfl | refine fw_sm_up ?_ rfl | refine fw_sm_put ?_ rfl | refine fw_sm_cp ?_ rfl)) ?_; (refine ⟨by omega, by omega, ?_⟩; (
        intro i j1 j2
        first
          | (rename_i f1 hs _ _
             rw [fg_in rfl, hs i j1]
             split
             · omega
             · split
               · omega
               · have h3 := hi.2.2.2 i j1 j2 (by omega) (by omega)
                 exact h3)
          | (rename_i f1 hs _ _ _ _ _ _ _ _ 
             rw [fg_in rfl, hs i j1]
             split
             · omega
             · split
               · omega
               · have h3 := hi.2.2.2.2 i j1 j2 (by omega) (by omega)
                 exact h3))))
      | omega
      | (intro _))
  · exact hx.elim

def fr_310 : fw_P := [(0, 1, 1, 0, 0), (1, 0, 0, 0, 2), (2, 0, 0, 0, 6), (4, 65, 214, 3, 300), (7, 20, 19, 0, 0), (10, 1, 2, 0, 0), (11, 0, 0, 0, 0), (12, 0, 0, 0, 1), (13, 65, 214, 3, 300), (16, 21, 22, 0, 0), (19, 0, 0, 0, -3), (21, 70, 0, 0, 0), (22, 2, 0, 0, 0), (23, 1, 1, 0, 0), (24, 1, 3, 0, 0), (25, 64, 304, 2, 512), (28, 21, 34, 0, 0), (31, 0, 0, 0, -2), (33, 70, 0, 0, 0), (34, 2, 0, 0, 0), (35, 1, 1, 0, 0), (36, 64, 306, 1, 712), (39, 21, 44, 0, 0), (42, 0, 0, 0, 0), (43, 70, 0, 0, 0), (44, 0, 0, 0, 0), (45, 3, 4, 0, 0), (47, 1, 4, 0, 0), (49, 1, 1, 0, 0), (50, 13, 111, 0, 0), (53, 1, 4, 0, 0), (55, 0, 0, 0, 1), (56, 30, 0, 0, 0), (57, 3, 5, 0, 0), (59, 1, 5, 0, 0), (61, 1, 1, 0, 0), (62, 13, 105, 0, 0), (65, 2, 0, 0, 0), (66, 1, 1, 0, 0), (67, 1, 4, 0, 0), (69, 1, 5, 0, 0), (71, 64, 311, 3, 712), (74, 3, 6, 0, 0), (76, 1, 6, 0, 0), (78, 22, 99, 0, 0), (81, 1, 2, 0, 0), (82, 21, 96, 0, 0), (85, 0, 0, 0, 10), (87, 1, 4, 0, 0), (89, 32, 0, 0, 0), (90, 1, 5, 0, 0), (92, 30, 0, 0, 0), (93, 6, 98, 0, 0), (96, 1, 6, 0, 0), (98, 70, 0, 0, 0), (99, 5, 5, 0, 1), (102, 6, 59, 0, 0), (105, 5, 4, 0, 1), (108, 6, 47, 0, 0), (111, 0, 0, 0, -1), (112, 70, 0, 0, 0)]
theorem fr_310_ok : fw_mk 310 7 12 (some .int) fr_310 = true := by decide +kernel
def ct_mended : List (Nat × fw_X) := [(214, x_isIn), (304, x_layKnown), (311, x_mendOf), (306, x_wrongOf)]
theorem ct_mended_ok (d : Nat) : fw_cok fw_T (d + 4) ct_mended := by
  intro q hq as W Q h
  simp only [ct_mended, List.mem_cons, List.not_mem_nil, or_false] at hq
  rcases hq with rfl | rfl | rfl | rfl
  · exact jc_of (x_isIn_ok (d + 3) as W Q h)
  · exact jc_of (x_layKnown_ok (d + 2) as W Q h)
  · exact jc_of (x_mendOf_ok (d + 0) as W Q h)
  · exact jc_of (x_wrongOf_ok (d + 1) as W Q h)
theorem s_mended_0 {Post : Option fw_V → fw_W → Prop} {d : Nat} {W : fw_W} {n w k : Int}
    (hw_ : (True) ∧ (∀ (r1 : Int), ((0 ≤ r1 ∧ r1 ≤ 1 ∧ ((r1 = 1 ∧ (2 : Int) ≤ n ∧ n ≤ (6 : Int)) ∨ (r1 = 0 ∧ (n < (2 : Int) ∨ (6 : Int) < n))))) → ((r1 = 0 → (-2147483648 ≤ (-3 : Int) → (-3 : Int) ≤ 2147483647 → Post (some (.inl (-3 : Int))) W)) ∧ (¬ r1 = 0 → (True) ∧ (∀ (r2 : Int), ((0 ≤ r2 ∧ r2 ≤ 1 ∧ ((r2 = 1 ∧ (0 : Int) ≤ w ∧ w ≤ (1 : Int)) ∨ (r2 = 0 ∧ (w < (0 : Int) ∨ (1 : Int) < w))))) → ((¬ r2 = 0 → (0 ≤ n ∧ n ≤ 6) ∧ (∀ (r3 : Int) (f4 : fw_W), ((0 ≤ r3 ∧ r3 ≤ 1 ∧ ((∀ i, 0 ≤ i → i < 36 → 0 ≤ (fw_g f4 396 i) ∧ (fw_g f4 396 i) ≤ 999)))) → ((¬ r3 = 0 → (2 ≤ n ∧ n ≤ 6) ∧ (∀ (r5 : Int), ((-2147483648 ≤ r5 ∧ r5 ≤ 2147483647 ∧ (True))) → ((¬ r5 = 0 → jf fw_T (d + 5) 310 47 [(0, .inr (.inl 352)), (1, .inl n), (2, .inl w), (4, .inl (0 : Int))] [] (fw_put [396] 352 [] W f4) Post) ∧ (r5 = 0 → (-2147483648 ≤ (0 : Int) → (0 : Int) ≤ 2147483647 → Post (some (.inl (0 : Int))) (fw_put [396] 352 [] W f4)))))) ∧ (r3 = 0 → (-2147483648 ≤ (-2 : Int) → (-2 : Int) ≤ 2147483647 → Post (some (.inl (-2 : Int))) (fw_put [396] 352 [] W f4)))))) ∧ (r2 = 0 → (-2147483648 ≤ (-3 : Int) → (-3 : Int) ≤ 2147483647 → Post (some (.inl (-3 : Int))) W)))))))) :
    jf fw_T (d + 5) 310 0 [(0, .inr (.inl 352)), (1, .inl n), (2, .inl w), (3, .inl k)] [] W Post := fw_ok (n := 22) (ss := [(47, [0, 1, 2, 4]), (59, [0, 1, 2, 4, 5])]) (hv := [89, 92]) fr_310_ok fm_ok (ct_mended_ok d) hw_

theorem s_mended_59 {Post : Option fw_V → fw_W → Prop} {d : Nat} {W : fw_W} {n w a b : Int} {f : fw_W}
    (hw_ : ((n ≤ b → -2147483648 ≤ a + (1 : Int) ∧ a + (1 : Int) ≤ 2147483647 ∧ (jf fw_T (d + 5) 310 47 [(0, .inr (.inl 352)), (1, .inl n), (2, .inl w), (4, .inl (a + (1 : Int)))] [] (fw_put [396] 352 [] W f) Post)) ∧ (b < n → (2 ≤ n ∧ n ≤ 6 ∧ 0 ≤ a ∧ a < 6 ∧ 0 ≤ b ∧ b < 6 ∧ (∀ i, 0 ≤ i → i < 36 → 0 ≤ (fw_g f 396 i) ∧ (fw_g f 396 i) ≤ 999)) ∧ (∀ (r1 : Int) (f2 : fw_W), ((-2147483648 ≤ r1 ∧ r1 ≤ 2147483647 ∧ ((∀ i, 0 ≤ i → i < 36 → 0 ≤ (fw_g f2 396 i) ∧ (fw_g f2 396 i) ≤ 999)))) → ((r1 < 0 → -2147483648 ≤ b + (1 : Int) ∧ b + (1 : Int) ≤ 2147483647 ∧ (jf fw_T (d + 5) 310 59 [(0, .inr (.inl 352)), (1, .inl n), (2, .inl w), (4, .inl a), (5, .inl (b + (1 : Int)))] [] (fw_put [396] 352 [] (fw_put [396] 352 [] W f) f2) Post)) ∧ (0 ≤ r1 → ((¬ w = 0 → (-2147483648 ≤ r1 → r1 ≤ 2147483647 → Post (some (.inl r1)) (fw_put [396] 352 [] (fw_put [396] 352 [] W f) f2))) ∧ (w = 0 → ∀ v3 : Int, -2147483648 ≤ v3 → v3 ≤ 2147483647 → ∀ v4 : Int, -2147483648 ≤ v4 → v4 ≤ 2147483647 → (-2147483648 ≤ v4 → v4 ≤ 2147483647 → Post (some (.inl v4)) (fw_put [396] 352 [] (fw_put [396] 352 [] W f) f2)))))))))) :
    jf fw_T (d + 5) 310 59 [(0, .inr (.inl 352)), (1, .inl n), (2, .inl w), (4, .inl a), (5, .inl b)] [] (fw_put [396] 352 [] W f) Post := fw_ok (n := 21) (ss := [(47, [0, 1, 2, 4]), (59, [0, 1, 2, 4, 5])]) (hv := [89, 92]) fr_310_ok fm_ok (ct_mended_ok d) hw_

theorem s_mended_47 {Post : Option fw_V → fw_W → Prop} {d : Nat} {W : fw_W} {n w a : Int} {f : fw_W}
    (hw_ : ((n ≤ a → (-2147483648 ≤ (-1 : Int) → (-1 : Int) ≤ 2147483647 → Post (some (.inl (-1 : Int))) (fw_put [396] 352 [] W f))) ∧ (a < n → -2147483648 ≤ a + (1 : Int) ∧ a + (1 : Int) ≤ 2147483647 ∧ (jf fw_T (d + 5) 310 59 [(0, .inr (.inl 352)), (1, .inl n), (2, .inl w), (4, .inl a), (5, .inl (a + (1 : Int)))] [] (fw_put [396] 352 [] W f) Post)))) :
    jf fw_T (d + 5) 310 47 [(0, .inr (.inl 352)), (1, .inl n), (2, .inl w), (4, .inl a)] [] (fw_put [396] 352 [] W f) Post := fw_ok (n := 8) (ss := [(47, [0, 1, 2, 4]), (59, [0, 1, 2, 4, 5])]) (hv := [89, 92]) fr_310_ok fm_ok (ct_mended_ok d) hw_

theorem lm_mended_59 {Post : Option fw_V → fw_W → Prop} {d : Nat} {W : fw_W} {n w k : Int} (hpre : True) (hP : ∀ (v : Int) (W2 : fw_W), fw_sm [396] 352 [] W W2 → (-2147483648 ≤ v ∧ v ≤ 2147483647 ∧ (True)) → Post (some (.inl v)) W2) (M47 : Int) (h47 : ∀ (a : Int) (f : fw_W), (0 ≤ a ∧ (2 ≤ n ∧ n ≤ 6) ∧ (∀ i, 0 ≤ i → i < 36 → 0 ≤ (fw_g f 396 i) ∧ (fw_g f 396 i) ≤ 999)) → (n - a) < M47 → jf fw_T (d + 5) 310 47 [(0, .inr (.inl 352)), (1, .inl n), (2, .inl w), (4, .inl a)] [] (fw_put [396] 352 [] W f) Post) : ∀ (m : Nat) (a b : Int) (f : fw_W), (n - b).toNat = m → (a < b ∧ (0 ≤ a ∧ a < n) ∧ (2 ≤ n ∧ n ≤ 6) ∧ (∀ i, 0 ≤ i → i < 36 → 0 ≤ (fw_g f 396 i) ∧ (fw_g f 396 i) ≤ 999)) → (n - a) ≤ M47 → jf fw_T (d + 5) 310 59 [(0, .inr (.inl 352)), (1, .inl n), (2, .inl w), (4, .inl a), (5, .inl b)] [] (fw_put [396] 352 [] W f) Post := by
  intro m
  induction m using Nat.strongRecOn with
  | ind m ih =>
    intro a b f hm hi e47
    refine jf_rng (fun hrg => ?_)
    have hrg : -2147483648 ≤ n ∧ n ≤ 2147483647 ∧ -2147483648 ≤ w ∧ w ≤ 2147483647 ∧ -2147483648 ≤ a ∧ a ≤ 2147483647 ∧ -2147483648 ≤ b ∧ b ≤ 2147483647 ∧ True := hrg
    refine s_mended_59 ?_
    have hi1 := hi.1
    have hi2 := hi.2.1
    have hi3 := hi.2.2.1
    repeat' (first
      | (exact hi.2.2.2)
      | (exact True.intro)
      | (exact hpre.1)
      | (refine And.intro ?_ ?_)
      | (refine (h47 _ _ ?_ (by omega)); (exact ⟨by omega, by omega, hi.2.2.2⟩))
      | (refine jf_put (S := [396]) (o := 352) (F := []) (W := W) (by repeat (first | exact fw_sm_refl | exact fw_sm_put0 | refine fw_sm_arr ?_ rfl | refine fw_sm_up ?_ rfl | refine fw_sm_put ?_ rfl | refine fw_sm_cp ?_ rfl)) (h47 _ _ ?_ (by omega)); (exact ⟨by omega, by omega, hi.2.2.2⟩))
      | (refine (ih _ (by omega) _ _ _ rfl ?_ (by omega)); (rename_i r1 f1 hm1 hm2; exact ⟨by omega, by omega, by omega, fun i j1 j2 => hm1.2.2 i j1 j2⟩))
      | (refine jf_put (S := [396]) (o := 352) (F := []) (W := W) (by repeat (first | exact fw_sm_refl | exact fw_sm_put0 | refine fw_sm_arr ?_ rfl | refine fw_sm_up ?_ rfl | refine fw_sm_put ?_ rfl | refine fw_sm_cp ?_ rfl)) (ih _ (by omega) _ _ _ rfl ?_ (by omega)); (rename_i r1 f1 hm1 hm2; exact ⟨by omega, by omega, by omega, fun i j1 j2 => hm1.2.2 i j1 j2⟩))
      | (refine hP _ _ (by repeat (first | exact fw_sm_refl | exact fw_sm_put0 | refine fw_sm_arr ?_ rfl | refine fw_sm_up ?_ rfl | refine fw_sm_put ?_ rfl | refine fw_sm_cp ?_ rfl)) ?_; (refine ⟨by omega, by omega, ?_⟩; (first | trivial | omega)))
      | omega
      | (intro _))
theorem lm_mended_47 {Post : Option fw_V → fw_W → Prop} {d : Nat} {W : fw_W} {n w k : Int} (hpre : True) (hP : ∀ (v : Int) (W2 : fw_W), fw_sm [396] 352 [] W W2 → (-2147483648 ≤ v ∧ v ≤ 2147483647 ∧ (True)) → Post (some (.inl v)) W2)  : ∀ (m : Nat) (a : Int) (f : fw_W), (n - a).toNat = m → (0 ≤ a ∧ (2 ≤ n ∧ n ≤ 6) ∧ (∀ i, 0 ≤ i → i < 36 → 0 ≤ (fw_g f 396 i) ∧ (fw_g f 396 i) ≤ 999)) → jf fw_T (d + 5) 310 47 [(0, .inr (.inl 352)), (1, .inl n), (2, .inl w), (4, .inl a)] [] (fw_put [396] 352 [] W f) Post := by
  intro m
  induction m using Nat.strongRecOn with
  | ind m ih =>
    intro a f hm hi
    refine jf_rng (fun hrg => ?_)
    have hrg : -2147483648 ≤ n ∧ n ≤ 2147483647 ∧ -2147483648 ≤ w ∧ w ≤ 2147483647 ∧ -2147483648 ≤ a ∧ a ≤ 2147483647 ∧ True := hrg
    refine s_mended_47 ?_
    have hi1 := hi.1
    have hi2 := hi.2.1
    repeat' (first
      | (exact True.intro)
      | (exact hpre.1)
      | (refine And.intro ?_ ?_)
      | (refine (ih _ (by omega) _ _ rfl ?_); (first | omega | trivial | (simp (config := { decide := true }) only [fg_in, fg_fin, fg_out, fg_fout, fg_up, fg_same, true_and, and_true] <;> omega)))
      | (refine jf_put (S := [396]) (o := 352) (F := []) (W := W) (by repeat (first | exact fw_sm_refl | exact fw_sm_put0 | refine fw_sm_arr ?_ rfl | refine fw_sm_up ?_ rfl | refine fw_sm_put ?_ rfl | refine fw_sm_cp ?_ rfl)) (ih _ (by omega) _ _ rfl ?_); (first | omega | trivial | (simp (config := { decide := true }) only [fg_in, fg_fin, fg_out, fg_fout, fg_up, fg_same, true_and, and_true] <;> omega)))
      | (refine (lm_mended_59 (n := n) (w := w) (k := k) hpre hP (n - a) (fun a0 af hi hl => ih _ (by omega) a0 af rfl hi) _ _ _ _ rfl ?_ (by omega)); (exact ⟨by omega, by omega, by omega, hi.2.2⟩))
      | (refine jf_put (S := [396]) (o := 352) (F := []) (W := W) (by repeat (first | exact fw_sm_refl | exact fw_sm_put0 | refine fw_sm_arr ?_ rfl | refine fw_sm_up ?_ rfl | refine fw_sm_put ?_ rfl | refine fw_sm_cp ?_ rfl)) (lm_mended_59 (n := n) (w := w) (k := k) hpre hP (n - a) (fun a0 af hi hl => ih _ (by omega) a0 af rfl hi) _ _ _ _ rfl ?_ (by omega)); (exact ⟨by omega, by omega, by omega, hi.2.2⟩))
      | (refine hP _ _ (by repeat (first | exact fw_sm_refl | exact fw_sm_put0 | refine fw_sm_arr ?_ rfl | refine fw_sm_up ?_ rfl | refine fw_sm_put ?_ rfl | refine fw_sm_cp ?_ rfl)) ?_; (refine ⟨by omega, by omega, ?_⟩; (first | trivial | omega)))
      | omega
      | (intro _))
def x_mended : fw_X := fun as W Q => match as with
  | [.inr (.inl s_), .inl n, .inl w, .inl k] => fw_if (Nat.beq s_ 352) ((True) ∧ (∀ (v : Int) (f : fw_W), (-2147483648 ≤ v ∧ v ≤ 2147483647 ∧ (True)) → Q (some (.inl v)) (fw_put [396] 352 [] W f)))
  | _ => False
theorem x_mended_ok (d : Nat) (as : List fw_V) (W : fw_W) (Q : Option fw_V → fw_W → Prop) (hx : x_mended as W Q) : jf fw_T (d + 5) 310 0 (fw_args 0 as) [] W Q := by
  unfold x_mended at hx
  split at hx
  · rename_i s_ n w k
    obtain ⟨e_, hpre, hQ⟩ := fw_if_ok hx
    have e_ := Nat.eq_of_beq_eq_true e_
    subst e_
    have hP : ∀ (v : Int) (W2 : fw_W), fw_sm [396] 352 [] W W2 → _ → Q (some (.inl v)) W2 := fun v W2 hs hr => fw_sm_use (Q := fun Z => Q (some (.inl v)) Z) hs (hQ v W2 hr)
    refine s_mended_0 ?_
    repeat' (first
      | (exact True.intro)
      | (exact hpre.1)
      | (refine And.intro ?_ ?_)
      | (refine jf_put (S := [396]) (o := 352) (F := []) (W := W) (by repeat (first | exact fw_sm_refl | exact fw_sm_put0 | refine fw_sm_arr ?_ rfl | refine fw_sm_up ?_ rfl | refine fw_sm_put ?_ rfl | refine fw_sm_cp ?_ rfl)) (lm_mended_47 (n := n) (w := w) (k := k) hpre hP _ _ _ rfl ?_); (rename_i h1 c3 r5 h5 c5; exact ⟨by omega, by omega, fun i j1 j2 => h1.2.2 i j1 j2⟩))
      | (refine jf_put (S := [396]) (o := 352) (F := []) (W := W) (by repeat (first | exact fw_sm_refl | exact fw_sm_put0 | refine fw_sm_arr ?_ rfl | refine fw_sm_up ?_ rfl | refine fw_sm_put ?_ rfl | refine fw_sm_cp ?_ rfl)) (lm_mended_59 (n := n) (w := w) (k := k) hpre hP M47 h47 _ _ _ _ rfl ?_ (by omega)); (first | omega | trivial | (simp (config := { decide := true }) only [fg_in, fg_fin, fg_out, fg_fout, fg_up, fg_same, true_and, and_true] <;> omega)))
      | (refine hP _ _ (by repeat (first | exact fw_sm_refl | exact fw_sm_put0 | refine fw_sm_arr ?_ rfl | refine fw_sm_up ?_ rfl | refine fw_sm_put ?_ rfl | refine fw_sm_cp ?_ rfl)) ?_; (refine ⟨by omega, by omega, ?_⟩; (first | trivial | omega)))
      | omega
      | (intro _))
  · exact hx.elim

