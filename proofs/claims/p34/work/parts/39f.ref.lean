/-! the reference, method by method -/
theorem mt_ms {W : fw_W} {δ : Int → Int} {D : Int → Int → Int} (t : mt W) (hd : tr_dep (fw_g W 366 0) (fun h => fw_g W 366 (2 + 3 * h)) δ) (hm : tr_met (fw_g W 366 0) (fun h => fw_g W 366 (2 + 3 * h)) (fun h => fw_g W 366 (3 + 3 * h)) δ D) {x y : Int} (x1 : 0 ≤ x) (x2 : x < fw_g W 366 0) (y1 : 0 ≤ y) (y2 : y < fw_g W 366 0) : 0 ≤ D x y ∧ D x y ≤ 2574 ∧ (x = y → D x y = 0) ∧ (¬ x = y → δ y ≤ δ x → 0 ≤ fw_g W 366 (2 + 3 * x) ∧ fw_g W 366 (2 + 3 * x) < fw_g W 366 0 ∧ δ (fw_g W 366 (2 + 3 * x)) + 1 = δ x ∧ 0 ≤ δ (fw_g W 366 (2 + 3 * x)) ∧ 1 ≤ fw_g W 366 (3 + 3 * x) ∧ D x y = fw_g W 366 (3 + 3 * x) + D (fw_g W 366 (2 + 3 * x)) y ∧ 0 ≤ D (fw_g W 366 (2 + 3 * x)) y) ∧ (¬ x = y → δ x < δ y → 0 ≤ fw_g W 366 (2 + 3 * y) ∧ fw_g W 366 (2 + 3 * y) < fw_g W 366 0 ∧ δ (fw_g W 366 (2 + 3 * y)) + 1 = δ y ∧ 0 ≤ δ (fw_g W 366 (2 + 3 * y)) ∧ 1 ≤ fw_g W 366 (3 + 3 * y) ∧ D x y = fw_g W 366 (3 + 3 * y) + D x (fw_g W 366 (2 + 3 * y)) ∧ 0 ≤ D x (fw_g W 366 (2 + 3 * y))) ∧ 0 ≤ δ x ∧ 0 ≤ δ y := by
  have b := met_b t.2.2.1 hd hm t.2.2.2.1 _ x y x1 x2 y1 y2 rfl
  have gx := hd.2.2 x x1 x2
  have gy := hd.2.2 y y1 y2
  have n14 := t.2.1
  have m := hm x y x1 x2 y1 y2
  refine ⟨b.1, by omega, m.1, fun e c => ?_, fun e c => ?_, gx.1, gy.1⟩
  · have x0 : 1 ≤ x := by
      have dy := tr_dep0 t.2.2.1 hd y1 y2
      have dx := tr_dep0 t.2.2.1 hd x1 x2
      omega
    have hp : 0 ≤ fw_g W 366 (2 + 3 * x) ∧ fw_g W 366 (2 + 3 * x) < fw_g W 366 0 := tr_p t.2.2.1 x0 x2
    have hx : δ x = δ (fw_g W 366 (2 + 3 * x)) + 1 := hd.2.1 x x0 x2
    have gp := hd.2.2 _ hp.1 hp.2
    have b2 := met_b t.2.2.1 hd hm t.2.2.2.1 _ (fw_g W 366 (2 + 3 * x)) y hp.1 hp.2 y1 y2 rfl
    exact ⟨hp.1, hp.2, by omega, gp.1, (t.2.2.2.1 x x0 x2).1, m.2.1 e c, b2.1⟩
  · have y0 : 1 ≤ y := by
      have dy := tr_dep0 t.2.2.1 hd y1 y2
      have dx := tr_dep0 t.2.2.1 hd x1 x2
      omega
    have hp : 0 ≤ fw_g W 366 (2 + 3 * y) ∧ fw_g W 366 (2 + 3 * y) < fw_g W 366 0 := tr_p t.2.2.1 y0 y2
    have hx : δ y = δ (fw_g W 366 (2 + 3 * y)) + 1 := hd.2.1 y y0 y2
    have gp := hd.2.2 _ hp.1 hp.2
    have b2 := met_b t.2.2.1 hd hm t.2.2.2.1 _ x (fw_g W 366 (2 + 3 * y)) x1 x2 hp.1 hp.2 rfl
    exact ⟨hp.1, hp.2, by omega, gp.1, (t.2.2.2.1 y y0 y2).1, m.2.2 e c, b2.1⟩
def ct_wayOf2 : List (Nat × fw_X) := [(224, x_deepOf), (215, x_hangsAt), (216, x_streetOf)]
theorem ct_wayOf2_ok (d : Nat) : fw_cok fw_T (d + 2) ct_wayOf2 := by
  intro q hq as W Q h
  simp only [ct_wayOf2, List.mem_cons, List.not_mem_nil, or_false] at hq
  rcases hq with rfl | rfl | rfl
  · exact jc_of (x_deepOf_ok (d + 0) as W Q h)
  · exact jc_of (x_hangsAt_ok (d + 1) as W Q h)
  · exact jc_of (x_streetOf_ok (d + 1) as W Q h)
theorem s_wayOf2_0 {Post : Option fw_V → fw_W → Prop} {d : Nat} {W : fw_W} {a b : Int}
    (hw_ : jf fw_T (d + 3) 223 8 [(0, .inr (.inl 352)), (3, .inl a), (4, .inl b), (5, .inl (0 : Int))] [] W Post) :
    jf fw_T (d + 3) 223 0 [(0, .inr (.inl 352)), (1, .inl a), (2, .inl b)] [] W Post := fw_ok (n := 7) (ss := [(8, [0, 3, 4, 5])]) (hv := []) fr_223_ok fm_ok (ct_wayOf2_ok d) hw_

theorem s_wayOf2_8 {Post : Option fw_V → fw_W → Prop} {d : Nat} {W : fw_W} {x y sum : Int}
    (hw_ : ((x = y → (-2147483648 ≤ sum → sum ≤ 2147483647 → Post (some (.inl sum)) W)) ∧ (¬ x = y → (mt W ∧ 0 ≤ (fw_g W 366 0) ∧ (fw_g W 366 0) ≤ 14 ∧ 0 ≤ x ∧ x < (fw_g W 366 0)) ∧ (∀ (r1 : Int), ((-2147483648 ≤ r1 ∧ r1 ≤ 2147483647 ∧ (∀ δ, tr_dep ((fw_g W 366 0)) (fun z_ => (fw_g W 366 (2 + 3 * z_))) δ → r1 = δ x))) → (mt W ∧ 0 ≤ (fw_g W 366 0) ∧ (fw_g W 366 0) ≤ 14 ∧ 0 ≤ y ∧ y < (fw_g W 366 0)) ∧ (∀ (r2 : Int), ((-2147483648 ≤ r2 ∧ r2 ≤ 2147483647 ∧ (∀ δ, tr_dep ((fw_g W 366 0)) (fun z_ => (fw_g W 366 (2 + 3 * z_))) δ → r2 = δ y))) → ((r1 < r2 → (0 ≤ y ∧ y < 14) ∧ (-2147483648 ≤ sum + (fw_g W 366 (3 + 3 * y)) ∧ sum + (fw_g W 366 (3 + 3 * y)) ≤ 2147483647 ∧ ((0 ≤ y ∧ y < 14) ∧ (jf fw_T (d + 3) 223 8 [(0, .inr (.inl 352)), (3, .inl x), (4, .inl (fw_g W 366 (2 + 3 * y))), (5, .inl (sum + (fw_g W 366 (3 + 3 * y))))] [] W Post)))) ∧ (r2 ≤ r1 → (0 ≤ x ∧ x < 14) ∧ (-2147483648 ≤ sum + (fw_g W 366 (3 + 3 * x)) ∧ sum + (fw_g W 366 (3 + 3 * x)) ≤ 2147483647 ∧ ((0 ≤ x ∧ x < 14) ∧ (jf fw_T (d + 3) 223 8 [(0, .inr (.inl 352)), (3, .inl (fw_g W 366 (2 + 3 * x))), (4, .inl y), (5, .inl (sum + (fw_g W 366 (3 + 3 * x))))] [] W Post)))))))))) :
    jf fw_T (d + 3) 223 8 [(0, .inr (.inl 352)), (3, .inl x), (4, .inl y), (5, .inl sum)] [] W Post := fw_ok (n := 22) (ss := [(8, [0, 3, 4, 5])]) (hv := []) fr_223_ok fm_ok (ct_wayOf2_ok d) hw_

theorem lm_wayOf2_8 {Post : Option fw_V → fw_W → Prop} {d : Nat} {W : fw_W} {a b : Int} (δ : Int → Int) (D : Int → Int → Int) (hgh : tr_dep ((fw_g W 366 0)) (fun z_ => (fw_g W 366 (2 + 3 * z_))) δ ∧ tr_met ((fw_g W 366 0)) (fun z_ => (fw_g W 366 (2 + 3 * z_))) (fun z_ => (fw_g W 366 (3 + 3 * z_))) δ D) (hpre : mt W ∧ 0 ≤ (fw_g W 366 0) ∧ (fw_g W 366 0) ≤ 14 ∧ 0 ≤ a ∧ a < (fw_g W 366 0) ∧ 0 ≤ b ∧ b < (fw_g W 366 0)) (hP : ∀ (v : Int) , (-2147483648 ≤ v ∧ v ≤ 2147483647 ∧ (v = D a b)) → Post (some (.inl v)) W)  : ∀ (m : Nat) (x y sum : Int), (δ x + δ y).toNat = m → 0 ≤ x ∧ x < (fw_g W 366 0) ∧ 0 ≤ y ∧ y < (fw_g W 366 0) ∧ 0 ≤ sum ∧ sum + D x y = D a b → jf fw_T (d + 3) 223 8 [(0, .inr (.inl 352)), (3, .inl x), (4, .inl y), (5, .inl sum)] [] W Post := by
  intro m
  induction m using Nat.strongRecOn with
  | ind m ih =>
    intro x y sum hm hi
    refine jf_rng (fun hrg => ?_)
    have hrg : -2147483648 ≤ x ∧ x ≤ 2147483647 ∧ -2147483648 ≤ y ∧ y ≤ 2147483647 ∧ -2147483648 ≤ sum ∧ sum ≤ 2147483647 ∧ True := hrg
    refine s_wayOf2_8 ?_
    have ms := mt_ms hpre.1 hgh.1 hgh.2 hi.1 hi.2.1 hi.2.2.1 hi.2.2.2.1
    have b2 := mt_ms hpre.1 hgh.1 hgh.2 hpre.2.2.2.1 hpre.2.2.2.2.1 hpre.2.2.2.2.2.1 hpre.2.2.2.2.2.2
    have b3 := b2.1
    have b4 := b2.2.1
    clear b2
    repeat' (first
      | (exact True.intro)
      | (exact hpre.1)
      | (refine And.intro ?_ ?_)
      | (refine (ih _ (by omega) _ _ _ rfl ?_); (first | omega | trivial))
      | (refine hP _ ?_; (refine ⟨by omega, by omega, ?_⟩; (first | trivial | omega)))
      | (intro hv; have hv2 := hv.2.2 _ hgh.1; clear hv)
      | omega
      | (intro _))
def x_wayOf2 : fw_X := fun as W Q => match as with
  | [.inr (.inl s_), .inl a, .inl b] => fw_if (Nat.beq s_ 352) (∃ (δ : Int → Int), ∃ (D : Int → Int → Int), (tr_dep ((fw_g W 366 0)) (fun z_ => (fw_g W 366 (2 + 3 * z_))) δ ∧ tr_met ((fw_g W 366 0)) (fun z_ => (fw_g W 366 (2 + 3 * z_))) (fun z_ => (fw_g W 366 (3 + 3 * z_))) δ D) ∧ (mt W ∧ 0 ≤ (fw_g W 366 0) ∧ (fw_g W 366 0) ≤ 14 ∧ 0 ≤ a ∧ a < (fw_g W 366 0) ∧ 0 ≤ b ∧ b < (fw_g W 366 0)) ∧ (∀ (v : Int), (-2147483648 ≤ v ∧ v ≤ 2147483647 ∧ (v = D a b)) → Q (some (.inl v)) W))
  | _ => False
theorem x_wayOf2_ok (d : Nat) (as : List fw_V) (W : fw_W) (Q : Option fw_V → fw_W → Prop) (hx : x_wayOf2 as W Q) : jf fw_T (d + 3) 223 0 (fw_args 0 as) [] W Q := by
  unfold x_wayOf2 at hx
  split at hx
  · rename_i s_ a b
    obtain ⟨e_, δ, D, hgh, hpre, hQ⟩ := fw_if_ok hx
    have e_ := Nat.eq_of_beq_eq_true e_
    subst e_
    have hP := hQ
    refine s_wayOf2_0 ?_
    repeat' (first
      | (exact True.intro)
      | (exact hpre.1)
      | (refine And.intro ?_ ?_)
      | (refine (lm_wayOf2_8 (a := a) (b := b) δ D hgh hpre hP _ _ _ _ rfl ?_); (first | omega | trivial))
      | (refine hP _ ?_; (refine ⟨by omega, by omega, ?_⟩; (first | trivial | omega)))
      | omega
      | (intro _))
  · exact hx.elim

def ct_layWays2 : List (Nat × fw_X) := [(188, x_many), (223, x_wayOf2)]
theorem ct_layWays2_ok (d : Nat) : fw_cok fw_T (d + 3) ct_layWays2 := by
  intro q hq as W Q h
  simp only [ct_layWays2, List.mem_cons, List.not_mem_nil, or_false] at hq
  rcases hq with rfl | rfl
  · exact jc_of (x_many_ok (d + 2) as W Q h)
  · exact jc_of (x_wayOf2_ok (d + 0) as W Q h)
theorem s_layWays2_0 {Post : Option fw_V → fw_W → Prop} {d : Nat} {W : fw_W}
    (hw_ : jf fw_T (d + 4) 222 2 [(0, .inr (.inl 352)), (1, .inl (0 : Int))] [] W Post) :
    jf fw_T (d + 4) 222 0 [(0, .inr (.inl 352))] [] W Post := fw_ok (n := 3) (ss := [(2, [0, 1]), (12, [0, 1, 2])]) (hv := []) fr_222_ok fm_ok (ct_layWays2_ok d) hw_

theorem s_layWays2_12 {Post : Option fw_V → fw_W → Prop} {d : Nat} {W : fw_W} {a b : Int} {f : fw_W}
    (hw_ : (True) ∧ ((((fw_g W 366 0) ≤ b → -2147483648 ≤ a + (1 : Int) ∧ a + (1 : Int) ≤ 2147483647 ∧ (jf fw_T (d + 4) 222 2 [(0, .inr (.inl 352)), (1, .inl (a + (1 : Int)))] [] (fw_put [367] 352 [] W f) Post)) ∧ (b < (fw_g W 366 0) → -2147483648 ≤ (14 : Int) * a ∧ (14 : Int) * a ≤ 2147483647 ∧ (-2147483648 ≤ ((14 : Int) * a) + b ∧ ((14 : Int) * a) + b ≤ 2147483647 ∧ (∃ (δ_1 : Int → Int), ∃ (D_2 : Int → Int → Int), (tr_dep ((fw_g W 366 0)) (fun z_ => (fw_g W 366 (2 + 3 * z_))) δ_1 ∧ tr_met ((fw_g W 366 0)) (fun z_ => (fw_g W 366 (2 + 3 * z_))) (fun z_ => (fw_g W 366 (3 + 3 * z_))) δ_1 D_2) ∧ (mt (fw_put [367] 352 [] W f) ∧ 0 ≤ (fw_g W 366 0) ∧ (fw_g W 366 0) ≤ 14 ∧ 0 ≤ a ∧ a < (fw_g W 366 0) ∧ 0 ≤ b ∧ b < (fw_g W 366 0)) ∧ (∀ (r3 : Int), ((-2147483648 ≤ r3 ∧ r3 ≤ 2147483647 ∧ (r3 = D_2 a b))) → 0 ≤ (((14 : Int) * a) + b) ∧ (((14 : Int) * a) + b) < 196 ∧ -2147483648 ≤ r3 ∧ r3 ≤ 2147483647 ∧ (-2147483648 ≤ b + (1 : Int) ∧ b + (1 : Int) ≤ 2147483647 ∧ (jf fw_T (d + 4) 222 12 [(0, .inr (.inl 352)), (1, .inl a), (2, .inl (b + (1 : Int)))] [] (fw_up (fw_put [367] 352 [] W f) 367 (((14 : Int) * a) + b) r3) Post))))))))) :
    jf fw_T (d + 4) 222 12 [(0, .inr (.inl 352)), (1, .inl a), (2, .inl b)] [] (fw_put [367] 352 [] W f) Post := fw_ok (n := 19) (ss := [(2, [0, 1]), (12, [0, 1, 2])]) (hv := []) fr_222_ok fm_ok (ct_layWays2_ok d) hw_

theorem s_layWays2_2 {Post : Option fw_V → fw_W → Prop} {d : Nat} {W : fw_W} {a : Int} {f : fw_W}
    (hw_ : (True) ∧ ((((fw_g W 366 0) ≤ a → Post none (fw_put [367] 352 [] W f)) ∧ (a < (fw_g W 366 0) → jf fw_T (d + 4) 222 12 [(0, .inr (.inl 352)), (1, .inl a), (2, .inl (0 : Int))] [] (fw_put [367] 352 [] W f) Post)))) :
    jf fw_T (d + 4) 222 2 [(0, .inr (.inl 352)), (1, .inl a)] [] (fw_put [367] 352 [] W f) Post := fw_ok (n := 7) (ss := [(2, [0, 1]), (12, [0, 1, 2])]) (hv := []) fr_222_ok fm_ok (ct_layWays2_ok d) hw_

theorem lm_layWays2_12 {Post : Option fw_V → fw_W → Prop} {d : Nat} {W : fw_W} (δ : Int → Int) (D : Int → Int → Int) (hgh : tr_dep ((fw_g W 366 0)) (fun z_ => (fw_g W 366 (2 + 3 * z_))) δ ∧ tr_met ((fw_g W 366 0)) (fun z_ => (fw_g W 366 (2 + 3 * z_))) (fun z_ => (fw_g W 366 (3 + 3 * z_))) δ D) (hpre : mt W ∧ 0 ≤ (fw_g W 366 0) ∧ (fw_g W 366 0) ≤ 14) (hP : ∀ (W2 : fw_W), fw_sm [367] 352 [] W W2 → (∀ x y, 0 ≤ x → x < (fw_g W 366 0) → 0 ≤ y → y < (fw_g W 366 0) → (fw_g W2 367 (14 * x + y)) = D x y) → Post none W2) (M2 : Int) (h2 : ∀ (a : Int) (f : fw_W), (0 ≤ a ∧ ∀ x y, 0 ≤ x → x < a → 0 ≤ y → y < (fw_g W 366 0) → (fw_g f 367 (14 * x + y)) = D x y) → ((fw_g W 366 0) - a) < M2 → jf fw_T (d + 4) 222 2 [(0, .inr (.inl 352)), (1, .inl a)] [] (fw_put [367] 352 [] W f) Post) : ∀ (m : Nat) (a b : Int) (f : fw_W), ((fw_g W 366 0) - b).toNat = m → (0 ≤ b ∧ 0 ≤ a ∧ a < (fw_g W 366 0) ∧ ∀ x y, 0 ≤ x → 0 ≤ y → y < (fw_g W 366 0) → (x < a ∨ (x = a ∧ y < b)) → (fw_g f 367 (14 * x + y)) = D x y) → ((fw_g W 366 0) - a) ≤ M2 → jf fw_T (d + 4) 222 12 [(0, .inr (.inl 352)), (1, .inl a), (2, .inl b)] [] (fw_put [367] 352 [] W f) Post := by
  intro m
  induction m using Nat.strongRecOn with
  | ind m ih =>
    intro a b f hm hi e2
    refine jf_rng (fun hrg => ?_)
    have hrg : -2147483648 ≤ a ∧ a ≤ 2147483647 ∧ -2147483648 ≤ b ∧ b ≤ 2147483647 ∧ True := hrg
    refine s_layWays2_12 ?_
    have hi1 : 0 ≤ b ∧ 0 ≤ a ∧ a < (fw_g W 366 0) := ⟨hi.1, hi.2.1, hi.2.2.1⟩
    repeat' (first
      | (exact True.intro)
      | (exact hpre.1)
      | (refine And.intro ?_ ?_)
      | (refine jf_put (S := [367]) (o := 352) (F := []) (W := W) (by repeat (first | exact fw_sm_refl | exact fw_sm_put0 | refine fw_sm_arr ?_ rfl | refine fw_sm_up ?_ rfl | refine fw_sm_put ?_ rfl | refine fw_sm_cp ?_ rfl)) (h2 _ _ ?_ (by omega)); (exact ⟨by omega, fun x y x1 x2 y1 y2 => hi.2.2.2 x y x1 y1 y2 (by omega)⟩))
      | (refine jf_put (S := [367]) (o := 352) (F := []) (W := W) (by repeat (first | exact fw_sm_refl | exact fw_sm_put0 | refine fw_sm_arr ?_ rfl | refine fw_sm_up ?_ rfl | refine fw_sm_put ?_ rfl | refine fw_sm_cp ?_ rfl)) (ih _ (by omega) _ _ _ rfl ?_ (by omega)); (
        refine ⟨by omega, by omega, by omega, fun x y x1 y1 y2 hc => ?_⟩
        rw [fg_if (by omega) (by omega) (by omega) (by omega)]
        by_cases e : 14 * a + b = 14 * x + y
        · rw [if_pos e]
          have ex : x = a := by omega
          have ey : y = b := by omega
          subst ex
          subst ey
          omega
        · rw [if_neg e]
          exact hi.2.2.2 x y x1 y1 y2 (by omega)))
      | (refine hP _ (by repeat (first | exact fw_sm_refl | exact fw_sm_put0 | refine fw_sm_arr ?_ rfl | refine fw_sm_up ?_ rfl | refine fw_sm_put ?_ rfl | refine fw_sm_cp ?_ rfl)) ?_; (intro x y x1 x2 y1 y2; exact hi.2 x y x1 (by omega) y1 y2))
      | (refine ⟨δ, D, hgh, ?_⟩)
      | omega
      | (intro _))
theorem lm_layWays2_2 {Post : Option fw_V → fw_W → Prop} {d : Nat} {W : fw_W} (δ : Int → Int) (D : Int → Int → Int) (hgh : tr_dep ((fw_g W 366 0)) (fun z_ => (fw_g W 366 (2 + 3 * z_))) δ ∧ tr_met ((fw_g W 366 0)) (fun z_ => (fw_g W 366 (2 + 3 * z_))) (fun z_ => (fw_g W 366 (3 + 3 * z_))) δ D) (hpre : mt W ∧ 0 ≤ (fw_g W 366 0) ∧ (fw_g W 366 0) ≤ 14) (hP : ∀ (W2 : fw_W), fw_sm [367] 352 [] W W2 → (∀ x y, 0 ≤ x → x < (fw_g W 366 0) → 0 ≤ y → y < (fw_g W 366 0) → (fw_g W2 367 (14 * x + y)) = D x y) → Post none W2)  : ∀ (m : Nat) (a : Int) (f : fw_W), ((fw_g W 366 0) - a).toNat = m → (0 ≤ a ∧ ∀ x y, 0 ≤ x → x < a → 0 ≤ y → y < (fw_g W 366 0) → (fw_g f 367 (14 * x + y)) = D x y) → jf fw_T (d + 4) 222 2 [(0, .inr (.inl 352)), (1, .inl a)] [] (fw_put [367] 352 [] W f) Post := by
  intro m
  induction m using Nat.strongRecOn with
  | ind m ih =>
    intro a f hm hi
    refine jf_rng (fun hrg => ?_)
    have hrg : -2147483648 ≤ a ∧ a ≤ 2147483647 ∧ True := hrg
    refine s_layWays2_2 ?_
    have hi1 := hi.1
    repeat' (first
      | (exact True.intro)
      | (exact hpre.1)
      | (refine And.intro ?_ ?_)
      | (refine jf_put (S := [367]) (o := 352) (F := []) (W := W) (by repeat (first | exact fw_sm_refl | exact fw_sm_put0 | refine fw_sm_arr ?_ rfl | refine fw_sm_up ?_ rfl | refine fw_sm_put ?_ rfl | refine fw_sm_cp ?_ rfl)) (ih _ (by omega) _ _ rfl ?_); (first | omega | trivial | (simp (config := { decide := true }) only [fg_in, fg_fin, fg_out, fg_fout, fg_up, fg_same, true_and, and_true] <;> omega)))
      | (refine jf_put (S := [367]) (o := 352) (F := []) (W := W) (by repeat (first | exact fw_sm_refl | exact fw_sm_put0 | refine fw_sm_arr ?_ rfl | refine fw_sm_up ?_ rfl | refine fw_sm_put ?_ rfl | refine fw_sm_cp ?_ rfl)) (lm_layWays2_12 δ D hgh hpre hP ((fw_g W 366 0) - a) (fun a0 af hi hl => ih _ (by omega) a0 af rfl hi) _ _ _ _ rfl ?_ (by omega)); (exact ⟨by omega, by omega, by omega, fun x y x1 y1 y2 hc => hi.2 x y x1 (by omega) y1 y2⟩))
      | (refine hP _ (by repeat (first | exact fw_sm_refl | exact fw_sm_put0 | refine fw_sm_arr ?_ rfl | refine fw_sm_up ?_ rfl | refine fw_sm_put ?_ rfl | refine fw_sm_cp ?_ rfl)) ?_; (intro x y x1 x2 y1 y2; exact hi.2 x y x1 (by omega) y1 y2))
      | omega
      | (intro _))
def x_layWays2 : fw_X := fun as W Q => match as with
  | [.inr (.inl s_)] => fw_if (Nat.beq s_ 352) (∃ (δ : Int → Int), ∃ (D : Int → Int → Int), (tr_dep ((fw_g W 366 0)) (fun z_ => (fw_g W 366 (2 + 3 * z_))) δ ∧ tr_met ((fw_g W 366 0)) (fun z_ => (fw_g W 366 (2 + 3 * z_))) (fun z_ => (fw_g W 366 (3 + 3 * z_))) δ D) ∧ (mt W ∧ 0 ≤ (fw_g W 366 0) ∧ (fw_g W 366 0) ≤ 14) ∧ (∀ (f : fw_W), (∀ x y, 0 ≤ x → x < (fw_g W 366 0) → 0 ≤ y → y < (fw_g W 366 0) → (fw_g f 367 (14 * x + y)) = D x y) → Q none (fw_put [367] 352 [] W f)))
  | _ => False
theorem x_layWays2_ok (d : Nat) (as : List fw_V) (W : fw_W) (Q : Option fw_V → fw_W → Prop) (hx : x_layWays2 as W Q) : jf fw_T (d + 4) 222 0 (fw_args 0 as) [] W Q := by
  unfold x_layWays2 at hx
  split at hx
  · rename_i s_
    obtain ⟨e_, δ, D, hgh, hpre, hQ⟩ := fw_if_ok hx
    have e_ := Nat.eq_of_beq_eq_true e_
    subst e_
    have hP : ∀ (W2 : fw_W), fw_sm [367] 352 [] W W2 → _ → Q none W2 := fun W2 hs hr => fw_sm_use (Q := fun Z => Q none Z) hs (hQ W2 hr)
    refine s_layWays2_0 ?_
    repeat' (first
      | (exact True.intro)
      | (exact hpre.1)
      | (refine And.intro ?_ ?_)
      | (refine jf_put (S := [367]) (o := 352) (F := []) (W := W) (by repeat (first | exact fw_sm_refl | exact fw_sm_put0 | refine fw_sm_arr ?_ rfl | refine fw_sm_up ?_ rfl | refine fw_sm_put ?_ rfl | refine fw_sm_cp ?_ rfl)) (lm_layWays2_2 δ D hgh hpre hP _ _ _ rfl ?_); (exact ⟨by omega, fun x y x1 x2 => by omega⟩))
      | (refine jf_put (S := [367]) (o := 352) (F := []) (W := W) (by repeat (first | exact fw_sm_refl | exact fw_sm_put0 | refine fw_sm_arr ?_ rfl | refine fw_sm_up ?_ rfl | refine fw_sm_put ?_ rfl | refine fw_sm_cp ?_ rfl)) (lm_layWays2_12 δ D hgh hpre hP M2 h2 _ _ _ _ rfl ?_ (by omega)); (first | omega | trivial | (simp (config := { decide := true }) only [fg_in, fg_fin, fg_out, fg_fout, fg_up, fg_same, true_and, and_true] <;> omega)))
      | (refine hP _ (by repeat (first | exact fw_sm_refl | exact fw_sm_put0 | refine fw_sm_arr ?_ rfl | refine fw_sm_up ?_ rfl | refine fw_sm_put ?_ rfl | refine fw_sm_cp ?_ rfl)) ?_; (intro x y x1 x2 y1 y2; exact hi.2 x y x1 (by omega) y1 y2))
      | omega
      | (intro _))
  · exact hx.elim

