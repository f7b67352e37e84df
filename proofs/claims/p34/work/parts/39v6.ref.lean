/-! the reference, method by method -/
/-! sets of houses that are near none: fewer, when one gets its own -/
theorem nb_l {x s c : Nat} (h : x &&& (s ||| 2 ^ c) = 0) : x &&& s = 0 := by
  apply Nat.eq_of_testBit_eq
  intro i
  have e := congrArg (fun z : Nat => z.testBit i) h
  simp only [Nat.testBit_and, Nat.testBit_or, Nat.zero_testBit] at e ⊢
  cases hx : x.testBit i with
  | false => rfl
  | true =>
    rw [hx, Bool.true_and] at e
    rw [Bool.true_and]
    exact (Bool.or_eq_false_iff.mp e).1
theorem nb_r {x s c : Nat} (h : x &&& (s ||| 2 ^ c) = 0) : x.testBit c = false := by
  have e := congrArg (fun z : Nat => z.testBit c) h
  simp only [Nat.testBit_and, Nat.testBit_or, Nat.zero_testBit, Nat.testBit_two_pow_self, Bool.or_true, Bool.and_true] at e
  exact e
def nb_u (near : Int → Int) (N s : Int) : Nat := (List.range N.toNat).countP (fun k : Nat => decide ((near (k : Int)).toNat &&& s.toNat = 0))
theorem nb_lt {near : Int → Int} {N s c h : Int} (s0 : 0 ≤ s) (s1 : s < 16384) (c0 : 0 ≤ c) (c1 : c < 14) (h0 : 0 ≤ h) (h1 : h < N) (hz : (near h).toNat &&& s.toNat = 0) (hb : (near h).toNat.testBit c.toNat = true) : nb_u near N (fw_or s (fw_shl 1 c)) < nb_u near N s := by
  have e := fw_shl1 c0 (by omega)
  have e2 : (fw_or s (fw_shl 1 c)).toNat = s.toNat ||| 2 ^ c.toNat := by
    rw [fw_or_nat s0 (by omega) (by omega) (by omega), Int.toNat_natCast, e.1, Int.toNat_natCast]
  unfold nb_u
  rw [e2]
  refine cnt_lt (fun k _ hk => decide_eq_true (nb_l (of_decide_eq_true hk))) ⟨h.toNat, List.mem_range.mpr (by omega), ?_, ?_⟩
  · exact decide_eq_true (by rw [Int.toNat_of_nonneg h0]; exact hz)
  · refine decide_eq_false (fun z => ?_)
    rw [Int.toNat_of_nonneg h0] at z
    rw [nb_r z] at hb
    cases hb
def fr_297 : fw_P := [(0, 0, 0, 0, 0), (1, 3, 1, 0, 0), (2, 0, 0, 0, 0), (3, 3, 2, 0, 0), (4, 1, 2, 0, 0), (5, 22, 83, 0, 0), (8, 0, 0, 0, -1), (9, 3, 2, 0, 0), (10, 0, 0, 0, 0), (11, 3, 3, 0, 0), (12, 1, 3, 0, 0), (13, 2, 0, 0, 0), (14, 64, 188, 0, 112), (17, 13, 58, 0, 0), (20, 2, 0, 0, 0), (21, 50, 12, 31, 0), (24, 1, 3, 0, 0), (25, 52, 0, 0, 0), (26, 1, 1, 0, 0), (27, 36, 0, 0, 0), (28, 21, 52, 0, 0), (31, 1, 2, 0, 0), (32, 22, 50, 0, 0), (35, 2, 0, 0, 0), (36, 50, 12, 25, 0), (39, 1, 3, 0, 0), (40, 52, 0, 0, 0), (41, 2, 0, 0, 0), (42, 50, 12, 25, 0), (45, 1, 2, 0, 0), (46, 52, 0, 0, 0), (47, 15, 52, 0, 0), (50, 1, 3, 0, 0), (51, 3, 2, 0, 0), (52, 5, 3, 0, 1), (55, 6, 12, 0, 0), (58, 1, 2, 0, 0), (59, 22, 4, 0, 0), (62, 1, 1, 0, 0), (63, 0, 0, 0, 1), (64, 1, 2, 0, 0), (65, 21, 72, 0, 0), (68, 0, 0, 0, 0), (69, 6, 77, 0, 0), (72, 2, 0, 0, 0), (73, 1, 2, 0, 0), (74, 64, 215, 1, 212), (77, 39, 0, 0, 0), (78, 37, 0, 0, 0), (79, 3, 1, 0, 0), (80, 6, 4, 0, 0), (83, 1, 1, 0, 0), (84, 65, 251, 1, 300), (87, 70, 0, 0, 0)]
theorem fr_297_ok : fw_mk 297 4 12 (some .int) fr_297 = true := by decide +kernel
def ct_byEnds : List (Nat × fw_X) := [(251, x_bitsOf), (215, x_hangsAt), (188, x_many)]
theorem ct_byEnds_ok (d : Nat) : fw_cok fw_T (d + 1) ct_byEnds := by
  intro q hq as W Q h
  simp only [ct_byEnds, List.mem_cons, List.not_mem_nil, or_false] at hq
  rcases hq with rfl | rfl | rfl
  · exact jc_of (x_bitsOf_ok (d + 0) as W Q h)
  · exact jc_of (x_hangsAt_ok (d + 0) as W Q h)
  · exact jc_of (x_many_ok (d + 0) as W Q h)
theorem s_byEnds_0 {Post : Option fw_V → fw_W → Prop} {d : Nat} {W : fw_W}
    (hw_ : jf fw_T (d + 2) 297 4 [(0, .inr (.inl 352)), (1, .inl (0 : Int)), (2, .inl (0 : Int))] [] W Post) :
    jf fw_T (d + 2) 297 0 [(0, .inr (.inl 352))] [] W Post := fw_ok (n := 5) (ss := [(4, [0, 1, 2]), (12, [0, 1, 2, 3])]) (hv := []) fr_297_ok fm_ok (ct_byEnds_ok d) hw_

theorem s_byEnds_12 {Post : Option fw_V → fw_W → Prop} {d : Nat} {W : fw_W} {set h k : Int}
    (hw_ : (True) ∧ ((((fw_g W 366 0) ≤ k → ((h < 0 → jf fw_T (d + 2) 297 4 [(0, .inr (.inl 352)), (1, .inl set), (2, .inl h)] [] W Post) ∧ (0 ≤ h → ((¬ h = 0 → (0 ≤ h ∧ h < 14) ∧ ((-2147483648 ≤ (fw_shl (1 : Int) (fw_g W 366 (2 + 3 * h))) → (fw_shl (1 : Int) (fw_g W 366 (2 + 3 * h))) ≤ 2147483647 → (-2147483648 ≤ (fw_or set (fw_shl (1 : Int) (fw_g W 366 (2 + 3 * h)))) → (fw_or set (fw_shl (1 : Int) (fw_g W 366 (2 + 3 * h)))) ≤ 2147483647 → jf fw_T (d + 2) 297 4 [(0, .inr (.inl 352)), (1, .inl (fw_or set (fw_shl (1 : Int) (fw_g W 366 (2 + 3 * h))))), (2, .inl h)] [] W Post)))) ∧ (h = 0 → (-2147483648 ≤ (fw_shl (1 : Int) (0 : Int)) → (fw_shl (1 : Int) (0 : Int)) ≤ 2147483647 → (-2147483648 ≤ (fw_or set (fw_shl (1 : Int) (0 : Int))) → (fw_or set (fw_shl (1 : Int) (0 : Int))) ≤ 2147483647 → jf fw_T (d + 2) 297 4 [(0, .inr (.inl 352)), (1, .inl (fw_or set (fw_shl (1 : Int) (0 : Int)))), (2, .inl h)] [] W Post))))))) ∧ (k < (fw_g W 366 0) → 0 ≤ k ∧ k < 14 ∧ (-2147483648 ≤ (fw_g W 370 k) → (fw_g W 370 k) ≤ 2147483647 → (-2147483648 ≤ (fw_and (fw_g W 370 k) set) → (fw_and (fw_g W 370 k) set) ≤ 2147483647 → ((¬ (fw_and (fw_g W 370 k) set) = 0 → -2147483648 ≤ k + (1 : Int) ∧ k + (1 : Int) ≤ 2147483647 ∧ (jf fw_T (d + 2) 297 12 [(0, .inr (.inl 352)), (1, .inl set), (2, .inl h), (3, .inl (k + (1 : Int)))] [] W Post)) ∧ ((fw_and (fw_g W 370 k) set) = 0 → ((h < 0 → -2147483648 ≤ k + (1 : Int) ∧ k + (1 : Int) ≤ 2147483647 ∧ (jf fw_T (d + 2) 297 12 [(0, .inr (.inl 352)), (1, .inl set), (2, .inl k), (3, .inl (k + (1 : Int)))] [] W Post)) ∧ (0 ≤ h → 0 ≤ k ∧ k < 196 ∧ (-2147483648 ≤ (fw_g W 367 k) → (fw_g W 367 k) ≤ 2147483647 → 0 ≤ h ∧ h < 196 ∧ (-2147483648 ≤ (fw_g W 367 h) → (fw_g W 367 h) ≤ 2147483647 → (((fw_g W 367 k) ≤ (fw_g W 367 h) → -2147483648 ≤ k + (1 : Int) ∧ k + (1 : Int) ≤ 2147483647 ∧ (jf fw_T (d + 2) 297 12 [(0, .inr (.inl 352)), (1, .inl set), (2, .inl h), (3, .inl (k + (1 : Int)))] [] W Post)) ∧ ((fw_g W 367 h) < (fw_g W 367 k) → -2147483648 ≤ k + (1 : Int) ∧ k + (1 : Int) ≤ 2147483647 ∧ (jf fw_T (d + 2) 297 12 [(0, .inr (.inl 352)), (1, .inl set), (2, .inl k), (3, .inl (k + (1 : Int)))] [] W Post))))))))))))))) :
    jf fw_T (d + 2) 297 12 [(0, .inr (.inl 352)), (1, .inl set), (2, .inl h), (3, .inl k)] [] W Post := fw_ok (n := 27) (ss := [(4, [0, 1, 2]), (12, [0, 1, 2, 3])]) (hv := []) fr_297_ok fm_ok (ct_byEnds_ok d) hw_

theorem s_byEnds_4 {Post : Option fw_V → fw_W → Prop} {d : Nat} {W : fw_W} {set h : Int}
    (hw_ : ((h < 0 → (0 ≤ set ∧ set ≤ 2147483647) ∧ (∀ (r1 : Int), ((-2147483648 ≤ r1 ∧ r1 ≤ 2147483647 ∧ (0 ≤ r1))) → (-2147483648 ≤ r1 → r1 ≤ 2147483647 → Post (some (.inl r1)) W))) ∧ (0 ≤ h → jf fw_T (d + 2) 297 12 [(0, .inr (.inl 352)), (1, .inl set), (2, .inl (-1 : Int)), (3, .inl (0 : Int))] [] W Post))) :
    jf fw_T (d + 2) 297 4 [(0, .inr (.inl 352)), (1, .inl set), (2, .inl h)] [] W Post := fw_ok (n := 7) (ss := [(4, [0, 1, 2]), (12, [0, 1, 2, 3])]) (hv := []) fr_297_ok fm_ok (ct_byEnds_ok d) hw_

theorem lm_byEnds_12 {Post : Option fw_V → fw_W → Prop} {d : Nat} {W : fw_W} (hpre : mt W ∧ 0 ≤ (fw_g W 366 0) ∧ (fw_g W 366 0) ≤ 14 ∧ ∀ x_, 0 ≤ x_ → x_ < (fw_g W 366 0) → (0 ≤ (fw_g W 370 x_) ∧ (fw_g W 370 x_) < 16384 ∧ (x_ = 0 → (fw_g W 370 x_).toNat.testBit 0 = true) ∧ (1 ≤ x_ → (fw_g W 370 x_).toNat.testBit ((fw_g W 366 (2 + 3 * x_))).toNat = true))) (hP : ∀ (v : Int) , (-2147483648 ≤ v ∧ v ≤ 2147483647 ∧ (True)) → Post (some (.inl v)) W) (M4 : Int) (h4 : ∀ (set h : Int), -1 ≤ h ∧ h < 14 ∧ 0 ≤ set ∧ set < 16384 → (if h < 0 then 0 else ((nb_u (fun z_ => (fw_g W 370 z_)) ((fw_g W 366 0)) set : Nat) : Int) + 1) < M4 → jf fw_T (d + 2) 297 4 [(0, .inr (.inl 352)), (1, .inl set), (2, .inl h)] [] W Post) : ∀ (m : Nat) (set h k : Int), ((fw_g W 366 0) - k).toNat = m → (0 ≤ k ∧ 0 ≤ set ∧ set < 16384) ∧ (h = -1 ∨ (0 ≤ h ∧ h < (fw_g W 366 0) ∧ (fw_g W 370 h).toNat &&& set.toNat = 0)) → (((nb_u (fun z_ => (fw_g W 370 z_)) ((fw_g W 366 0)) set : Nat) : Int) + 1) ≤ M4 → jf fw_T (d + 2) 297 12 [(0, .inr (.inl 352)), (1, .inl set), (2, .inl h), (3, .inl k)] [] W Post := by
  intro m
  induction m using Nat.strongRecOn with
  | ind m ih =>
    intro set h k hm hi e4
    refine jf_rng (fun hrg => ?_)
    have hrg : -2147483648 ≤ set ∧ set ≤ 2147483647 ∧ -2147483648 ≤ h ∧ h ≤ 2147483647 ∧ -2147483648 ≤ k ∧ k ≤ 2147483647 ∧ True := hrg
    refine s_byEnds_12 ?_
    have hi1 := hi.1
    have hi2 : h = -1 ∨ (0 ≤ h ∧ h < (fw_g W 366 0)) := by
      rcases hi.2 with e | e
      · exact Or.inl e
      · exact Or.inr ⟨e.1, e.2.1⟩
    have fa : k < (fw_g W 366 0) → (fw_and ((fw_g W 370 k)) set = 0 → ((fw_g W 370 k)).toNat &&& set.toNat = 0) := fun z hz => by
      have a := hpre.2.2.2 k hi1.1 z
      rw [fw_and_nat a.1 (by omega) (by omega) (by omega)] at hz
      omega
    have hp0 := fun z : 0 ≤ h => fun z2 : h < (fw_g W 366 0) => mt_p hpre.1 z z2
    have up : ∀ c : Int, 0 ≤ c → c < 14 → 0 ≤ h → (h = 0 → c = 0) → (1 ≤ h → c = (fw_g W 366 (2 + 3 * h))) → 0 ≤ fw_or set (fw_shl 1 c) ∧ fw_or set (fw_shl 1 c) < 16384 ∧ nb_u (fun z_ => (fw_g W 370 z_)) (fw_g W 366 0) (fw_or set (fw_shl 1 c)) < nb_u (fun z_ => (fw_g W 370 z_)) (fw_g W 366 0) set := fun c c0 c1 h0 h1 h2 => by
      rcases hi.2 with e | e
      · omega
      · have a := hpre.2.2.2 h e.1 e.2.1
        have o := or_bit (x := set) (k := c) (by omega) (by omega) c0 c1
        refine ⟨o.1, o.2.1, nb_lt (by omega) (by omega) c0 c1 e.1 e.2.1 e.2.2 ?_⟩
        by_cases z : h = 0
        · rw [h1 z]; exact a.2.2.1 z
        · rw [h2 (by omega)]; exact a.2.2.2 (by omega)
    have up0 := up 0 (by omega) (by omega)
    have up1 := up ((fw_g W 366 (2 + 3 * h)))
    repeat' (first
      | (exact True.intro)
      | (exact hpre.1)
      | (refine And.intro ?_ ?_)
      | (refine (h4 _ _ ?_ (by omega)); (first | omega | trivial))
      | (refine (ih _ (by omega) _ _ _ rfl ?_ (by omega)); (first
        | exact ⟨by omega, hi.2⟩
        | exact ⟨by omega, Or.inr ⟨by omega, by omega, fa (by omega) (by omega)⟩⟩))
      | (refine hP _ ?_; (refine ⟨by omega, by omega, ?_⟩; (first | trivial | omega)))
      | omega
      | (intro _))
theorem lm_byEnds_4 {Post : Option fw_V → fw_W → Prop} {d : Nat} {W : fw_W} (hpre : mt W ∧ 0 ≤ (fw_g W 366 0) ∧ (fw_g W 366 0) ≤ 14 ∧ ∀ x_, 0 ≤ x_ → x_ < (fw_g W 366 0) → (0 ≤ (fw_g W 370 x_) ∧ (fw_g W 370 x_) < 16384 ∧ (x_ = 0 → (fw_g W 370 x_).toNat.testBit 0 = true) ∧ (1 ≤ x_ → (fw_g W 370 x_).toNat.testBit ((fw_g W 366 (2 + 3 * x_))).toNat = true))) (hP : ∀ (v : Int) , (-2147483648 ≤ v ∧ v ≤ 2147483647 ∧ (True)) → Post (some (.inl v)) W)  : ∀ (m : Nat) (set h : Int), (if h < 0 then 0 else ((nb_u (fun z_ => (fw_g W 370 z_)) ((fw_g W 366 0)) set : Nat) : Int) + 1).toNat = m → -1 ≤ h ∧ h < 14 ∧ 0 ≤ set ∧ set < 16384 → jf fw_T (d + 2) 297 4 [(0, .inr (.inl 352)), (1, .inl set), (2, .inl h)] [] W Post := by
  intro m
  induction m using Nat.strongRecOn with
  | ind m ih =>
    intro set h hm hi
    refine jf_rng (fun hrg => ?_)
    have hrg : -2147483648 ≤ set ∧ set ≤ 2147483647 ∧ -2147483648 ≤ h ∧ h ≤ 2147483647 ∧ True := hrg
    refine s_byEnds_4 ?_
    repeat' (first
      | (exact True.intro)
      | (exact hpre.1)
      | (refine And.intro ?_ ?_)
      | (refine (ih _ (by omega) _ _ rfl ?_); (first | omega | trivial))
      | (refine (lm_byEnds_12 hpre hP (if h < 0 then 0 else ((nb_u (fun z_ => (fw_g W 370 z_)) ((fw_g W 366 0)) set : Nat) : Int) + 1) (fun a0 a1 hi hl => ih _ (by omega) a0 a1 rfl hi) _ _ _ _ rfl ?_ (by omega)); (exact ⟨by omega, Or.inl rfl⟩))
      | (refine hP _ ?_; (refine ⟨by omega, by omega, ?_⟩; (first | trivial | omega)))
      | omega
      | (intro _))
def x_byEnds : fw_X := fun as W Q => match as with
  | [.inr (.inl s_)] => fw_if (Nat.beq s_ 352) ((mt W ∧ 0 ≤ (fw_g W 366 0) ∧ (fw_g W 366 0) ≤ 14 ∧ ∀ x_, 0 ≤ x_ → x_ < (fw_g W 366 0) → (0 ≤ (fw_g W 370 x_) ∧ (fw_g W 370 x_) < 16384 ∧ (x_ = 0 → (fw_g W 370 x_).toNat.testBit 0 = true) ∧ (1 ≤ x_ → (fw_g W 370 x_).toNat.testBit ((fw_g W 366 (2 + 3 * x_))).toNat = true))) ∧ (∀ (v : Int), (-2147483648 ≤ v ∧ v ≤ 2147483647 ∧ (True)) → Q (some (.inl v)) W))
  | _ => False
theorem x_byEnds_ok (d : Nat) (as : List fw_V) (W : fw_W) (Q : Option fw_V → fw_W → Prop) (hx : x_byEnds as W Q) : jf fw_T (d + 2) 297 0 (fw_args 0 as) [] W Q := by
  unfold x_byEnds at hx
  split at hx
  · rename_i s_
    obtain ⟨e_, hpre, hQ⟩ := fw_if_ok hx
    have e_ := Nat.eq_of_beq_eq_true e_
    subst e_
    have hP := hQ
    refine s_byEnds_0 ?_
    repeat' (first
      | (exact True.intro)
      | (exact hpre.1)
      | (refine And.intro ?_ ?_)
      | (refine (lm_byEnds_4 hpre hP _ _ _ rfl ?_); (first | omega | trivial))
      | (refine (lm_byEnds_12 hpre hP M4 h4 _ _ _ _ rfl ?_ (by omega)); (first | omega | trivial))
      | (refine hP _ ?_; (refine ⟨by omega, by omega, ?_⟩; (first | trivial | omega)))
      | omega
      | (intro _))
  · exact hx.elim

