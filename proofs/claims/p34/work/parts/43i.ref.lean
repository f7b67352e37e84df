/-! the reference, method by method -/
def ct_byEnds3 : List (Nat × fw_X) := [(251, x_bitsOf2), (215, x_hangsAt), (188, x_many)]
theorem ct_byEnds3_ok (d : Nat) : fw_cok fw_T (d + 1) ct_byEnds3 := by
  intro q hq as W Q h
  simp only [ct_byEnds3, List.mem_cons, List.not_mem_nil, or_false] at hq
  rcases hq with rfl | rfl | rfl
  · exact jc_of (x_bitsOf2_ok (d + 0) as W Q h)
  · exact jc_of (x_hangsAt_ok (d + 0) as W Q h)
  · exact jc_of (x_many_ok (d + 0) as W Q h)
theorem s_byEnds3_0 {Post : Option fw_V → fw_W → Prop} {d : Nat} {W : fw_W}
    (hw_ : jf fw_T (d + 2) 297 4 [(0, .inr (.inl 352)), (1, .inl (0 : Int)), (2, .inl (0 : Int))] [] W Post) :
    jf fw_T (d + 2) 297 0 [(0, .inr (.inl 352))] [] W Post := fw_ok (n := 5) (ss := [(4, [0, 1, 2]), (12, [0, 1, 2, 3])]) (hv := []) fr_297_ok fm_ok (ct_byEnds3_ok d) hw_

theorem s_byEnds3_12 {Post : Option fw_V → fw_W → Prop} {d : Nat} {W : fw_W} {set h k : Int}
    (hw_ : (True) ∧ ((((fw_g W 366 0) ≤ k → ((h < 0 → jf fw_T (d + 2) 297 4 [(0, .inr (.inl 352)), (1, .inl set), (2, .inl h)] [] W Post) ∧ (0 ≤ h → ((¬ h = 0 → (0 ≤ h ∧ h < 14) ∧ ((-2147483648 ≤ (fw_shl (1 : Int) (fw_g W 366 (2 + 3 * h))) → (fw_shl (1 : Int) (fw_g W 366 (2 + 3 * h))) ≤ 2147483647 → (-2147483648 ≤ (fw_or set (fw_shl (1 : Int) (fw_g W 366 (2 + 3 * h)))) → (fw_or set (fw_shl (1 : Int) (fw_g W 366 (2 + 3 * h)))) ≤ 2147483647 → jf fw_T (d + 2) 297 4 [(0, .inr (.inl 352)), (1, .inl (fw_or set (fw_shl (1 : Int) (fw_g W 366 (2 + 3 * h))))), (2, .inl h)] [] W Post)))) ∧ (h = 0 → (-2147483648 ≤ (fw_shl (1 : Int) (0 : Int)) → (fw_shl (1 : Int) (0 : Int)) ≤ 2147483647 → (-2147483648 ≤ (fw_or set (fw_shl (1 : Int) (0 : Int))) → (fw_or set (fw_shl (1 : Int) (0 : Int))) ≤ 2147483647 → jf fw_T (d + 2) 297 4 [(0, .inr (.inl 352)), (1, .inl (fw_or set (fw_shl (1 : Int) (0 : Int)))), (2, .inl h)] [] W Post))))))) ∧ (k < (fw_g W 366 0) → 0 ≤ k ∧ k < 14 ∧ (-2147483648 ≤ (fw_g W 370 k) → (fw_g W 370 k) ≤ 2147483647 → (-2147483648 ≤ (fw_and (fw_g W 370 k) set) → (fw_and (fw_g W 370 k) set) ≤ 2147483647 → ((¬ (fw_and (fw_g W 370 k) set) = 0 → -2147483648 ≤ k + (1 : Int) ∧ k + (1 : Int) ≤ 2147483647 ∧ (jf fw_T (d + 2) 297 12 [(0, .inr (.inl 352)), (1, .inl set), (2, .inl h), (3, .inl (k + (1 : Int)))] [] W Post)) ∧ ((fw_and (fw_g W 370 k) set) = 0 → ((h < 0 → -2147483648 ≤ k + (1 : Int) ∧ k + (1 : Int) ≤ 2147483647 ∧ (jf fw_T (d + 2) 297 12 [(0, .inr (.inl 352)), (1, .inl set), (2, .inl k), (3, .inl (k + (1 : Int)))] [] W Post)) ∧ (0 ≤ h → 0 ≤ k ∧ k < 196 ∧ (-2147483648 ≤ (fw_g W 367 k) → (fw_g W 367 k) ≤ 2147483647 → 0 ≤ h ∧ h < 196 ∧ (-2147483648 ≤ (fw_g W 367 h) → (fw_g W 367 h) ≤ 2147483647 → (((fw_g W 367 k) ≤ (fw_g W 367 h) → -2147483648 ≤ k + (1 : Int) ∧ k + (1 : Int) ≤ 2147483647 ∧ (jf fw_T (d + 2) 297 12 [(0, .inr (.inl 352)), (1, .inl set), (2, .inl h), (3, .inl (k + (1 : Int)))] [] W Post)) ∧ ((fw_g W 367 h) < (fw_g W 367 k) → -2147483648 ≤ k + (1 : Int) ∧ k + (1 : Int) ≤ 2147483647 ∧ (jf fw_T (d + 2) 297 12 [(0, .inr (.inl 352)), (1, .inl set), (2, .inl k), (3, .inl (k + (1 : Int)))] [] W Post))))))))))))))) :
    jf fw_T (d + 2) 297 12 [(0, .inr (.inl 352)), (1, .inl set), (2, .inl h), (3, .inl k)] [] W Post := fw_ok (n := 27) (ss := [(4, [0, 1, 2]), (12, [0, 1, 2, 3])]) (hv := []) fr_297_ok fm_ok (ct_byEnds3_ok d) hw_

theorem s_byEnds3_4 {Post : Option fw_V → fw_W → Prop} {d : Nat} {W : fw_W} {set h : Int}
    (hw_ : ((h < 0 → (0 ≤ set ∧ set ≤ 2147483647) ∧ (∀ (r1 : Int), ((-2147483648 ≤ r1 ∧ r1 ≤ 2147483647 ∧ (r1 = pcv set))) → (-2147483648 ≤ r1 → r1 ≤ 2147483647 → Post (some (.inl r1)) W))) ∧ (0 ≤ h → jf fw_T (d + 2) 297 12 [(0, .inr (.inl 352)), (1, .inl set), (2, .inl (-1 : Int)), (3, .inl (0 : Int))] [] W Post))) :
    jf fw_T (d + 2) 297 4 [(0, .inr (.inl 352)), (1, .inl set), (2, .inl h)] [] W Post := fw_ok (n := 7) (ss := [(4, [0, 1, 2]), (12, [0, 1, 2, 3])]) (hv := []) fr_297_ok fm_ok (ct_byEnds3_ok d) hw_

theorem lm_byEnds3_12 {Post : Option fw_V → fw_W → Prop} {d : Nat} {W : fw_W} (q : List Nat) (u : Nat) (hgh : qok ((fw_g W 366 0)).toNat q = true ∧ 2 ≤ (fw_g W 366 0) ∧ (fw_g W 366 0) ≤ 6 ∧ (∀ x_, 1 ≤ x_ → x_ < (fw_g W 366 0) → (fw_g W 366 (2 + 3 * x_)) = ((qp q x_.toNat : Nat) : Int)) ∧ q2 ((fw_g W 366 0)).toNat u q = true) (hpre : mt W ∧ 0 ≤ (fw_g W 366 0) ∧ (fw_g W 366 0) ≤ 14 ∧ (∀ u_ t_, 0 ≤ u_ → u_ < (fw_g W 366 0) → 0 ≤ t_ → t_ < (fw_g W 366 0) → (fw_g W 367 (14 * u_ + t_)) = zD q u_ t_) ∧ (∀ x_, 0 ≤ x_ → x_ < (fw_g W 366 0) → znr q ((fw_g W 366 0)) x_ ((fw_g W 370 x_)))) (hP : ∀ (v : Int) , (-2147483648 ≤ v ∧ v ≤ 2147483647 ∧ (v = (u : Int))) → Post (some (.inl v)) W) (M4 : Int) (h4 : ∀ (set h : Int), (-1 ≤ h ∧ h < 14) ∧ (0 ≤ set ∧ set < 16384 ∧ set.toNat < 2 ^ ((fw_g W 366 0)).toNat) ∧ zgr q ((fw_g W 366 0)) u set ∧ (h < 0 → h = zsl q ((fw_g W 366 0)) set ((fw_g W 366 0))) → (if h < 0 then 0 else ((nb_u (fun z_ => (fw_g W 370 z_)) ((fw_g W 366 0)) set : Nat) : Int) + 1) < M4 → jf fw_T (d + 2) 297 4 [(0, .inr (.inl 352)), (1, .inl set), (2, .inl h)] [] W Post) : ∀ (m : Nat) (set h k : Int), ((fw_g W 366 0) - k).toNat = m → (0 ≤ k ∧ k ≤ (fw_g W 366 0)) ∧ (0 ≤ set ∧ set < 16384 ∧ set.toNat < 2 ^ ((fw_g W 366 0)).toNat) ∧ zgr q ((fw_g W 366 0)) u set ∧ h = zsl q ((fw_g W 366 0)) set k ∧ (h = -1 ∨ (0 ≤ h ∧ h < k ∧ (fw_g W 370 h).toNat &&& set.toNat = 0)) → (((nb_u (fun z_ => (fw_g W 370 z_)) ((fw_g W 366 0)) set : Nat) : Int) + 1) ≤ M4 → jf fw_T (d + 2) 297 12 [(0, .inr (.inl 352)), (1, .inl set), (2, .inl h), (3, .inl k)] [] W Post := by
  intro m
  induction m using Nat.strongRecOn with
  | ind m ih =>
    intro set h k hm hi e4
    refine jf_rng (fun hrg => ?_)
    have hrg : -2147483648 ≤ set ∧ set ≤ 2147483647 ∧ -2147483648 ≤ h ∧ h ≤ 2147483647 ∧ -2147483648 ≤ k ∧ k ≤ 2147483647 ∧ True := hrg
    refine s_byEnds3_12 ?_
    have hi1 := hi.1
    have hs1 := hi.2.1
    have hi5 : h = -1 ∨ (0 ≤ h ∧ h < k) := by
      rcases hi.2.2.2.2 with e | e
      · exact Or.inl e
      · exact Or.inr ⟨e.1, e.2.1⟩
    have up : ∀ c : Int, 0 ≤ c → c < (fw_g W 366 0) → 0 ≤ h → (h = 0 → c = 0) → (1 ≤ h → c = (fw_g W 366 (2 + 3 * h))) → (0 ≤ fw_or set (fw_shl 1 c) ∧ fw_or set (fw_shl 1 c) < 16384 ∧ (fw_or set (fw_shl 1 c)).toNat < 2 ^ ((fw_g W 366 0)).toNat) ∧ nb_u (fun z_ => (fw_g W 370 z_)) ((fw_g W 366 0)) (fw_or set (fw_shl 1 c)) < nb_u (fun z_ => (fw_g W 370 z_)) ((fw_g W 366 0)) set := fun c c0 c1 h0 h1 h2 => by
      rcases hi.2.2.2.2 with e | e
      · omega
      · have hN : h < (fw_g W 366 0) := by omega
        have a := hpre.2.2.2.2 h e.1 hN
        refine ⟨zor_b hs1.1 hs1.2.2 c0 c1 (by omega), nb_lt (by omega) (by omega) c0 (by omega) e.1 hN e.2.2 ?_⟩
        exact (a.2.2 c c0 c1).mpr (zD_p (qok_k hgh.1) e.1 hN h1 (fun z => (h2 z).trans (hgh.2.2.2.1 h z hN)) (fun _ => c1))
    have up0 := up 0 (by omega) (by omega)
    have up1 : (1 ≤ h → 0 ≤ (fw_g W 366 (2 + 3 * h)) ∧ (fw_g W 366 (2 + 3 * h)) < (fw_g W 366 0)) → 1 ≤ h → (0 ≤ fw_or set (fw_shl 1 ((fw_g W 366 (2 + 3 * h)))) ∧ fw_or set (fw_shl 1 ((fw_g W 366 (2 + 3 * h)))) < 16384 ∧ (fw_or set (fw_shl 1 ((fw_g W 366 (2 + 3 * h))))).toNat < 2 ^ ((fw_g W 366 0)).toNat) ∧ nb_u (fun z_ => (fw_g W 370 z_)) ((fw_g W 366 0)) (fw_or set (fw_shl 1 ((fw_g W 366 (2 + 3 * h))))) < nb_u (fun z_ => (fw_g W 370 z_)) ((fw_g W 366 0)) set := fun z w => up ((fw_g W 366 (2 + 3 * h))) (z w).1 (z w).2 (by omega) (fun e => by omega) (fun _ => rfl)
    clear up
    have hb9 : 1 ≤ h → 0 ≤ (fw_g W 366 (2 + 3 * h)) ∧ (fw_g W 366 (2 + 3 * h)) < (fw_g W 366 0) := fun z => (mt_p hpre.1 (by omega) (by omega)).2 z
    have up0 := fun z : 0 ≤ h => fun w : h = 0 => up0 z (fun _ => rfl) (fun e => by omega)
    have up1 := up1 hb9
    have hiU : Unit → _ := fun _ => hi
    have hi5U : Unit → _ := fun _ => hi5
    have upU : Unit → _ := fun _ => And.intro up0 up1
    have hb5 : -1 ≤ h ∧ h < 14 := by omega
    clear hi hi5 up0 up1 hb9
    repeat' (first
      | (refine (h4 _ _ ?_ (by first | omega | (have hi5 := hi5U (); have a0 := (upU ()).1; have a1 := (upU ()).2; omega))); (
        have hi := hiU ()
        have hi5 := hi5U ()
        have up0 := (upU ()).1
        have up1 := (upU ()).2
        first
          | (refine ⟨by omega, hi.2.1, hi.2.2.1, fun _ => ?_⟩
             have kN : k = (fw_g W 366 0) := by omega
             have q4 := hi.2.2.2.1
             rw [kN] at q4
             exact q4)
          | (have kN : k = (fw_g W 366 0) := by omega
             have q4 := hi.2.2.2.1
             rw [kN] at q4
             have h0 : 0 ≤ h := by omega
             first
               | exact ⟨by omega, (up0 h0 (by omega)).1, zgr_s hi.2.2.1 (by omega) q4.symm h0 (by rw [show h = 0 by omega]; rfl) (by omega) (by omega) (by omega), fun z => by omega⟩
               | (have h1 : 1 ≤ h := by omega
                  have hb9 := (mt_p hpre.1 h0 (by omega)).2 h1
                  exact ⟨by omega, (up1 h1).1, zgr_s hi.2.2.1 (by omega) q4.symm h0 (hgh.2.2.2.1 h h1 (by omega)) (by omega) (by omega) (by omega), fun z => by omega⟩))))
      | (exact True.intro)
      | (exact hpre.1)
      | (refine And.intro ?_ ?_)
      | (refine (h4 _ _ ?_ (by omega)); (first | omega | trivial))
      | (refine (ih _ (by omega) _ _ _ rfl ?_ (by omega)); (
        obtain ⟨i1, i2, i3, i4, i5⟩ := hiU ()
        have hi5 := hi5U ()
        have kn : k < (fw_g W 366 0) := by omega
        have st := zsl_s (by omega) i2.1 i2.2.2 (by omega) i1.1 (by omega) (hpre.2.2.2.2 k i1.1 kn)
        have w0 := hpre.2.2.2.1 0 k (by omega) (by omega) i1.1 kn
        rw [show (14 * 0 + k : Int) = k by omega] at w0
        first
          | (have hz : ¬ fw_and ((fw_g W 370 k)) set = 0 := by assumption
             refine ⟨by omega, i2, i3, (st.1 hz).symm ▸ i4, ?_⟩
             rcases i5 with e | e
             · exact Or.inl e
             · exact Or.inr ⟨e.1, by omega, e.2.2⟩)
          | (have hz : fw_and ((fw_g W 370 k)) set = 0 := by assumption
             have hz2 : (fw_g W 370 k).toNat &&& set.toNat = 0 := by
               have a := hpre.2.2.2.2 k i1.1 kn
               rw [fw_and_nat a.1 (by have := a.2.1; omega) (by omega) (by omega)] at hz
               omega
             first
               | (have hn : h < 0 := by omega
                  exact ⟨by omega, i2, i3, (st.2.1 hz (by omega)).symm, Or.inr ⟨by omega, by omega, hz2⟩⟩)
               | (have hn : 0 ≤ h := by omega
                  have w1 := hpre.2.2.2.1 0 h (by omega) (by omega) hn (by omega)
                  rw [show (14 * 0 + h : Int) = h by omega] at w1
                  first
                    | exact ⟨by omega, i2, i3, (st.2.2.1 hz (by omega) (by rw [← i4]; omega)).symm, Or.inr ⟨by omega, by omega, hz2⟩⟩
                    | (refine ⟨by omega, i2, i3, (st.2.2.2 hz (by omega) (by rw [← i4]; omega)).symm ▸ i4, ?_⟩
                       rcases i5 with e | e
                       · exact Or.inl e
                       · exact Or.inr ⟨e.1, by omega, e.2.2⟩)))))
      | (refine hP _ ?_; (refine ⟨by omega, by omega, ?_⟩; (have e := zgr_e hi.2.2.1 (by rw [← hi.2.2.2 (by omega)]; omega); omega)))
      | omega
      | (intro _))
theorem lm_byEnds3_4 {Post : Option fw_V → fw_W → Prop} {d : Nat} {W : fw_W} (q : List Nat) (u : Nat) (hgh : qok ((fw_g W 366 0)).toNat q = true ∧ 2 ≤ (fw_g W 366 0) ∧ (fw_g W 366 0) ≤ 6 ∧ (∀ x_, 1 ≤ x_ → x_ < (fw_g W 366 0) → (fw_g W 366 (2 + 3 * x_)) = ((qp q x_.toNat : Nat) : Int)) ∧ q2 ((fw_g W 366 0)).toNat u q = true) (hpre : mt W ∧ 0 ≤ (fw_g W 366 0) ∧ (fw_g W 366 0) ≤ 14 ∧ (∀ u_ t_, 0 ≤ u_ → u_ < (fw_g W 366 0) → 0 ≤ t_ → t_ < (fw_g W 366 0) → (fw_g W 367 (14 * u_ + t_)) = zD q u_ t_) ∧ (∀ x_, 0 ≤ x_ → x_ < (fw_g W 366 0) → znr q ((fw_g W 366 0)) x_ ((fw_g W 370 x_)))) (hP : ∀ (v : Int) , (-2147483648 ≤ v ∧ v ≤ 2147483647 ∧ (v = (u : Int))) → Post (some (.inl v)) W)  : ∀ (m : Nat) (set h : Int), (if h < 0 then 0 else ((nb_u (fun z_ => (fw_g W 370 z_)) ((fw_g W 366 0)) set : Nat) : Int) + 1).toNat = m → (-1 ≤ h ∧ h < 14) ∧ (0 ≤ set ∧ set < 16384 ∧ set.toNat < 2 ^ ((fw_g W 366 0)).toNat) ∧ zgr q ((fw_g W 366 0)) u set ∧ (h < 0 → h = zsl q ((fw_g W 366 0)) set ((fw_g W 366 0))) → jf fw_T (d + 2) 297 4 [(0, .inr (.inl 352)), (1, .inl set), (2, .inl h)] [] W Post := by
  intro m
  induction m using Nat.strongRecOn with
  | ind m ih =>
    intro set h hm hi
    refine jf_rng (fun hrg => ?_)
    have hrg : -2147483648 ≤ set ∧ set ≤ 2147483647 ∧ -2147483648 ≤ h ∧ h ≤ 2147483647 ∧ True := hrg
    refine s_byEnds3_4 ?_
    repeat' (first
      | (exact True.intro)
      | (exact hpre.1)
      | (refine And.intro ?_ ?_)
      | (refine (ih _ (by omega) _ _ rfl ?_); (first | omega | trivial))
      | (refine (lm_byEnds3_12 q u hgh hpre hP (if h < 0 then 0 else ((nb_u (fun z_ => (fw_g W 370 z_)) ((fw_g W 366 0)) set : Nat) : Int) + 1) (fun a0 a1 hi hl => ih _ (by omega) a0 a1 rfl hi) _ _ _ _ rfl ?_ (by omega)); (exact ⟨by omega, hi.2.1, hi.2.2.1, rfl, Or.inl rfl⟩))
      | (refine hP _ ?_; (refine ⟨by omega, by omega, ?_⟩; (have e := zgr_e hi.2.2.1 (by rw [← hi.2.2.2 (by omega)]; omega); omega)))
      | omega
      | (intro _))
def x_byEnds3 : fw_X := fun as W Q => match as with
  | [.inr (.inl s_)] => fw_if (Nat.beq s_ 352) (∃ (q : List Nat), ∃ (u : Nat), (qok ((fw_g W 366 0)).toNat q = true ∧ 2 ≤ (fw_g W 366 0) ∧ (fw_g W 366 0) ≤ 6 ∧ (∀ x_, 1 ≤ x_ → x_ < (fw_g W 366 0) → (fw_g W 366 (2 + 3 * x_)) = ((qp q x_.toNat : Nat) : Int)) ∧ q2 ((fw_g W 366 0)).toNat u q = true) ∧ (mt W ∧ 0 ≤ (fw_g W 366 0) ∧ (fw_g W 366 0) ≤ 14 ∧ (∀ u_ t_, 0 ≤ u_ → u_ < (fw_g W 366 0) → 0 ≤ t_ → t_ < (fw_g W 366 0) → (fw_g W 367 (14 * u_ + t_)) = zD q u_ t_) ∧ (∀ x_, 0 ≤ x_ → x_ < (fw_g W 366 0) → znr q ((fw_g W 366 0)) x_ ((fw_g W 370 x_)))) ∧ (∀ (v : Int), (-2147483648 ≤ v ∧ v ≤ 2147483647 ∧ (v = (u : Int))) → Q (some (.inl v)) W))
  | _ => False
theorem x_byEnds3_ok (d : Nat) (as : List fw_V) (W : fw_W) (Q : Option fw_V → fw_W → Prop) (hx : x_byEnds3 as W Q) : jf fw_T (d + 2) 297 0 (fw_args 0 as) [] W Q := by
  unfold x_byEnds3 at hx
  split at hx
  · rename_i s_
    obtain ⟨e_, q, u, hgh, hpre, hQ⟩ := fw_if_ok hx
    have e_ := Nat.eq_of_beq_eq_true e_
    subst e_
    have hP := hQ
    refine s_byEnds3_0 ?_
    repeat' (first
      | (exact True.intro)
      | (exact hpre.1)
      | (refine And.intro ?_ ?_)
      | (refine (lm_byEnds3_4 q u hgh hpre hP _ _ _ rfl ?_); (exact ⟨by omega, ⟨by omega, by omega, Nat.two_pow_pos _⟩, zgr_0 hgh.2.2.2.2, fun z => by omega⟩))
      | (refine (lm_byEnds3_12 q u hgh hpre hP M4 h4 _ _ _ _ rfl ?_ (by omega)); (first | omega | trivial))
      | (refine hP _ ?_; (refine ⟨by omega, by omega, ?_⟩; (have e := zgr_e hi.2.2.1 (by rw [← hi.2.2.2 (by omega)]; omega); omega)))
      | omega
      | (intro _))
  · exact hx.elim

