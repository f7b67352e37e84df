/-! the class, the laws tried, exactly -/
theorem s_k_longestX_0 {Post : Option fw_V → fw_W → Prop} {d : Nat} {W : fw_W} {h : Int}
    (hw_ : jf fw_T (d + 1) 124 4 [(0, .inr (.inl 276)), (1, .inl h), (2, .inl (0 : Int)), (3, .inl (0 : Int))] [] W Post) :
    jf fw_T (d + 1) 124 0 [(0, .inr (.inl 276)), (1, .inl h)] [] W Post := fw_ok (n := 5) (ss := [(4, [0, 1, 2, 3])]) (hv := []) fr_124_ok fv_tryx_ok (fw_c0 _ _) hw_

theorem s_k_longestX_4_n4 {Post : Option fw_V → fw_W → Prop} {d : Nat} {W : fw_W} {h lo o : Int}
    (hw_ : -2147483648 ≤ o + (1 : Int) ∧ o + (1 : Int) ≤ 2147483647 ∧ (jf fw_T (d + 1) 124 4 [(0, .inr (.inl 276)), (1, .inl h), (2, .inl (max lo (fw_g W (fw_rc 278 h) o))), (3, .inl (o + (1 : Int)))] [] W Post)) :
    jf fw_T (d + 1) 124 24 [(0, .inr (.inl 276)), (1, .inl h), (2, .inl lo), (3, .inl o)] [.inl (fw_g W (fw_rc 278 h) o), .inl lo] W Post := fw_ok (n := 5) (ss := [(4, [0, 1, 2, 3])]) (hv := []) fr_124_ok fv_tryx_ok (fw_c0 _ _) hw_

theorem s_k_longestX_4_l3 {Post : Option fw_V → fw_W → Prop} {d : Nat} {W : fw_W} {h lo o : Int}
    (hw_ : 0 ≤ h ∧ h < 14 ∧ 0 ≤ o ∧ o < 14 ∧ (-2147483648 ≤ (fw_g W (fw_rc 278 h) o) → (fw_g W (fw_rc 278 h) o) ≤ 2147483647 → -2147483648 ≤ o + (1 : Int) ∧ o + (1 : Int) ≤ 2147483647 ∧ (jf fw_T (d + 1) 124 4 [(0, .inr (.inl 276)), (1, .inl h), (2, .inl (max lo (fw_g W (fw_rc 278 h) o))), (3, .inl (o + (1 : Int)))] [] W Post))) :
    jf fw_T (d + 1) 124 23 [(0, .inr (.inl 276)), (1, .inl h), (2, .inl lo), (3, .inl o)] [.inl o, .inr (.inl (fw_rc 278 h)), .inl lo] W Post := jf_ial (j := 15) kr_278 fr_124_ok rfl ⟨hw_.1, hw_.2.1, hw_.2.2.1, hw_.2.2.2.1, fun g1_ g2_ => s_k_longestX_4_n4 (hw_.2.2.2.2 g1_ g2_)⟩

theorem s_k_longestX_4_n2 {Post : Option fw_V → fw_W → Prop} {d : Nat} {W : fw_W} {h lo o : Int}
    (hw_ : 0 ≤ h ∧ h < 14 ∧ 0 ≤ o ∧ o < 14 ∧ (-2147483648 ≤ (fw_g W (fw_rc 278 h) o) → (fw_g W (fw_rc 278 h) o) ≤ 2147483647 → -2147483648 ≤ o + (1 : Int) ∧ o + (1 : Int) ≤ 2147483647 ∧ (jf fw_T (d + 1) 124 4 [(0, .inr (.inl 276)), (1, .inl h), (2, .inl (max lo (fw_g W (fw_rc 278 h) o))), (3, .inl (o + (1 : Int)))] [] W Post))) :
    jf fw_T (d + 1) 124 22 [(0, .inr (.inl 276)), (1, .inl h), (2, .inl lo), (3, .inl o)] [.inr (.inl (fw_rc 278 h)), .inl lo] W Post := by
  refine fw_ok (n := 2) (ss := [(4, [0, 1, 2, 3]), (23, [0, 1, 2, 3])]) (hv := []) fr_124_ok fv_tryx_ok (fw_c0 _ _) ?_
  show jf fw_T (d + 1) 124 23 [(0, .inr (.inl 276)), (1, .inl h), (2, .inl lo), (3, .inl o)] [.inl o, .inr (.inl (fw_rc 278 h)), .inl lo] W Post
  revert hw_
  repeat' (first | (refine And.imp ?_ ?_) | (refine rw_imp ?_) | (refine rw_all ?_; intro _) | exact s_k_longestX_4_l3 | exact fun x_ => x_)

theorem s_k_longestX_4_l1 {Post : Option fw_V → fw_W → Prop} {d : Nat} {W : fw_W} {h lo o : Int}
    (hw_ : 0 ≤ h ∧ h < 14 ∧ (0 ≤ h ∧ h < 14 ∧ 0 ≤ o ∧ o < 14 ∧ (-2147483648 ≤ (fw_g W (fw_rc 278 h) o) → (fw_g W (fw_rc 278 h) o) ≤ 2147483647 → -2147483648 ≤ o + (1 : Int) ∧ o + (1 : Int) ≤ 2147483647 ∧ (jf fw_T (d + 1) 124 4 [(0, .inr (.inl 276)), (1, .inl h), (2, .inl (max lo (fw_g W (fw_rc 278 h) o))), (3, .inl (o + (1 : Int)))] [] W Post)))) :
    jf fw_T (d + 1) 124 21 [(0, .inr (.inl 276)), (1, .inl h), (2, .inl lo), (3, .inl o)] [.inl h, .inr (.inl 278), .inl lo] W Post := jf_aal (j := 13) kr_278 fr_124_ok rfl ⟨hw_.1, hw_.2.1, s_k_longestX_4_n2 hw_.2.2⟩

theorem s_k_longestX_4 {Post : Option fw_V → fw_W → Prop} {d : Nat} {W : fw_W} {h lo o : Int}
    (hw_ : (0 ≤ (fw_g W 272 0) → (fw_g W 272 0) ≤ 14 → (((fw_g W 272 0) ≤ o → (-2147483648 ≤ lo → lo ≤ 2147483647 → Post (some (.inl lo)) W)) ∧ (o < (fw_g W 272 0) → 0 ≤ h ∧ h < 14 ∧ (0 ≤ h ∧ h < 14 ∧ 0 ≤ o ∧ o < 14 ∧ (-2147483648 ≤ (fw_g W (fw_rc 278 h) o) → (fw_g W (fw_rc 278 h) o) ≤ 2147483647 → -2147483648 ≤ o + (1 : Int) ∧ o + (1 : Int) ≤ 2147483647 ∧ (jf fw_T (d + 1) 124 4 [(0, .inr (.inl 276)), (1, .inl h), (2, .inl (max lo (fw_g W (fw_rc 278 h) o))), (3, .inl (o + (1 : Int)))] [] W Post))))))) :
    jf fw_T (d + 1) 124 4 [(0, .inr (.inl 276)), (1, .inl h), (2, .inl lo), (3, .inl o)] [] W Post := by
  refine fw_ok (n := 10) (ss := [(4, [0, 1, 2, 3]), (21, [0, 1, 2, 3])]) (hv := []) fr_124_ok fv_tryx_ok (fw_c0 _ _) ?_
  show (0 ≤ (fw_g W 272 0) → (fw_g W 272 0) ≤ 14 → (((fw_g W 272 0) ≤ o → (-2147483648 ≤ lo → lo ≤ 2147483647 → Post (some (.inl lo)) W)) ∧ (o < (fw_g W 272 0) → jf fw_T (d + 1) 124 21 [(0, .inr (.inl 276)), (1, .inl h), (2, .inl lo), (3, .inl o)] [.inl h, .inr (.inl 278), .inl lo] W Post)))
  revert hw_
  repeat' (first | (refine And.imp ?_ ?_) | (refine rw_imp ?_) | (refine rw_all ?_; intro _) | exact s_k_longestX_4_l1 | exact fun x_ => x_)

theorem lm_k_longestX_4 {Post : Option fw_V → fw_W → Prop} {d : Nat} {W : fw_W} {h : Int} (q : List Nat) (hgh : (qok ((fw_g W 272 0)).toNat q = true ∧ qk2 ((fw_g W 272 0)).toNat q = true) ∧ 2 ≤ (fw_g W 272 0) ∧ (fw_g W 272 0) ≤ 6 ∧ (∀ x_, 1 ≤ x_ → x_ < (fw_g W 272 0) → (fw_g W 273 x_) = ((qp q x_.toNat : Nat) : Int))) (hpre : (0 ≤ h ∧ h < (fw_g W 272 0)) ∧ (∀ u_ t_, 0 ≤ u_ → u_ < (fw_g W 272 0) → 0 ≤ t_ → t_ < (fw_g W 272 0) → fw_g W (fw_rc 278 u_) t_ = zD q u_ t_)) (hP : ∀ (v : Int) , (-2147483648 ≤ v ∧ v ≤ 2147483647 ∧ (v = ((qE q ((fw_g W 272 0)).toNat h.toNat : Nat) : Int))) → Post (some (.inl v)) W)  : ∀ (m : Nat) (lo o : Int), ((fw_g W 272 0) - o).toNat = m → 0 ≤ o ∧ o ≤ (fw_g W 272 0) ∧ 0 ≤ lo ∧ lo = ((qmx (qD q h.toNat) o.toNat : Nat) : Int) → jf fw_T (d + 1) 124 4 [(0, .inr (.inl 276)), (1, .inl h), (2, .inl lo), (3, .inl o)] [] W Post := by
  intro m
  induction m using Nat.strongRecOn with
  | ind m ih =>
    intro lo o hm hi
    refine jf_rng (fun hrg => ?_)
    have hrg : -2147483648 ≤ h ∧ h ≤ 2147483647 ∧ -2147483648 ≤ lo ∧ lo ≤ 2147483647 ∧ -2147483648 ≤ o ∧ o ≤ 2147483647 ∧ True := hrg
    refine s_k_longestX_4 ?_
    have hp1 := hpre.1
    have st := qmx_i (qD q h.toNat) hi.1
    have w1 : o < (fw_g W 272 0) → fw_g W (fw_rc 278 h) o = ((qD q h.toNat o.toNat : Nat) : Int) := fun z => hpre.2 h o hp1.1 hp1.2 hi.1 z
    repeat' (first
      | (exact True.intro)
      | (exact hpre.1)
      | (refine And.intro ?_ ?_)
      | (refine (ih _ (by omega) _ _ rfl ?_); (first | omega | trivial))
      | (refine hP _ ?_; (refine ⟨by omega, by omega, ?_⟩; (
        have kN : o = (fw_g W 272 0) := by omega
        unfold qE
        rw [← kN]
        omega)))
      | omega
      | (intro _))
def x_k_longestX : fw_X := fun as W Q => match as with
  | [.inr (.inl s_), .inl h] => fw_if (Nat.beq s_ 276) (∃ (q : List Nat), ((qok ((fw_g W 272 0)).toNat q = true ∧ qk2 ((fw_g W 272 0)).toNat q = true) ∧ 2 ≤ (fw_g W 272 0) ∧ (fw_g W 272 0) ≤ 6 ∧ (∀ x_, 1 ≤ x_ → x_ < (fw_g W 272 0) → (fw_g W 273 x_) = ((qp q x_.toNat : Nat) : Int))) ∧ ((0 ≤ h ∧ h < (fw_g W 272 0)) ∧ (∀ u_ t_, 0 ≤ u_ → u_ < (fw_g W 272 0) → 0 ≤ t_ → t_ < (fw_g W 272 0) → fw_g W (fw_rc 278 u_) t_ = zD q u_ t_)) ∧ (∀ (v : Int), (-2147483648 ≤ v ∧ v ≤ 2147483647 ∧ (v = ((qE q ((fw_g W 272 0)).toNat h.toNat : Nat) : Int))) → Q (some (.inl v)) W))
  | _ => False
theorem x_k_longestX_ok (d : Nat) (as : List fw_V) (W : fw_W) (Q : Option fw_V → fw_W → Prop) (hx : x_k_longestX as W Q) : jf fw_T (d + 1) 124 0 (fw_args 0 as) [] W Q := by
  unfold x_k_longestX at hx
  split at hx
  · rename_i s_ h
    obtain ⟨e_, q, hgh, hpre, hQ⟩ := fw_if_ok hx
    have e_ := Nat.eq_of_beq_eq_true e_
    subst e_
    have hP := hQ
    refine s_k_longestX_0 ?_
    repeat' (first
      | (exact True.intro)
      | (exact hpre.1)
      | (refine And.intro ?_ ?_)
      | (refine (lm_k_longestX_4 (h := h) q hgh hpre hP _ _ _ rfl ?_); (exact ⟨by omega, by omega, by omega, rfl⟩))
      | (refine hP _ ?_; (refine ⟨by omega, by omega, ?_⟩; (
        have kN : o = (fw_g W 272 0) := by omega
        unfold qE
        rw [← kN]
        omega)))
      | omega
      | (intro _))
  · exact hx.elim

def fr_136 : fw_P := [(0, 2, 0, 0, 0), (1, 0, 0, 0, 0), (2, 64, 124, 1, 410), (5, 3, 1, 0, 0), (6, 0, 0, 0, 1), (7, 3, 2, 0, 0), (8, 1, 2, 0, 0), (9, 2, 0, 0, 0), (10, 50, 10, 5, 0), (13, 50, 9, 0, 0), (16, 13, 35, 0, 0), (19, 1, 1, 0, 0), (20, 2, 0, 0, 0), (21, 1, 2, 0, 0), (22, 64, 124, 1, 410), (25, 61, 0, 0, 0), (28, 3, 1, 0, 0), (29, 5, 2, 0, 1), (32, 6, 8, 0, 0), (35, 1, 1, 0, 0), (36, 70, 0, 0, 0)]
theorem fr_136_ok : fw_mk 136 3 10 (some .int) fr_136 = true := by decide +kernel
def ct_k_leastLongX : List (Nat × fw_X) := [(124, x_k_longestX)]
theorem ct_k_leastLongX_ok (d : Nat) : fw_cok fw_T (d + 1) ct_k_leastLongX := by
  intro q hq as W Q h
  simp only [ct_k_leastLongX, List.mem_cons, List.not_mem_nil, or_false] at hq
  rcases hq with rfl
  · exact jc_of (x_k_longestX_ok (d + 0) as W Q h)
theorem s_k_leastLongX_0 {Post : Option fw_V → fw_W → Prop} {d : Nat} {W : fw_W}
    (hw_ : ∃ (q_1 : List Nat), ((qok ((fw_g W 272 0)).toNat q_1 = true ∧ qk2 ((fw_g W 272 0)).toNat q_1 = true) ∧ 2 ≤ (fw_g W 272 0) ∧ (fw_g W 272 0) ≤ 6 ∧ (∀ x_, 1 ≤ x_ → x_ < (fw_g W 272 0) → (fw_g W 273 x_) = ((qp q_1 x_.toNat : Nat) : Int))) ∧ ((0 ≤ (0 : Int) ∧ (0 : Int) < (fw_g W 272 0)) ∧ (∀ u_ t_, 0 ≤ u_ → u_ < (fw_g W 272 0) → 0 ≤ t_ → t_ < (fw_g W 272 0) → fw_g W (fw_rc 278 u_) t_ = zD q_1 u_ t_)) ∧ (∀ (r2 : Int), ((-2147483648 ≤ r2 ∧ r2 ≤ 2147483647 ∧ (r2 = ((qE q_1 ((fw_g W 272 0)).toNat (0 : Int).toNat : Nat) : Int)))) → jf fw_T (d + 2) 136 8 [(0, .inr (.inl 276)), (1, .inl r2), (2, .inl (1 : Int))] [] W Post)) :
    jf fw_T (d + 2) 136 0 [(0, .inr (.inl 276))] [] W Post := fw_ok (n := 7) (ss := [(8, [0, 1, 2])]) (hv := []) fr_136_ok fv_tryx_ok (ct_k_leastLongX_ok d) hw_

theorem s_k_leastLongX_8 {Post : Option fw_V → fw_W → Prop} {d : Nat} {W : fw_W} {le h : Int}
    (hw_ : (0 ≤ (fw_g W 272 0) → (fw_g W 272 0) ≤ 14 → (((fw_g W 272 0) ≤ h → (-2147483648 ≤ le → le ≤ 2147483647 → Post (some (.inl le)) W)) ∧ (h < (fw_g W 272 0) → ∃ (q_1 : List Nat), ((qok ((fw_g W 272 0)).toNat q_1 = true ∧ qk2 ((fw_g W 272 0)).toNat q_1 = true) ∧ 2 ≤ (fw_g W 272 0) ∧ (fw_g W 272 0) ≤ 6 ∧ (∀ x_, 1 ≤ x_ → x_ < (fw_g W 272 0) → (fw_g W 273 x_) = ((qp q_1 x_.toNat : Nat) : Int))) ∧ ((0 ≤ h ∧ h < (fw_g W 272 0)) ∧ (∀ u_ t_, 0 ≤ u_ → u_ < (fw_g W 272 0) → 0 ≤ t_ → t_ < (fw_g W 272 0) → fw_g W (fw_rc 278 u_) t_ = zD q_1 u_ t_)) ∧ (∀ (r2 : Int), ((-2147483648 ≤ r2 ∧ r2 ≤ 2147483647 ∧ (r2 = ((qE q_1 ((fw_g W 272 0)).toNat h.toNat : Nat) : Int)))) → -2147483648 ≤ h + (1 : Int) ∧ h + (1 : Int) ≤ 2147483647 ∧ (jf fw_T (d + 2) 136 8 [(0, .inr (.inl 276)), (1, .inl (min le r2)), (2, .inl (h + (1 : Int)))] [] W Post)))))) :
    jf fw_T (d + 2) 136 8 [(0, .inr (.inl 276)), (1, .inl le), (2, .inl h)] [] W Post := fw_ok (n := 14) (ss := [(8, [0, 1, 2])]) (hv := []) fr_136_ok fv_tryx_ok (ct_k_leastLongX_ok d) hw_

theorem lm_k_leastLongX_8 {Post : Option fw_V → fw_W → Prop} {d : Nat} {W : fw_W} (q : List Nat) (hgh : (qok ((fw_g W 272 0)).toNat q = true ∧ qk2 ((fw_g W 272 0)).toNat q = true) ∧ 2 ≤ (fw_g W 272 0) ∧ (fw_g W 272 0) ≤ 6 ∧ (∀ x_, 1 ≤ x_ → x_ < (fw_g W 272 0) → (fw_g W 273 x_) = ((qp q x_.toNat : Nat) : Int))) (hpre : (∀ u_ t_, 0 ≤ u_ → u_ < (fw_g W 272 0) → 0 ≤ t_ → t_ < (fw_g W 272 0) → fw_g W (fw_rc 278 u_) t_ = zD q u_ t_)) (hP : ∀ (v : Int) , (-2147483648 ≤ v ∧ v ≤ 2147483647 ∧ (v = ((qL q ((fw_g W 272 0)).toNat : Nat) : Int))) → Post (some (.inl v)) W)  : ∀ (m : Nat) (le h : Int), ((fw_g W 272 0) - h).toNat = m → 1 ≤ h ∧ h ≤ (fw_g W 272 0) ∧ 0 ≤ le ∧ le = ((qmn (qE q ((fw_g W 272 0)).toNat) h.toNat : Nat) : Int) → jf fw_T (d + 2) 136 8 [(0, .inr (.inl 276)), (1, .inl le), (2, .inl h)] [] W Post := by
  intro m
  induction m using Nat.strongRecOn with
  | ind m ih =>
    intro le h hm hi
    refine jf_rng (fun hrg => ?_)
    have hrg : -2147483648 ≤ le ∧ le ≤ 2147483647 ∧ -2147483648 ≤ h ∧ h ≤ 2147483647 ∧ True := hrg
    refine s_k_leastLongX_8 ?_
    have st := qmn_i (qE q ((fw_g W 272 0)).toNat) (k := h) (by have := hi.1; omega)
    have hi2 := hi.2.1
    repeat' (first
      | (exact hpre)
      | (exact True.intro)
      | (exact hpre.1)
      | (refine And.intro ?_ ?_)
      | (refine (ih _ (by omega) _ _ rfl ?_); (first | omega | trivial))
      | (refine hP _ ?_; (refine ⟨by omega, by omega, ?_⟩; (
        have kN : h = (fw_g W 272 0) := by omega
        have q9 := hi.2.2.2
        rw [kN] at q9
        exact q9)))
      | (refine ⟨q, hgh, ?_⟩)
      | omega
      | (intro _))
def x_k_leastLongX : fw_X := fun as W Q => match as with
  | [.inr (.inl s_)] => fw_if (Nat.beq s_ 276) (∃ (q : List Nat), ((qok ((fw_g W 272 0)).toNat q = true ∧ qk2 ((fw_g W 272 0)).toNat q = true) ∧ 2 ≤ (fw_g W 272 0) ∧ (fw_g W 272 0) ≤ 6 ∧ (∀ x_, 1 ≤ x_ → x_ < (fw_g W 272 0) → (fw_g W 273 x_) = ((qp q x_.toNat : Nat) : Int))) ∧ ((∀ u_ t_, 0 ≤ u_ → u_ < (fw_g W 272 0) → 0 ≤ t_ → t_ < (fw_g W 272 0) → fw_g W (fw_rc 278 u_) t_ = zD q u_ t_)) ∧ (∀ (v : Int), (-2147483648 ≤ v ∧ v ≤ 2147483647 ∧ (v = ((qL q ((fw_g W 272 0)).toNat : Nat) : Int))) → Q (some (.inl v)) W))
  | _ => False
theorem x_k_leastLongX_ok (d : Nat) (as : List fw_V) (W : fw_W) (Q : Option fw_V → fw_W → Prop) (hx : x_k_leastLongX as W Q) : jf fw_T (d + 2) 136 0 (fw_args 0 as) [] W Q := by
  unfold x_k_leastLongX at hx
  split at hx
  · rename_i s_
    obtain ⟨e_, q, hgh, hpre, hQ⟩ := fw_if_ok hx
    have e_ := Nat.eq_of_beq_eq_true e_
    subst e_
    have hP := hQ
    refine s_k_leastLongX_0 ?_
    repeat' (first
      | (exact hpre)
      | (exact True.intro)
      | (exact hpre.1)
      | (refine And.intro ?_ ?_)
      | (refine (lm_k_leastLongX_8 q hgh hpre hP _ _ _ rfl ?_); (rename_i r1 hr1; exact ⟨by omega, by omega, by omega, by rw [qmn_1]; exact hr1.2.2⟩))
      | (refine hP _ ?_; (refine ⟨by omega, by omega, ?_⟩; (
        have kN : h = (fw_g W 272 0) := by omega
        have q9 := hi.2.2.2
        rw [kN] at q9
        exact q9)))
      | (refine ⟨q, hgh, ?_⟩)
      | omega
      | (intro _))
  · exact hx.elim

theorem s_k_streetBX_0 {Post : Option fw_V → fw_W → Prop} {d : Nat} {W : fw_W} {a b : Int}
    (hw_ : 0 ≤ a ∧ a < 14 ∧ (-1 ≤ (fw_g W 273 a) → (fw_g W 273 a) ≤ 13 → ((¬ (fw_g W 273 a) = b → 0 ≤ b ∧ b < 14 ∧ (-1 ≤ (fw_g W 273 b) → (fw_g W 273 b) ≤ 13 → ((¬ (fw_g W 273 b) = a → (-2147483648 ≤ (0 : Int) → (0 : Int) ≤ 2147483647 → Post (some (.inl (0 : Int))) W)) ∧ ((fw_g W 273 b) = a → 0 ≤ b ∧ b < 14 ∧ (0 ≤ (fw_g W 274 b) → (fw_g W 274 b) ≤ 99 → (-2147483648 ≤ (fw_g W 274 b) → (fw_g W 274 b) ≤ 2147483647 → Post (some (.inl (fw_g W 274 b))) W)))))) ∧ ((fw_g W 273 a) = b → 0 ≤ a ∧ a < 14 ∧ (0 ≤ (fw_g W 274 a) → (fw_g W 274 a) ≤ 99 → (-2147483648 ≤ (fw_g W 274 a) → (fw_g W 274 a) ≤ 2147483647 → Post (some (.inl (fw_g W 274 a))) W)))))) :
    jf fw_T (d + 1) 113 0 [(0, .inr (.inl 272)), (1, .inl a), (2, .inl b)] [] W Post := fw_ok (n := 19) (ss := []) (hv := []) fr_113_ok fv_tryx_ok (fw_c0 _ _) hw_

def x_k_streetBX : fw_X := fun as W Q => match as with
  | [.inr (.inl s_), .inl a, .inl b] => fw_if (Nat.beq s_ 272) ((0 ≤ a ∧ a < 14 ∧ 0 ≤ b ∧ b < 14) ∧ (∀ (v : Int), (-2147483648 ≤ v ∧ v ≤ 2147483647 ∧ (((fw_g W 273 a) = b → v = (fw_g W 274 a)) ∧ (¬ (fw_g W 273 a) = b → (fw_g W 273 b) = a → v = (fw_g W 274 b)))) → Q (some (.inl v)) W))
  | _ => False
theorem x_k_streetBX_ok (d : Nat) (as : List fw_V) (W : fw_W) (Q : Option fw_V → fw_W → Prop) (hx : x_k_streetBX as W Q) : jf fw_T (d + 1) 113 0 (fw_args 0 as) [] W Q := by
  unfold x_k_streetBX at hx
  split at hx
  · rename_i s_ a b
    obtain ⟨e_, hpre, hQ⟩ := fw_if_ok hx
    have e_ := Nat.eq_of_beq_eq_true e_
    subst e_
    have hP := hQ
    refine s_k_streetBX_0 ?_
    repeat' (first
      | (exact True.intro)
      | (exact hpre.1)
      | (refine And.intro ?_ ?_)
      | (refine hP _ ?_; (refine ⟨by omega, by omega, ?_⟩; (exact ⟨fun z => by omega, fun z1 z2 => by omega⟩)))
      | omega
      | (intro _))
  · exact hx.elim

def fr_55 : fw_P := [(0, 2, 0, 0, 0), (1, 50, 4, 4, 0), (4, 64, 136, 0, 310), (7, 3, 1, 0, 0), (8, 0, 0, 0, 0), (9, 3, 2, 0, 0), (10, 0, 0, 0, -1), (11, 3, 3, 0, 0), (12, 0, 0, 0, 0), (13, 3, 4, 0, 0), (15, 0, 0, 0, 0), (16, 3, 5, 0, 0), (18, 1, 5, 0, 0), (20, 2, 0, 0, 0), (21, 50, 4, 3, 0), (24, 50, 9, 0, 0), (27, 13, 80, 0, 0), (30, 2, 0, 0, 0), (31, 50, 4, 4, 0), (34, 1, 5, 0, 0), (36, 64, 124, 1, 410), (39, 1, 1, 0, 0), (40, 11, 74, 0, 0), (43, 5, 2, 0, 1), (46, 1, 3, 0, 0), (47, 0, 0, 0, -1), (48, 10, 68, 0, 0), (51, 2, 0, 0, 0), (52, 50, 4, 3, 0), (55, 1, 3, 0, 0), (56, 1, 5, 0, 0), (58, 64, 113, 2, 309), (61, 25, 68, 0, 0), (64, 0, 0, 0, 1), (65, 6, 69, 0, 0), (68, 0, 0, 0, 0), (69, 3, 4, 0, 0), (71, 1, 5, 0, 0), (73, 3, 3, 0, 0), (74, 5, 5, 0, 1), (77, 6, 18, 0, 0), (80, 1, 2, 0, 0), (81, 0, 0, 0, 1), (82, 10, 95, 0, 0), (85, 1, 2, 0, 0), (86, 0, 0, 0, 2), (87, 11, 99, 0, 0), (90, 1, 4, 0, 0), (92, 20, 99, 0, 0), (95, 0, 0, 0, 1), (96, 6, 100, 0, 0), (99, 0, 0, 0, 0), (100, 71, 0, 0, 0)]
theorem fr_55_ok : fw_mk 55 6 4 (some .boolean) fr_55 = true := by decide +kernel
def ct_k_isMiddleX : List (Nat × fw_X) := [(136, x_k_leastLongX), (124, x_k_longestX), (113, x_k_streetBX)]
theorem ct_k_isMiddleX_ok (d : Nat) : fw_cok fw_T (d + 2) ct_k_isMiddleX := by
  intro q hq as W Q h
  simp only [ct_k_isMiddleX, List.mem_cons, List.not_mem_nil, or_false] at hq
  rcases hq with rfl | rfl | rfl
  · exact jc_of (x_k_leastLongX_ok (d + 0) as W Q h)
  · exact jc_of (x_k_longestX_ok (d + 1) as W Q h)
  · exact jc_of (x_k_streetBX_ok (d + 1) as W Q h)
theorem s_k_isMiddleX_0 {Post : Option fw_V → fw_W → Prop} {d : Nat} {W : fw_W}
    (hw_ : ∃ (q_1 : List Nat), ((qok ((fw_g W 272 0)).toNat q_1 = true ∧ qk2 ((fw_g W 272 0)).toNat q_1 = true) ∧ 2 ≤ (fw_g W 272 0) ∧ (fw_g W 272 0) ≤ 6 ∧ (∀ x_, 1 ≤ x_ → x_ < (fw_g W 272 0) → (fw_g W 273 x_) = ((qp q_1 x_.toNat : Nat) : Int))) ∧ ((∀ u_ t_, 0 ≤ u_ → u_ < (fw_g W 272 0) → 0 ≤ t_ → t_ < (fw_g W 272 0) → fw_g W (fw_rc 278 u_) t_ = zD q_1 u_ t_)) ∧ (∀ (r2 : Int), ((-2147483648 ≤ r2 ∧ r2 ≤ 2147483647 ∧ (r2 = ((qL q_1 ((fw_g W 272 0)).toNat : Nat) : Int)))) → jf fw_T (d + 3) 55 18 [(0, .inr (.inl 268)), (1, .inl r2), (2, .inl (0 : Int)), (3, .inl (-1 : Int)), (4, .inl (0 : Int)), (5, .inl (0 : Int))] [] W Post)) :
    jf fw_T (d + 3) 55 0 [(0, .inr (.inl 268))] [] W Post := fw_ok (n := 13) (ss := [(18, [0, 1, 2, 3, 4, 5])]) (hv := []) fr_55_ok fv_tryx_ok (ct_k_isMiddleX_ok d) hw_

theorem s_k_isMiddleX_18 {Post : Option fw_V → fw_W → Prop} {d : Nat} {W : fw_W} {le mi_ be jo h : Int}
    (hw_ : (0 ≤ (fw_g W 272 0) → (fw_g W 272 0) ≤ 14 → (((fw_g W 272 0) ≤ h → ((mi_ = (1 : Int) → 0 ≤ (1 : Int) ∧ (1 : Int) ≤ 1 ∧ Post (some (.inl (1 : Int))) W) ∧ (¬ mi_ = (1 : Int) → ((¬ mi_ = (2 : Int) → 0 ≤ (0 : Int) ∧ (0 : Int) ≤ 1 ∧ Post (some (.inl (0 : Int))) W) ∧ (mi_ = (2 : Int) → ((jo = 0 → 0 ≤ (0 : Int) ∧ (0 : Int) ≤ 1 ∧ Post (some (.inl (0 : Int))) W) ∧ (¬ jo = 0 → 0 ≤ (1 : Int) ∧ (1 : Int) ≤ 1 ∧ Post (some (.inl (1 : Int))) W))))))) ∧ (h < (fw_g W 272 0) → ∃ (q_1 : List Nat), ((qok ((fw_g W 272 0)).toNat q_1 = true ∧ qk2 ((fw_g W 272 0)).toNat q_1 = true) ∧ 2 ≤ (fw_g W 272 0) ∧ (fw_g W 272 0) ≤ 6 ∧ (∀ x_, 1 ≤ x_ → x_ < (fw_g W 272 0) → (fw_g W 273 x_) = ((qp q_1 x_.toNat : Nat) : Int))) ∧ ((0 ≤ h ∧ h < (fw_g W 272 0)) ∧ (∀ u_ t_, 0 ≤ u_ → u_ < (fw_g W 272 0) → 0 ≤ t_ → t_ < (fw_g W 272 0) → fw_g W (fw_rc 278 u_) t_ = zD q_1 u_ t_)) ∧ (∀ (r2 : Int), ((-2147483648 ≤ r2 ∧ r2 ≤ 2147483647 ∧ (r2 = ((qE q_1 ((fw_g W 272 0)).toNat h.toNat : Nat) : Int)))) → ((¬ r2 = le → -2147483648 ≤ h + (1 : Int) ∧ h + (1 : Int) ≤ 2147483647 ∧ (jf fw_T (d + 3) 55 18 [(0, .inr (.inl 268)), (1, .inl le), (2, .inl mi_), (3, .inl be), (4, .inl jo), (5, .inl (h + (1 : Int)))] [] W Post)) ∧ (r2 = le → -2147483648 ≤ mi_ + (1 : Int) ∧ mi_ + (1 : Int) ≤ 2147483647 ∧ (((be = (-1 : Int) → -2147483648 ≤ h + (1 : Int) ∧ h + (1 : Int) ≤ 2147483647 ∧ (jf fw_T (d + 3) 55 18 [(0, .inr (.inl 268)), (1, .inl le), (2, .inl (mi_ + (1 : Int))), (3, .inl h), (4, .inl (0 : Int)), (5, .inl (h + (1 : Int)))] [] W Post)) ∧ (¬ be = (-1 : Int) → (0 ≤ be ∧ be < 14 ∧ 0 ≤ h ∧ h < 14) ∧ (∀ (r3 : Int), ((-2147483648 ≤ r3 ∧ r3 ≤ 2147483647 ∧ (((fw_g W 273 be) = h → r3 = (fw_g W 274 be)) ∧ (¬ (fw_g W 273 be) = h → (fw_g W 273 h) = be → r3 = (fw_g W 274 h))))) → ((r3 ≤ 0 → -2147483648 ≤ h + (1 : Int) ∧ h + (1 : Int) ≤ 2147483647 ∧ (jf fw_T (d + 3) 55 18 [(0, .inr (.inl 268)), (1, .inl le), (2, .inl (mi_ + (1 : Int))), (3, .inl h), (4, .inl (0 : Int)), (5, .inl (h + (1 : Int)))] [] W Post)) ∧ (0 < r3 → -2147483648 ≤ h + (1 : Int) ∧ h + (1 : Int) ≤ 2147483647 ∧ (jf fw_T (d + 3) 55 18 [(0, .inr (.inl 268)), (1, .inl le), (2, .inl (mi_ + (1 : Int))), (3, .inl h), (4, .inl (1 : Int)), (5, .inl (h + (1 : Int)))] [] W Post)))))))))))))) :
    jf fw_T (d + 3) 55 18 [(0, .inr (.inl 268)), (1, .inl le), (2, .inl mi_), (3, .inl be), (4, .inl jo), (5, .inl h)] [] W Post := fw_ok (n := 29) (ss := [(18, [0, 1, 2, 3, 4, 5])]) (hv := []) fr_55_ok fv_tryx_ok (ct_k_isMiddleX_ok d) hw_

theorem lm_k_isMiddleX_18 {Post : Option fw_V → fw_W → Prop} {d : Nat} {W : fw_W} (q : List Nat) (hgh : (qok ((fw_g W 272 0)).toNat q = true ∧ qk2 ((fw_g W 272 0)).toNat q = true) ∧ 2 ≤ (fw_g W 272 0) ∧ (fw_g W 272 0) ≤ 6 ∧ (∀ x_, 1 ≤ x_ → x_ < (fw_g W 272 0) → (fw_g W 273 x_) = ((qp q x_.toNat : Nat) : Int))) (c1 c2 : Int) (hc : (0 ≤ c1 ∧ c1 ≤ c2 ∧ c2 < (fw_g W 272 0) ∧ (∀ h_, 0 ≤ h_ → h_ < (fw_g W 272 0) → (((qE q ((fw_g W 272 0)).toNat h_.toNat : Nat) : Int) ≤ ((qL q ((fw_g W 272 0)).toNat : Nat) : Int) ↔ h_ = c1 ∨ h_ = c2)) ∧ (c1 = c2 ∨ (1 ≤ c1 ∧ ((qp q c1.toNat : Nat) : Int) = c2) ∨ (1 ≤ c2 ∧ ((qp q c2.toNat : Nat) : Int) = c1)))) (hpre : (∀ u_ t_, 0 ≤ u_ → u_ < (fw_g W 272 0) → 0 ≤ t_ → t_ < (fw_g W 272 0) → fw_g W (fw_rc 278 u_) t_ = zD q u_ t_) ∧ (∀ x_, 1 ≤ x_ → x_ < (fw_g W 272 0) → (fw_g W 274 x_) = 1) ∧ (fw_g W 273 0) = -1) (hP : ∀ (v : Int) , (0 ≤ v ∧ v ≤ 1 ∧ (v = 1)) → Post (some (.inl v)) W)  : ∀ (m : Nat) (le mi_ be jo h : Int), ((fw_g W 272 0) - h).toNat = m → 0 ≤ h ∧ h ≤ (fw_g W 272 0) ∧ le = ((qL q ((fw_g W 272 0)).toNat : Nat) : Int) ∧ (0 ≤ jo ∧ jo ≤ 1) ∧ ((mi_ = 0 ∧ be = -1 ∧ h ≤ c1) ∨ (mi_ = 1 ∧ be = c1 ∧ c1 < h ∧ (h ≤ c2 ∨ c1 = c2)) ∨ (mi_ = 2 ∧ jo = 1 ∧ c1 < c2 ∧ c2 < h ∧ be = c2)) → jf fw_T (d + 3) 55 18 [(0, .inr (.inl 268)), (1, .inl le), (2, .inl mi_), (3, .inl be), (4, .inl jo), (5, .inl h)] [] W Post := by
  intro m
  induction m using Nat.strongRecOn with
  | ind m ih =>
    intro le mi_ be jo h hm hi
    refine jf_rng (fun hrg => ?_)
    have hrg : -2147483648 ≤ le ∧ le ≤ 2147483647 ∧ -2147483648 ≤ mi_ ∧ mi_ ≤ 2147483647 ∧ -2147483648 ≤ be ∧ be ≤ 2147483647 ∧ -2147483648 ≤ jo ∧ jo ≤ 2147483647 ∧ -2147483648 ≤ h ∧ h ≤ 2147483647 ∧ True := hrg
    refine s_k_isMiddleX_18 ?_
    have hc1 := hc.1
    have hc2 := hc.2.1
    have hc3 := hc.2.2.1
    have hm := fun z : h < (fw_g W 272 0) => hc.2.2.2.1 h hi.1 z
    have hl := fun z : h < (fw_g W 272 0) => qL_le (q := q) (n := (fw_g W 272 0)) (x := h) hi.1 z
    have hjU : Unit → (c1 < c2 → ((fw_g W 273 c1) = c2 ∧ (fw_g W 274 c1) = 1) ∨ (¬ (fw_g W 273 c1) = c2 ∧ (fw_g W 273 c2) = c1 ∧ (fw_g W 274 c2) = 1)) := fun _ z => by
      have h2 := hgh.2.2.2 c2 (by omega) hc3
      have s2 := hpre.2.1 c2 (by omega) hc3
      by_cases c0 : 1 ≤ c1
      · have h1 := hgh.2.2.2 c1 c0 (by omega)
        have s1 := hpre.2.1 c1 c0 (by omega)
        by_cases e : (fw_g W 273 c1) = c2
        · exact Or.inl ⟨e, s1⟩
        · refine Or.inr ⟨e, ?_, s2⟩
          rcases hc.2.2.2.2 with y | y | y
          · omega
          · omega
          · omega
      · have e0 : c1 = 0 := by omega
        have z0 := hpre.2.2
        rw [e0]
        refine Or.inr ⟨by omega, ?_, s2⟩
        rcases hc.2.2.2.2 with y | y | y
        · omega
        · omega
        · omega
    repeat' (first
      | (exact hpre.1)
      | (exact True.intro)
      | (exact hpre.1)
      | (refine And.intro ?_ ?_)
      | (refine (ih _ (by omega) _ _ _ _ _ rfl ?_); (
        have hmm := hm (by omega)
        have hll := hl (by omega)
        first
          | omega
          | (rename_i r1 hr1 w1 w2 r2 hr2 w3
             exfalso
             have e1 : be = c1 := by omega
             have e2 : h = c2 := by omega
             subst e1
             subst e2
             rcases hjU () (by omega) with y | y
             · have := hr2.2.2.1 y.1
               omega
             · have := hr2.2.2.2 y.1 y.2.1
               omega)))
      | (refine hP _ ?_; (refine ⟨by omega, by omega, ?_⟩; (omega)))
      | (refine ⟨q, hgh, ?_⟩)
      | omega
      | (intro _))
def x_k_isMiddleX : fw_X := fun as W Q => match as with
  | [.inr (.inl s_)] => fw_if (Nat.beq s_ 268) (∃ (q : List Nat), ((qok ((fw_g W 272 0)).toNat q = true ∧ qk2 ((fw_g W 272 0)).toNat q = true) ∧ 2 ≤ (fw_g W 272 0) ∧ (fw_g W 272 0) ≤ 6 ∧ (∀ x_, 1 ≤ x_ → x_ < (fw_g W 272 0) → (fw_g W 273 x_) = ((qp q x_.toNat : Nat) : Int))) ∧ ((∀ u_ t_, 0 ≤ u_ → u_ < (fw_g W 272 0) → 0 ≤ t_ → t_ < (fw_g W 272 0) → fw_g W (fw_rc 278 u_) t_ = zD q u_ t_) ∧ (∀ x_, 1 ≤ x_ → x_ < (fw_g W 272 0) → (fw_g W 274 x_) = 1) ∧ (fw_g W 273 0) = -1) ∧ (∀ (v : Int), (0 ≤ v ∧ v ≤ 1 ∧ (v = 1)) → Q (some (.inl v)) W))
  | _ => False
theorem x_k_isMiddleX_ok (d : Nat) (as : List fw_V) (W : fw_W) (Q : Option fw_V → fw_W → Prop) (hx : x_k_isMiddleX as W Q) : jf fw_T (d + 3) 55 0 (fw_args 0 as) [] W Q := by
  unfold x_k_isMiddleX at hx
  split at hx
  · rename_i s_
    obtain ⟨e_, q, hgh, hpre, hQ⟩ := fw_if_ok hx
    have e_ := Nat.eq_of_beq_eq_true e_
    subst e_
    have hP := hQ
    obtain ⟨c1, c2, hc⟩ := q0_i hgh.1.1
    refine s_k_isMiddleX_0 ?_
    repeat' (first
      | (exact hpre.1)
      | (exact True.intro)
      | (exact hpre.1)
      | (refine And.intro ?_ ?_)
      | (refine (lm_k_isMiddleX_18 q hgh c1 c2 hc hpre hP _ _ _ _ _ _ rfl ?_); (first | omega | trivial))
      | (refine hP _ ?_; (refine ⟨by omega, by omega, ?_⟩; (omega)))
      | (refine ⟨q, hgh, ?_⟩)
      | omega
      | (intro _))
  · exact hx.elim

