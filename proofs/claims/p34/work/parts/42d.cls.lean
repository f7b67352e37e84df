/-! the class, method by method -/
def fv_tryv : List (Nat × ai_C) := [(268, .inr (.inr (.inr (4, [.inr (.inl [269]), .inr (.inl [270]), .inr (.inl [271]), .inr (.inl [272]), .inr (.inl [276]), .inr (.inl [296]), .inr (.inl [323])])))), (269, .inl (.int, 14, 0, 15, true)), (270, .inl (.int, 14, -2147483648, 2147483647, true)), (271, .inl (.int, 14, -2147483648, 2147483647, true)), (323, .inl (.int, 21, -2147483648, 2147483647, true)), (272, .inr (.inr (.inr (9, [.inl (0, 14, true), .inl (0, 999, true), .inr (.inl [273]), .inr (.inl [274]), .inr (.inl [275])])))), (273, .inl (.int, 14, -1, 13, true)), (274, .inl (.int, 14, 0, 99, true)), (275, .inl (.int, 14, 0, 99, true)), (276, .inr (.inr (.inr (10, [.inr (.inl [277]), .inr (.inl [278]), .inl (-2147483648, 2147483647, true), .inl (-2147483648, 2147483647, true), .inl (-2147483648, 2147483647, true), .inr (.inl [272]), .inr (.inl [293]), .inr (.inl [294]), .inr (.inl [295])])))), (277, .inl (.int, 14, 0, 13, true)), (296, .inr (.inr (.inr (6, [.inl (-2147483648, 2147483647, true), .inl (-2147483648, 2147483647, true), .inr (.inl [272]), .inr (.inl [276]), .inr (.inl [297]), .inr (.inl [298]), .inr (.inl [299]), .inr (.inl [300]), .inr (.inl [301]), .inr (.inl [302]), .inr (.inl [317])])))), (297, .inl (.int, 14, -2147483648, 2147483647, true)), (298, .inl (.int, 14, -2147483648, 2147483647, true)), (299, .inl (.int, 14, -2147483648, 2147483647, true)), (300, .inl (.int, 14, -2147483648, 2147483647, true)), (301, .inl (.int, 14, -2147483648, 2147483647, true))]
def fg_tryv_G : fw_G := [(278, 14, 14, -2147483648, 2147483647), (302, 14, 14, -2147483648, 2147483647), (317, 5, 14, -2147483648, 2147483647)]
theorem fv_tryv_ok : fw_view fw_T fv_tryv fg_tryv_G := fw_vb_ok (by decide +kernel)
theorem s_k_longestT_0 {Post : Option fw_V → fw_W → Prop} {d : Nat} {W : fw_W} {h : Int}
    (hw_ : jf fw_T (d + 1) 124 4 [(0, .inr (.inl 276)), (1, .inl h), (2, .inl (0 : Int)), (3, .inl (0 : Int))] [] W Post) :
    jf fw_T (d + 1) 124 0 [(0, .inr (.inl 276)), (1, .inl h)] [] W Post := fw_ok (n := 5) (ss := [(4, [0, 1, 2, 3])]) (hv := []) fr_124_ok fv_tryv_ok (fw_c0 _ _) hw_

theorem s_k_longestT_4 {Post : Option fw_V → fw_W → Prop} {d : Nat} {W : fw_W} {h lo o : Int}
    (hw_ : (0 ≤ (fw_g W 272 0) → (fw_g W 272 0) ≤ 14 → (((fw_g W 272 0) ≤ o → (-2147483648 ≤ lo → lo ≤ 2147483647 → Post (some (.inl lo)) W)) ∧ (o < (fw_g W 272 0) → 0 ≤ h ∧ h < 14 ∧ (0 ≤ o ∧ o < 14 ∧ (∀ v1 : Int, -2147483648 ≤ v1 → v1 ≤ 2147483647 → -2147483648 ≤ o + (1 : Int) ∧ o + (1 : Int) ≤ 2147483647 ∧ (jf fw_T (d + 1) 124 4 [(0, .inr (.inl 276)), (1, .inl h), (2, .inl (max lo v1)), (3, .inl (o + (1 : Int)))] [] W Post))))))) :
    jf fw_T (d + 1) 124 4 [(0, .inr (.inl 276)), (1, .inl h), (2, .inl lo), (3, .inl o)] [] W Post := fw_ok (n := 17) (ss := [(4, [0, 1, 2, 3])]) (hv := []) fr_124_ok fv_tryv_ok (fw_c0 _ _) hw_

theorem lm_k_longestT_4 {Post : Option fw_V → fw_W → Prop} {d : Nat} {W : fw_W} {h : Int} (hpre : 0 ≤ h ∧ h < 14 ∧ 0 ≤ (fw_g W 272 0) ∧ (fw_g W 272 0) ≤ 14) (hP : ∀ (v : Int) , (-2147483648 ≤ v ∧ v ≤ 2147483647 ∧ (True)) → Post (some (.inl v)) W)  : ∀ (m : Nat) (lo o : Int), ((fw_g W 272 0) - o).toNat = m → 0 ≤ o → jf fw_T (d + 1) 124 4 [(0, .inr (.inl 276)), (1, .inl h), (2, .inl lo), (3, .inl o)] [] W Post := by
  intro m
  induction m using Nat.strongRecOn with
  | ind m ih =>
    intro lo o hm hi
    refine jf_rng (fun hrg => ?_)
    have hrg : -2147483648 ≤ h ∧ h ≤ 2147483647 ∧ -2147483648 ≤ lo ∧ lo ≤ 2147483647 ∧ -2147483648 ≤ o ∧ o ≤ 2147483647 ∧ True := hrg
    refine s_k_longestT_4 ?_
    repeat' (first
      | (exact True.intro)
      | (exact hpre.1)
      | (refine And.intro ?_ ?_)
      | (refine (ih _ (by omega) _ _ rfl ?_); (first | omega | trivial))
      | (refine hP _ ?_; (refine ⟨by omega, by omega, ?_⟩; (first | trivial | omega)))
      | omega
      | (intro _))
def x_k_longestT : fw_X := fun as W Q => match as with
  | [.inr (.inl s_), .inl h] => fw_if (Nat.beq s_ 276) ((0 ≤ h ∧ h < 14 ∧ 0 ≤ (fw_g W 272 0) ∧ (fw_g W 272 0) ≤ 14) ∧ (∀ (v : Int), (-2147483648 ≤ v ∧ v ≤ 2147483647 ∧ (True)) → Q (some (.inl v)) W))
  | _ => False
theorem x_k_longestT_ok (d : Nat) (as : List fw_V) (W : fw_W) (Q : Option fw_V → fw_W → Prop) (hx : x_k_longestT as W Q) : jf fw_T (d + 1) 124 0 (fw_args 0 as) [] W Q := by
  unfold x_k_longestT at hx
  split at hx
  · rename_i s_ h
    obtain ⟨e_, hpre, hQ⟩ := fw_if_ok hx
    have e_ := Nat.eq_of_beq_eq_true e_
    subst e_
    have hP := hQ
    refine s_k_longestT_0 ?_
    repeat' (first
      | (exact True.intro)
      | (exact hpre.1)
      | (refine And.intro ?_ ?_)
      | (refine (lm_k_longestT_4 (h := h) hpre hP _ _ _ rfl ?_); (first | omega | trivial))
      | (refine hP _ ?_; (refine ⟨by omega, by omega, ?_⟩; (first | trivial | omega)))
      | omega
      | (intro _))
  · exact hx.elim

def fr_136 : fw_P := [(0, 2, 0, 0, 0), (1, 0, 0, 0, 0), (2, 64, 124, 1, 410), (5, 3, 1, 0, 0), (6, 0, 0, 0, 1), (7, 3, 2, 0, 0), (8, 1, 2, 0, 0), (9, 2, 0, 0, 0), (10, 50, 10, 5, 0), (13, 50, 9, 0, 0), (16, 13, 35, 0, 0), (19, 1, 1, 0, 0), (20, 2, 0, 0, 0), (21, 1, 2, 0, 0), (22, 64, 124, 1, 410), (25, 61, 0, 0, 0), (28, 3, 1, 0, 0), (29, 5, 2, 0, 1), (32, 6, 8, 0, 0), (35, 1, 1, 0, 0), (36, 70, 0, 0, 0)]
theorem fr_136_ok : fw_mk 136 3 10 (some .int) fr_136 = true := by decide +kernel
def ct_k_leastLongT : List (Nat × fw_X) := [(124, x_k_longestT)]
theorem ct_k_leastLongT_ok (d : Nat) : fw_cok fw_T (d + 1) ct_k_leastLongT := by
  intro q hq as W Q h
  simp only [ct_k_leastLongT, List.mem_cons, List.not_mem_nil, or_false] at hq
  rcases hq with rfl
  · exact jc_of (x_k_longestT_ok (d + 0) as W Q h)
theorem s_k_leastLongT_0 {Post : Option fw_V → fw_W → Prop} {d : Nat} {W : fw_W}
    (hw_ : (0 ≤ (0 : Int) ∧ (0 : Int) < 14 ∧ 0 ≤ (fw_g W 272 0) ∧ (fw_g W 272 0) ≤ 14) ∧ (∀ (r1 : Int), ((-2147483648 ≤ r1 ∧ r1 ≤ 2147483647 ∧ (True))) → jf fw_T (d + 2) 136 8 [(0, .inr (.inl 276)), (1, .inl r1), (2, .inl (1 : Int))] [] W Post)) :
    jf fw_T (d + 2) 136 0 [(0, .inr (.inl 276))] [] W Post := fw_ok (n := 7) (ss := [(8, [0, 1, 2])]) (hv := []) fr_136_ok fv_tryv_ok (ct_k_leastLongT_ok d) hw_

theorem s_k_leastLongT_8 {Post : Option fw_V → fw_W → Prop} {d : Nat} {W : fw_W} {le h : Int}
    (hw_ : (0 ≤ (fw_g W 272 0) → (fw_g W 272 0) ≤ 14 → (((fw_g W 272 0) ≤ h → (-2147483648 ≤ le → le ≤ 2147483647 → Post (some (.inl le)) W)) ∧ (h < (fw_g W 272 0) → (0 ≤ h ∧ h < 14 ∧ 0 ≤ (fw_g W 272 0) ∧ (fw_g W 272 0) ≤ 14) ∧ (∀ (r1 : Int), ((-2147483648 ≤ r1 ∧ r1 ≤ 2147483647 ∧ (True))) → -2147483648 ≤ h + (1 : Int) ∧ h + (1 : Int) ≤ 2147483647 ∧ (jf fw_T (d + 2) 136 8 [(0, .inr (.inl 276)), (1, .inl (min le r1)), (2, .inl (h + (1 : Int)))] [] W Post)))))) :
    jf fw_T (d + 2) 136 8 [(0, .inr (.inl 276)), (1, .inl le), (2, .inl h)] [] W Post := fw_ok (n := 14) (ss := [(8, [0, 1, 2])]) (hv := []) fr_136_ok fv_tryv_ok (ct_k_leastLongT_ok d) hw_

theorem lm_k_leastLongT_8 {Post : Option fw_V → fw_W → Prop} {d : Nat} {W : fw_W} (hpre : 2 ≤ (fw_g W 272 0) ∧ (fw_g W 272 0) ≤ 6) (hP : ∀ (v : Int) , (-2147483648 ≤ v ∧ v ≤ 2147483647 ∧ (True)) → Post (some (.inl v)) W)  : ∀ (m : Nat) (le h : Int), ((fw_g W 272 0) - h).toNat = m → 1 ≤ h → jf fw_T (d + 2) 136 8 [(0, .inr (.inl 276)), (1, .inl le), (2, .inl h)] [] W Post := by
  intro m
  induction m using Nat.strongRecOn with
  | ind m ih =>
    intro le h hm hi
    refine jf_rng (fun hrg => ?_)
    have hrg : -2147483648 ≤ le ∧ le ≤ 2147483647 ∧ -2147483648 ≤ h ∧ h ≤ 2147483647 ∧ True := hrg
    refine s_k_leastLongT_8 ?_
    repeat' (first
      | (exact True.intro)
      | (exact hpre.1)
      | (refine And.intro ?_ ?_)
      | (refine (ih _ (by omega) _ _ rfl ?_); (first | omega | trivial))
      | (refine hP _ ?_; (refine ⟨by omega, by omega, ?_⟩; (first | trivial | omega)))
      | omega
      | (intro _))
def x_k_leastLongT : fw_X := fun as W Q => match as with
  | [.inr (.inl s_)] => fw_if (Nat.beq s_ 276) ((2 ≤ (fw_g W 272 0) ∧ (fw_g W 272 0) ≤ 6) ∧ (∀ (v : Int), (-2147483648 ≤ v ∧ v ≤ 2147483647 ∧ (True)) → Q (some (.inl v)) W))
  | _ => False
theorem x_k_leastLongT_ok (d : Nat) (as : List fw_V) (W : fw_W) (Q : Option fw_V → fw_W → Prop) (hx : x_k_leastLongT as W Q) : jf fw_T (d + 2) 136 0 (fw_args 0 as) [] W Q := by
  unfold x_k_leastLongT at hx
  split at hx
  · rename_i s_
    obtain ⟨e_, hpre, hQ⟩ := fw_if_ok hx
    have e_ := Nat.eq_of_beq_eq_true e_
    subst e_
    have hP := hQ
    refine s_k_leastLongT_0 ?_
    repeat' (first
      | (exact True.intro)
      | (exact hpre.1)
      | (refine And.intro ?_ ?_)
      | (refine (lm_k_leastLongT_8 hpre hP _ _ _ rfl ?_); (first | omega | trivial))
      | (refine hP _ ?_; (refine ⟨by omega, by omega, ?_⟩; (first | trivial | omega)))
      | omega
      | (intro _))
  · exact hx.elim

theorem s_k_streetBT_0 {Post : Option fw_V → fw_W → Prop} {d : Nat} {W : fw_W} {a b : Int}
    (hw_ : 0 ≤ a ∧ a < 14 ∧ (-1 ≤ (fw_g W 273 a) → (fw_g W 273 a) ≤ 13 → ((¬ (fw_g W 273 a) = b → 0 ≤ b ∧ b < 14 ∧ (-1 ≤ (fw_g W 273 b) → (fw_g W 273 b) ≤ 13 → ((¬ (fw_g W 273 b) = a → (-2147483648 ≤ (0 : Int) → (0 : Int) ≤ 2147483647 → Post (some (.inl (0 : Int))) W)) ∧ ((fw_g W 273 b) = a → 0 ≤ b ∧ b < 14 ∧ (0 ≤ (fw_g W 274 b) → (fw_g W 274 b) ≤ 99 → (-2147483648 ≤ (fw_g W 274 b) → (fw_g W 274 b) ≤ 2147483647 → Post (some (.inl (fw_g W 274 b))) W)))))) ∧ ((fw_g W 273 a) = b → 0 ≤ a ∧ a < 14 ∧ (0 ≤ (fw_g W 274 a) → (fw_g W 274 a) ≤ 99 → (-2147483648 ≤ (fw_g W 274 a) → (fw_g W 274 a) ≤ 2147483647 → Post (some (.inl (fw_g W 274 a))) W)))))) :
    jf fw_T (d + 1) 113 0 [(0, .inr (.inl 272)), (1, .inl a), (2, .inl b)] [] W Post := fw_ok (n := 19) (ss := []) (hv := []) fr_113_ok fv_tryv_ok (fw_c0 _ _) hw_

def x_k_streetBT : fw_X := fun as W Q => match as with
  | [.inr (.inl s_), .inl a, .inl b] => fw_if (Nat.beq s_ 272) ((0 ≤ a ∧ a < 14 ∧ 0 ≤ b ∧ b < 14) ∧ (∀ (v : Int), (-2147483648 ≤ v ∧ v ≤ 2147483647 ∧ (True)) → Q (some (.inl v)) W))
  | _ => False
theorem x_k_streetBT_ok (d : Nat) (as : List fw_V) (W : fw_W) (Q : Option fw_V → fw_W → Prop) (hx : x_k_streetBT as W Q) : jf fw_T (d + 1) 113 0 (fw_args 0 as) [] W Q := by
  unfold x_k_streetBT at hx
  split at hx
  · rename_i s_ a b
    obtain ⟨e_, hpre, hQ⟩ := fw_if_ok hx
    have e_ := Nat.eq_of_beq_eq_true e_
    subst e_
    have hP := hQ
    refine s_k_streetBT_0 ?_
    repeat' (first
      | (exact True.intro)
      | (exact hpre.1)
      | (refine And.intro ?_ ?_)
      | (refine hP _ ?_; (refine ⟨by omega, by omega, ?_⟩; (first | trivial | omega)))
      | omega
      | (intro _))
  · exact hx.elim

def fr_55 : fw_P := [(0, 2, 0, 0, 0), (1, 50, 4, 4, 0), (4, 64, 136, 0, 310), (7, 3, 1, 0, 0), (8, 0, 0, 0, 0), (9, 3, 2, 0, 0), (10, 0, 0, 0, -1), (11, 3, 3, 0, 0), (12, 0, 0, 0, 0), (13, 3, 4, 0, 0), (15, 0, 0, 0, 0), (16, 3, 5, 0, 0), (18, 1, 5, 0, 0), (20, 2, 0, 0, 0), (21, 50, 4, 3, 0), (24, 50, 9, 0, 0), (27, 13, 80, 0, 0), (30, 2, 0, 0, 0), (31, 50, 4, 4, 0), (34, 1, 5, 0, 0), (36, 64, 124, 1, 410), (39, 1, 1, 0, 0), (40, 11, 74, 0, 0), (43, 5, 2, 0, 1), (46, 1, 3, 0, 0), (47, 0, 0, 0, -1), (48, 10, 68, 0, 0), (51, 2, 0, 0, 0), (52, 50, 4, 3, 0), (55, 1, 3, 0, 0), (56, 1, 5, 0, 0), (58, 64, 113, 2, 309), (61, 25, 68, 0, 0), (64, 0, 0, 0, 1), (65, 6, 69, 0, 0), (68, 0, 0, 0, 0), (69, 3, 4, 0, 0), (71, 1, 5, 0, 0), (73, 3, 3, 0, 0), (74, 5, 5, 0, 1), (77, 6, 18, 0, 0), (80, 1, 2, 0, 0), (81, 0, 0, 0, 1), (82, 10, 95, 0, 0), (85, 1, 2, 0, 0), (86, 0, 0, 0, 2), (87, 11, 99, 0, 0), (90, 1, 4, 0, 0), (92, 20, 99, 0, 0), (95, 0, 0, 0, 1), (96, 6, 100, 0, 0), (99, 0, 0, 0, 0), (100, 71, 0, 0, 0)]
theorem fr_55_ok : fw_mk 55 6 4 (some .boolean) fr_55 = true := by decide +kernel
def ct_k_isMiddle : List (Nat × fw_X) := [(136, x_k_leastLongT), (124, x_k_longestT), (113, x_k_streetBT)]
theorem ct_k_isMiddle_ok (d : Nat) : fw_cok fw_T (d + 2) ct_k_isMiddle := by
  intro q hq as W Q h
  simp only [ct_k_isMiddle, List.mem_cons, List.not_mem_nil, or_false] at hq
  rcases hq with rfl | rfl | rfl
  · exact jc_of (x_k_leastLongT_ok (d + 0) as W Q h)
  · exact jc_of (x_k_longestT_ok (d + 1) as W Q h)
  · exact jc_of (x_k_streetBT_ok (d + 1) as W Q h)
theorem s_k_isMiddle_0 {Post : Option fw_V → fw_W → Prop} {d : Nat} {W : fw_W}
    (hw_ : (2 ≤ (fw_g W 272 0) ∧ (fw_g W 272 0) ≤ 6) ∧ (∀ (r1 : Int), ((-2147483648 ≤ r1 ∧ r1 ≤ 2147483647 ∧ (True))) → jf fw_T (d + 3) 55 18 [(0, .inr (.inl 268)), (1, .inl r1), (2, .inl (0 : Int)), (3, .inl (-1 : Int)), (4, .inl (0 : Int)), (5, .inl (0 : Int))] [] W Post)) :
    jf fw_T (d + 3) 55 0 [(0, .inr (.inl 268))] [] W Post := fw_ok (n := 13) (ss := [(18, [0, 1, 2, 3, 4, 5])]) (hv := [43]) fr_55_ok fv_tryv_ok (ct_k_isMiddle_ok d) hw_

theorem s_k_isMiddle_18 {Post : Option fw_V → fw_W → Prop} {d : Nat} {W : fw_W} {le mi_ be jo h : Int}
    (hw_ : (0 ≤ (fw_g W 272 0) → (fw_g W 272 0) ≤ 14 → (((fw_g W 272 0) ≤ h → ((mi_ = (1 : Int) → 0 ≤ (1 : Int) ∧ (1 : Int) ≤ 1 ∧ Post (some (.inl (1 : Int))) W) ∧ (¬ mi_ = (1 : Int) → ((¬ mi_ = (2 : Int) → 0 ≤ (0 : Int) ∧ (0 : Int) ≤ 1 ∧ Post (some (.inl (0 : Int))) W) ∧ (mi_ = (2 : Int) → ((jo = 0 → 0 ≤ (0 : Int) ∧ (0 : Int) ≤ 1 ∧ Post (some (.inl (0 : Int))) W) ∧ (¬ jo = 0 → 0 ≤ (1 : Int) ∧ (1 : Int) ≤ 1 ∧ Post (some (.inl (1 : Int))) W))))))) ∧ (h < (fw_g W 272 0) → (0 ≤ h ∧ h < 14 ∧ 0 ≤ (fw_g W 272 0) ∧ (fw_g W 272 0) ≤ 14) ∧ (∀ (r1 : Int), ((-2147483648 ≤ r1 ∧ r1 ≤ 2147483647 ∧ (True))) → ((¬ r1 = le → -2147483648 ≤ h + (1 : Int) ∧ h + (1 : Int) ≤ 2147483647 ∧ (jf fw_T (d + 3) 55 18 [(0, .inr (.inl 268)), (1, .inl le), (2, .inl mi_), (3, .inl be), (4, .inl jo), (5, .inl (h + (1 : Int)))] [] W Post)) ∧ (r1 = le → ∀ v2 : Int, -2147483648 ≤ v2 → v2 ≤ 2147483647 → ((be = (-1 : Int) → -2147483648 ≤ h + (1 : Int) ∧ h + (1 : Int) ≤ 2147483647 ∧ (jf fw_T (d + 3) 55 18 [(0, .inr (.inl 268)), (1, .inl le), (2, .inl v2), (3, .inl h), (4, .inl (0 : Int)), (5, .inl (h + (1 : Int)))] [] W Post)) ∧ (¬ be = (-1 : Int) → (0 ≤ be ∧ be < 14 ∧ 0 ≤ h ∧ h < 14) ∧ (∀ (r3 : Int), ((-2147483648 ≤ r3 ∧ r3 ≤ 2147483647 ∧ (True))) → ((r3 ≤ 0 → -2147483648 ≤ h + (1 : Int) ∧ h + (1 : Int) ≤ 2147483647 ∧ (jf fw_T (d + 3) 55 18 [(0, .inr (.inl 268)), (1, .inl le), (2, .inl v2), (3, .inl h), (4, .inl (0 : Int)), (5, .inl (h + (1 : Int)))] [] W Post)) ∧ (0 < r3 → -2147483648 ≤ h + (1 : Int) ∧ h + (1 : Int) ≤ 2147483647 ∧ (jf fw_T (d + 3) 55 18 [(0, .inr (.inl 268)), (1, .inl le), (2, .inl v2), (3, .inl h), (4, .inl (1 : Int)), (5, .inl (h + (1 : Int)))] [] W Post))))))))))))) :
    jf fw_T (d + 3) 55 18 [(0, .inr (.inl 268)), (1, .inl le), (2, .inl mi_), (3, .inl be), (4, .inl jo), (5, .inl h)] [] W Post := fw_ok (n := 29) (ss := [(18, [0, 1, 2, 3, 4, 5])]) (hv := [43]) fr_55_ok fv_tryv_ok (ct_k_isMiddle_ok d) hw_

theorem lm_k_isMiddle_18 {Post : Option fw_V → fw_W → Prop} {d : Nat} {W : fw_W} (hpre : 2 ≤ (fw_g W 272 0) ∧ (fw_g W 272 0) ≤ 6) (hP : ∀ (v : Int) , (0 ≤ v ∧ v ≤ 1 ∧ (True)) → Post (some (.inl v)) W)  : ∀ (m : Nat) (le mi_ be jo h : Int), ((fw_g W 272 0) - h).toNat = m → 0 ≤ h ∧ -1 ≤ be ∧ be < 14 → jf fw_T (d + 3) 55 18 [(0, .inr (.inl 268)), (1, .inl le), (2, .inl mi_), (3, .inl be), (4, .inl jo), (5, .inl h)] [] W Post := by
  intro m
  induction m using Nat.strongRecOn with
  | ind m ih =>
    intro le mi_ be jo h hm hi
    refine jf_rng (fun hrg => ?_)
    have hrg : -2147483648 ≤ le ∧ le ≤ 2147483647 ∧ -2147483648 ≤ mi_ ∧ mi_ ≤ 2147483647 ∧ -2147483648 ≤ be ∧ be ≤ 2147483647 ∧ -2147483648 ≤ jo ∧ jo ≤ 2147483647 ∧ -2147483648 ≤ h ∧ h ≤ 2147483647 ∧ True := hrg
    refine s_k_isMiddle_18 ?_
    repeat' (first
      | (exact True.intro)
      | (exact hpre.1)
      | (refine And.intro ?_ ?_)
      | (refine (ih _ (by omega) _ _ _ _ _ rfl ?_); (first | omega | trivial))
      | (refine hP _ ?_; (refine ⟨by omega, by omega, ?_⟩; (first | trivial | omega)))
      | omega
      | (intro _))
def x_k_isMiddle : fw_X := fun as W Q => match as with
  | [.inr (.inl s_)] => fw_if (Nat.beq s_ 268) ((2 ≤ (fw_g W 272 0) ∧ (fw_g W 272 0) ≤ 6) ∧ (∀ (v : Int), (0 ≤ v ∧ v ≤ 1 ∧ (True)) → Q (some (.inl v)) W))
  | _ => False
theorem x_k_isMiddle_ok (d : Nat) (as : List fw_V) (W : fw_W) (Q : Option fw_V → fw_W → Prop) (hx : x_k_isMiddle as W Q) : jf fw_T (d + 3) 55 0 (fw_args 0 as) [] W Q := by
  unfold x_k_isMiddle at hx
  split at hx
  · rename_i s_
    obtain ⟨e_, hpre, hQ⟩ := fw_if_ok hx
    have e_ := Nat.eq_of_beq_eq_true e_
    subst e_
    have hP := hQ
    refine s_k_isMiddle_0 ?_
    repeat' (first
      | (exact True.intro)
      | (exact hpre.1)
      | (refine And.intro ?_ ?_)
      | (refine (lm_k_isMiddle_18 hpre hP _ _ _ _ _ _ rfl ?_); (first | omega | trivial))
      | (refine hP _ ?_; (refine ⟨by omega, by omega, ?_⟩; (first | trivial | omega)))
      | omega
      | (intro _))
  · exact hx.elim

def ct_k_fourLikeT : List (Nat × fw_X) := [(318, x_k_numberOfTrailingZeros)]
theorem ct_k_fourLikeT_ok (d : Nat) : fw_cok fw_T (d + 1) ct_k_fourLikeT := by
  intro q hq as W Q h
  simp only [ct_k_fourLikeT, List.mem_cons, List.not_mem_nil, or_false] at hq
  rcases hq with rfl
  · exact jc_of (x_k_numberOfTrailingZeros_ok (d + 0) as W Q h)
theorem s_k_fourLikeT_0 {Post : Option fw_V → fw_W → Prop} {d : Nat} {W : fw_W} {ma : Int}
    (hw_ : (0 ≤ ma ∧ ma < 64) ∧ (-2147483648 ≤ ma - (1 : Int) ∧ ma - (1 : Int) ≤ 2147483647 ∧ ((-2147483648 ≤ (fw_and ma (ma - (1 : Int))) → (fw_and ma (ma - (1 : Int))) ≤ 2147483647 → jf fw_T (d + 2) 57 11 [(0, .inr (.inl 278)), (2, .inl (tz ma)), (3, .inl (fw_and ma (ma - (1 : Int))))] [] W Post)))) :
    jf fw_T (d + 2) 57 0 [(0, .inr (.inl 278)), (1, .inl ma)] [] W Post := fw_ok (n := 10) (ss := [(11, [0, 2, 3]), (23, [0, 2, 3, 4]), (35, [0, 2, 3, 4, 5]), (50, [0, 2, 4, 5, 6])]) (hv := [63, 79, 95, 130, 133, 136, 139]) fr_57_ok fv_tryv_ok (ct_k_fourLikeT_ok d) hw_

set_option maxRecDepth 10000 in
theorem s_k_fourLikeT_50 {Post : Option fw_V → fw_W → Prop} {d : Nat} {W : fw_W} {a b c e : Int}
    (hw_ : 0 ≤ a ∧ a < 14 ∧ (0 ≤ b ∧ b < 14 ∧ (∀ v1 : Int, -2147483648 ≤ v1 → v1 ≤ 2147483647 → 0 ≤ c ∧ c < 14 ∧ (0 ≤ e ∧ e < 14 ∧ (∀ v2 : Int, -2147483648 ≤ v2 → v2 ≤ 2147483647 → ∀ v3 : Int, -2147483648 ≤ v3 → v3 ≤ 2147483647 → 0 ≤ a ∧ a < 14 ∧ (0 ≤ c ∧ c < 14 ∧ (∀ v4 : Int, -2147483648 ≤ v4 → v4 ≤ 2147483647 → 0 ≤ b ∧ b < 14 ∧ (0 ≤ e ∧ e < 14 ∧ (∀ v5 : Int, -2147483648 ≤ v5 → v5 ≤ 2147483647 → ∀ v6 : Int, -2147483648 ≤ v6 → v6 ≤ 2147483647 → 0 ≤ a ∧ a < 14 ∧ (0 ≤ e ∧ e < 14 ∧ (∀ v7 : Int, -2147483648 ≤ v7 → v7 ≤ 2147483647 → 0 ≤ b ∧ b < 14 ∧ (0 ≤ c ∧ c < 14 ∧ (∀ v8 : Int, -2147483648 ≤ v8 → v8 ≤ 2147483647 → ∀ v9 : Int, -2147483648 ≤ v9 → v9 ≤ 2147483647 → ∀ v10 : Int, -2147483648 ≤ v10 → v10 ≤ 2147483647 → ∀ v11 : Int, -2147483648 ≤ v11 → v11 ≤ 2147483647 → ∀ v12 : Int, -2147483648 ≤ v12 → v12 ≤ 2147483647 → ∀ v13 : Int, -2147483648 ≤ v13 → v13 ≤ 2147483647 → ((¬ v13 = (max v3 (max v6 v9)) → 0 ≤ (0 : Int) ∧ (0 : Int) ≤ 1 ∧ Post (some (.inl (0 : Int))) W) ∧ (v13 = (max v3 (max v6 v9)) → 0 ≤ (1 : Int) ∧ (1 : Int) ≤ 1 ∧ Post (some (.inl (1 : Int))) W))))))))))))))) :
    jf fw_T (d + 2) 57 50 [(0, .inr (.inl 278)), (2, .inl a), (4, .inl b), (5, .inl c), (6, .inl e)] [] W Post := fw_ok (n := 63) (ss := [(11, [0, 2, 3]), (23, [0, 2, 3, 4]), (35, [0, 2, 3, 4, 5]), (50, [0, 2, 4, 5, 6])]) (hv := [63, 79, 95, 130, 133, 136, 139]) fr_57_ok fv_tryv_ok (ct_k_fourLikeT_ok d) hw_

theorem s_k_fourLikeT_35 {Post : Option fw_V → fw_W → Prop} {d : Nat} {W : fw_W} {a x3 b c : Int}
    (hw_ : (0 ≤ x3 ∧ x3 < 64) ∧ ((((tz x3) < (14 : Int) → jf fw_T (d + 2) 57 50 [(0, .inr (.inl 278)), (2, .inl a), (4, .inl b), (5, .inl c), (6, .inl (tz x3))] [] W Post) ∧ ((14 : Int) ≤ (tz x3) → 0 ≤ (0 : Int) ∧ (0 : Int) ≤ 1 ∧ Post (some (.inl (0 : Int))) W)))) :
    jf fw_T (d + 2) 57 35 [(0, .inr (.inl 278)), (2, .inl a), (3, .inl x3), (4, .inl b), (5, .inl c)] [] W Post := fw_ok (n := 10) (ss := [(11, [0, 2, 3]), (23, [0, 2, 3, 4]), (35, [0, 2, 3, 4, 5]), (50, [0, 2, 4, 5, 6])]) (hv := [63, 79, 95, 130, 133, 136, 139]) fr_57_ok fv_tryv_ok (ct_k_fourLikeT_ok d) hw_

theorem s_k_fourLikeT_23 {Post : Option fw_V → fw_W → Prop} {d : Nat} {W : fw_W} {a x3 b : Int}
    (hw_ : (0 ≤ x3 ∧ x3 < 64) ∧ (-2147483648 ≤ x3 - (1 : Int) ∧ x3 - (1 : Int) ≤ 2147483647 ∧ ((-2147483648 ≤ (fw_and x3 (x3 - (1 : Int))) → (fw_and x3 (x3 - (1 : Int))) ≤ 2147483647 → jf fw_T (d + 2) 57 35 [(0, .inr (.inl 278)), (2, .inl a), (3, .inl (fw_and x3 (x3 - (1 : Int)))), (4, .inl b), (5, .inl (tz x3))] [] W Post)))) :
    jf fw_T (d + 2) 57 23 [(0, .inr (.inl 278)), (2, .inl a), (3, .inl x3), (4, .inl b)] [] W Post := fw_ok (n := 10) (ss := [(11, [0, 2, 3]), (23, [0, 2, 3, 4]), (35, [0, 2, 3, 4, 5]), (50, [0, 2, 4, 5, 6])]) (hv := [63, 79, 95, 130, 133, 136, 139]) fr_57_ok fv_tryv_ok (ct_k_fourLikeT_ok d) hw_

theorem s_k_fourLikeT_11 {Post : Option fw_V → fw_W → Prop} {d : Nat} {W : fw_W} {a x3 : Int}
    (hw_ : (0 ≤ x3 ∧ x3 < 64) ∧ (-2147483648 ≤ x3 - (1 : Int) ∧ x3 - (1 : Int) ≤ 2147483647 ∧ ((-2147483648 ≤ (fw_and x3 (x3 - (1 : Int))) → (fw_and x3 (x3 - (1 : Int))) ≤ 2147483647 → jf fw_T (d + 2) 57 23 [(0, .inr (.inl 278)), (2, .inl a), (3, .inl (fw_and x3 (x3 - (1 : Int)))), (4, .inl (tz x3))] [] W Post)))) :
    jf fw_T (d + 2) 57 11 [(0, .inr (.inl 278)), (2, .inl a), (3, .inl x3)] [] W Post := fw_ok (n := 10) (ss := [(11, [0, 2, 3]), (23, [0, 2, 3, 4]), (35, [0, 2, 3, 4, 5]), (50, [0, 2, 4, 5, 6])]) (hv := [63, 79, 95, 130, 133, 136, 139]) fr_57_ok fv_tryv_ok (ct_k_fourLikeT_ok d) hw_

theorem lm_k_fourLikeT_50 {Post : Option fw_V → fw_W → Prop} {d : Nat} {W : fw_W} {ma : Int} (hpre : 0 ≤ ma ∧ ma < 64) (hP : ∀ (v : Int) , (0 ≤ v ∧ v ≤ 1 ∧ (True)) → Post (some (.inl v)) W)  : ∀ (a b c e : Int), 0 ≤ a ∧ a < 14 ∧ 0 ≤ b ∧ b < 14 ∧ 0 ≤ c ∧ c < 14 ∧ 0 ≤ e ∧ e < 14 → jf fw_T (d + 2) 57 50 [(0, .inr (.inl 278)), (2, .inl a), (4, .inl b), (5, .inl c), (6, .inl e)] [] W Post := by
  intro a b c e hi
  refine jf_rng (fun hrg => ?_)
  have hrg : -2147483648 ≤ a ∧ a ≤ 2147483647 ∧ -2147483648 ≤ b ∧ b ≤ 2147483647 ∧ -2147483648 ≤ c ∧ c ≤ 2147483647 ∧ -2147483648 ≤ e ∧ e ≤ 2147483647 ∧ True := hrg
  refine s_k_fourLikeT_50 ?_
  repeat' (first
    | (exact True.intro)
    | (exact hpre.1)
    | (refine And.intro ?_ ?_)
    | (refine hP _ ?_; (refine ⟨by omega, by omega, ?_⟩; (first | trivial | omega)))
    | omega
    | (intro _))
theorem lm_k_fourLikeT_35 {Post : Option fw_V → fw_W → Prop} {d : Nat} {W : fw_W} {ma : Int} (hpre : 0 ≤ ma ∧ ma < 64) (hP : ∀ (v : Int) , (0 ≤ v ∧ v ≤ 1 ∧ (True)) → Post (some (.inl v)) W)  : ∀ (a x3 b c : Int), 0 ≤ x3 ∧ x3 < 64 ∧ 0 ≤ a ∧ 0 ≤ b ∧ 0 ≤ c ∧ (tz x3 < 32 → c < tz x3 ∧ b < c ∧ a < b) → jf fw_T (d + 2) 57 35 [(0, .inr (.inl 278)), (2, .inl a), (3, .inl x3), (4, .inl b), (5, .inl c)] [] W Post := by
  intro a x3 b c hi
  refine jf_rng (fun hrg => ?_)
  have hrg : -2147483648 ≤ a ∧ a ≤ 2147483647 ∧ -2147483648 ≤ x3 ∧ x3 ≤ 2147483647 ∧ -2147483648 ≤ b ∧ b ≤ 2147483647 ∧ -2147483648 ≤ c ∧ c ≤ 2147483647 ∧ True := hrg
  refine s_k_fourLikeT_35 ?_
  have q0 := tz_i (x := x3) (by omega) (by omega)
  repeat' (first
    | (exact True.intro)
    | (exact hpre.1)
    | (refine And.intro ?_ ?_)
    | (refine (lm_k_fourLikeT_50 (ma := ma) hpre hP _ _ _ _ ?_); (first | omega | trivial))
    | (refine hP _ ?_; (refine ⟨by omega, by omega, ?_⟩; (first | trivial | omega)))
    | omega
    | (intro _))
theorem lm_k_fourLikeT_23 {Post : Option fw_V → fw_W → Prop} {d : Nat} {W : fw_W} {ma : Int} (hpre : 0 ≤ ma ∧ ma < 64) (hP : ∀ (v : Int) , (0 ≤ v ∧ v ≤ 1 ∧ (True)) → Post (some (.inl v)) W)  : ∀ (a x3 b : Int), 0 ≤ x3 ∧ x3 < 64 ∧ 0 ≤ a ∧ 0 ≤ b ∧ (tz x3 < 32 → b < tz x3 ∧ a < b) → jf fw_T (d + 2) 57 23 [(0, .inr (.inl 278)), (2, .inl a), (3, .inl x3), (4, .inl b)] [] W Post := by
  intro a x3 b hi
  refine jf_rng (fun hrg => ?_)
  have hrg : -2147483648 ≤ a ∧ a ≤ 2147483647 ∧ -2147483648 ≤ x3 ∧ x3 ≤ 2147483647 ∧ -2147483648 ≤ b ∧ b ≤ 2147483647 ∧ True := hrg
  refine s_k_fourLikeT_23 ?_
  have q0 := tz_i (x := x3) (by omega) (by omega)
  repeat' (first
    | (exact True.intro)
    | (exact hpre.1)
    | (refine And.intro ?_ ?_)
    | (refine (lm_k_fourLikeT_35 (ma := ma) hpre hP _ _ _ _ ?_); (first | omega | trivial))
    | (refine hP _ ?_; (refine ⟨by omega, by omega, ?_⟩; (first | trivial | omega)))
    | omega
    | (intro _))
theorem lm_k_fourLikeT_11 {Post : Option fw_V → fw_W → Prop} {d : Nat} {W : fw_W} {ma : Int} (hpre : 0 ≤ ma ∧ ma < 64) (hP : ∀ (v : Int) , (0 ≤ v ∧ v ≤ 1 ∧ (True)) → Post (some (.inl v)) W)  : ∀ (a x3 : Int), 0 ≤ x3 ∧ x3 < 64 ∧ 0 ≤ a ∧ (tz x3 < 32 → a < tz x3) → jf fw_T (d + 2) 57 11 [(0, .inr (.inl 278)), (2, .inl a), (3, .inl x3)] [] W Post := by
  intro a x3 hi
  refine jf_rng (fun hrg => ?_)
  have hrg : -2147483648 ≤ a ∧ a ≤ 2147483647 ∧ -2147483648 ≤ x3 ∧ x3 ≤ 2147483647 ∧ True := hrg
  refine s_k_fourLikeT_11 ?_
  have q0 := tz_i (x := x3) (by omega) (by omega)
  repeat' (first
    | (exact True.intro)
    | (exact hpre.1)
    | (refine And.intro ?_ ?_)
    | (refine (lm_k_fourLikeT_23 (ma := ma) hpre hP _ _ _ ?_); (first | omega | trivial))
    | (refine hP _ ?_; (refine ⟨by omega, by omega, ?_⟩; (first | trivial | omega)))
    | omega
    | (intro _))
def x_k_fourLikeT : fw_X := fun as W Q => match as with
  | [.inr (.inl r0_), .inl ma] => fw_if (Nat.beq r0_ 278) ((0 ≤ ma ∧ ma < 64) ∧ (∀ (v : Int), (0 ≤ v ∧ v ≤ 1 ∧ (True)) → Q (some (.inl v)) W))
  | _ => False
theorem x_k_fourLikeT_ok (d : Nat) (as : List fw_V) (W : fw_W) (Q : Option fw_V → fw_W → Prop) (hx : x_k_fourLikeT as W Q) : jf fw_T (d + 2) 57 0 (fw_args 0 as) [] W Q := by
  unfold x_k_fourLikeT at hx
  split at hx
  · rename_i r0_ ma
    obtain ⟨e0_, hx0⟩ := fw_if_ok hx
    have e0_ := Nat.eq_of_beq_eq_true e0_
    clear hx
    subst e0_
    obtain ⟨hpre, hQ⟩ := hx0
    have hP := hQ
    refine s_k_fourLikeT_0 ?_
    have q0 := tz_i hpre.1 hpre.2
    repeat' (first
      | (exact True.intro)
      | (exact hpre.1)
      | (refine And.intro ?_ ?_)
      | (refine (lm_k_fourLikeT_11 (ma := ma) hpre hP _ _ ?_); (first | omega | trivial))
      | (refine (lm_k_fourLikeT_23 (ma := ma) hpre hP _ _ _ ?_); (first | omega | trivial))
      | (refine (lm_k_fourLikeT_35 (ma := ma) hpre hP _ _ _ _ ?_); (first | omega | trivial))
      | (refine (lm_k_fourLikeT_50 (ma := ma) hpre hP _ _ _ _ ?_); (first | omega | trivial))
      | (refine hP _ ?_; (refine ⟨by omega, by omega, ?_⟩; (first | trivial | omega)))
      | omega
      | (intro _))
  · exact hx.elim

def fr_56 : fw_P := [(0, 0, 0, 0, 0), (1, 3, 1, 0, 0), (2, 1, 1, 0, 0), (3, 0, 0, 0, 1), (4, 2, 0, 0, 0), (5, 50, 4, 3, 0), (8, 50, 9, 0, 0), (11, 39, 0, 0, 0), (12, 13, 45, 0, 0), (15, 1, 1, 0, 0), (16, 65, 317, 1, 100), (19, 0, 0, 0, 4), (20, 11, 39, 0, 0), (23, 2, 0, 0, 0), (24, 50, 4, 4, 0), (27, 50, 10, 1, 0), (30, 1, 1, 0, 0), (31, 65, 57, 2, 1200), (34, 21, 39, 0, 0), (37, 0, 0, 0, 0), (38, 71, 0, 0, 0), (39, 5, 1, 0, 1), (42, 6, 2, 0, 0), (45, 0, 0, 0, 1), (46, 71, 0, 0, 0)]
theorem fr_56_ok : fw_mk 56 2 4 (some .boolean) fr_56 = true := by decide +kernel
def ct_k_allFours : List (Nat × fw_X) := [(317, x_k_bitCount), (57, x_k_fourLikeT)]
theorem ct_k_allFours_ok (d : Nat) : fw_cok fw_T (d + 2) ct_k_allFours := by
  intro q hq as W Q h
  simp only [ct_k_allFours, List.mem_cons, List.not_mem_nil, or_false] at hq
  rcases hq with rfl | rfl
  · exact jc_of (x_k_bitCount_ok (d + 1) as W Q h)
  · exact jc_of (x_k_fourLikeT_ok (d + 0) as W Q h)
theorem s_k_allFours_0 {Post : Option fw_V → fw_W → Prop} {d : Nat} {W : fw_W}
    (hw_ : jf fw_T (d + 3) 56 2 [(0, .inr (.inl 268)), (1, .inl (0 : Int))] [] W Post) :
    jf fw_T (d + 3) 56 0 [(0, .inr (.inl 268))] [] W Post := fw_ok (n := 3) (ss := [(2, [0, 1])]) (hv := []) fr_56_ok fv_tryv_ok (ct_k_allFours_ok d) hw_

theorem s_k_allFours_2 {Post : Option fw_V → fw_W → Prop} {d : Nat} {W : fw_W} {ma : Int}
    (hw_ : (0 ≤ (fw_g W 272 0) → (fw_g W 272 0) ≤ 14 → (-2147483648 ≤ (fw_shl (1 : Int) (fw_g W 272 0)) → (fw_shl (1 : Int) (fw_g W 272 0)) ≤ 2147483647 → (((fw_shl (1 : Int) (fw_g W 272 0)) ≤ ma → 0 ≤ (1 : Int) ∧ (1 : Int) ≤ 1 ∧ Post (some (.inl (1 : Int))) W) ∧ (ma < (fw_shl (1 : Int) (fw_g W 272 0)) → (True) ∧ (∀ (r1 : Int), ((-2147483648 ≤ r1 ∧ r1 ≤ 2147483647 ∧ (True))) → ((¬ r1 = (4 : Int) → -2147483648 ≤ ma + (1 : Int) ∧ ma + (1 : Int) ≤ 2147483647 ∧ (jf fw_T (d + 3) 56 2 [(0, .inr (.inl 268)), (1, .inl (ma + (1 : Int)))] [] W Post)) ∧ (r1 = (4 : Int) → (0 ≤ ma ∧ ma < 64) ∧ (∀ (r2 : Int), ((0 ≤ r2 ∧ r2 ≤ 1 ∧ (True))) → ((¬ r2 = 0 → -2147483648 ≤ ma + (1 : Int) ∧ ma + (1 : Int) ≤ 2147483647 ∧ (jf fw_T (d + 3) 56 2 [(0, .inr (.inl 268)), (1, .inl (ma + (1 : Int)))] [] W Post)) ∧ (r2 = 0 → 0 ≤ (0 : Int) ∧ (0 : Int) ≤ 1 ∧ Post (some (.inl (0 : Int))) W))))))))))) :
    jf fw_T (d + 3) 56 2 [(0, .inr (.inl 268)), (1, .inl ma)] [] W Post := fw_ok (n := 20) (ss := [(2, [0, 1])]) (hv := []) fr_56_ok fv_tryv_ok (ct_k_allFours_ok d) hw_

theorem lm_k_allFours_2 {Post : Option fw_V → fw_W → Prop} {d : Nat} {W : fw_W} (hpre : 2 ≤ (fw_g W 272 0) ∧ (fw_g W 272 0) ≤ 6) (hP : ∀ (v : Int) , (0 ≤ v ∧ v ≤ 1 ∧ (True)) → Post (some (.inl v)) W)  : ∀ (m : Nat) (ma : Int), (fw_shl 1 ((fw_g W 272 0)) - ma).toNat = m → 0 ≤ ma → jf fw_T (d + 3) 56 2 [(0, .inr (.inl 268)), (1, .inl ma)] [] W Post := by
  intro m
  induction m using Nat.strongRecOn with
  | ind m ih =>
    intro ma hm hi
    refine jf_rng (fun hrg => ?_)
    have hrg : -2147483648 ≤ ma ∧ ma ≤ 2147483647 ∧ True := hrg
    refine s_k_allFours_2 ?_
    have q0 := shl6 (x := (fw_g W 272 0)) (by omega) (by omega)
    repeat' (first
      | (exact True.intro)
      | (exact hpre.1)
      | (refine And.intro ?_ ?_)
      | (refine (ih _ (by omega) _ rfl ?_); (first | omega | trivial))
      | (refine hP _ ?_; (refine ⟨by omega, by omega, ?_⟩; (first | trivial | omega)))
      | omega
      | (intro _))
def x_k_allFours : fw_X := fun as W Q => match as with
  | [.inr (.inl s_)] => fw_if (Nat.beq s_ 268) ((2 ≤ (fw_g W 272 0) ∧ (fw_g W 272 0) ≤ 6) ∧ (∀ (v : Int), (0 ≤ v ∧ v ≤ 1 ∧ (True)) → Q (some (.inl v)) W))
  | _ => False
theorem x_k_allFours_ok (d : Nat) (as : List fw_V) (W : fw_W) (Q : Option fw_V → fw_W → Prop) (hx : x_k_allFours as W Q) : jf fw_T (d + 3) 56 0 (fw_args 0 as) [] W Q := by
  unfold x_k_allFours at hx
  split at hx
  · rename_i s_
    obtain ⟨e_, hpre, hQ⟩ := fw_if_ok hx
    have e_ := Nat.eq_of_beq_eq_true e_
    subst e_
    have hP := hQ
    refine s_k_allFours_0 ?_
    repeat' (first
      | (exact True.intro)
      | (exact hpre.1)
      | (refine And.intro ?_ ?_)
      | (refine (lm_k_allFours_2 hpre hP _ _ rfl ?_); (first | omega | trivial))
      | (refine hP _ ?_; (refine ⟨by omega, by omega, ?_⟩; (first | trivial | omega)))
      | omega
      | (intro _))
  · exact hx.elim

def fr_59 : fw_P := [(0, 0, 0, 0, -1), (1, 3, 2, 0, 0), (2, 0, 0, 0, 0), (3, 3, 3, 0, 0), (4, 1, 3, 0, 0), (5, 2, 0, 0, 0), (6, 50, 4, 3, 0), (9, 50, 9, 0, 0), (12, 13, 73, 0, 0), (15, 1, 1, 0, 0), (16, 1, 3, 0, 0), (17, 40, 0, 0, 0), (18, 0, 0, 0, 1), (19, 36, 0, 0, 0), (20, 20, 27, 0, 0), (23, 0, 0, 0, 1), (24, 6, 28, 0, 0), (27, 0, 0, 0, 0), (28, 3, 4, 0, 0), (30, 1, 4, 0, 0), (32, 20, 67, 0, 0), (35, 1, 2, 0, 0), (36, 0, 0, 0, -1), (37, 10, 65, 0, 0), (40, 2, 0, 0, 0), (41, 50, 4, 4, 0), (44, 50, 10, 1, 0), (47, 0, 0, 0, 0), (48, 56, 0, 0, 0), (49, 1, 3, 0, 0), (50, 52, 0, 0, 0), (51, 2, 0, 0, 0), (52, 50, 4, 4, 0), (55, 50, 10, 1, 0), (58, 0, 0, 0, 0), (59, 56, 0, 0, 0), (60, 1, 2, 0, 0), (61, 52, 0, 0, 0), (62, 15, 67, 0, 0), (65, 1, 3, 0, 0), (66, 3, 2, 0, 0), (67, 5, 3, 0, 1), (70, 6, 4, 0, 0), (73, 1, 2, 0, 0), (74, 0, 0, 0, 0), (75, 60, 0, 0, 0), (78, 70, 0, 0, 0)]
theorem fr_59_ok : fw_mk 59 5 4 (some .int) fr_59 = true := by decide +kernel
theorem s_k_farthestOf_0 {Post : Option fw_V → fw_W → Prop} {d : Nat} {W : fw_W} {ma : Int}
    (hw_ : jf fw_T (d + 1) 59 4 [(0, .inr (.inl 268)), (1, .inl ma), (2, .inl (-1 : Int)), (3, .inl (0 : Int))] [] W Post) :
    jf fw_T (d + 1) 59 0 [(0, .inr (.inl 268)), (1, .inl ma)] [] W Post := fw_ok (n := 5) (ss := [(4, [0, 1, 2, 3])]) (hv := []) fr_59_ok fv_tryv_ok (fw_c0 _ _) hw_

theorem s_k_farthestOf_4 {Post : Option fw_V → fw_W → Prop} {d : Nat} {W : fw_W} {ma fa h : Int}
    (hw_ : (0 ≤ (fw_g W 272 0) → (fw_g W 272 0) ≤ 14 → (((fw_g W 272 0) ≤ h → (-2147483648 ≤ (max fa (0 : Int)) → (max fa (0 : Int)) ≤ 2147483647 → Post (some (.inl (max fa (0 : Int)))) W)) ∧ (h < (fw_g W 272 0) → (-2147483648 ≤ (fw_shr ma h) → (fw_shr ma h) ≤ 2147483647 → (-2147483648 ≤ (fw_and (fw_shr ma h) (1 : Int)) → (fw_and (fw_shr ma h) (1 : Int)) ≤ 2147483647 → (((fw_and (fw_shr ma h) (1 : Int)) = 0 → (((0 : Int) = 0 → -2147483648 ≤ h + (1 : Int) ∧ h + (1 : Int) ≤ 2147483647 ∧ (jf fw_T (d + 1) 59 4 [(0, .inr (.inl 268)), (1, .inl ma), (2, .inl fa), (3, .inl (h + (1 : Int)))] [] W Post)) ∧ (¬ (0 : Int) = 0 → ((fa = (-1 : Int) → -2147483648 ≤ h + (1 : Int) ∧ h + (1 : Int) ≤ 2147483647 ∧ (jf fw_T (d + 1) 59 4 [(0, .inr (.inl 268)), (1, .inl ma), (2, .inl h), (3, .inl (h + (1 : Int)))] [] W Post)) ∧ (¬ fa = (-1 : Int) → 0 ≤ (0 : Int) ∧ (0 : Int) < 14 ∧ (0 ≤ h ∧ h < 14 ∧ (∀ v1 : Int, -2147483648 ≤ v1 → v1 ≤ 2147483647 → 0 ≤ (0 : Int) ∧ (0 : Int) < 14 ∧ (0 ≤ fa ∧ fa < 14 ∧ (∀ v2 : Int, -2147483648 ≤ v2 → v2 ≤ 2147483647 → ((v1 ≤ v2 → -2147483648 ≤ h + (1 : Int) ∧ h + (1 : Int) ≤ 2147483647 ∧ (jf fw_T (d + 1) 59 4 [(0, .inr (.inl 268)), (1, .inl ma), (2, .inl fa), (3, .inl (h + (1 : Int)))] [] W Post)) ∧ (v2 < v1 → -2147483648 ≤ h + (1 : Int) ∧ h + (1 : Int) ≤ 2147483647 ∧ (jf fw_T (d + 1) 59 4 [(0, .inr (.inl 268)), (1, .inl ma), (2, .inl h), (3, .inl (h + (1 : Int)))] [] W Post)))))))))))) ∧ (¬ (fw_and (fw_shr ma h) (1 : Int)) = 0 → (((1 : Int) = 0 → -2147483648 ≤ h + (1 : Int) ∧ h + (1 : Int) ≤ 2147483647 ∧ (jf fw_T (d + 1) 59 4 [(0, .inr (.inl 268)), (1, .inl ma), (2, .inl fa), (3, .inl (h + (1 : Int)))] [] W Post)) ∧ (¬ (1 : Int) = 0 → ((fa = (-1 : Int) → -2147483648 ≤ h + (1 : Int) ∧ h + (1 : Int) ≤ 2147483647 ∧ (jf fw_T (d + 1) 59 4 [(0, .inr (.inl 268)), (1, .inl ma), (2, .inl h), (3, .inl (h + (1 : Int)))] [] W Post)) ∧ (¬ fa = (-1 : Int) → 0 ≤ (0 : Int) ∧ (0 : Int) < 14 ∧ (0 ≤ h ∧ h < 14 ∧ (∀ v3 : Int, -2147483648 ≤ v3 → v3 ≤ 2147483647 → 0 ≤ (0 : Int) ∧ (0 : Int) < 14 ∧ (0 ≤ fa ∧ fa < 14 ∧ (∀ v4 : Int, -2147483648 ≤ v4 → v4 ≤ 2147483647 → ((v3 ≤ v4 → -2147483648 ≤ h + (1 : Int) ∧ h + (1 : Int) ≤ 2147483647 ∧ (jf fw_T (d + 1) 59 4 [(0, .inr (.inl 268)), (1, .inl ma), (2, .inl fa), (3, .inl (h + (1 : Int)))] [] W Post)) ∧ (v4 < v3 → -2147483648 ≤ h + (1 : Int) ∧ h + (1 : Int) ≤ 2147483647 ∧ (jf fw_T (d + 1) 59 4 [(0, .inr (.inl 268)), (1, .inl ma), (2, .inl h), (3, .inl (h + (1 : Int)))] [] W Post))))))))))))))))))) :
    jf fw_T (d + 1) 59 4 [(0, .inr (.inl 268)), (1, .inl ma), (2, .inl fa), (3, .inl h)] [] W Post := fw_ok (n := 39) (ss := [(4, [0, 1, 2, 3])]) (hv := []) fr_59_ok fv_tryv_ok (fw_c0 _ _) hw_

theorem lm_k_farthestOf_4 {Post : Option fw_V → fw_W → Prop} {d : Nat} {W : fw_W} {ma : Int} (hpre : 2 ≤ (fw_g W 272 0) ∧ (fw_g W 272 0) ≤ 6) (hP : ∀ (v : Int) , (-2147483648 ≤ v ∧ v ≤ 2147483647 ∧ (0 ≤ v ∧ v < (fw_g W 272 0))) → Post (some (.inl v)) W)  : ∀ (m : Nat) (fa h : Int), ((fw_g W 272 0) - h).toNat = m → 0 ≤ h ∧ -1 ≤ fa ∧ fa < (fw_g W 272 0) → jf fw_T (d + 1) 59 4 [(0, .inr (.inl 268)), (1, .inl ma), (2, .inl fa), (3, .inl h)] [] W Post := by
  intro m
  induction m using Nat.strongRecOn with
  | ind m ih =>
    intro fa h hm hi
    refine jf_rng (fun hrg => ?_)
    have hrg : -2147483648 ≤ ma ∧ ma ≤ 2147483647 ∧ -2147483648 ≤ fa ∧ fa ≤ 2147483647 ∧ -2147483648 ≤ h ∧ h ≤ 2147483647 ∧ True := hrg
    refine s_k_farthestOf_4 ?_
    repeat' (first
      | (exact True.intro)
      | (exact hpre.1)
      | (refine And.intro ?_ ?_)
      | (refine (ih _ (by omega) _ _ rfl ?_); (first | omega | trivial))
      | (refine hP _ ?_; (refine ⟨by omega, by omega, ?_⟩; (omega)))
      | omega
      | (intro _))
def x_k_farthestOf : fw_X := fun as W Q => match as with
  | [.inr (.inl s_), .inl ma] => fw_if (Nat.beq s_ 268) ((2 ≤ (fw_g W 272 0) ∧ (fw_g W 272 0) ≤ 6) ∧ (∀ (v : Int), (-2147483648 ≤ v ∧ v ≤ 2147483647 ∧ (0 ≤ v ∧ v < (fw_g W 272 0))) → Q (some (.inl v)) W))
  | _ => False
theorem x_k_farthestOf_ok (d : Nat) (as : List fw_V) (W : fw_W) (Q : Option fw_V → fw_W → Prop) (hx : x_k_farthestOf as W Q) : jf fw_T (d + 1) 59 0 (fw_args 0 as) [] W Q := by
  unfold x_k_farthestOf at hx
  split at hx
  · rename_i s_ ma
    obtain ⟨e_, hpre, hQ⟩ := fw_if_ok hx
    have e_ := Nat.eq_of_beq_eq_true e_
    subst e_
    have hP := hQ
    refine s_k_farthestOf_0 ?_
    repeat' (first
      | (exact True.intro)
      | (exact hpre.1)
      | (refine And.intro ?_ ?_)
      | (refine (lm_k_farthestOf_4 (ma := ma) hpre hP _ _ _ rfl ?_); (first | omega | trivial))
      | (refine hP _ ?_; (refine ⟨by omega, by omega, ?_⟩; (omega)))
      | omega
      | (intro _))
  · exact hx.elim

def fr_58 : fw_P := [(0, 0, 0, 0, 1), (1, 2, 0, 0, 0), (2, 50, 4, 3, 0), (5, 50, 9, 0, 0), (8, 39, 0, 0, 0), (9, 0, 0, 0, 1), (10, 31, 0, 0, 0), (11, 3, 1, 0, 0), (12, 0, 0, 0, 0), (13, 3, 2, 0, 0), (14, 1, 1, 0, 0), (15, 20, 107, 0, 0), (18, 1, 2, 0, 0), (19, 2, 0, 0, 0), (20, 50, 4, 3, 0), (23, 50, 9, 0, 0), (26, 13, 107, 0, 0), (29, 2, 0, 0, 0), (30, 1, 1, 0, 0), (31, 64, 59, 1, 504), (34, 3, 3, 0, 0), (35, 1, 3, 0, 0), (36, 21, 43, 0, 0), (39, 0, 0, 0, 0), (40, 6, 52, 0, 0), (43, 2, 0, 0, 0), (44, 50, 4, 3, 0), (47, 50, 9, 2, 0), (50, 1, 3, 0, 0), (51, 52, 0, 0, 0), (52, 3, 4, 0, 0), (54, 0, 0, 0, 0), (55, 3, 5, 0, 0), (57, 1, 5, 0, 0), (59, 2, 0, 0, 0), (60, 50, 4, 3, 0), (63, 50, 9, 0, 0), (66, 13, 101, 0, 0), (69, 2, 0, 0, 0), (70, 50, 4, 4, 0), (73, 50, 10, 1, 0), (76, 1, 4, 0, 0), (78, 56, 0, 0, 0), (79, 1, 5, 0, 0), (81, 52, 0, 0, 0), (82, 0, 0, 0, 1), (83, 14, 95, 0, 0), (86, 1, 1, 0, 0), (87, 0, 0, 0, 1), (88, 1, 5, 0, 0), (90, 39, 0, 0, 0), (91, 0, 0, 0, -1), (92, 38, 0, 0, 0), (93, 36, 0, 0, 0), (94, 3, 1, 0, 0), (95, 5, 5, 0, 1), (98, 6, 57, 0, 0), (101, 5, 2, 0, 1), (104, 6, 14, 0, 0), (107, 1, 2, 0, 0), (108, 70, 0, 0, 0)]
theorem fr_58_ok : fw_mk 58 6 4 (some .int) fr_58 = true := by decide +kernel
def ct_k_wardensBy : List (Nat × fw_X) := [(59, x_k_farthestOf)]
theorem ct_k_wardensBy_ok (d : Nat) : fw_cok fw_T (d + 1) ct_k_wardensBy := by
  intro q hq as W Q h
  simp only [ct_k_wardensBy, List.mem_cons, List.not_mem_nil, or_false] at hq
  rcases hq with rfl
  · exact jc_of (x_k_farthestOf_ok (d + 0) as W Q h)
theorem s_k_wardensBy_0 {Post : Option fw_V → fw_W → Prop} {d : Nat} {W : fw_W}
    (hw_ : (0 ≤ (fw_g W 272 0) → (fw_g W 272 0) ≤ 14 → (-2147483648 ≤ (fw_shl (1 : Int) (fw_g W 272 0)) → (fw_shl (1 : Int) (fw_g W 272 0)) ≤ 2147483647 → ∀ v1 : Int, -2147483648 ≤ v1 → v1 ≤ 2147483647 → jf fw_T (d + 2) 58 14 [(0, .inr (.inl 268)), (1, .inl v1), (2, .inl (0 : Int))] [] W Post))) :
    jf fw_T (d + 2) 58 0 [(0, .inr (.inl 268))] [] W Post := fw_ok (n := 11) (ss := [(14, [0, 1, 2]), (57, [0, 1, 2, 4, 5])]) (hv := [10]) fr_58_ok fv_tryv_ok (ct_k_wardensBy_ok d) hw_

theorem s_k_wardensBy_57 {Post : Option fw_V → fw_W → Prop} {d : Nat} {W : fw_W} {ma wa at_ o : Int}
    (hw_ : (0 ≤ (fw_g W 272 0) → (fw_g W 272 0) ≤ 14 → (((fw_g W 272 0) ≤ o → -2147483648 ≤ wa + (1 : Int) ∧ wa + (1 : Int) ≤ 2147483647 ∧ (jf fw_T (d + 2) 58 14 [(0, .inr (.inl 268)), (1, .inl ma), (2, .inl (wa + (1 : Int)))] [] W Post)) ∧ (o < (fw_g W 272 0) → 0 ≤ at_ ∧ at_ < 14 ∧ (0 ≤ o ∧ o < 14 ∧ (∀ v1 : Int, -2147483648 ≤ v1 → v1 ≤ 2147483647 → (((1 : Int) < v1 → -2147483648 ≤ o + (1 : Int) ∧ o + (1 : Int) ≤ 2147483647 ∧ (jf fw_T (d + 2) 58 57 [(0, .inr (.inl 268)), (1, .inl ma), (2, .inl wa), (4, .inl at_), (5, .inl (o + (1 : Int)))] [] W Post)) ∧ (v1 ≤ (1 : Int) → (-2147483648 ≤ (fw_shl (1 : Int) o) → (fw_shl (1 : Int) o) ≤ 2147483647 → (-2147483648 ≤ (fw_xor (fw_shl (1 : Int) o) (-1 : Int)) → (fw_xor (fw_shl (1 : Int) o) (-1 : Int)) ≤ 2147483647 → (-2147483648 ≤ (fw_and ma (fw_xor (fw_shl (1 : Int) o) (-1 : Int))) → (fw_and ma (fw_xor (fw_shl (1 : Int) o) (-1 : Int))) ≤ 2147483647 → -2147483648 ≤ o + (1 : Int) ∧ o + (1 : Int) ≤ 2147483647 ∧ (jf fw_T (d + 2) 58 57 [(0, .inr (.inl 268)), (1, .inl (fw_and ma (fw_xor (fw_shl (1 : Int) o) (-1 : Int)))), (2, .inl wa), (4, .inl at_), (5, .inl (o + (1 : Int)))] [] W Post)))))))))))) :
    jf fw_T (d + 2) 58 57 [(0, .inr (.inl 268)), (1, .inl ma), (2, .inl wa), (4, .inl at_), (5, .inl o)] [] W Post := fw_ok (n := 25) (ss := [(14, [0, 1, 2]), (57, [0, 1, 2, 4, 5])]) (hv := [10]) fr_58_ok fv_tryv_ok (ct_k_wardensBy_ok d) hw_

theorem s_k_wardensBy_14 {Post : Option fw_V → fw_W → Prop} {d : Nat} {W : fw_W} {ma wa : Int}
    (hw_ : ((ma = 0 → (-2147483648 ≤ wa → wa ≤ 2147483647 → Post (some (.inl wa)) W)) ∧ (¬ ma = 0 → (0 ≤ (fw_g W 272 0) → (fw_g W 272 0) ≤ 14 → (((fw_g W 272 0) ≤ wa → (-2147483648 ≤ wa → wa ≤ 2147483647 → Post (some (.inl wa)) W)) ∧ (wa < (fw_g W 272 0) → (2 ≤ (fw_g W 272 0) ∧ (fw_g W 272 0) ≤ 6) ∧ (∀ (r1 : Int), ((-2147483648 ≤ r1 ∧ r1 ≤ 2147483647 ∧ (0 ≤ r1 ∧ r1 < (fw_g W 272 0)))) → ((¬ r1 = 0 → 0 ≤ r1 ∧ r1 < 14 ∧ (-1 ≤ (fw_g W 273 r1) → (fw_g W 273 r1) ≤ 13 → jf fw_T (d + 2) 58 57 [(0, .inr (.inl 268)), (1, .inl ma), (2, .inl wa), (4, .inl (fw_g W 273 r1)), (5, .inl (0 : Int))] [] W Post)) ∧ (r1 = 0 → jf fw_T (d + 2) 58 57 [(0, .inr (.inl 268)), (1, .inl ma), (2, .inl wa), (4, .inl (0 : Int)), (5, .inl (0 : Int))] [] W Post))))))))) :
    jf fw_T (d + 2) 58 14 [(0, .inr (.inl 268)), (1, .inl ma), (2, .inl wa)] [] W Post := fw_ok (n := 22) (ss := [(14, [0, 1, 2]), (57, [0, 1, 2, 4, 5])]) (hv := [10]) fr_58_ok fv_tryv_ok (ct_k_wardensBy_ok d) hw_

theorem lm_k_wardensBy_57 {Post : Option fw_V → fw_W → Prop} {d : Nat} {W : fw_W} (hpre : tr ((fw_g W 272 0)) (fun z_ => (fw_g W 273 z_)) ∧ 2 ≤ (fw_g W 272 0) ∧ (fw_g W 272 0) ≤ 6) (hP : ∀ (v : Int) , (-2147483648 ≤ v ∧ v ≤ 2147483647 ∧ (True)) → Post (some (.inl v)) W) (M14 : Int) (h14 : ∀ (ma wa : Int), 0 ≤ wa → ((fw_g W 272 0) - wa) < M14 → jf fw_T (d + 2) 58 14 [(0, .inr (.inl 268)), (1, .inl ma), (2, .inl wa)] [] W Post) : ∀ (m : Nat) (ma wa at_ o : Int), ((fw_g W 272 0) - o).toNat = m → 0 ≤ wa ∧ wa < (fw_g W 272 0) ∧ 0 ≤ o ∧ 0 ≤ at_ ∧ at_ < 14 → ((fw_g W 272 0) - wa) ≤ M14 → jf fw_T (d + 2) 58 57 [(0, .inr (.inl 268)), (1, .inl ma), (2, .inl wa), (4, .inl at_), (5, .inl o)] [] W Post := by
  intro m
  induction m using Nat.strongRecOn with
  | ind m ih =>
    intro ma wa at_ o hm hi e14
    refine jf_rng (fun hrg => ?_)
    have hrg : -2147483648 ≤ ma ∧ ma ≤ 2147483647 ∧ -2147483648 ≤ wa ∧ wa ≤ 2147483647 ∧ -2147483648 ≤ at_ ∧ at_ ≤ 2147483647 ∧ -2147483648 ≤ o ∧ o ≤ 2147483647 ∧ True := hrg
    refine s_k_wardensBy_57 ?_
    repeat' (first
      | (exact True.intro)
      | (exact hpre.1)
      | (refine And.intro ?_ ?_)
      | (refine (h14 _ _ ?_ (by omega)); (omega))
      | (refine (ih _ (by omega) _ _ _ _ rfl ?_ (by omega)); (first | omega | trivial))
      | (refine hP _ ?_; (refine ⟨by omega, by omega, ?_⟩; (first | trivial | omega)))
      | omega
      | (intro _))
theorem lm_k_wardensBy_14 {Post : Option fw_V → fw_W → Prop} {d : Nat} {W : fw_W} (hpre : tr ((fw_g W 272 0)) (fun z_ => (fw_g W 273 z_)) ∧ 2 ≤ (fw_g W 272 0) ∧ (fw_g W 272 0) ≤ 6) (hP : ∀ (v : Int) , (-2147483648 ≤ v ∧ v ≤ 2147483647 ∧ (True)) → Post (some (.inl v)) W)  : ∀ (m : Nat) (ma wa : Int), ((fw_g W 272 0) - wa).toNat = m → 0 ≤ wa → jf fw_T (d + 2) 58 14 [(0, .inr (.inl 268)), (1, .inl ma), (2, .inl wa)] [] W Post := by
  intro m
  induction m using Nat.strongRecOn with
  | ind m ih =>
    intro ma wa hm hi
    refine jf_rng (fun hrg => ?_)
    have hrg : -2147483648 ≤ ma ∧ ma ≤ 2147483647 ∧ -2147483648 ≤ wa ∧ wa ≤ 2147483647 ∧ True := hrg
    refine s_k_wardensBy_14 ?_
    repeat' (first
      | (exact True.intro)
      | (exact hpre.1)
      | (refine And.intro ?_ ?_)
      | (refine (ih _ (by omega) _ _ rfl ?_); (first | omega | trivial))
      | (refine (lm_k_wardensBy_57 hpre hP ((fw_g W 272 0) - wa) (fun a0 a1 hi hl => ih _ (by omega) a0 a1 rfl hi) _ _ _ _ _ rfl ?_ (by omega)); (
        first
          | omega
          | (rename_i r1 h1 w1 w2 w3
             have p := tr_p hpre.1 (h := r1) (by omega) (by omega)
             have p1 : 0 ≤ fw_g W 273 r1 ∧ fw_g W 273 r1 < fw_g W 272 0 := p
             omega)))
      | (refine hP _ ?_; (refine ⟨by omega, by omega, ?_⟩; (first | trivial | omega)))
      | (
         rename_i r1 h1 w1 w2
         have p := tr_p hpre.1 (h := r1) (by omega) (by omega)
         have p1 : 0 ≤ fw_g W 273 r1 ∧ fw_g W 273 r1 < fw_g W 272 0 := p
         omega)
      | omega
      | (intro _))
def x_k_wardensBy : fw_X := fun as W Q => match as with
  | [.inr (.inl s_)] => fw_if (Nat.beq s_ 268) ((tr ((fw_g W 272 0)) (fun z_ => (fw_g W 273 z_)) ∧ 2 ≤ (fw_g W 272 0) ∧ (fw_g W 272 0) ≤ 6) ∧ (∀ (v : Int), (-2147483648 ≤ v ∧ v ≤ 2147483647 ∧ (True)) → Q (some (.inl v)) W))
  | _ => False
theorem x_k_wardensBy_ok (d : Nat) (as : List fw_V) (W : fw_W) (Q : Option fw_V → fw_W → Prop) (hx : x_k_wardensBy as W Q) : jf fw_T (d + 2) 58 0 (fw_args 0 as) [] W Q := by
  unfold x_k_wardensBy at hx
  split at hx
  · rename_i s_
    obtain ⟨e_, hpre, hQ⟩ := fw_if_ok hx
    have e_ := Nat.eq_of_beq_eq_true e_
    subst e_
    have hP := hQ
    refine s_k_wardensBy_0 ?_
    repeat' (first
      | (exact True.intro)
      | (exact hpre.1)
      | (refine And.intro ?_ ?_)
      | (refine (lm_k_wardensBy_14 hpre hP _ _ _ rfl ?_); (first | omega | trivial))
      | (refine (lm_k_wardensBy_57 hpre hP M14 h14 _ _ _ _ _ rfl ?_ (by omega)); (first | omega | trivial))
      | (refine hP _ ?_; (refine ⟨by omega, by omega, ?_⟩; (first | trivial | omega)))
      | omega
      | (intro _))
  · exact hx.elim

def fv_wdT : List (Nat × ai_C) := [(296, .inr (.inr (.inr (6, [.inl (-2147483648, 2147483647, true), .inl (-2147483648, 2147483647, true), .inr (.inl [272]), .inr (.inl [276]), .inr (.inl [297]), .inr (.inl [298]), .inr (.inl [299]), .inr (.inl [300]), .inr (.inl [301]), .inr (.inl [302]), .inr (.inl [317])])))), (297, .inl (.int, 14, -2147483648, 2147483647, true)), (298, .inl (.int, 14, -2147483648, 2147483647, true)), (299, .inl (.int, 14, -2147483648, 2147483647, true)), (300, .inl (.int, 14, -2147483648, 2147483647, true)), (301, .inl (.int, 14, -2147483648, 2147483647, true)), (272, .inr (.inr (.inr (9, [.inl (0, 14, true), .inl (0, 999, true), .inr (.inl [273]), .inr (.inl [274]), .inr (.inl [275])])))), (273, .inl (.int, 14, -1, 13, true)), (274, .inl (.int, 14, 0, 99, true)), (275, .inl (.int, 14, 0, 99, true)), (276, .inr (.inr (.inr (10, [.inr (.inl [277]), .inr (.inl [278]), .inl (-2147483648, 2147483647, true), .inl (-2147483648, 2147483647, true), .inl (-2147483648, 2147483647, true), .inr (.inl [272]), .inr (.inl [293]), .inr (.inl [294]), .inr (.inl [295])])))), (277, .inl (.int, 14, 0, 13, true))]
def fg_wdT_G : fw_G := [(278, 14, 14, -2147483648, 2147483647), (302, 14, 14, -2147483648, 2147483647), (317, 5, 14, -2147483648, 2147483647)]
theorem fv_wdT_ok : fw_view fw_T fv_wdT fg_wdT_G := fw_vb_ok (by decide +kernel)
theorem s_k_freeAllT_0 {Post : Option fw_V → fw_W → Prop} {d : Nat} {W : fw_W}
    (hw_ : jf fw_T (d + 1) 77 2 [(0, .inr (.inl 296)), (1, .inl (0 : Int))] [] W Post) :
    jf fw_T (d + 1) 77 0 [(0, .inr (.inl 296))] [] W Post := fw_ok (n := 3) (ss := [(2, [0, 1])]) (hv := []) fr_77_ok fv_wdT_ok (fw_c0 _ _) hw_

theorem s_k_freeAllT_2 {Post : Option fw_V → fw_W → Prop} {d : Nat} {W : fw_W} {h : Int} {f : fw_W}
    (hw_ : (((14 : Int) ≤ h → Post none (fw_put [297] 0 [] W f)) ∧ (h < (14 : Int) → 0 ≤ h ∧ h < 14 ∧ -2147483648 ≤ (0 : Int) ∧ (0 : Int) ≤ 2147483647 ∧ (-2147483648 ≤ h + (1 : Int) ∧ h + (1 : Int) ≤ 2147483647 ∧ (jf fw_T (d + 1) 77 2 [(0, .inr (.inl 296)), (1, .inl (h + (1 : Int)))] [] (fw_up (fw_put [297] 0 [] W f) 297 h (0 : Int)) Post))))) :
    jf fw_T (d + 1) 77 2 [(0, .inr (.inl 296)), (1, .inl h)] [] (fw_put [297] 0 [] W f) Post := fw_ok (n := 11) (ss := [(2, [0, 1])]) (hv := []) fr_77_ok fv_wdT_ok (fw_c0 _ _) hw_

theorem lm_k_freeAllT_2 {Post : Option fw_V → fw_W → Prop} {d : Nat} {W : fw_W} (hpre : True) (hP : ∀ (W2 : fw_W), fw_sm [297] 0 [] W W2 → (True) → Post none W2)  : ∀ (m : Nat) (h : Int) (f : fw_W), (14 - h).toNat = m → 0 ≤ h → jf fw_T (d + 1) 77 2 [(0, .inr (.inl 296)), (1, .inl h)] [] (fw_put [297] 0 [] W f) Post := by
  intro m
  induction m using Nat.strongRecOn with
  | ind m ih =>
    intro h f hm hi
    refine jf_rng (fun hrg => ?_)
    have hrg : -2147483648 ≤ h ∧ h ≤ 2147483647 ∧ True := hrg
    refine s_k_freeAllT_2 ?_
    repeat' (first
      | (exact True.intro)
      | (exact hpre.1)
      | (refine And.intro ?_ ?_)
      | (refine jf_put (S := [297]) (o := 0) (F := []) (W := W) (by repeat (first | exact fw_sm_refl | exact fw_sm_put0 | refine fw_sm_arr ?_ rfl | refine fw_sm_up ?_ rfl | refine fw_sm_put ?_ rfl | refine fw_sm_cp ?_ rfl)) (ih _ (by omega) _ _ rfl ?_); (first | omega | trivial | (simp (config := { decide := true }) only [fg_in, fg_fin, fg_out, fg_fout, fg_up, fg_same, true_and, and_true] <;> omega)))
      | (refine hP _ (by repeat (first | exact fw_sm_refl | exact fw_sm_put0 | refine fw_sm_arr ?_ rfl | refine fw_sm_up ?_ rfl | refine fw_sm_put ?_ rfl | refine fw_sm_cp ?_ rfl)) ?_; (first | trivial | omega))
      | omega
      | (intro _))
def x_k_freeAllT : fw_X := fun as W Q => match as with
  | [.inr (.inl s_)] => fw_if (Nat.beq s_ 296) ((True) ∧ (∀ (f : fw_W), (True) → Q none (fw_put [297] 0 [] W f)))
  | _ => False
theorem x_k_freeAllT_ok (d : Nat) (as : List fw_V) (W : fw_W) (Q : Option fw_V → fw_W → Prop) (hx : x_k_freeAllT as W Q) : jf fw_T (d + 1) 77 0 (fw_args 0 as) [] W Q := by
  unfold x_k_freeAllT at hx
  split at hx
  · rename_i s_
    obtain ⟨e_, hpre, hQ⟩ := fw_if_ok hx
    have e_ := Nat.eq_of_beq_eq_true e_
    subst e_
    have hP : ∀ (W2 : fw_W), fw_sm [297] 0 [] W W2 → _ → Q none W2 := fun W2 hs hr => fw_sm_use (Q := fun Z => Q none Z) hs (hQ W2 hr)
    refine s_k_freeAllT_0 ?_
    repeat' (first
      | (exact True.intro)
      | (exact hpre.1)
      | (refine And.intro ?_ ?_)
      | (refine jf_put (S := [297]) (o := 0) (F := []) (W := W) (by repeat (first | exact fw_sm_refl | exact fw_sm_put0 | refine fw_sm_arr ?_ rfl | refine fw_sm_up ?_ rfl | refine fw_sm_put ?_ rfl | refine fw_sm_cp ?_ rfl)) (lm_k_freeAllT_2 hpre hP _ _ _ rfl ?_); (first | omega | trivial | (simp (config := { decide := true }) only [fg_in, fg_fin, fg_out, fg_fout, fg_up, fg_same, true_and, and_true] <;> omega)))
      | (refine hP _ (by repeat (first | exact fw_sm_refl | exact fw_sm_put0 | refine fw_sm_arr ?_ rfl | refine fw_sm_up ?_ rfl | refine fw_sm_put ?_ rfl | refine fw_sm_cp ?_ rfl)) ?_; (first | trivial | omega))
      | omega
      | (intro _))
  · exact hx.elim

theorem s_k_priceT_0 {Post : Option fw_V → fw_W → Prop} {d : Nat} {W : fw_W} {wa : Int}
    (hw_ : 0 ≤ wa ∧ wa < 14 ∧ (-2147483648 ≤ (fw_g W 297 wa) → (fw_g W 297 wa) ≤ 2147483647 → ((¬ (fw_g W 297 wa) = 0 → (-2147483648 ≤ (0 : Int) → (0 : Int) ≤ 2147483647 → Post (some (.inl (0 : Int))) W)) ∧ ((fw_g W 297 wa) = 0 → (-2147483648 ≤ (1 : Int) → (1 : Int) ≤ 2147483647 → Post (some (.inl (1 : Int))) W))))) :
    jf fw_T (d + 1) 79 0 [(0, .inr (.inl 296)), (1, .inl wa)] [] W Post := fw_ok (n := 9) (ss := []) (hv := []) fr_79_ok fv_wdT_ok (fw_c0 _ _) hw_

def x_k_priceT : fw_X := fun as W Q => match as with
  | [.inr (.inl s_), .inl wa] => fw_if (Nat.beq s_ 296) ((0 ≤ wa ∧ wa < 14) ∧ (∀ (v : Int), (-2147483648 ≤ v ∧ v ≤ 2147483647 ∧ (True)) → Q (some (.inl v)) W))
  | _ => False
theorem x_k_priceT_ok (d : Nat) (as : List fw_V) (W : fw_W) (Q : Option fw_V → fw_W → Prop) (hx : x_k_priceT as W Q) : jf fw_T (d + 1) 79 0 (fw_args 0 as) [] W Q := by
  unfold x_k_priceT at hx
  split at hx
  · rename_i s_ wa
    obtain ⟨e_, hpre, hQ⟩ := fw_if_ok hx
    have e_ := Nat.eq_of_beq_eq_true e_
    subst e_
    have hP := hQ
    refine s_k_priceT_0 ?_
    repeat' (first
      | (exact True.intro)
      | (exact hpre.1)
      | (refine And.intro ?_ ?_)
      | (refine hP _ ?_; (refine ⟨by omega, by omega, ?_⟩; (first | trivial | omega)))
      | omega
      | (intro _))
  · exact hx.elim

def ct_k_serveT : List (Nat × fw_X) := [(111, x_k_hasT), (79, x_k_priceT)]
theorem ct_k_serveT_ok (d : Nat) : fw_cok fw_T (d + 1) ct_k_serveT := by
  intro q hq as W Q h
  simp only [ct_k_serveT, List.mem_cons, List.not_mem_nil, or_false] at hq
  rcases hq with rfl | rfl
  · exact jc_of (x_k_hasT_ok (d + 0) as W Q h)
  · exact jc_of (x_k_priceT_ok (d + 0) as W Q h)
theorem s_k_serveT_0 {Post : Option fw_V → fw_W → Prop} {d : Nat} {W : fw_W} {h dd : Int}
    (hw_ : 0 ≤ h ∧ h < 14 ∧ -2147483648 ≤ (1000000 : Int) ∧ (1000000 : Int) ≤ 2147483647 ∧ (jf fw_T (d + 2) 80 10 [(0, .inr (.inl 296)), (1, .inl h), (2, .inl dd), (3, .inl (0 : Int))] [] (fw_up W 301 h (1000000 : Int)) Post)) :
    jf fw_T (d + 2) 80 0 [(0, .inr (.inl 296)), (1, .inl h), (2, .inl dd)] [] W Post := fw_ok (n := 8) (ss := [(10, [0, 1, 2, 3]), (110, [0, 1, 3, 4])]) (hv := [137, 161]) fr_80_ok fv_wdT_ok (ct_k_serveT_ok d) hw_

theorem s_k_serveT_110 {Post : Option fw_V → fw_W → Prop} {d : Nat} {W : fw_W} {h wa wb : Int} {f : fw_W}
    (hw_ : (0 ≤ (fw_g W 272 0) → (fw_g W 272 0) ≤ 14 → (((fw_g W 272 0) ≤ wb → Post none (fw_put [301] 0 [] W f)) ∧ (wb < (fw_g W 272 0) → 0 ≤ h ∧ h < 14 ∧ (0 ≤ wb ∧ wb < 14 ∧ (∀ v1 : Int, -2147483648 ≤ v1 → v1 ≤ 2147483647 → (0 ≤ wb ∧ wb < 14) ∧ (∀ (r2 : Int), ((-2147483648 ≤ r2 ∧ r2 ≤ 2147483647 ∧ (True))) → ∀ v3 : Int, -2147483648 ≤ v3 → v3 ≤ 2147483647 → 0 ≤ wa ∧ wa < 14 ∧ (0 ≤ wb ∧ wb < 14 ∧ (∀ v4 : Int, -2147483648 ≤ v4 → v4 ≤ 2147483647 → 0 ≤ h ∧ h < 14 ∧ (-2147483648 ≤ (fw_g f 301 h) → (fw_g f 301 h) ≤ 2147483647 → ∀ v5 : Int, -2147483648 ≤ v5 → v5 ≤ 2147483647 → 0 ≤ wb ∧ wb < 14 ∧ -2147483648 ≤ v5 ∧ v5 ≤ 2147483647 ∧ (-2147483648 ≤ wb + (1 : Int) ∧ wb + (1 : Int) ≤ 2147483647 ∧ (jf fw_T (d + 2) 80 110 [(0, .inr (.inl 296)), (1, .inl h), (3, .inl wa), (4, .inl (wb + (1 : Int)))] [] (fw_put [301] 0 [] W f) Post)))))))))))) :
    jf fw_T (d + 2) 80 110 [(0, .inr (.inl 296)), (1, .inl h), (3, .inl wa), (4, .inl wb)] [] (fw_put [301] 0 [] W f) Post := fw_ok (n := 34) (ss := [(10, [0, 1, 2, 3]), (110, [0, 1, 3, 4])]) (hv := [137, 161]) fr_80_ok fv_wdT_ok (ct_k_serveT_ok d) hw_

theorem s_k_serveT_10 {Post : Option fw_V → fw_W → Prop} {d : Nat} {W : fw_W} {h dd wa : Int} {f : fw_W}
    (hw_ : (0 ≤ (fw_g W 272 0) → (fw_g W 272 0) ≤ 14 → (((fw_g W 272 0) ≤ wa → 0 ≤ h ∧ h < 14 ∧ (-1 ≤ (fw_g W 273 h) → (fw_g W 273 h) ≤ 13 → (True) ∧ (∀ (r1 : Int), ((0 ≤ r1 ∧ r1 ≤ 1 ∧ ((r1 = 1 ∧ 0 ≤ (fw_g W 273 h) ∧ (fw_g W 273 h) < (fw_g W 272 0)) ∨ (r1 = 0 ∧ ((fw_g W 273 h) < 0 ∨ (fw_g W 272 0) ≤ (fw_g W 273 h)))))) → ((¬ r1 = 0 → jf fw_T (d + 2) 80 110 [(0, .inr (.inl 296)), (1, .inl h), (3, .inl (fw_g W 273 h)), (4, .inl (0 : Int))] [] (fw_put [301] 0 [] W f) Post) ∧ (r1 = 0 → Post none (fw_put [301] 0 [] W f)))))) ∧ (wa < (fw_g W 272 0) → 0 ≤ wa ∧ wa < 14 ∧ (-2147483648 ≤ (fw_g W 297 wa) → (fw_g W 297 wa) ≤ 2147483647 → (((fw_g W 297 wa) = (2 : Int) → 0 ≤ h ∧ h < 14 ∧ (0 ≤ wa ∧ wa < 14 ∧ -2147483648 ≤ (1000000 : Int) ∧ (1000000 : Int) ≤ 2147483647 ∧ (0 ≤ h ∧ h < 14 ∧ (-2147483648 ≤ (fw_g f 301 h) → (fw_g f 301 h) ≤ 2147483647 → 0 ≤ h ∧ h < 14 ∧ (0 ≤ wa ∧ wa < 14 ∧ (∀ v2 : Int, -2147483648 ≤ v2 → v2 ≤ 2147483647 → 0 ≤ h ∧ h < 14 ∧ -2147483648 ≤ (min (fw_g f 301 h) v2) ∧ (min (fw_g f 301 h) v2) ≤ 2147483647 ∧ (-2147483648 ≤ wa + (1 : Int) ∧ wa + (1 : Int) ≤ 2147483647 ∧ (jf fw_T (d + 2) 80 10 [(0, .inr (.inl 296)), (1, .inl h), (2, .inl dd), (3, .inl (wa + (1 : Int)))] [] (fw_up (fw_put [301] 0 [] W f) 301 h (min (fw_g f 301 h) v2)) Post)))))))) ∧ (¬ (fw_g W 297 wa) = (2 : Int) → 0 ≤ h ∧ h < 14 ∧ (0 ≤ wa ∧ wa < 14 ∧ (∀ v3 : Int, -2147483648 ≤ v3 → v3 ≤ 2147483647 → ((v3 ≤ dd → 0 ≤ h ∧ h < 14 ∧ (-2147483648 ≤ (fw_g f 301 h) → (fw_g f 301 h) ≤ 2147483647 → 0 ≤ h ∧ h < 14 ∧ (0 ≤ wa ∧ wa < 14 ∧ (∀ v4 : Int, -2147483648 ≤ v4 → v4 ≤ 2147483647 → 0 ≤ h ∧ h < 14 ∧ -2147483648 ≤ (min (fw_g f 301 h) v4) ∧ (min (fw_g f 301 h) v4) ≤ 2147483647 ∧ (-2147483648 ≤ wa + (1 : Int) ∧ wa + (1 : Int) ≤ 2147483647 ∧ (jf fw_T (d + 2) 80 10 [(0, .inr (.inl 296)), (1, .inl h), (2, .inl dd), (3, .inl (wa + (1 : Int)))] [] (fw_up (fw_put [301] 0 [] W f) 301 h (min (fw_g f 301 h) v4)) Post)))))) ∧ (dd < v3 → 0 ≤ h ∧ h < 14 ∧ (0 ≤ wa ∧ wa < 14 ∧ -2147483648 ≤ (1000000 : Int) ∧ (1000000 : Int) ≤ 2147483647 ∧ (0 ≤ h ∧ h < 14 ∧ (-2147483648 ≤ (fw_g f 301 h) → (fw_g f 301 h) ≤ 2147483647 → 0 ≤ h ∧ h < 14 ∧ (0 ≤ wa ∧ wa < 14 ∧ (∀ v5 : Int, -2147483648 ≤ v5 → v5 ≤ 2147483647 → 0 ≤ h ∧ h < 14 ∧ -2147483648 ≤ (min (fw_g f 301 h) v5) ∧ (min (fw_g f 301 h) v5) ≤ 2147483647 ∧ (-2147483648 ≤ wa + (1 : Int) ∧ wa + (1 : Int) ≤ 2147483647 ∧ (jf fw_T (d + 2) 80 10 [(0, .inr (.inl 296)), (1, .inl h), (2, .inl dd), (3, .inl (wa + (1 : Int)))] [] (fw_up (fw_put [301] 0 [] W f) 301 h (min (fw_g f 301 h) v5)) Post)))))))))))))))))) :
    jf fw_T (d + 2) 80 10 [(0, .inr (.inl 296)), (1, .inl h), (2, .inl dd), (3, .inl wa)] [] (fw_put [301] 0 [] W f) Post := fw_ok (n := 45) (ss := [(10, [0, 1, 2, 3]), (110, [0, 1, 3, 4])]) (hv := [137, 161]) fr_80_ok fv_wdT_ok (ct_k_serveT_ok d) hw_

theorem lm_k_serveT_110 {Post : Option fw_V → fw_W → Prop} {d : Nat} {W : fw_W} {h dd : Int} (hpre : 0 ≤ h ∧ h < 14 ∧ 0 ≤ (fw_g W 272 0) ∧ (fw_g W 272 0) ≤ 14) (hP : ∀ (W2 : fw_W), fw_sm [301] 0 [] W W2 → (True) → Post none W2)  : ∀ (m : Nat) (wa wb : Int) (f : fw_W), ((fw_g W 272 0) - wb).toNat = m → 0 ≤ wb ∧ 0 ≤ wa ∧ wa < 14 → jf fw_T (d + 2) 80 110 [(0, .inr (.inl 296)), (1, .inl h), (3, .inl wa), (4, .inl wb)] [] (fw_put [301] 0 [] W f) Post := by
  intro m
  induction m using Nat.strongRecOn with
  | ind m ih =>
    intro wa wb f hm hi
    refine jf_rng (fun hrg => ?_)
    have hrg : -2147483648 ≤ h ∧ h ≤ 2147483647 ∧ -2147483648 ≤ wa ∧ wa ≤ 2147483647 ∧ -2147483648 ≤ wb ∧ wb ≤ 2147483647 ∧ True := hrg
    refine s_k_serveT_110 ?_
    repeat' (first
      | (exact True.intro)
      | (exact hpre.1)
      | (refine And.intro ?_ ?_)
      | (refine jf_put (S := [301]) (o := 0) (F := []) (W := W) (by repeat (first | exact fw_sm_refl | exact fw_sm_put0 | refine fw_sm_arr ?_ rfl | refine fw_sm_up ?_ rfl | refine fw_sm_put ?_ rfl | refine fw_sm_cp ?_ rfl)) (ih _ (by omega) _ _ _ rfl ?_); (first | omega | trivial | (simp (config := { decide := true }) only [fg_in, fg_fin, fg_out, fg_fout, fg_up, fg_same, true_and, and_true] <;> omega)))
      | (refine hP _ (by repeat (first | exact fw_sm_refl | exact fw_sm_put0 | refine fw_sm_arr ?_ rfl | refine fw_sm_up ?_ rfl | refine fw_sm_put ?_ rfl | refine fw_sm_cp ?_ rfl)) ?_; (first | trivial | omega))
      | omega
      | (intro _))
theorem lm_k_serveT_10 {Post : Option fw_V → fw_W → Prop} {d : Nat} {W : fw_W} {h dd : Int} (hpre : 0 ≤ h ∧ h < 14 ∧ 0 ≤ (fw_g W 272 0) ∧ (fw_g W 272 0) ≤ 14) (hP : ∀ (W2 : fw_W), fw_sm [301] 0 [] W W2 → (True) → Post none W2)  : ∀ (m : Nat) (wa : Int) (f : fw_W), ((fw_g W 272 0) - wa).toNat = m → 0 ≤ wa → jf fw_T (d + 2) 80 10 [(0, .inr (.inl 296)), (1, .inl h), (2, .inl dd), (3, .inl wa)] [] (fw_put [301] 0 [] W f) Post := by
  intro m
  induction m using Nat.strongRecOn with
  | ind m ih =>
    intro wa f hm hi
    refine jf_rng (fun hrg => ?_)
    have hrg : -2147483648 ≤ h ∧ h ≤ 2147483647 ∧ -2147483648 ≤ dd ∧ dd ≤ 2147483647 ∧ -2147483648 ≤ wa ∧ wa ≤ 2147483647 ∧ True := hrg
    refine s_k_serveT_10 ?_
    repeat' (first
      | (exact True.intro)
      | (exact hpre.1)
      | (refine And.intro ?_ ?_)
      | (refine jf_put (S := [301]) (o := 0) (F := []) (W := W) (by repeat (first | exact fw_sm_refl | exact fw_sm_put0 | refine fw_sm_arr ?_ rfl | refine fw_sm_up ?_ rfl | refine fw_sm_put ?_ rfl | refine fw_sm_cp ?_ rfl)) (ih _ (by omega) _ _ rfl ?_); (first | omega | trivial | (simp (config := { decide := true }) only [fg_in, fg_fin, fg_out, fg_fout, fg_up, fg_same, true_and, and_true] <;> omega)))
      | (refine jf_put (S := [301]) (o := 0) (F := []) (W := W) (by repeat (first | exact fw_sm_refl | exact fw_sm_put0 | refine fw_sm_arr ?_ rfl | refine fw_sm_up ?_ rfl | refine fw_sm_put ?_ rfl | refine fw_sm_cp ?_ rfl)) (lm_k_serveT_110 (h := h) (dd := dd) hpre hP _ _ _ _ rfl ?_); (first | omega | trivial | (simp (config := { decide := true }) only [fg_in, fg_fin, fg_out, fg_fout, fg_up, fg_same, true_and, and_true] <;> omega)))
      | (refine hP _ (by repeat (first | exact fw_sm_refl | exact fw_sm_put0 | refine fw_sm_arr ?_ rfl | refine fw_sm_up ?_ rfl | refine fw_sm_put ?_ rfl | refine fw_sm_cp ?_ rfl)) ?_; (first | trivial | omega))
      | omega
      | (intro _))
def x_k_serveT : fw_X := fun as W Q => match as with
  | [.inr (.inl s_), .inl h, .inl dd] => fw_if (Nat.beq s_ 296) ((0 ≤ h ∧ h < 14 ∧ 0 ≤ (fw_g W 272 0) ∧ (fw_g W 272 0) ≤ 14) ∧ (∀ (f : fw_W), (True) → Q none (fw_put [301] 0 [] W f)))
  | _ => False
theorem x_k_serveT_ok (d : Nat) (as : List fw_V) (W : fw_W) (Q : Option fw_V → fw_W → Prop) (hx : x_k_serveT as W Q) : jf fw_T (d + 2) 80 0 (fw_args 0 as) [] W Q := by
  unfold x_k_serveT at hx
  split at hx
  · rename_i s_ h dd
    obtain ⟨e_, hpre, hQ⟩ := fw_if_ok hx
    have e_ := Nat.eq_of_beq_eq_true e_
    subst e_
    have hP : ∀ (W2 : fw_W), fw_sm [301] 0 [] W W2 → _ → Q none W2 := fun W2 hs hr => fw_sm_use (Q := fun Z => Q none Z) hs (hQ W2 hr)
    refine s_k_serveT_0 ?_
    repeat' (first
      | (exact True.intro)
      | (exact hpre.1)
      | (refine And.intro ?_ ?_)
      | (refine jf_put (S := [301]) (o := 0) (F := []) (W := W) (by repeat (first | exact fw_sm_refl | exact fw_sm_put0 | refine fw_sm_arr ?_ rfl | refine fw_sm_up ?_ rfl | refine fw_sm_put ?_ rfl | refine fw_sm_cp ?_ rfl)) (lm_k_serveT_10 (h := h) (dd := dd) hpre hP _ _ _ rfl ?_); (first | omega | trivial | (simp (config := { decide := true }) only [fg_in, fg_fin, fg_out, fg_fout, fg_up, fg_same, true_and, and_true] <;> omega)))
      | (refine jf_put (S := [301]) (o := 0) (F := []) (W := W) (by repeat (first | exact fw_sm_refl | exact fw_sm_put0 | refine fw_sm_arr ?_ rfl | refine fw_sm_up ?_ rfl | refine fw_sm_put ?_ rfl | refine fw_sm_cp ?_ rfl)) (lm_k_serveT_110 (h := h) (dd := dd) hpre hP _ _ _ _ rfl ?_); (first | omega | trivial | (simp (config := { decide := true }) only [fg_in, fg_fin, fg_out, fg_fout, fg_up, fg_same, true_and, and_true] <;> omega)))
      | (refine hP _ (by repeat (first | exact fw_sm_refl | exact fw_sm_put0 | refine fw_sm_arr ?_ rfl | refine fw_sm_up ?_ rfl | refine fw_sm_put ?_ rfl | refine fw_sm_cp ?_ rfl)) ?_; (first | trivial | omega))
      | omega
      | (intro _))
  · exact hx.elim

def ct_k_wwcT : List (Nat × fw_X) := [(79, x_k_priceT), (80, x_k_serveT)]
theorem ct_k_wwcT_ok (d : Nat) : fw_cok fw_T (d + 2) ct_k_wwcT := by
  intro q hq as W Q h
  simp only [ct_k_wwcT, List.mem_cons, List.not_mem_nil, or_false] at hq
  rcases hq with rfl | rfl
  · exact jc_of (x_k_priceT_ok (d + 1) as W Q h)
  · exact jc_of (x_k_serveT_ok (d + 0) as W Q h)
theorem s_k_wwcT_0 {Post : Option fw_V → fw_W → Prop} {d : Nat} {W : fw_W} {dd : Int}
    (hw_ : (0 ≤ (fw_g W 272 0) → (fw_g W 272 0) ≤ 14 → ((¬ (fw_g W 272 0) = 0 → jf fw_T (d + 3) 78 16 [(0, .inr (.inl 296)), (1, .inl dd), (2, .inl (0 : Int)), (3, .inl (0 : Int))] [] W Post) ∧ ((fw_g W 272 0) = 0 → (-2147483648 ≤ (0 : Int) → (0 : Int) ≤ 2147483647 → Post (some (.inl (0 : Int))) W))))) :
    jf fw_T (d + 3) 78 0 [(0, .inr (.inl 296)), (1, .inl dd)] [] W Post := fw_ok (n := 9) (ss := [(16, [0, 1, 2, 3]), (43, [0, 1, 2, 3, 4]), (92, [0, 1, 2, 3])]) (hv := [37, 123]) fr_78_ok fv_wdT_ok (ct_k_wwcT_ok d) hw_

theorem s_k_wwcT_43 {Post : Option fw_V → fw_W → Prop} {d : Nat} {W : fw_W} {dd se h wa : Int} {f : fw_W}
    (hw_ : (0 ≤ (fw_g W 272 0) → (fw_g W 272 0) ≤ 14 → (((fw_g W 272 0) ≤ wa → -2147483648 ≤ h + (1 : Int) ∧ h + (1 : Int) ≤ 2147483647 ∧ (jf fw_T (d + 3) 78 16 [(0, .inr (.inl 296)), (1, .inl dd), (2, .inl se), (3, .inl (h + (1 : Int)))] [] (fw_put [301] 0 [] W f) Post)) ∧ (wa < (fw_g W 272 0) → 0 ≤ h ∧ h < 14 ∧ ((0 ≤ wa ∧ wa < 14) ∧ (∀ (r1 : Int), ((-2147483648 ≤ r1 ∧ r1 ≤ 2147483647 ∧ (True))) → 0 ≤ wa ∧ wa < 14 ∧ -2147483648 ≤ r1 ∧ r1 ≤ 2147483647 ∧ (-2147483648 ≤ wa + (1 : Int) ∧ wa + (1 : Int) ≤ 2147483647 ∧ (jf fw_T (d + 3) 78 43 [(0, .inr (.inl 296)), (1, .inl dd), (2, .inl se), (3, .inl h), (4, .inl (wa + (1 : Int)))] [] (fw_put [301] 0 [] W f) Post)))))))) :
    jf fw_T (d + 3) 78 43 [(0, .inr (.inl 296)), (1, .inl dd), (2, .inl se), (3, .inl h), (4, .inl wa)] [] (fw_put [301] 0 [] W f) Post := fw_ok (n := 17) (ss := [(16, [0, 1, 2, 3]), (43, [0, 1, 2, 3, 4]), (92, [0, 1, 2, 3])]) (hv := [37, 123]) fr_78_ok fv_wdT_ok (ct_k_wwcT_ok d) hw_

theorem s_k_wwcT_92 {Post : Option fw_V → fw_W → Prop} {d : Nat} {W : fw_W} {dd se h : Int} {f : fw_W}
    (hw_ : ((h < 0 → 0 ≤ (0 : Int) ∧ (0 : Int) < 14 ∧ (-2147483648 ≤ (fw_g f 301 (0 : Int)) → (fw_g f 301 (0 : Int)) ≤ 2147483647 → ∀ v1 : Int, -2147483648 ≤ v1 → v1 ≤ 2147483647 → (-2147483648 ≤ v1 → v1 ≤ 2147483647 → Post (some (.inl v1)) (fw_put [301] 0 [] W f)))) ∧ (0 ≤ h → 0 ≤ h ∧ h < 14 ∧ (0 ≤ (fw_g W 277 h) → (fw_g W 277 h) ≤ 13 → (0 ≤ (fw_g W 277 h) ∧ (fw_g W 277 h) < 14 ∧ 0 ≤ (fw_g W 272 0) ∧ (fw_g W 272 0) ≤ 14) ∧ (∀ (f2 : fw_W), ((True)) → -2147483648 ≤ h + (-1 : Int) ∧ h + (-1 : Int) ≤ 2147483647 ∧ (jf fw_T (d + 3) 78 92 [(0, .inr (.inl 296)), (1, .inl dd), (2, .inl se), (3, .inl (h + (-1 : Int)))] [] (fw_put [301] 0 [] (fw_put [301] 0 [] W f) f2) Post)))))) :
    jf fw_T (d + 3) 78 92 [(0, .inr (.inl 296)), (1, .inl dd), (2, .inl se), (3, .inl h)] [] (fw_put [301] 0 [] W f) Post := fw_ok (n := 13) (ss := [(16, [0, 1, 2, 3]), (43, [0, 1, 2, 3, 4]), (92, [0, 1, 2, 3])]) (hv := [37, 123]) fr_78_ok fv_wdT_ok (ct_k_wwcT_ok d) hw_

theorem s_k_wwcT_16 {Post : Option fw_V → fw_W → Prop} {d : Nat} {W : fw_W} {dd se h : Int} {f : fw_W}
    (hw_ : (0 ≤ (fw_g W 272 0) → (fw_g W 272 0) ≤ 14 → (((fw_g W 272 0) ≤ h → (0 ≤ (fw_g W 272 0) → (fw_g W 272 0) ≤ 14 → -2147483648 ≤ (fw_g W 272 0) - (1 : Int) ∧ (fw_g W 272 0) - (1 : Int) ≤ 2147483647 ∧ (jf fw_T (d + 3) 78 92 [(0, .inr (.inl 296)), (1, .inl dd), (2, .inl se), (3, .inl ((fw_g W 272 0) - (1 : Int)))] [] (fw_put [301] 0 [] W f) Post))) ∧ (h < (fw_g W 272 0) → 0 ≤ h ∧ h < 14 ∧ (-2147483648 ≤ (fw_g W 297 h) → (fw_g W 297 h) ≤ 2147483647 → ((¬ (fw_g W 297 h) = (1 : Int) → jf fw_T (d + 3) 78 43 [(0, .inr (.inl 296)), (1, .inl dd), (2, .inl se), (3, .inl h), (4, .inl (0 : Int))] [] (fw_put [301] 0 [] W f) Post) ∧ ((fw_g W 297 h) = (1 : Int) → ∀ v1 : Int, -2147483648 ≤ v1 → v1 ≤ 2147483647 → jf fw_T (d + 3) 78 43 [(0, .inr (.inl 296)), (1, .inl dd), (2, .inl v1), (3, .inl h), (4, .inl (0 : Int))] [] (fw_put [301] 0 [] W f) Post))))))) :
    jf fw_T (d + 3) 78 16 [(0, .inr (.inl 296)), (1, .inl dd), (2, .inl se), (3, .inl h)] [] (fw_put [301] 0 [] W f) Post := fw_ok (n := 15) (ss := [(16, [0, 1, 2, 3]), (43, [0, 1, 2, 3, 4]), (92, [0, 1, 2, 3])]) (hv := [37, 123]) fr_78_ok fv_wdT_ok (ct_k_wwcT_ok d) hw_

theorem lm_k_wwcT_43 {Post : Option fw_V → fw_W → Prop} {d : Nat} {W : fw_W} {dd : Int} (hpre : 0 ≤ (fw_g W 272 0) ∧ (fw_g W 272 0) ≤ 14) (hP : ∀ (v : Int) (W2 : fw_W), fw_sm [301] 0 [] W W2 → (-2147483648 ≤ v ∧ v ≤ 2147483647 ∧ (True)) → Post (some (.inl v)) W2) (M16 : Int) (h16 : ∀ (se h : Int) (f : fw_W), 0 ≤ h → ((fw_g W 272 0) - h) < M16 → jf fw_T (d + 3) 78 16 [(0, .inr (.inl 296)), (1, .inl dd), (2, .inl se), (3, .inl h)] [] (fw_put [301] 0 [] W f) Post) : ∀ (m : Nat) (se h wa : Int) (f : fw_W), ((fw_g W 272 0) - wa).toNat = m → 0 ≤ wa ∧ 0 ≤ h ∧ h < (fw_g W 272 0) → ((fw_g W 272 0) - h) ≤ M16 → jf fw_T (d + 3) 78 43 [(0, .inr (.inl 296)), (1, .inl dd), (2, .inl se), (3, .inl h), (4, .inl wa)] [] (fw_put [301] 0 [] W f) Post := by
  intro m
  induction m using Nat.strongRecOn with
  | ind m ih =>
    intro se h wa f hm hi e16
    refine jf_rng (fun hrg => ?_)
    have hrg : -2147483648 ≤ dd ∧ dd ≤ 2147483647 ∧ -2147483648 ≤ se ∧ se ≤ 2147483647 ∧ -2147483648 ≤ h ∧ h ≤ 2147483647 ∧ -2147483648 ≤ wa ∧ wa ≤ 2147483647 ∧ True := hrg
    refine s_k_wwcT_43 ?_
    repeat' (first
      | (exact True.intro)
      | (exact hpre.1)
      | (refine And.intro ?_ ?_)
      | (refine jf_put (S := [301]) (o := 0) (F := []) (W := W) (by repeat (first | exact fw_sm_refl | exact fw_sm_put0 | refine fw_sm_arr ?_ rfl | refine fw_sm_up ?_ rfl | refine fw_sm_put ?_ rfl | refine fw_sm_cp ?_ rfl)) (h16 _ _ _ ?_ (by omega)); (first | omega | trivial | (simp (config := { decide := true }) only [fg_in, fg_fin, fg_out, fg_fout, fg_up, fg_same, true_and, and_true] <;> omega)))
      | (refine jf_put (S := [301]) (o := 0) (F := []) (W := W) (by repeat (first | exact fw_sm_refl | exact fw_sm_put0 | refine fw_sm_arr ?_ rfl | refine fw_sm_up ?_ rfl | refine fw_sm_put ?_ rfl | refine fw_sm_cp ?_ rfl)) (ih _ (by omega) _ _ _ _ rfl ?_ (by omega)); (first | omega | trivial | (simp (config := { decide := true }) only [fg_in, fg_fin, fg_out, fg_fout, fg_up, fg_same, true_and, and_true] <;> omega)))
      | (refine hP _ _ (by repeat (first | exact fw_sm_refl | exact fw_sm_put0 | refine fw_sm_arr ?_ rfl | refine fw_sm_up ?_ rfl | refine fw_sm_put ?_ rfl | refine fw_sm_cp ?_ rfl)) ?_; (refine ⟨by omega, by omega, ?_⟩; (first | trivial | omega)))
      | omega
      | (intro _))
theorem lm_k_wwcT_92 {Post : Option fw_V → fw_W → Prop} {d : Nat} {W : fw_W} {dd : Int} (hpre : 0 ≤ (fw_g W 272 0) ∧ (fw_g W 272 0) ≤ 14) (hP : ∀ (v : Int) (W2 : fw_W), fw_sm [301] 0 [] W W2 → (-2147483648 ≤ v ∧ v ≤ 2147483647 ∧ (True)) → Post (some (.inl v)) W2)  : ∀ (m : Nat) (se h : Int) (f : fw_W), (h + 1).toNat = m → h < 14 → jf fw_T (d + 3) 78 92 [(0, .inr (.inl 296)), (1, .inl dd), (2, .inl se), (3, .inl h)] [] (fw_put [301] 0 [] W f) Post := by
  intro m
  induction m using Nat.strongRecOn with
  | ind m ih =>
    intro se h f hm hi
    refine jf_rng (fun hrg => ?_)
    have hrg : -2147483648 ≤ dd ∧ dd ≤ 2147483647 ∧ -2147483648 ≤ se ∧ se ≤ 2147483647 ∧ -2147483648 ≤ h ∧ h ≤ 2147483647 ∧ True := hrg
    refine s_k_wwcT_92 ?_
    repeat' (first
      | (exact True.intro)
      | (exact hpre.1)
      | (refine And.intro ?_ ?_)
      | (refine jf_put (S := [301]) (o := 0) (F := []) (W := W) (by repeat (first | exact fw_sm_refl | exact fw_sm_put0 | refine fw_sm_arr ?_ rfl | refine fw_sm_up ?_ rfl | refine fw_sm_put ?_ rfl | refine fw_sm_cp ?_ rfl)) (ih _ (by omega) _ _ _ rfl ?_); (first | omega | trivial | (simp (config := { decide := true }) only [fg_in, fg_fin, fg_out, fg_fout, fg_up, fg_same, true_and, and_true] <;> omega)))
      | (refine hP _ _ (by repeat (first | exact fw_sm_refl | exact fw_sm_put0 | refine fw_sm_arr ?_ rfl | refine fw_sm_up ?_ rfl | refine fw_sm_put ?_ rfl | refine fw_sm_cp ?_ rfl)) ?_; (refine ⟨by omega, by omega, ?_⟩; (first | trivial | omega)))
      | omega
      | (intro _))
theorem lm_k_wwcT_16 {Post : Option fw_V → fw_W → Prop} {d : Nat} {W : fw_W} {dd : Int} (hpre : 0 ≤ (fw_g W 272 0) ∧ (fw_g W 272 0) ≤ 14) (hP : ∀ (v : Int) (W2 : fw_W), fw_sm [301] 0 [] W W2 → (-2147483648 ≤ v ∧ v ≤ 2147483647 ∧ (True)) → Post (some (.inl v)) W2)  : ∀ (m : Nat) (se h : Int) (f : fw_W), ((fw_g W 272 0) - h).toNat = m → 0 ≤ h → jf fw_T (d + 3) 78 16 [(0, .inr (.inl 296)), (1, .inl dd), (2, .inl se), (3, .inl h)] [] (fw_put [301] 0 [] W f) Post := by
  intro m
  induction m using Nat.strongRecOn with
  | ind m ih =>
    intro se h f hm hi
    refine jf_rng (fun hrg => ?_)
    have hrg : -2147483648 ≤ dd ∧ dd ≤ 2147483647 ∧ -2147483648 ≤ se ∧ se ≤ 2147483647 ∧ -2147483648 ≤ h ∧ h ≤ 2147483647 ∧ True := hrg
    refine s_k_wwcT_16 ?_
    repeat' (first
      | (exact True.intro)
      | (exact hpre.1)
      | (refine And.intro ?_ ?_)
      | (refine jf_put (S := [301]) (o := 0) (F := []) (W := W) (by repeat (first | exact fw_sm_refl | exact fw_sm_put0 | refine fw_sm_arr ?_ rfl | refine fw_sm_up ?_ rfl | refine fw_sm_put ?_ rfl | refine fw_sm_cp ?_ rfl)) (ih _ (by omega) _ _ _ rfl ?_); (first | omega | trivial | (simp (config := { decide := true }) only [fg_in, fg_fin, fg_out, fg_fout, fg_up, fg_same, true_and, and_true] <;> omega)))
      | (refine jf_put (S := [301]) (o := 0) (F := []) (W := W) (by repeat (first | exact fw_sm_refl | exact fw_sm_put0 | refine fw_sm_arr ?_ rfl | refine fw_sm_up ?_ rfl | refine fw_sm_put ?_ rfl | refine fw_sm_cp ?_ rfl)) (lm_k_wwcT_43 (dd := dd) hpre hP ((fw_g W 272 0) - h) (fun a0 a1 af hi hl => ih _ (by omega) a0 a1 af rfl hi) _ _ _ _ _ rfl ?_ (by omega)); (first | omega | trivial | (simp (config := { decide := true }) only [fg_in, fg_fin, fg_out, fg_fout, fg_up, fg_same, true_and, and_true] <;> omega)))
      | (refine jf_put (S := [301]) (o := 0) (F := []) (W := W) (by repeat (first | exact fw_sm_refl | exact fw_sm_put0 | refine fw_sm_arr ?_ rfl | refine fw_sm_up ?_ rfl | refine fw_sm_put ?_ rfl | refine fw_sm_cp ?_ rfl)) (lm_k_wwcT_92 (dd := dd) hpre hP _ _ _ _ rfl ?_); (first | omega | trivial | (simp (config := { decide := true }) only [fg_in, fg_fin, fg_out, fg_fout, fg_up, fg_same, true_and, and_true] <;> omega)))
      | (refine hP _ _ (by repeat (first | exact fw_sm_refl | exact fw_sm_put0 | refine fw_sm_arr ?_ rfl | refine fw_sm_up ?_ rfl | refine fw_sm_put ?_ rfl | refine fw_sm_cp ?_ rfl)) ?_; (refine ⟨by omega, by omega, ?_⟩; (first | trivial | omega)))
      | omega
      | (intro _))
def x_k_wwcT : fw_X := fun as W Q => match as with
  | [.inr (.inl s_), .inl dd] => fw_if (Nat.beq s_ 296) ((0 ≤ (fw_g W 272 0) ∧ (fw_g W 272 0) ≤ 14) ∧ (∀ (v : Int) (f : fw_W), (-2147483648 ≤ v ∧ v ≤ 2147483647 ∧ (True)) → Q (some (.inl v)) (fw_put [301] 0 [] W f)))
  | _ => False
theorem x_k_wwcT_ok (d : Nat) (as : List fw_V) (W : fw_W) (Q : Option fw_V → fw_W → Prop) (hx : x_k_wwcT as W Q) : jf fw_T (d + 3) 78 0 (fw_args 0 as) [] W Q := by
  unfold x_k_wwcT at hx
  split at hx
  · rename_i s_ dd
    obtain ⟨e_, hpre, hQ⟩ := fw_if_ok hx
    have e_ := Nat.eq_of_beq_eq_true e_
    subst e_
    have hP : ∀ (v : Int) (W2 : fw_W), fw_sm [301] 0 [] W W2 → _ → Q (some (.inl v)) W2 := fun v W2 hs hr => fw_sm_use (Q := fun Z => Q (some (.inl v)) Z) hs (hQ v W2 hr)
    refine s_k_wwcT_0 ?_
    repeat' (first
      | (exact True.intro)
      | (exact hpre.1)
      | (refine And.intro ?_ ?_)
      | (refine jf_put (S := [301]) (o := 0) (F := []) (W := W) (by repeat (first | exact fw_sm_refl | exact fw_sm_put0 | refine fw_sm_arr ?_ rfl | refine fw_sm_up ?_ rfl | refine fw_sm_put ?_ rfl | refine fw_sm_cp ?_ rfl)) (lm_k_wwcT_16 (dd := dd) hpre hP _ _ _ _ rfl ?_); (first | omega | trivial | (simp (config := { decide := true }) only [fg_in, fg_fin, fg_out, fg_fout, fg_up, fg_same, true_and, and_true] <;> omega)))
      | (refine jf_put (S := [301]) (o := 0) (F := []) (W := W) (by repeat (first | exact fw_sm_refl | exact fw_sm_put0 | refine fw_sm_arr ?_ rfl | refine fw_sm_up ?_ rfl | refine fw_sm_put ?_ rfl | refine fw_sm_cp ?_ rfl)) (lm_k_wwcT_43 (dd := dd) hpre hP M16 h16 _ _ _ _ _ rfl ?_ (by omega)); (first | omega | trivial | (simp (config := { decide := true }) only [fg_in, fg_fin, fg_out, fg_fout, fg_up, fg_same, true_and, and_true] <;> omega)))
      | (refine jf_put (S := [301]) (o := 0) (F := []) (W := W) (by repeat (first | exact fw_sm_refl | exact fw_sm_put0 | refine fw_sm_arr ?_ rfl | refine fw_sm_up ?_ rfl | refine fw_sm_put ?_ rfl | refine fw_sm_cp ?_ rfl)) (lm_k_wwcT_92 (dd := dd) hpre hP _ _ _ _ rfl ?_); (first | omega | trivial | (simp (config := { decide := true }) only [fg_in, fg_fin, fg_out, fg_fout, fg_up, fg_same, true_and, and_true] <;> omega)))
      | (refine hP _ _ (by repeat (first | exact fw_sm_refl | exact fw_sm_put0 | refine fw_sm_arr ?_ rfl | refine fw_sm_up ?_ rfl | refine fw_sm_put ?_ rfl | refine fw_sm_cp ?_ rfl)) ?_; (refine ⟨by omega, by omega, ?_⟩; (first | trivial | omega)))
      | omega
      | (intro _))
  · exact hx.elim

def ct_k_leastWT : List (Nat × fw_X) := [(77, x_k_freeAllT), (78, x_k_wwcT)]
theorem ct_k_leastWT_ok (d : Nat) : fw_cok fw_T (d + 3) ct_k_leastWT := by
  intro q hq as W Q h
  simp only [ct_k_leastWT, List.mem_cons, List.not_mem_nil, or_false] at hq
  rcases hq with rfl | rfl
  · exact jc_of (x_k_freeAllT_ok (d + 2) as W Q h)
  · exact jc_of (x_k_wwcT_ok (d + 0) as W Q h)
theorem s_k_leastWT_0 {Post : Option fw_V → fw_W → Prop} {d : Nat} {W : fw_W} {dd : Int}
    (hw_ : (True) ∧ (∀ (f1 : fw_W), ((True)) → (0 ≤ (fw_g W 272 0) ∧ (fw_g W 272 0) ≤ 14) ∧ (∀ (r2 : Int) (f3 : fw_W), ((-2147483648 ≤ r2 ∧ r2 ≤ 2147483647 ∧ (True))) → (-2147483648 ≤ r2 → r2 ≤ 2147483647 → Post (some (.inl r2)) (fw_put [301] 0 [] (fw_put [297] 0 [] W f1) f3))))) :
    jf fw_T (d + 4) 76 0 [(0, .inr (.inl 296)), (1, .inl dd)] [] W Post := fw_ok (n := 7) (ss := []) (hv := []) fr_76_ok fv_wdT_ok (ct_k_leastWT_ok d) hw_

def x_k_leastWT : fw_X := fun as W Q => match as with
  | [.inr (.inl s_), .inl dd] => fw_if (Nat.beq s_ 296) ((0 ≤ (fw_g W 272 0) ∧ (fw_g W 272 0) ≤ 14) ∧ (∀ (v : Int) (f : fw_W), (-2147483648 ≤ v ∧ v ≤ 2147483647 ∧ (True)) → Q (some (.inl v)) (fw_put [297, 301] 0 [] W f)))
  | _ => False
theorem x_k_leastWT_ok (d : Nat) (as : List fw_V) (W : fw_W) (Q : Option fw_V → fw_W → Prop) (hx : x_k_leastWT as W Q) : jf fw_T (d + 4) 76 0 (fw_args 0 as) [] W Q := by
  unfold x_k_leastWT at hx
  split at hx
  · rename_i s_ dd
    obtain ⟨e_, hpre, hQ⟩ := fw_if_ok hx
    have e_ := Nat.eq_of_beq_eq_true e_
    subst e_
    have hP : ∀ (v : Int) (W2 : fw_W), fw_sm [297, 301] 0 [] W W2 → _ → Q (some (.inl v)) W2 := fun v W2 hs hr => fw_sm_use (Q := fun Z => Q (some (.inl v)) Z) hs (hQ v W2 hr)
    refine s_k_leastWT_0 ?_
    repeat' (first
      | (exact True.intro)
      | (exact hpre.1)
      | (refine And.intro ?_ ?_)
      | (refine hP _ _ (by repeat (first | exact fw_sm_refl | exact fw_sm_put0 | refine fw_sm_arr ?_ rfl | refine fw_sm_up ?_ rfl | refine fw_sm_put ?_ rfl | refine fw_sm_cp ?_ rfl)) ?_; (refine ⟨by omega, by omega, ?_⟩; (first | trivial | omega)))
      | omega
      | (intro _))
  · exact hx.elim

def fr_54 : fw_P := [(0, 1, 1, 0, 0), (1, 21, 9, 0, 0), (4, 2, 0, 0, 0), (5, 64, 55, 0, 604), (8, 71, 0, 0, 0), (9, 1, 1, 0, 0), (10, 0, 0, 0, 1), (11, 11, 21, 0, 0), (14, 2, 0, 0, 0), (15, 64, 56, 0, 204), (18, 6, 41, 0, 0), (21, 2, 0, 0, 0), (22, 50, 4, 5, 0), (25, 0, 0, 0, 1), (26, 64, 76, 1, 206), (29, 2, 0, 0, 0), (30, 64, 58, 0, 604), (33, 11, 40, 0, 0), (36, 0, 0, 0, 1), (37, 6, 41, 0, 0), (40, 0, 0, 0, 0), (41, 71, 0, 0, 0)]
theorem fr_54_ok : fw_mk 54 2 4 (some .boolean) fr_54 = true := by decide +kernel
def ct_k_holds : List (Nat × fw_X) := [(55, x_k_isMiddle), (56, x_k_allFours), (76, x_k_leastWT), (58, x_k_wardensBy)]
theorem ct_k_holds_ok (d : Nat) : fw_cok fw_T (d + 4) ct_k_holds := by
  intro q hq as W Q h
  simp only [ct_k_holds, List.mem_cons, List.not_mem_nil, or_false] at hq
  rcases hq with rfl | rfl | rfl | rfl
  · exact jc_of (x_k_isMiddle_ok (d + 1) as W Q h)
  · exact jc_of (x_k_allFours_ok (d + 1) as W Q h)
  · exact jc_of (x_k_leastWT_ok (d + 0) as W Q h)
  · exact jc_of (x_k_wardensBy_ok (d + 2) as W Q h)
theorem s_k_holds_0 {Post : Option fw_V → fw_W → Prop} {d : Nat} {W : fw_W} {la : Int}
    (hw_ : ((¬ la = 0 → ((¬ la = (1 : Int) → (0 ≤ (fw_g W 272 0) ∧ (fw_g W 272 0) ≤ 14) ∧ (∀ (r1 : Int) (f2 : fw_W), ((-2147483648 ≤ r1 ∧ r1 ≤ 2147483647 ∧ (True))) → (tr ((fw_g W 272 0)) (fun z_ => (fw_g W 273 z_)) ∧ 2 ≤ (fw_g W 272 0) ∧ (fw_g W 272 0) ≤ 6) ∧ (∀ (r3 : Int), ((-2147483648 ≤ r3 ∧ r3 ≤ 2147483647 ∧ (True))) → ((¬ r1 = r3 → 0 ≤ (0 : Int) ∧ (0 : Int) ≤ 1 ∧ Post (some (.inl (0 : Int))) (fw_put [297, 301] 0 [] W f2)) ∧ (r1 = r3 → 0 ≤ (1 : Int) ∧ (1 : Int) ≤ 1 ∧ Post (some (.inl (1 : Int))) (fw_put [297, 301] 0 [] W f2)))))) ∧ (la = (1 : Int) → (2 ≤ (fw_g W 272 0) ∧ (fw_g W 272 0) ≤ 6) ∧ (∀ (r4 : Int), ((0 ≤ r4 ∧ r4 ≤ 1 ∧ (True))) → 0 ≤ r4 ∧ r4 ≤ 1 ∧ Post (some (.inl r4)) W)))) ∧ (la = 0 → (2 ≤ (fw_g W 272 0) ∧ (fw_g W 272 0) ≤ 6) ∧ (∀ (r5 : Int), ((0 ≤ r5 ∧ r5 ≤ 1 ∧ (True))) → 0 ≤ r5 ∧ r5 ≤ 1 ∧ Post (some (.inl r5)) W)))) :
    jf fw_T (d + 5) 54 0 [(0, .inr (.inl 268)), (1, .inl la)] [] W Post := fw_ok (n := 16) (ss := []) (hv := []) fr_54_ok fv_tryv_ok (ct_k_holds_ok d) hw_

def x_k_holds : fw_X := fun as W Q => match as with
  | [.inr (.inl s_), .inl la] => fw_if (Nat.beq s_ 268) ((tr ((fw_g W 272 0)) (fun z_ => (fw_g W 273 z_)) ∧ 2 ≤ (fw_g W 272 0) ∧ (fw_g W 272 0) ≤ 6) ∧ (∀ (v : Int) (f : fw_W), (0 ≤ v ∧ v ≤ 1 ∧ (True)) → Q (some (.inl v)) (fw_put [297, 301] 0 [] W f)))
  | _ => False
theorem x_k_holds_ok (d : Nat) (as : List fw_V) (W : fw_W) (Q : Option fw_V → fw_W → Prop) (hx : x_k_holds as W Q) : jf fw_T (d + 5) 54 0 (fw_args 0 as) [] W Q := by
  unfold x_k_holds at hx
  split at hx
  · rename_i s_ la
    obtain ⟨e_, hpre, hQ⟩ := fw_if_ok hx
    have e_ := Nat.eq_of_beq_eq_true e_
    subst e_
    have hP : ∀ (v : Int) (W2 : fw_W), fw_sm [297, 301] 0 [] W W2 → _ → Q (some (.inl v)) W2 := fun v W2 hs hr => fw_sm_use (Q := fun Z => Q (some (.inl v)) Z) hs (hQ v W2 hr)
    refine s_k_holds_0 ?_
    repeat' (first
      | (exact hpre.1)
      | (exact True.intro)
      | (exact hpre.1)
      | (refine And.intro ?_ ?_)
      | (refine hP _ _ (by repeat (first | exact fw_sm_refl | exact fw_sm_put0 | refine fw_sm_arr ?_ rfl | refine fw_sm_up ?_ rfl | refine fw_sm_put ?_ rfl | refine fw_sm_cp ?_ rfl)) ?_; (refine ⟨by omega, by omega, ?_⟩; (first | trivial | omega)))
      | omega
      | (intro _))
  · exact hx.elim

def fr_53 : fw_P := [(0, 0, 0, 0, 1), (1, 3, 3, 0, 0), (2, 0, 0, 0, 0), (3, 3, 4, 0, 0), (5, 1, 4, 0, 0), (7, 1, 2, 0, 0), (8, 0, 0, 0, 2), (9, 31, 0, 0, 0), (10, 13, 23, 0, 0), (13, 1, 3, 0, 0), (14, 1, 2, 0, 0), (15, 32, 0, 0, 0), (16, 3, 3, 0, 0), (17, 5, 4, 0, 1), (20, 6, 5, 0, 0), (23, 0, 0, 0, 0), (24, 3, 4, 0, 0), (26, 0, 0, 0, 0), (27, 3, 5, 0, 0), (29, 1, 5, 0, 0), (31, 1, 3, 0, 0), (32, 13, 106, 0, 0), (35, 1, 5, 0, 0), (37, 3, 6, 0, 0), (39, 0, 0, 0, 0), (40, 3, 7, 0, 0), (42, 1, 7, 0, 0), (44, 1, 2, 0, 0), (45, 0, 0, 0, 2), (46, 31, 0, 0, 0), (47, 13, 73, 0, 0), (50, 2, 0, 0, 0), (51, 50, 4, 0, 0), (54, 1, 7, 0, 0), (56, 1, 6, 0, 0), (58, 1, 2, 0, 0), (59, 34, 0, 0, 0), (60, 53, 0, 0, 0), (61, 1, 6, 0, 0), (63, 1, 2, 0, 0), (64, 33, 0, 0, 0), (65, 3, 6, 0, 0), (67, 5, 7, 0, 1), (70, 6, 42, 0, 0), (73, 2, 0, 0, 0), (74, 1, 2, 0, 0), (75, 2, 0, 0, 0), (76, 50, 4, 3, 0), (79, 64, 45, 2, 404), (82, 2, 0, 0, 0), (83, 50, 4, 4, 0), (86, 64, 120, 0, 610), (89, 2, 0, 0, 0), (90, 1, 1, 0, 0), (91, 64, 54, 1, 204), (94, 21, 100, 0, 0), (97, 5, 4, 0, 1), (100, 5, 5, 0, 1), (103, 6, 29, 0, 0), (106, 1, 4, 0, 0), (108, 70, 0, 0, 0)]
theorem fr_53_ok : fw_mk 53 8 4 (some .int) fr_53 = true := by decide +kernel
def ct_k_countBroken : List (Nat × fw_X) := [(45, x_k_plantT), (120, x_k_measuret), (54, x_k_holds)]
theorem ct_k_countBroken_ok (d : Nat) : fw_cok fw_T (d + 5) ct_k_countBroken := by
  intro q hq as W Q h
  simp only [ct_k_countBroken, List.mem_cons, List.not_mem_nil, or_false] at hq
  rcases hq with rfl | rfl | rfl
  · exact jc_of (x_k_plantT_ok (d + 2) as W Q h)
  · exact jc_of (x_k_measuret_ok (d + 3) as W Q h)
  · exact jc_of (x_k_holds_ok (d + 0) as W Q h)
theorem s_k_countBroken_0 {Post : Option fw_V → fw_W → Prop} {d : Nat} {W : fw_W} {la nn : Int}
    (hw_ : jf fw_T (d + 6) 53 5 [(0, .inr (.inl 268)), (1, .inl la), (2, .inl nn), (3, .inl (1 : Int)), (4, .inl (0 : Int))] [] W Post) :
    jf fw_T (d + 6) 53 0 [(0, .inr (.inl 268)), (1, .inl la), (2, .inl nn)] [] W Post := fw_ok (n := 5) (ss := [(5, [0, 1, 2, 3, 4]), (29, [0, 1, 2, 3, 4, 5]), (42, [0, 1, 2, 3, 4, 5, 6, 7])]) (hv := [15, 97]) fr_53_ok fv_tryv_ok (ct_k_countBroken_ok d) hw_

theorem s_k_countBroken_42 {Post : Option fw_V → fw_W → Prop} {d : Nat} {W : fw_W} {la nn tw_ br nu re i : Int} {f : fw_W}
    (hw_ : -2147483648 ≤ nn - (2 : Int) ∧ nn - (2 : Int) ≤ 2147483647 ∧ ((((nn - (2 : Int)) ≤ i → (2 ≤ nn ∧ nn ≤ 14 ∧ ∀ i_, 0 ≤ i_ → i_ < nn - 2 → 0 ≤ (fw_g f 269 i_) ∧ (fw_g f 269 i_) < nn) ∧ (∀ (f1 : fw_W), (((fw_g f1 272 0) = nn ∧ tr nn (fun z_ => (fw_g f1 273 z_)))) → (tr ((fw_g f1 272 0)) (fun z_ => (fw_g f1 273 z_)) ∧ 0 ≤ (fw_g f1 272 0) ∧ (fw_g f1 272 0) ≤ 14) ∧ (∀ (f2 : fw_W), (((∀ j_, 1 ≤ j_ → j_ < (fw_g f1 272 0) → 1 ≤ (fw_g f2 277 j_) ∧ (fw_g f2 277 j_) < (fw_g f1 272 0)))) → (tr ((fw_g f1 272 0)) (fun z_ => (fw_g f1 273 z_)) ∧ 2 ≤ (fw_g f1 272 0) ∧ (fw_g f1 272 0) ≤ 6) ∧ (∀ (r3 : Int) (f4 : fw_W), ((0 ≤ r3 ∧ r3 ≤ 1 ∧ (True))) → ((¬ r3 = 0 → -2147483648 ≤ nu + (1 : Int) ∧ nu + (1 : Int) ≤ 2147483647 ∧ (jf fw_T (d + 6) 53 29 [(0, .inr (.inl 268)), (1, .inl la), (2, .inl nn), (3, .inl tw_), (4, .inl br), (5, .inl (nu + (1 : Int)))] [] (fw_put [297, 301] 0 [] (fw_put [277] 0 [] (fw_put [270, 271, 273, 274, 275] 0 [272000] (fw_put [269, 270, 271, 273, 274, 275, 277, 297, 301] 0 [272000] W f) f1) f2) f4) Post)) ∧ (r3 = 0 → ∀ v5 : Int, -2147483648 ≤ v5 → v5 ≤ 2147483647 → -2147483648 ≤ nu + (1 : Int) ∧ nu + (1 : Int) ≤ 2147483647 ∧ (jf fw_T (d + 6) 53 29 [(0, .inr (.inl 268)), (1, .inl la), (2, .inl nn), (3, .inl tw_), (4, .inl v5), (5, .inl (nu + (1 : Int)))] [] (fw_put [297, 301] 0 [] (fw_put [277] 0 [] (fw_put [270, 271, 273, 274, 275] 0 [272000] (fw_put [269, 270, 271, 273, 274, 275, 277, 297, 301] 0 [272000] W f) f1) f2) f4) Post))))))) ∧ (i < (nn - (2 : Int)) → 0 ≤ re ∧ 0 < nn ∧ (0 ≤ i ∧ i < 14 ∧ 0 ≤ (re % nn) ∧ (re % nn) ≤ 15 ∧ (0 ≤ re ∧ 0 < nn ∧ (-2147483648 ≤ i + (1 : Int) ∧ i + (1 : Int) ≤ 2147483647 ∧ (jf fw_T (d + 6) 53 42 [(0, .inr (.inl 268)), (1, .inl la), (2, .inl nn), (3, .inl tw_), (4, .inl br), (5, .inl nu), (6, .inl (re / nn)), (7, .inl (i + (1 : Int)))] [] (fw_up (fw_put [269, 270, 271, 273, 274, 275, 277, 297, 301] 0 [272000] W f) 269 i (re % nn)) Post)))))))) :
    jf fw_T (d + 6) 53 42 [(0, .inr (.inl 268)), (1, .inl la), (2, .inl nn), (3, .inl tw_), (4, .inl br), (5, .inl nu), (6, .inl re), (7, .inl i)] [] (fw_put [269, 270, 271, 273, 274, 275, 277, 297, 301] 0 [272000] W f) Post := fw_ok (n := 21) (ss := [(5, [0, 1, 2, 3, 4]), (29, [0, 1, 2, 3, 4, 5]), (42, [0, 1, 2, 3, 4, 5, 6, 7])]) (hv := [15, 97]) fr_53_ok fv_tryv_ok (ct_k_countBroken_ok d) hw_

theorem s_k_countBroken_29 {Post : Option fw_V → fw_W → Prop} {d : Nat} {W : fw_W} {la nn tw_ br nu : Int} {f : fw_W}
    (hw_ : ((tw_ ≤ nu → (-2147483648 ≤ br → br ≤ 2147483647 → Post (some (.inl br)) (fw_put [269, 270, 271, 273, 274, 275, 277, 297, 301] 0 [272000] W f))) ∧ (nu < tw_ → jf fw_T (d + 6) 53 42 [(0, .inr (.inl 268)), (1, .inl la), (2, .inl nn), (3, .inl tw_), (4, .inl br), (5, .inl nu), (6, .inl nu), (7, .inl (0 : Int))] [] (fw_put [269, 270, 271, 273, 274, 275, 277, 297, 301] 0 [272000] W f) Post))) :
    jf fw_T (d + 6) 53 29 [(0, .inr (.inl 268)), (1, .inl la), (2, .inl nn), (3, .inl tw_), (4, .inl br), (5, .inl nu)] [] (fw_put [269, 270, 271, 273, 274, 275, 277, 297, 301] 0 [272000] W f) Post := fw_ok (n := 8) (ss := [(5, [0, 1, 2, 3, 4]), (29, [0, 1, 2, 3, 4, 5]), (42, [0, 1, 2, 3, 4, 5, 6, 7])]) (hv := [15, 97]) fr_53_ok fv_tryv_ok (ct_k_countBroken_ok d) hw_

theorem s_k_countBroken_5 {Post : Option fw_V → fw_W → Prop} {d : Nat} {W : fw_W} {la nn tw_ br : Int} {f : fw_W}
    (hw_ : -2147483648 ≤ nn - (2 : Int) ∧ nn - (2 : Int) ≤ 2147483647 ∧ ((((nn - (2 : Int)) ≤ br → jf fw_T (d + 6) 53 29 [(0, .inr (.inl 268)), (1, .inl la), (2, .inl nn), (3, .inl tw_), (4, .inl (0 : Int)), (5, .inl (0 : Int))] [] (fw_put [269, 270, 271, 273, 274, 275, 277, 297, 301] 0 [272000] W f) Post) ∧ (br < (nn - (2 : Int)) → ∀ v1 : Int, -2147483648 ≤ v1 → v1 ≤ 2147483647 → -2147483648 ≤ br + (1 : Int) ∧ br + (1 : Int) ≤ 2147483647 ∧ (jf fw_T (d + 6) 53 5 [(0, .inr (.inl 268)), (1, .inl la), (2, .inl nn), (3, .inl v1), (4, .inl (br + (1 : Int)))] [] (fw_put [269, 270, 271, 273, 274, 275, 277, 297, 301] 0 [272000] W f) Post))))) :
    jf fw_T (d + 6) 53 5 [(0, .inr (.inl 268)), (1, .inl la), (2, .inl nn), (3, .inl tw_), (4, .inl br)] [] (fw_put [269, 270, 271, 273, 274, 275, 277, 297, 301] 0 [272000] W f) Post := fw_ok (n := 12) (ss := [(5, [0, 1, 2, 3, 4]), (29, [0, 1, 2, 3, 4, 5]), (42, [0, 1, 2, 3, 4, 5, 6, 7])]) (hv := [15, 97]) fr_53_ok fv_tryv_ok (ct_k_countBroken_ok d) hw_

theorem lm_k_countBroken_42 {Post : Option fw_V → fw_W → Prop} {d : Nat} {W : fw_W} {la nn : Int} (hpre : 2 ≤ nn ∧ nn ≤ 6) (hP : ∀ (v : Int) (W2 : fw_W), fw_sm [269, 270, 271, 273, 274, 275, 277, 297, 301] 0 [272000] W W2 → (-2147483648 ≤ v ∧ v ≤ 2147483647 ∧ (True)) → Post (some (.inl v)) W2) (M29 : Int) (h29 : ∀ (tw_ br nu : Int) (f : fw_W), 0 ≤ nu → (tw_ - nu) < M29 → jf fw_T (d + 6) 53 29 [(0, .inr (.inl 268)), (1, .inl la), (2, .inl nn), (3, .inl tw_), (4, .inl br), (5, .inl nu)] [] (fw_put [269, 270, 271, 273, 274, 275, 277, 297, 301] 0 [272000] W f) Post) : ∀ (m : Nat) (tw_ br nu re i : Int) (f : fw_W), (nn - i).toNat = m → ((0 ≤ i ∧ 0 ≤ re ∧ 0 ≤ nu ∧ nu < tw_) ∧ ∀ j_, 0 ≤ j_ → j_ < i → 0 ≤ (fw_g f 269 j_) ∧ (fw_g f 269 j_) < nn) → (tw_ - nu) ≤ M29 → jf fw_T (d + 6) 53 42 [(0, .inr (.inl 268)), (1, .inl la), (2, .inl nn), (3, .inl tw_), (4, .inl br), (5, .inl nu), (6, .inl re), (7, .inl i)] [] (fw_put [269, 270, 271, 273, 274, 275, 277, 297, 301] 0 [272000] W f) Post := by
  intro m
  induction m using Nat.strongRecOn with
  | ind m ih =>
    intro tw_ br nu re i f hm hi e29
    refine jf_rng (fun hrg => ?_)
    have hrg : -2147483648 ≤ la ∧ la ≤ 2147483647 ∧ -2147483648 ≤ nn ∧ nn ≤ 2147483647 ∧ -2147483648 ≤ tw_ ∧ tw_ ≤ 2147483647 ∧ -2147483648 ≤ br ∧ br ≤ 2147483647 ∧ -2147483648 ≤ nu ∧ nu ≤ 2147483647 ∧ -2147483648 ≤ re ∧ re ≤ 2147483647 ∧ -2147483648 ≤ i ∧ i ≤ 2147483647 ∧ True := hrg
    refine s_k_countBroken_42 ?_
    have hi1 := hi.1
    have m1 := Int.emod_nonneg re (show nn ≠ 0 by omega)
    have m2 := Int.emod_lt_of_pos re (show (0 : Int) < nn by omega)
    have m3 := Int.ediv_nonneg hi1.2.1 (show (0 : Int) ≤ nn by omega)
    have m4 := Int.ediv_le_self nn hi1.2.1
    repeat' (first
      | (rename_i f2 h2; have h3 : fw_g f2 272 0 = nn := h2.1; have h4 : tr nn (fun z_ => fw_g f2 273 z_) := h2.2; rw [← h3] at h4; exact h4)
      | (rename_i f2 h2 f3 h3; have h4 : fw_g f2 272 0 = nn := h2.1; have h5 : tr nn (fun z_ => fw_g f2 273 z_) := h2.2; rw [← h4] at h5; exact h5)
      | (intro i i1 i2; exact hi.2 i i1 (by omega))
      | (rename_i f2 h2; have h3 : fw_g f2 272 0 = nn := h2.1; omega)
      | (rename_i f2 h2 f3 h3; have h4 : fw_g f2 272 0 = nn := h2.1; omega)
      | (exact True.intro)
      | (exact hpre.1)
      | (refine And.intro ?_ ?_)
      | (refine (h29 _ _ _ _ ?_ (by omega)); (first | omega | trivial | (simp (config := { decide := true }) only [fg_in, fg_fin, fg_out, fg_fout, fg_up, fg_same, true_and, and_true] <;> omega)))
      | (refine jf_put (S := [269, 270, 271, 273, 274, 275, 277, 297, 301]) (o := 0) (F := [272000]) (W := W) (by repeat (first | exact fw_sm_refl | exact fw_sm_put0 | refine fw_sm_arr ?_ rfl | refine fw_sm_up ?_ rfl | refine fw_sm_put ?_ rfl | refine fw_sm_cp ?_ rfl)) (h29 _ _ _ _ ?_ (by omega)); (first | omega | trivial | (simp (config := { decide := true }) only [fg_in, fg_fin, fg_out, fg_fout, fg_up, fg_same, true_and, and_true] <;> omega)))
      | (refine (ih _ (by omega) _ _ _ _ _ _ rfl ?_ (by omega)); (
        refine ⟨by omega, fun x x1 x2 => ?_⟩
        rw [fg_if (by omega) (by omega) (by omega) (by omega)]
        by_cases e : i = x
        · rw [if_pos e]; omega
        · rw [if_neg e]; exact hi.2 x x1 (by omega)))
      | (refine jf_put (S := [269, 270, 271, 273, 274, 275, 277, 297, 301]) (o := 0) (F := [272000]) (W := W) (by repeat (first | exact fw_sm_refl | exact fw_sm_put0 | refine fw_sm_arr ?_ rfl | refine fw_sm_up ?_ rfl | refine fw_sm_put ?_ rfl | refine fw_sm_cp ?_ rfl)) (ih _ (by omega) _ _ _ _ _ _ rfl ?_ (by omega)); (
        refine ⟨by omega, fun x x1 x2 => ?_⟩
        rw [fg_if (by omega) (by omega) (by omega) (by omega)]
        by_cases e : i = x
        · rw [if_pos e]; omega
        · rw [if_neg e]; exact hi.2 x x1 (by omega)))
      | (refine hP _ _ (by repeat (first | exact fw_sm_refl | exact fw_sm_put0 | refine fw_sm_arr ?_ rfl | refine fw_sm_up ?_ rfl | refine fw_sm_put ?_ rfl | refine fw_sm_cp ?_ rfl)) ?_; (refine ⟨by omega, by omega, ?_⟩; (first | trivial | omega)))
      | omega
      | (intro _))
theorem lm_k_countBroken_29 {Post : Option fw_V → fw_W → Prop} {d : Nat} {W : fw_W} {la nn : Int} (hpre : 2 ≤ nn ∧ nn ≤ 6) (hP : ∀ (v : Int) (W2 : fw_W), fw_sm [269, 270, 271, 273, 274, 275, 277, 297, 301] 0 [272000] W W2 → (-2147483648 ≤ v ∧ v ≤ 2147483647 ∧ (True)) → Post (some (.inl v)) W2)  : ∀ (m : Nat) (tw_ br nu : Int) (f : fw_W), (tw_ - nu).toNat = m → 0 ≤ nu → jf fw_T (d + 6) 53 29 [(0, .inr (.inl 268)), (1, .inl la), (2, .inl nn), (3, .inl tw_), (4, .inl br), (5, .inl nu)] [] (fw_put [269, 270, 271, 273, 274, 275, 277, 297, 301] 0 [272000] W f) Post := by
  intro m
  induction m using Nat.strongRecOn with
  | ind m ih =>
    intro tw_ br nu f hm hi
    refine jf_rng (fun hrg => ?_)
    have hrg : -2147483648 ≤ la ∧ la ≤ 2147483647 ∧ -2147483648 ≤ nn ∧ nn ≤ 2147483647 ∧ -2147483648 ≤ tw_ ∧ tw_ ≤ 2147483647 ∧ -2147483648 ≤ br ∧ br ≤ 2147483647 ∧ -2147483648 ≤ nu ∧ nu ≤ 2147483647 ∧ True := hrg
    refine s_k_countBroken_29 ?_
    repeat' (first
      | (exact True.intro)
      | (exact hpre.1)
      | (refine And.intro ?_ ?_)
      | (refine (ih _ (by omega) _ _ _ _ rfl ?_); (first | omega | trivial | (simp (config := { decide := true }) only [fg_in, fg_fin, fg_out, fg_fout, fg_up, fg_same, true_and, and_true] <;> omega)))
      | (refine jf_put (S := [269, 270, 271, 273, 274, 275, 277, 297, 301]) (o := 0) (F := [272000]) (W := W) (by repeat (first | exact fw_sm_refl | exact fw_sm_put0 | refine fw_sm_arr ?_ rfl | refine fw_sm_up ?_ rfl | refine fw_sm_put ?_ rfl | refine fw_sm_cp ?_ rfl)) (ih _ (by omega) _ _ _ _ rfl ?_); (first | omega | trivial | (simp (config := { decide := true }) only [fg_in, fg_fin, fg_out, fg_fout, fg_up, fg_same, true_and, and_true] <;> omega)))
      | (refine (lm_k_countBroken_42 (la := la) (nn := nn) hpre hP (tw_ - nu) (fun a0 a1 a2 af hi hl => ih _ (by omega) a0 a1 a2 af rfl hi) _ _ _ _ _ _ _ rfl ?_ (by omega)); (exact ⟨by omega, fun x x1 x2 => by omega⟩))
      | (refine jf_put (S := [269, 270, 271, 273, 274, 275, 277, 297, 301]) (o := 0) (F := [272000]) (W := W) (by repeat (first | exact fw_sm_refl | exact fw_sm_put0 | refine fw_sm_arr ?_ rfl | refine fw_sm_up ?_ rfl | refine fw_sm_put ?_ rfl | refine fw_sm_cp ?_ rfl)) (lm_k_countBroken_42 (la := la) (nn := nn) hpre hP (tw_ - nu) (fun a0 a1 a2 af hi hl => ih _ (by omega) a0 a1 a2 af rfl hi) _ _ _ _ _ _ _ rfl ?_ (by omega)); (exact ⟨by omega, fun x x1 x2 => by omega⟩))
      | (refine hP _ _ (by repeat (first | exact fw_sm_refl | exact fw_sm_put0 | refine fw_sm_arr ?_ rfl | refine fw_sm_up ?_ rfl | refine fw_sm_put ?_ rfl | refine fw_sm_cp ?_ rfl)) ?_; (refine ⟨by omega, by omega, ?_⟩; (first | trivial | omega)))
      | omega
      | (intro _))
theorem lm_k_countBroken_5 {Post : Option fw_V → fw_W → Prop} {d : Nat} {W : fw_W} {la nn : Int} (hpre : 2 ≤ nn ∧ nn ≤ 6) (hP : ∀ (v : Int) (W2 : fw_W), fw_sm [269, 270, 271, 273, 274, 275, 277, 297, 301] 0 [272000] W W2 → (-2147483648 ≤ v ∧ v ≤ 2147483647 ∧ (True)) → Post (some (.inl v)) W2)  : ∀ (m : Nat) (tw_ br : Int) (f : fw_W), (nn - br).toNat = m → 0 ≤ br → jf fw_T (d + 6) 53 5 [(0, .inr (.inl 268)), (1, .inl la), (2, .inl nn), (3, .inl tw_), (4, .inl br)] [] (fw_put [269, 270, 271, 273, 274, 275, 277, 297, 301] 0 [272000] W f) Post := by
  intro m
  induction m using Nat.strongRecOn with
  | ind m ih =>
    intro tw_ br f hm hi
    refine jf_rng (fun hrg => ?_)
    have hrg : -2147483648 ≤ la ∧ la ≤ 2147483647 ∧ -2147483648 ≤ nn ∧ nn ≤ 2147483647 ∧ -2147483648 ≤ tw_ ∧ tw_ ≤ 2147483647 ∧ -2147483648 ≤ br ∧ br ≤ 2147483647 ∧ True := hrg
    refine s_k_countBroken_5 ?_
    repeat' (first
      | (exact True.intro)
      | (exact hpre.1)
      | (refine And.intro ?_ ?_)
      | (refine (ih _ (by omega) _ _ _ rfl ?_); (first | omega | trivial | (simp (config := { decide := true }) only [fg_in, fg_fin, fg_out, fg_fout, fg_up, fg_same, true_and, and_true] <;> omega)))
      | (refine jf_put (S := [269, 270, 271, 273, 274, 275, 277, 297, 301]) (o := 0) (F := [272000]) (W := W) (by repeat (first | exact fw_sm_refl | exact fw_sm_put0 | refine fw_sm_arr ?_ rfl | refine fw_sm_up ?_ rfl | refine fw_sm_put ?_ rfl | refine fw_sm_cp ?_ rfl)) (ih _ (by omega) _ _ _ rfl ?_); (first | omega | trivial | (simp (config := { decide := true }) only [fg_in, fg_fin, fg_out, fg_fout, fg_up, fg_same, true_and, and_true] <;> omega)))
      | (refine (lm_k_countBroken_29 (la := la) (nn := nn) hpre hP _ _ _ _ _ rfl ?_); (first | omega | trivial | (simp (config := { decide := true }) only [fg_in, fg_fin, fg_out, fg_fout, fg_up, fg_same, true_and, and_true] <;> omega)))
      | (refine jf_put (S := [269, 270, 271, 273, 274, 275, 277, 297, 301]) (o := 0) (F := [272000]) (W := W) (by repeat (first | exact fw_sm_refl | exact fw_sm_put0 | refine fw_sm_arr ?_ rfl | refine fw_sm_up ?_ rfl | refine fw_sm_put ?_ rfl | refine fw_sm_cp ?_ rfl)) (lm_k_countBroken_29 (la := la) (nn := nn) hpre hP _ _ _ _ _ rfl ?_); (first | omega | trivial | (simp (config := { decide := true }) only [fg_in, fg_fin, fg_out, fg_fout, fg_up, fg_same, true_and, and_true] <;> omega)))
      | (refine hP _ _ (by repeat (first | exact fw_sm_refl | exact fw_sm_put0 | refine fw_sm_arr ?_ rfl | refine fw_sm_up ?_ rfl | refine fw_sm_put ?_ rfl | refine fw_sm_cp ?_ rfl)) ?_; (refine ⟨by omega, by omega, ?_⟩; (first | trivial | omega)))
      | omega
      | (intro _))
def x_k_countBroken : fw_X := fun as W Q => match as with
  | [.inr (.inl s_), .inl la, .inl nn] => fw_if (Nat.beq s_ 268) ((2 ≤ nn ∧ nn ≤ 6) ∧ (∀ (v : Int) (f : fw_W), (-2147483648 ≤ v ∧ v ≤ 2147483647 ∧ (True)) → Q (some (.inl v)) (fw_put [269, 270, 271, 273, 274, 275, 277, 297, 301] 0 [272000] W f)))
  | _ => False
theorem x_k_countBroken_ok (d : Nat) (as : List fw_V) (W : fw_W) (Q : Option fw_V → fw_W → Prop) (hx : x_k_countBroken as W Q) : jf fw_T (d + 6) 53 0 (fw_args 0 as) [] W Q := by
  unfold x_k_countBroken at hx
  split at hx
  · rename_i s_ la nn
    obtain ⟨e_, hpre, hQ⟩ := fw_if_ok hx
    have e_ := Nat.eq_of_beq_eq_true e_
    subst e_
    have hP : ∀ (v : Int) (W2 : fw_W), fw_sm [269, 270, 271, 273, 274, 275, 277, 297, 301] 0 [272000] W W2 → _ → Q (some (.inl v)) W2 := fun v W2 hs hr => fw_sm_use (Q := fun Z => Q (some (.inl v)) Z) hs (hQ v W2 hr)
    refine s_k_countBroken_0 ?_
    repeat' (first
      | (exact True.intro)
      | (exact hpre.1)
      | (refine And.intro ?_ ?_)
      | (refine jf_put (S := [269, 270, 271, 273, 274, 275, 277, 297, 301]) (o := 0) (F := [272000]) (W := W) (by repeat (first | exact fw_sm_refl | exact fw_sm_put0 | refine fw_sm_arr ?_ rfl | refine fw_sm_up ?_ rfl | refine fw_sm_put ?_ rfl | refine fw_sm_cp ?_ rfl)) (lm_k_countBroken_5 (la := la) (nn := nn) hpre hP _ _ _ _ rfl ?_); (first | omega | trivial | (simp (config := { decide := true }) only [fg_in, fg_fin, fg_out, fg_fout, fg_up, fg_same, true_and, and_true] <;> omega)))
      | (refine jf_put (S := [269, 270, 271, 273, 274, 275, 277, 297, 301]) (o := 0) (F := [272000]) (W := W) (by repeat (first | exact fw_sm_refl | exact fw_sm_put0 | refine fw_sm_arr ?_ rfl | refine fw_sm_up ?_ rfl | refine fw_sm_put ?_ rfl | refine fw_sm_cp ?_ rfl)) (lm_k_countBroken_29 (la := la) (nn := nn) hpre hP _ _ _ _ _ rfl ?_); (first | omega | trivial | (simp (config := { decide := true }) only [fg_in, fg_fin, fg_out, fg_fout, fg_up, fg_same, true_and, and_true] <;> omega)))
      | (refine jf_put (S := [269, 270, 271, 273, 274, 275, 277, 297, 301]) (o := 0) (F := [272000]) (W := W) (by repeat (first | exact fw_sm_refl | exact fw_sm_put0 | refine fw_sm_arr ?_ rfl | refine fw_sm_up ?_ rfl | refine fw_sm_put ?_ rfl | refine fw_sm_cp ?_ rfl)) (lm_k_countBroken_42 (la := la) (nn := nn) hpre hP M29 h29 _ _ _ _ _ _ _ rfl ?_ (by omega)); (first | omega | trivial | (simp (config := { decide := true }) only [fg_in, fg_fin, fg_out, fg_fout, fg_up, fg_same, true_and, and_true] <;> omega)))
      | (refine hP _ _ (by repeat (first | exact fw_sm_refl | exact fw_sm_put0 | refine fw_sm_arr ?_ rfl | refine fw_sm_up ?_ rfl | refine fw_sm_put ?_ rfl | refine fw_sm_cp ?_ rfl)) ?_; (refine ⟨by omega, by omega, ?_⟩; (first | trivial | omega)))
      | omega
      | (intro _))
  · exact hx.elim

def fr_52 : fw_P := [(0, 1, 1, 0, 0), (1, 0, 0, 0, 7), (3, 32, 0, 0, 0), (4, 1, 2, 0, 0), (5, 30, 0, 0, 0), (6, 3, 3, 0, 0), (7, 2, 0, 0, 0), (8, 50, 4, 6, 0), (11, 1, 3, 0, 0), (12, 52, 0, 0, 0), (13, 21, 30, 0, 0), (16, 2, 0, 0, 0), (17, 50, 4, 6, 0), (20, 1, 3, 0, 0), (21, 0, 0, 0, 1), (22, 2, 0, 0, 0), (23, 1, 1, 0, 0), (24, 1, 2, 0, 0), (25, 64, 53, 2, 804), (28, 30, 0, 0, 0), (29, 53, 0, 0, 0), (30, 2, 0, 0, 0), (31, 50, 4, 6, 0), (34, 1, 3, 0, 0), (35, 52, 0, 0, 0), (36, 0, 0, 0, 1), (37, 31, 0, 0, 0), (38, 70, 0, 0, 0)]
theorem fr_52_ok : fw_mk 52 4 4 (some .int) fr_52 = true := by decide +kernel
def ct_k_tryLaw : List (Nat × fw_X) := [(53, x_k_countBroken)]
theorem ct_k_tryLaw_ok (d : Nat) : fw_cok fw_T (d + 6) ct_k_tryLaw := by
  intro q hq as W Q h
  simp only [ct_k_tryLaw, List.mem_cons, List.not_mem_nil, or_false] at hq
  rcases hq with rfl
  · exact jc_of (x_k_countBroken_ok (d + 0) as W Q h)
theorem s_k_tryLaw_0 {Post : Option fw_V → fw_W → Prop} {d : Nat} {W : fw_W} {la nn : Int}
    (hw_ : -2147483648 ≤ la * (7 : Int) ∧ la * (7 : Int) ≤ 2147483647 ∧ (-2147483648 ≤ (la * (7 : Int)) + nn ∧ (la * (7 : Int)) + nn ≤ 2147483647 ∧ (0 ≤ ((la * (7 : Int)) + nn) ∧ ((la * (7 : Int)) + nn) < 21 ∧ (-2147483648 ≤ (fw_g W 323 ((la * (7 : Int)) + nn)) → (fw_g W 323 ((la * (7 : Int)) + nn)) ≤ 2147483647 → ((¬ (fw_g W 323 ((la * (7 : Int)) + nn)) = 0 → 0 ≤ ((la * (7 : Int)) + nn) ∧ ((la * (7 : Int)) + nn) < 21 ∧ (-2147483648 ≤ (fw_g W 323 ((la * (7 : Int)) + nn)) → (fw_g W 323 ((la * (7 : Int)) + nn)) ≤ 2147483647 → ∀ v1 : Int, -2147483648 ≤ v1 → v1 ≤ 2147483647 → (-2147483648 ≤ v1 → v1 ≤ 2147483647 → Post (some (.inl v1)) W))) ∧ ((fw_g W 323 ((la * (7 : Int)) + nn)) = 0 → (2 ≤ nn ∧ nn ≤ 6) ∧ (∀ (r2 : Int) (f3 : fw_W), ((-2147483648 ≤ r2 ∧ r2 ≤ 2147483647 ∧ (True))) → ∀ v4 : Int, -2147483648 ≤ v4 → v4 ≤ 2147483647 → 0 ≤ ((la * (7 : Int)) + nn) ∧ ((la * (7 : Int)) + nn) < 21 ∧ -2147483648 ≤ v4 ∧ v4 ≤ 2147483647 ∧ (0 ≤ ((la * (7 : Int)) + nn) ∧ ((la * (7 : Int)) + nn) < 21 ∧ (-2147483648 ≤ (fw_g (fw_up (fw_put [269, 270, 271, 273, 274, 275, 277, 297, 301] 0 [272000] W f3) 323 ((la * (7 : Int)) + nn) v4) 323 ((la * (7 : Int)) + nn)) → (fw_g (fw_up (fw_put [269, 270, 271, 273, 274, 275, 277, 297, 301] 0 [272000] W f3) 323 ((la * (7 : Int)) + nn) v4) 323 ((la * (7 : Int)) + nn)) ≤ 2147483647 → ∀ v5 : Int, -2147483648 ≤ v5 → v5 ≤ 2147483647 → (-2147483648 ≤ v5 → v5 ≤ 2147483647 → Post (some (.inl v5)) (fw_up (fw_put [269, 270, 271, 273, 274, 275, 277, 297, 301] 0 [272000] W f3) 323 ((la * (7 : Int)) + nn) v4))))))))))) :
    jf fw_T (d + 7) 52 0 [(0, .inr (.inl 268)), (1, .inl la), (2, .inl nn)] [] W Post := fw_ok (n := 29) (ss := []) (hv := [28, 37]) fr_52_ok fv_tryv_ok (ct_k_tryLaw_ok d) hw_

def x_k_tryLaw : fw_X := fun as W Q => match as with
  | [.inr (.inl s_), .inl la, .inl nn] => fw_if (Nat.beq s_ 268) ((0 ≤ la ∧ la ≤ 2 ∧ 2 ≤ nn ∧ nn ≤ 6) ∧ (∀ (v : Int) (f : fw_W), (-2147483648 ≤ v ∧ v ≤ 2147483647 ∧ (True)) → Q (some (.inl v)) (fw_put [269, 270, 271, 273, 274, 275, 277, 297, 301, 323] 0 [272000] W f)))
  | _ => False
theorem x_k_tryLaw_ok (d : Nat) (as : List fw_V) (W : fw_W) (Q : Option fw_V → fw_W → Prop) (hx : x_k_tryLaw as W Q) : jf fw_T (d + 7) 52 0 (fw_args 0 as) [] W Q := by
  unfold x_k_tryLaw at hx
  split at hx
  · rename_i s_ la nn
    obtain ⟨e_, hpre, hQ⟩ := fw_if_ok hx
    have e_ := Nat.eq_of_beq_eq_true e_
    subst e_
    have hP : ∀ (v : Int) (W2 : fw_W), fw_sm [269, 270, 271, 273, 274, 275, 277, 297, 301, 323] 0 [272000] W W2 → _ → Q (some (.inl v)) W2 := fun v W2 hs hr => fw_sm_use (Q := fun Z => Q (some (.inl v)) Z) hs (hQ v W2 hr)
    refine s_k_tryLaw_0 ?_
    repeat' (first
      | (exact True.intro)
      | (exact hpre.1)
      | (refine And.intro ?_ ?_)
      | (refine hP _ _ (by repeat (first | exact fw_sm_refl | exact fw_sm_put0 | refine fw_sm_arr ?_ rfl | refine fw_sm_up ?_ rfl | refine fw_sm_put ?_ rfl | refine fw_sm_cp ?_ rfl)) ?_; (refine ⟨by omega, by omega, ?_⟩; (first | trivial | omega)))
      | omega
      | (intro _))
  · exact hx.elim

def fv_triedv : List (Nat × ai_C) := [(0, .inr (.inr (.inr (11, [.inr (.inl [1]), .inr (.inl [3]), .inr (.inl [12]), .inr (.inl [16]), .inr (.inl [37]), .inr (.inl [203]), .inr (.inl [223]), .inr (.inl [239]), .inr (.inl [266]), .inr (.inl [268]), .inr (.inl [324]), .inr (.inl [337]), .inr (.inl [338]), .inr (.inl [339]), .inl (0, 14, true)])))), (268, .inr (.inr (.inr (4, [.inr (.inl [269]), .inr (.inl [270]), .inr (.inl [271]), .inr (.inl [272]), .inr (.inl [276]), .inr (.inl [296]), .inr (.inl [323])]))))]
def fg_triedv_G : fw_G := []
theorem fv_triedv_ok : fw_view fw_T fv_triedv fg_triedv_G := fw_vb_ok (by decide +kernel)
def fr_177 : fw_P := [(0, 1, 1, 0, 0), (1, 22, 20, 0, 0), (4, 1, 1, 0, 0), (5, 0, 0, 0, 3), (6, 13, 20, 0, 0), (9, 1, 2, 0, 0), (10, 0, 0, 0, 2), (11, 12, 20, 0, 0), (14, 1, 2, 0, 0), (15, 0, 0, 0, 6), (17, 15, 22, 0, 0), (20, 0, 0, 0, -1), (21, 70, 0, 0, 0), (22, 2, 0, 0, 0), (23, 50, 11, 9, 0), (26, 1, 1, 0, 0), (27, 1, 2, 0, 0), (28, 64, 52, 2, 404), (31, 70, 0, 0, 0)]
theorem fr_177_ok : fw_mk 177 3 11 (some .int) fr_177 = true := by decide +kernel
def ct_k_tried : List (Nat × fw_X) := [(52, x_k_tryLaw)]
theorem ct_k_tried_ok (d : Nat) : fw_cok fw_T (d + 7) ct_k_tried := by
  intro q hq as W Q h
  simp only [ct_k_tried, List.mem_cons, List.not_mem_nil, or_false] at hq
  rcases hq with rfl
  · exact jc_of (x_k_tryLaw_ok (d + 0) as W Q h)
theorem s_k_tried_0 {Post : Option fw_V → fw_W → Prop} {d : Nat} {W : fw_W} {la nn : Int}
    (hw_ : ((la < 0 → (-2147483648 ≤ (-1 : Int) → (-1 : Int) ≤ 2147483647 → Post (some (.inl (-1 : Int))) W)) ∧ (0 ≤ la → (((3 : Int) ≤ la → (-2147483648 ≤ (-1 : Int) → (-1 : Int) ≤ 2147483647 → Post (some (.inl (-1 : Int))) W)) ∧ (la < (3 : Int) → ((nn < (2 : Int) → (-2147483648 ≤ (-1 : Int) → (-1 : Int) ≤ 2147483647 → Post (some (.inl (-1 : Int))) W)) ∧ ((2 : Int) ≤ nn → ((nn ≤ (6 : Int) → (0 ≤ la ∧ la ≤ 2 ∧ 2 ≤ nn ∧ nn ≤ 6) ∧ (∀ (r1 : Int) (f2 : fw_W), ((-2147483648 ≤ r1 ∧ r1 ≤ 2147483647 ∧ (True))) → (-2147483648 ≤ r1 → r1 ≤ 2147483647 → Post (some (.inl r1)) (fw_put [269, 270, 271, 273, 274, 275, 277, 297, 301, 323] 0 [272000] W f2)))) ∧ ((6 : Int) < nn → (-2147483648 ≤ (-1 : Int) → (-1 : Int) ≤ 2147483647 → Post (some (.inl (-1 : Int))) W)))))))))) :
    jf fw_T (d + 8) 177 0 [(0, .inr (.inl 0)), (1, .inl la), (2, .inl nn)] [] W Post := fw_ok (n := 18) (ss := []) (hv := []) fr_177_ok fv_triedv_ok (ct_k_tried_ok d) hw_

def x_k_tried : fw_X := fun as W Q => match as with
  | [.inr (.inl s_), .inl la, .inl nn] => fw_if (Nat.beq s_ 0) ((True) ∧ (∀ (v : Int) (f : fw_W), (-2147483648 ≤ v ∧ v ≤ 2147483647 ∧ (True)) → Q (some (.inl v)) (fw_put [269, 270, 271, 273, 274, 275, 277, 297, 301, 323] 0 [272000] W f)))
  | _ => False
theorem x_k_tried_ok (d : Nat) (as : List fw_V) (W : fw_W) (Q : Option fw_V → fw_W → Prop) (hx : x_k_tried as W Q) : jf fw_T (d + 8) 177 0 (fw_args 0 as) [] W Q := by
  unfold x_k_tried at hx
  split at hx
  · rename_i s_ la nn
    obtain ⟨e_, hpre, hQ⟩ := fw_if_ok hx
    have e_ := Nat.eq_of_beq_eq_true e_
    subst e_
    have hP : ∀ (v : Int) (W2 : fw_W), fw_sm [269, 270, 271, 273, 274, 275, 277, 297, 301, 323] 0 [272000] W W2 → _ → Q (some (.inl v)) W2 := fun v W2 hs hr => fw_sm_use (Q := fun Z => Q (some (.inl v)) Z) hs (hQ v W2 hr)
    refine s_k_tried_0 ?_
    repeat' (first
      | (exact True.intro)
      | (exact hpre.1)
      | (refine And.intro ?_ ?_)
      | (refine hP _ _ (by repeat (first | exact fw_sm_refl | exact fw_sm_put0 | refine fw_sm_arr ?_ rfl | refine fw_sm_up ?_ rfl | refine fw_sm_put ?_ rfl | refine fw_sm_cp ?_ rfl)) ?_; (refine ⟨by omega, by omega, ?_⟩; (first | trivial | omega)))
      | omega
      | (intro _))
  · exact hx.elim

