/-! the class, method by method -/
def fv_waysq : List (Nat × ai_C) := [(203, .inr (.inr (.inr (10, [.inr (.inl [204]), .inr (.inl [205]), .inl (-2147483648, 2147483647, true), .inl (-2147483648, 2147483647, true), .inl (-2147483648, 2147483647, true), .inr (.inl [12]), .inr (.inl [220]), .inr (.inl [221]), .inr (.inl [222])])))), (204, .inl (.int, 14, 0, 13, true)), (220, .inl (.int, 14, -2147483648, 2147483647, true)), (221, .inl (.int, 14, -2147483648, 2147483647, true)), (222, .inl (.int, 14, -2147483648, 2147483647, true)), (12, .inr (.inr (.inr (9, [.inl (0, 14, true), .inl (0, 999, true), .inr (.inl [13]), .inr (.inl [14]), .inr (.inl [15])])))), (13, .inl (.int, 14, -1, 13, true)), (14, .inl (.int, 14, 0, 99, true)), (15, .inl (.int, 14, 0, 99, true)), (339, .inl (.int, 14, -2147483648, 2147483647, true))]
def fg_waysq_G : fw_G := [(205, 14, 14, -2147483648, 2147483647)]
theorem fv_waysq_ok : fw_view fw_T fv_waysq fg_waysq_G := fw_vb_ok (by decide +kernel)
def fr_124 : fw_P := [(0, 0, 0, 0, 0), (1, 3, 2, 0, 0), (2, 0, 0, 0, 0), (3, 3, 3, 0, 0), (4, 1, 3, 0, 0), (5, 2, 0, 0, 0), (6, 50, 10, 5, 0), (9, 50, 9, 0, 0), (12, 13, 34, 0, 0), (15, 1, 2, 0, 0), (16, 2, 0, 0, 0), (17, 50, 10, 1, 0), (20, 1, 1, 0, 0), (21, 56, 0, 0, 0), (22, 1, 3, 0, 0), (23, 52, 0, 0, 0), (24, 60, 0, 0, 0), (27, 3, 2, 0, 0), (28, 5, 3, 0, 1), (31, 6, 4, 0, 0), (34, 1, 2, 0, 0), (35, 70, 0, 0, 0)]
theorem fr_124_ok : fw_mk 124 4 10 (some .int) fr_124 = true := by decide +kernel
theorem s_k_longestFrom_0 {Post : Option fw_V → fw_W → Prop} {d : Nat} {W : fw_W} {h : Int}
    (hw_ : jf fw_T (d + 1) 124 4 [(0, .inr (.inl 203)), (1, .inl h), (2, .inl (0 : Int)), (3, .inl (0 : Int))] [] W Post) :
    jf fw_T (d + 1) 124 0 [(0, .inr (.inl 203)), (1, .inl h)] [] W Post := fw_ok (n := 5) (ss := [(4, [0, 1, 2, 3])]) (hv := []) fr_124_ok fv_waysq_ok (fw_c0 _ _) hw_

theorem s_k_longestFrom_4 {Post : Option fw_V → fw_W → Prop} {d : Nat} {W : fw_W} {h lo o : Int}
    (hw_ : (0 ≤ (fw_g W 12 0) → (fw_g W 12 0) ≤ 14 → (((fw_g W 12 0) ≤ o → (-2147483648 ≤ lo → lo ≤ 2147483647 → Post (some (.inl lo)) W)) ∧ (o < (fw_g W 12 0) → 0 ≤ h ∧ h < 14 ∧ (0 ≤ o ∧ o < 14 ∧ (∀ v1 : Int, -2147483648 ≤ v1 → v1 ≤ 2147483647 → -2147483648 ≤ o + (1 : Int) ∧ o + (1 : Int) ≤ 2147483647 ∧ (jf fw_T (d + 1) 124 4 [(0, .inr (.inl 203)), (1, .inl h), (2, .inl (max lo v1)), (3, .inl (o + (1 : Int)))] [] W Post))))))) :
    jf fw_T (d + 1) 124 4 [(0, .inr (.inl 203)), (1, .inl h), (2, .inl lo), (3, .inl o)] [] W Post := fw_ok (n := 17) (ss := [(4, [0, 1, 2, 3])]) (hv := []) fr_124_ok fv_waysq_ok (fw_c0 _ _) hw_

theorem lm_k_longestFrom_4 {Post : Option fw_V → fw_W → Prop} {d : Nat} {W : fw_W} {h : Int} (hpre : 0 ≤ h ∧ h < 14 ∧ 0 ≤ (fw_g W 12 0) ∧ (fw_g W 12 0) ≤ 14) (hP : ∀ (v : Int) , (-2147483648 ≤ v ∧ v ≤ 2147483647 ∧ (True)) → Post (some (.inl v)) W)  : ∀ (m : Nat) (lo o : Int), ((fw_g W 12 0) - o).toNat = m → 0 ≤ o → jf fw_T (d + 1) 124 4 [(0, .inr (.inl 203)), (1, .inl h), (2, .inl lo), (3, .inl o)] [] W Post := by
  intro m
  induction m using Nat.strongRecOn with
  | ind m ih =>
    intro lo o hm hi
    refine jf_rng (fun hrg => ?_)
    have hrg : -2147483648 ≤ h ∧ h ≤ 2147483647 ∧ -2147483648 ≤ lo ∧ lo ≤ 2147483647 ∧ -2147483648 ≤ o ∧ o ≤ 2147483647 ∧ True := hrg
    refine s_k_longestFrom_4 ?_
    repeat' (first
      | (exact True.intro)
      | (exact hpre.1)
      | (refine And.intro ?_ ?_)
      | (refine (ih _ (by omega) _ _ rfl ?_); (first | omega | trivial))
      | (refine hP _ ?_; (refine ⟨by omega, by omega, ?_⟩; (first | trivial | omega)))
      | omega
      | (intro _))
def x_k_longestFrom : fw_X := fun as W Q => match as with
  | [.inr (.inl s_), .inl h] => fw_if (Nat.beq s_ 203) ((0 ≤ h ∧ h < 14 ∧ 0 ≤ (fw_g W 12 0) ∧ (fw_g W 12 0) ≤ 14) ∧ (∀ (v : Int), (-2147483648 ≤ v ∧ v ≤ 2147483647 ∧ (True)) → Q (some (.inl v)) W))
  | _ => False
theorem x_k_longestFrom_ok (d : Nat) (as : List fw_V) (W : fw_W) (Q : Option fw_V → fw_W → Prop) (hx : x_k_longestFrom as W Q) : jf fw_T (d + 1) 124 0 (fw_args 0 as) [] W Q := by
  unfold x_k_longestFrom at hx
  split at hx
  · rename_i s_ h
    obtain ⟨e_, hpre, hQ⟩ := fw_if_ok hx
    have e_ := Nat.eq_of_beq_eq_true e_
    subst e_
    have hP := hQ
    refine s_k_longestFrom_0 ?_
    repeat' (first
      | (exact True.intro)
      | (exact hpre.1)
      | (refine And.intro ?_ ?_)
      | (refine (lm_k_longestFrom_4 (h := h) hpre hP _ _ _ rfl ?_); (first | omega | trivial))
      | (refine hP _ ?_; (refine ⟨by omega, by omega, ?_⟩; (first | trivial | omega)))
      | omega
      | (intro _))
  · exact hx.elim

def fr_129 : fw_P := [(0, 0, 0, 0, 0), (1, 3, 2, 0, 0), (2, 0, 0, 0, 0), (3, 3, 3, 0, 0), (4, 1, 3, 0, 0), (5, 2, 0, 0, 0), (6, 50, 10, 5, 0), (9, 50, 9, 0, 0), (12, 13, 42, 0, 0), (15, 1, 2, 0, 0), (16, 2, 0, 0, 0), (17, 50, 10, 1, 0), (20, 1, 1, 0, 0), (21, 56, 0, 0, 0), (22, 1, 3, 0, 0), (23, 52, 0, 0, 0), (24, 2, 0, 0, 0), (25, 50, 10, 5, 0), (28, 50, 9, 4, 0), (31, 1, 3, 0, 0), (32, 52, 0, 0, 0), (33, 32, 0, 0, 0), (34, 30, 0, 0, 0), (35, 3, 2, 0, 0), (36, 5, 3, 0, 1), (39, 6, 4, 0, 0), (42, 1, 2, 0, 0), (43, 70, 0, 0, 0)]
theorem fr_129_ok : fw_mk 129 4 10 (some .int) fr_129 = true := by decide +kernel
theorem s_k_walkedTo_0 {Post : Option fw_V → fw_W → Prop} {d : Nat} {W : fw_W} {h : Int}
    (hw_ : jf fw_T (d + 1) 129 4 [(0, .inr (.inl 203)), (1, .inl h), (2, .inl (0 : Int)), (3, .inl (0 : Int))] [] W Post) :
    jf fw_T (d + 1) 129 0 [(0, .inr (.inl 203)), (1, .inl h)] [] W Post := fw_ok (n := 5) (ss := [(4, [0, 1, 2, 3])]) (hv := [33, 34]) fr_129_ok fv_waysq_ok (fw_c0 _ _) hw_

theorem s_k_walkedTo_4 {Post : Option fw_V → fw_W → Prop} {d : Nat} {W : fw_W} {h su o : Int}
    (hw_ : (0 ≤ (fw_g W 12 0) → (fw_g W 12 0) ≤ 14 → (((fw_g W 12 0) ≤ o → (-2147483648 ≤ su → su ≤ 2147483647 → Post (some (.inl su)) W)) ∧ (o < (fw_g W 12 0) → 0 ≤ h ∧ h < 14 ∧ (0 ≤ o ∧ o < 14 ∧ (∀ v1 : Int, -2147483648 ≤ v1 → v1 ≤ 2147483647 → 0 ≤ o ∧ o < 14 ∧ (0 ≤ (fw_g W 15 o) → (fw_g W 15 o) ≤ 99 → ∀ v2 : Int, -2147483648 ≤ v2 → v2 ≤ 2147483647 → ∀ v3 : Int, -2147483648 ≤ v3 → v3 ≤ 2147483647 → -2147483648 ≤ o + (1 : Int) ∧ o + (1 : Int) ≤ 2147483647 ∧ (jf fw_T (d + 1) 129 4 [(0, .inr (.inl 203)), (1, .inl h), (2, .inl v3), (3, .inl (o + (1 : Int)))] [] W Post)))))))) :
    jf fw_T (d + 1) 129 4 [(0, .inr (.inl 203)), (1, .inl h), (2, .inl su), (3, .inl o)] [] W Post := fw_ok (n := 23) (ss := [(4, [0, 1, 2, 3])]) (hv := [33, 34]) fr_129_ok fv_waysq_ok (fw_c0 _ _) hw_

theorem lm_k_walkedTo_4 {Post : Option fw_V → fw_W → Prop} {d : Nat} {W : fw_W} {h : Int} (hpre : 0 ≤ h ∧ h < 14 ∧ 0 ≤ (fw_g W 12 0) ∧ (fw_g W 12 0) ≤ 14) (hP : ∀ (v : Int) , (-2147483648 ≤ v ∧ v ≤ 2147483647 ∧ (True)) → Post (some (.inl v)) W)  : ∀ (m : Nat) (su o : Int), ((fw_g W 12 0) - o).toNat = m → 0 ≤ o → jf fw_T (d + 1) 129 4 [(0, .inr (.inl 203)), (1, .inl h), (2, .inl su), (3, .inl o)] [] W Post := by
  intro m
  induction m using Nat.strongRecOn with
  | ind m ih =>
    intro su o hm hi
    refine jf_rng (fun hrg => ?_)
    have hrg : -2147483648 ≤ h ∧ h ≤ 2147483647 ∧ -2147483648 ≤ su ∧ su ≤ 2147483647 ∧ -2147483648 ≤ o ∧ o ≤ 2147483647 ∧ True := hrg
    refine s_k_walkedTo_4 ?_
    repeat' (first
      | (exact True.intro)
      | (exact hpre.1)
      | (refine And.intro ?_ ?_)
      | (refine (ih _ (by omega) _ _ rfl ?_); (first | omega | trivial))
      | (refine hP _ ?_; (refine ⟨by omega, by omega, ?_⟩; (first | trivial | omega)))
      | omega
      | (intro _))
def x_k_walkedTo : fw_X := fun as W Q => match as with
  | [.inr (.inl s_), .inl h] => fw_if (Nat.beq s_ 203) ((0 ≤ h ∧ h < 14 ∧ 0 ≤ (fw_g W 12 0) ∧ (fw_g W 12 0) ≤ 14) ∧ (∀ (v : Int), (-2147483648 ≤ v ∧ v ≤ 2147483647 ∧ (True)) → Q (some (.inl v)) W))
  | _ => False
theorem x_k_walkedTo_ok (d : Nat) (as : List fw_V) (W : fw_W) (Q : Option fw_V → fw_W → Prop) (hx : x_k_walkedTo as W Q) : jf fw_T (d + 1) 129 0 (fw_args 0 as) [] W Q := by
  unfold x_k_walkedTo at hx
  split at hx
  · rename_i s_ h
    obtain ⟨e_, hpre, hQ⟩ := fw_if_ok hx
    have e_ := Nat.eq_of_beq_eq_true e_
    subst e_
    have hP := hQ
    refine s_k_walkedTo_0 ?_
    repeat' (first
      | (exact True.intro)
      | (exact hpre.1)
      | (refine And.intro ?_ ?_)
      | (refine (lm_k_walkedTo_4 (h := h) hpre hP _ _ _ rfl ?_); (first | omega | trivial))
      | (refine hP _ ?_; (refine ⟨by omega, by omega, ?_⟩; (first | trivial | omega)))
      | omega
      | (intro _))
  · exact hx.elim

def fr_131 : fw_P := [(0, 2, 0, 0, 0), (1, 64, 132, 0, 310), (4, 0, 0, 0, 0), (5, 3, 3, 0, 0), (6, 0, 0, 0, 0), (7, 3, 4, 0, 0), (9, 1, 4, 0, 0), (11, 2, 0, 0, 0), (12, 50, 10, 5, 0), (15, 50, 9, 0, 0), (18, 13, 90, 0, 0), (21, 2, 0, 0, 0), (22, 50, 10, 5, 0), (25, 50, 9, 2, 0), (28, 1, 4, 0, 0), (30, 52, 0, 0, 0), (31, 1, 1, 0, 0), (32, 11, 51, 0, 0), (35, 2, 2, 0, 0), (36, 1, 3, 0, 0), (37, 2, 0, 0, 0), (38, 50, 10, 6, 0), (41, 1, 4, 0, 0), (43, 52, 0, 0, 0), (44, 53, 0, 0, 0), (45, 5, 3, 0, 1), (48, 6, 84, 0, 0), (51, 2, 0, 0, 0), (52, 50, 10, 5, 0), (55, 50, 9, 2, 0), (58, 1, 1, 0, 0), (59, 52, 0, 0, 0), (60, 1, 4, 0, 0), (62, 11, 84, 0, 0), (65, 2, 2, 0, 0), (66, 1, 3, 0, 0), (67, 2, 0, 0, 0), (68, 50, 10, 6, 0), (71, 0, 0, 0, 0), (72, 52, 0, 0, 0), (73, 2, 0, 0, 0), (74, 50, 10, 6, 0), (77, 1, 1, 0, 0), (78, 52, 0, 0, 0), (79, 31, 0, 0, 0), (80, 53, 0, 0, 0), (81, 5, 3, 0, 1), (84, 5, 4, 0, 1), (87, 6, 9, 0, 0), (90, 1, 3, 0, 0), (91, 70, 0, 0, 0)]
theorem fr_131_ok : fw_mk 131 5 10 (some .int) fr_131 = true := by decide +kernel
def ct_k_quartersQ : List (Nat × fw_X) := [(132, x_k_sumBehindp)]
theorem ct_k_quartersQ_ok (d : Nat) : fw_cok fw_T (d + 1) ct_k_quartersQ := by
  intro q hq as W Q h
  simp only [ct_k_quartersQ, List.mem_cons, List.not_mem_nil, or_false] at hq
  rcases hq with rfl
  · exact jc_of (x_k_sumBehindp_ok (d + 0) as W Q h)
theorem s_k_quartersQ_0 {Post : Option fw_V → fw_W → Prop} {d : Nat} {W : fw_W} {h : Int}
    (hw_ : (tr ((fw_g W 12 0)) (fun z_ => (fw_g W 13 z_)) ∧ 0 ≤ (fw_g W 12 0) ∧ (fw_g W 12 0) ≤ 14 ∧ (∀ j_, 1 ≤ j_ → j_ < (fw_g W 12 0) → 1 ≤ (fw_g W 204 j_) ∧ (fw_g W 204 j_) < (fw_g W 12 0))) ∧ (∀ (f1 : fw_W), ((True)) → jf fw_T (d + 2) 131 9 [(0, .inr (.inl 203)), (1, .inl h), (2, .inr (.inl 221)), (3, .inl (0 : Int)), (4, .inl (0 : Int))] [] (fw_put [220] 0 [] W f1) Post)) :
    jf fw_T (d + 2) 131 0 [(0, .inr (.inl 203)), (1, .inl h), (2, .inr (.inl 221))] [] W Post := fw_ok (n := 7) (ss := [(9, [0, 1, 2, 3, 4])]) (hv := [79]) fr_131_ok fv_waysq_ok (ct_k_quartersQ_ok d) hw_

theorem s_k_quartersQ_9 {Post : Option fw_V → fw_W → Prop} {d : Nat} {W : fw_W} {h fil o : Int} {f : fw_W}
    (hw_ : (0 ≤ (fw_g W 12 0) → (fw_g W 12 0) ≤ 14 → (((fw_g W 12 0) ≤ o → (-2147483648 ≤ fil → fil ≤ 2147483647 → Post (some (.inl fil)) (fw_put [220, 221] 0 [] W f))) ∧ (o < (fw_g W 12 0) → 0 ≤ o ∧ o < 14 ∧ (-1 ≤ (fw_g W 13 o) → (fw_g W 13 o) ≤ 13 → ((¬ (fw_g W 13 o) = h → 0 ≤ h ∧ h < 14 ∧ (-1 ≤ (fw_g W 13 h) → (fw_g W 13 h) ≤ 13 → ((¬ (fw_g W 13 h) = o → -2147483648 ≤ o + (1 : Int) ∧ o + (1 : Int) ≤ 2147483647 ∧ (jf fw_T (d + 2) 131 9 [(0, .inr (.inl 203)), (1, .inl h), (2, .inr (.inl 221)), (3, .inl fil), (4, .inl (o + (1 : Int)))] [] (fw_put [220, 221] 0 [] W f) Post)) ∧ ((fw_g W 13 h) = o → 0 ≤ (0 : Int) ∧ (0 : Int) < 14 ∧ (-2147483648 ≤ (fw_g f 220 (0 : Int)) → (fw_g f 220 (0 : Int)) ≤ 2147483647 → 0 ≤ h ∧ h < 14 ∧ (-2147483648 ≤ (fw_g f 220 h) → (fw_g f 220 h) ≤ 2147483647 → ∀ v1 : Int, -2147483648 ≤ v1 → v1 ≤ 2147483647 → 0 ≤ fil ∧ fil < 14 ∧ -2147483648 ≤ v1 ∧ v1 ≤ 2147483647 ∧ (-2147483648 ≤ fil + (1 : Int) ∧ fil + (1 : Int) ≤ 2147483647 ∧ (-2147483648 ≤ o + (1 : Int) ∧ o + (1 : Int) ≤ 2147483647 ∧ (jf fw_T (d + 2) 131 9 [(0, .inr (.inl 203)), (1, .inl h), (2, .inr (.inl 221)), (3, .inl (fil + (1 : Int))), (4, .inl (o + (1 : Int)))] [] (fw_up (fw_put [220, 221] 0 [] W f) 221 fil v1) Post))))))))) ∧ ((fw_g W 13 o) = h → 0 ≤ o ∧ o < 14 ∧ (-2147483648 ≤ (fw_g f 220 o) → (fw_g f 220 o) ≤ 2147483647 → 0 ≤ fil ∧ fil < 14 ∧ -2147483648 ≤ (fw_g f 220 o) ∧ (fw_g f 220 o) ≤ 2147483647 ∧ (-2147483648 ≤ fil + (1 : Int) ∧ fil + (1 : Int) ≤ 2147483647 ∧ (-2147483648 ≤ o + (1 : Int) ∧ o + (1 : Int) ≤ 2147483647 ∧ (jf fw_T (d + 2) 131 9 [(0, .inr (.inl 203)), (1, .inl h), (2, .inr (.inl 221)), (3, .inl (fil + (1 : Int))), (4, .inl (o + (1 : Int)))] [] (fw_up (fw_put [220, 221] 0 [] W f) 221 fil (fw_g f 220 o)) Post))))))))))) :
    jf fw_T (d + 2) 131 9 [(0, .inr (.inl 203)), (1, .inl h), (2, .inr (.inl 221)), (3, .inl fil), (4, .inl o)] [] (fw_put [220, 221] 0 [] W f) Post := fw_ok (n := 35) (ss := [(9, [0, 1, 2, 3, 4])]) (hv := [79]) fr_131_ok fv_waysq_ok (ct_k_quartersQ_ok d) hw_

theorem lm_k_quartersQ_9 {Post : Option fw_V → fw_W → Prop} {d : Nat} {W : fw_W} {h : Int} (hpre : tr ((fw_g W 12 0)) (fun z_ => (fw_g W 13 z_)) ∧ 0 ≤ (fw_g W 12 0) ∧ (fw_g W 12 0) ≤ 14 ∧ (∀ j_, 1 ≤ j_ → j_ < (fw_g W 12 0) → 1 ≤ (fw_g W 204 j_) ∧ (fw_g W 204 j_) < (fw_g W 12 0)) ∧ 0 ≤ h ∧ h < 14) (hP : ∀ (v : Int) (W2 : fw_W), fw_sm [220, 221] 0 [] W W2 → (-2147483648 ≤ v ∧ v ≤ 2147483647 ∧ (0 ≤ v ∧ v ≤ 14)) → Post (some (.inl v)) W2)  : ∀ (m : Nat) (fil o : Int) (f : fw_W), ((fw_g W 12 0) - o).toNat = m → 0 ≤ o ∧ 0 ≤ fil ∧ fil ≤ o ∧ fil ≤ (fw_g W 12 0) → jf fw_T (d + 2) 131 9 [(0, .inr (.inl 203)), (1, .inl h), (2, .inr (.inl 221)), (3, .inl fil), (4, .inl o)] [] (fw_put [220, 221] 0 [] W f) Post := by
  intro m
  induction m using Nat.strongRecOn with
  | ind m ih =>
    intro fil o f hm hi
    refine jf_rng (fun hrg => ?_)
    have hrg : -2147483648 ≤ h ∧ h ≤ 2147483647 ∧ -2147483648 ≤ fil ∧ fil ≤ 2147483647 ∧ -2147483648 ≤ o ∧ o ≤ 2147483647 ∧ True := hrg
    refine s_k_quartersQ_9 ?_
    repeat' (first
      | (exact True.intro)
      | (exact hpre.1)
      | (refine And.intro ?_ ?_)
      | (refine jf_put (S := [220, 221]) (o := 0) (F := []) (W := W) (by repeat (first | exact fw_sm_refl | exact fw_sm_put0 | refine fw_sm_arr ?_ rfl | refine fw_sm_up ?_ rfl | refine fw_sm_put ?_ rfl | refine fw_sm_cp ?_ rfl)) (ih _ (by omega) _ _ _ rfl ?_); (first | omega | trivial | (simp (config := { decide := true }) only [fg_in, fg_fin, fg_out, fg_fout, fg_up, fg_same, true_and, and_true] <;> omega)))
      | (refine hP _ _ (by repeat (first | exact fw_sm_refl | exact fw_sm_put0 | refine fw_sm_arr ?_ rfl | refine fw_sm_up ?_ rfl | refine fw_sm_put ?_ rfl | refine fw_sm_cp ?_ rfl)) ?_; (refine ⟨by omega, by omega, ?_⟩; (omega)))
      | omega
      | (intro _))
def x_k_quartersQ : fw_X := fun as W Q => match as with
  | [.inr (.inl s_), .inl h, .inr (.inl r1_)] => fw_if (Nat.beq s_ 203) (fw_if (Nat.beq r1_ 221) ((tr ((fw_g W 12 0)) (fun z_ => (fw_g W 13 z_)) ∧ 0 ≤ (fw_g W 12 0) ∧ (fw_g W 12 0) ≤ 14 ∧ (∀ j_, 1 ≤ j_ → j_ < (fw_g W 12 0) → 1 ≤ (fw_g W 204 j_) ∧ (fw_g W 204 j_) < (fw_g W 12 0)) ∧ 0 ≤ h ∧ h < 14) ∧ (∀ (v : Int) (f : fw_W), (-2147483648 ≤ v ∧ v ≤ 2147483647 ∧ (0 ≤ v ∧ v ≤ 14)) → Q (some (.inl v)) (fw_put [220, 221] 0 [] W f))))
  | _ => False
theorem x_k_quartersQ_ok (d : Nat) (as : List fw_V) (W : fw_W) (Q : Option fw_V → fw_W → Prop) (hx : x_k_quartersQ as W Q) : jf fw_T (d + 2) 131 0 (fw_args 0 as) [] W Q := by
  unfold x_k_quartersQ at hx
  split at hx
  · rename_i s_ h r1_
    obtain ⟨e0_, hx0⟩ := fw_if_ok hx
    have e0_ := Nat.eq_of_beq_eq_true e0_
    clear hx
    subst e0_
    obtain ⟨e1_, hx1⟩ := fw_if_ok hx0
    have e1_ := Nat.eq_of_beq_eq_true e1_
    clear hx0
    subst e1_
    obtain ⟨hpre, hQ⟩ := hx1
    have hP : ∀ (v : Int) (W2 : fw_W), fw_sm [220, 221] 0 [] W W2 → _ → Q (some (.inl v)) W2 := fun v W2 hs hr => fw_sm_use (Q := fun Z => Q (some (.inl v)) Z) hs (hQ v W2 hr)
    refine s_k_quartersQ_0 ?_
    repeat' (first
      | (exact hpre.1)
      | (exact hpre.2.2.2.1)
      | (exact True.intro)
      | (exact hpre.1)
      | (refine And.intro ?_ ?_)
      | (refine jf_put (S := [220, 221]) (o := 0) (F := []) (W := W) (by repeat (first | exact fw_sm_refl | exact fw_sm_put0 | refine fw_sm_arr ?_ rfl | refine fw_sm_up ?_ rfl | refine fw_sm_put ?_ rfl | refine fw_sm_cp ?_ rfl)) (lm_k_quartersQ_9 (h := h) hpre hP _ _ _ _ rfl ?_); (first | omega | trivial | (simp (config := { decide := true }) only [fg_in, fg_fin, fg_out, fg_fout, fg_up, fg_same, true_and, and_true] <;> omega)))
      | (refine hP _ _ (by repeat (first | exact fw_sm_refl | exact fw_sm_put0 | refine fw_sm_arr ?_ rfl | refine fw_sm_up ?_ rfl | refine fw_sm_put ?_ rfl | refine fw_sm_cp ?_ rfl)) ?_; (refine ⟨by omega, by omega, ?_⟩; (omega)))
      | omega
      | (intro _))
  · exact hx.elim

def ct_k_quartersL : List (Nat × fw_X) := [(132, x_k_sumBehindp)]
theorem ct_k_quartersL_ok (d : Nat) : fw_cok fw_T (d + 1) ct_k_quartersL := by
  intro q hq as W Q h
  simp only [ct_k_quartersL, List.mem_cons, List.not_mem_nil, or_false] at hq
  rcases hq with rfl
  · exact jc_of (x_k_sumBehindp_ok (d + 0) as W Q h)
theorem s_k_quartersL_0 {Post : Option fw_V → fw_W → Prop} {d : Nat} {W : fw_W} {h : Int}
    (hw_ : (tr ((fw_g W 12 0)) (fun z_ => (fw_g W 13 z_)) ∧ 0 ≤ (fw_g W 12 0) ∧ (fw_g W 12 0) ≤ 14 ∧ (∀ j_, 1 ≤ j_ → j_ < (fw_g W 12 0) → 1 ≤ (fw_g W 204 j_) ∧ (fw_g W 204 j_) < (fw_g W 12 0))) ∧ (∀ (f1 : fw_W), ((True)) → jf fw_T (d + 2) 131 9 [(0, .inr (.inl 203)), (1, .inl h), (2, .inr (.inl 339)), (3, .inl (0 : Int)), (4, .inl (0 : Int))] [] (fw_put [220] 0 [] W f1) Post)) :
    jf fw_T (d + 2) 131 0 [(0, .inr (.inl 203)), (1, .inl h), (2, .inr (.inl 339))] [] W Post := fw_ok (n := 7) (ss := [(9, [0, 1, 2, 3, 4])]) (hv := [79]) fr_131_ok fv_waysq_ok (ct_k_quartersL_ok d) hw_

theorem s_k_quartersL_9 {Post : Option fw_V → fw_W → Prop} {d : Nat} {W : fw_W} {h fil o : Int} {f : fw_W}
    (hw_ : (0 ≤ (fw_g W 12 0) → (fw_g W 12 0) ≤ 14 → (((fw_g W 12 0) ≤ o → (-2147483648 ≤ fil → fil ≤ 2147483647 → Post (some (.inl fil)) (fw_put [220, 339] 0 [] W f))) ∧ (o < (fw_g W 12 0) → 0 ≤ o ∧ o < 14 ∧ (-1 ≤ (fw_g W 13 o) → (fw_g W 13 o) ≤ 13 → ((¬ (fw_g W 13 o) = h → 0 ≤ h ∧ h < 14 ∧ (-1 ≤ (fw_g W 13 h) → (fw_g W 13 h) ≤ 13 → ((¬ (fw_g W 13 h) = o → -2147483648 ≤ o + (1 : Int) ∧ o + (1 : Int) ≤ 2147483647 ∧ (jf fw_T (d + 2) 131 9 [(0, .inr (.inl 203)), (1, .inl h), (2, .inr (.inl 339)), (3, .inl fil), (4, .inl (o + (1 : Int)))] [] (fw_put [220, 339] 0 [] W f) Post)) ∧ ((fw_g W 13 h) = o → 0 ≤ (0 : Int) ∧ (0 : Int) < 14 ∧ (-2147483648 ≤ (fw_g f 220 (0 : Int)) → (fw_g f 220 (0 : Int)) ≤ 2147483647 → 0 ≤ h ∧ h < 14 ∧ (-2147483648 ≤ (fw_g f 220 h) → (fw_g f 220 h) ≤ 2147483647 → ∀ v1 : Int, -2147483648 ≤ v1 → v1 ≤ 2147483647 → 0 ≤ fil ∧ fil < 14 ∧ -2147483648 ≤ v1 ∧ v1 ≤ 2147483647 ∧ (-2147483648 ≤ fil + (1 : Int) ∧ fil + (1 : Int) ≤ 2147483647 ∧ (-2147483648 ≤ o + (1 : Int) ∧ o + (1 : Int) ≤ 2147483647 ∧ (jf fw_T (d + 2) 131 9 [(0, .inr (.inl 203)), (1, .inl h), (2, .inr (.inl 339)), (3, .inl (fil + (1 : Int))), (4, .inl (o + (1 : Int)))] [] (fw_up (fw_put [220, 339] 0 [] W f) 339 fil v1) Post))))))))) ∧ ((fw_g W 13 o) = h → 0 ≤ o ∧ o < 14 ∧ (-2147483648 ≤ (fw_g f 220 o) → (fw_g f 220 o) ≤ 2147483647 → 0 ≤ fil ∧ fil < 14 ∧ -2147483648 ≤ (fw_g f 220 o) ∧ (fw_g f 220 o) ≤ 2147483647 ∧ (-2147483648 ≤ fil + (1 : Int) ∧ fil + (1 : Int) ≤ 2147483647 ∧ (-2147483648 ≤ o + (1 : Int) ∧ o + (1 : Int) ≤ 2147483647 ∧ (jf fw_T (d + 2) 131 9 [(0, .inr (.inl 203)), (1, .inl h), (2, .inr (.inl 339)), (3, .inl (fil + (1 : Int))), (4, .inl (o + (1 : Int)))] [] (fw_up (fw_put [220, 339] 0 [] W f) 339 fil (fw_g f 220 o)) Post))))))))))) :
    jf fw_T (d + 2) 131 9 [(0, .inr (.inl 203)), (1, .inl h), (2, .inr (.inl 339)), (3, .inl fil), (4, .inl o)] [] (fw_put [220, 339] 0 [] W f) Post := fw_ok (n := 35) (ss := [(9, [0, 1, 2, 3, 4])]) (hv := [79]) fr_131_ok fv_waysq_ok (ct_k_quartersL_ok d) hw_

theorem lm_k_quartersL_9 {Post : Option fw_V → fw_W → Prop} {d : Nat} {W : fw_W} {h : Int} (hpre : tr ((fw_g W 12 0)) (fun z_ => (fw_g W 13 z_)) ∧ 0 ≤ (fw_g W 12 0) ∧ (fw_g W 12 0) ≤ 14 ∧ (∀ j_, 1 ≤ j_ → j_ < (fw_g W 12 0) → 1 ≤ (fw_g W 204 j_) ∧ (fw_g W 204 j_) < (fw_g W 12 0)) ∧ 0 ≤ h ∧ h < 14) (hP : ∀ (v : Int) (W2 : fw_W), fw_sm [220, 339] 0 [] W W2 → (-2147483648 ≤ v ∧ v ≤ 2147483647 ∧ (0 ≤ v ∧ v ≤ 14)) → Post (some (.inl v)) W2)  : ∀ (m : Nat) (fil o : Int) (f : fw_W), ((fw_g W 12 0) - o).toNat = m → 0 ≤ o ∧ 0 ≤ fil ∧ fil ≤ o ∧ fil ≤ (fw_g W 12 0) → jf fw_T (d + 2) 131 9 [(0, .inr (.inl 203)), (1, .inl h), (2, .inr (.inl 339)), (3, .inl fil), (4, .inl o)] [] (fw_put [220, 339] 0 [] W f) Post := by
  intro m
  induction m using Nat.strongRecOn with
  | ind m ih =>
    intro fil o f hm hi
    refine jf_rng (fun hrg => ?_)
    have hrg : -2147483648 ≤ h ∧ h ≤ 2147483647 ∧ -2147483648 ≤ fil ∧ fil ≤ 2147483647 ∧ -2147483648 ≤ o ∧ o ≤ 2147483647 ∧ True := hrg
    refine s_k_quartersL_9 ?_
    repeat' (first
      | (exact True.intro)
      | (exact hpre.1)
      | (refine And.intro ?_ ?_)
      | (refine jf_put (S := [220, 339]) (o := 0) (F := []) (W := W) (by repeat (first | exact fw_sm_refl | exact fw_sm_put0 | refine fw_sm_arr ?_ rfl | refine fw_sm_up ?_ rfl | refine fw_sm_put ?_ rfl | refine fw_sm_cp ?_ rfl)) (ih _ (by omega) _ _ _ rfl ?_); (first | omega | trivial | (simp (config := { decide := true }) only [fg_in, fg_fin, fg_out, fg_fout, fg_up, fg_same, true_and, and_true] <;> omega)))
      | (refine hP _ _ (by repeat (first | exact fw_sm_refl | exact fw_sm_put0 | refine fw_sm_arr ?_ rfl | refine fw_sm_up ?_ rfl | refine fw_sm_put ?_ rfl | refine fw_sm_cp ?_ rfl)) ?_; (refine ⟨by omega, by omega, ?_⟩; (omega)))
      | omega
      | (intro _))
def x_k_quartersL : fw_X := fun as W Q => match as with
  | [.inr (.inl s_), .inl h, .inr (.inl r1_)] => fw_if (Nat.beq s_ 203) (fw_if (Nat.beq r1_ 339) ((tr ((fw_g W 12 0)) (fun z_ => (fw_g W 13 z_)) ∧ 0 ≤ (fw_g W 12 0) ∧ (fw_g W 12 0) ≤ 14 ∧ (∀ j_, 1 ≤ j_ → j_ < (fw_g W 12 0) → 1 ≤ (fw_g W 204 j_) ∧ (fw_g W 204 j_) < (fw_g W 12 0)) ∧ 0 ≤ h ∧ h < 14) ∧ (∀ (v : Int) (f : fw_W), (-2147483648 ≤ v ∧ v ≤ 2147483647 ∧ (0 ≤ v ∧ v ≤ 14)) → Q (some (.inl v)) (fw_put [220, 339] 0 [] W f))))
  | _ => False
theorem x_k_quartersL_ok (d : Nat) (as : List fw_V) (W : fw_W) (Q : Option fw_V → fw_W → Prop) (hx : x_k_quartersL as W Q) : jf fw_T (d + 2) 131 0 (fw_args 0 as) [] W Q := by
  unfold x_k_quartersL at hx
  split at hx
  · rename_i s_ h r1_
    obtain ⟨e0_, hx0⟩ := fw_if_ok hx
    have e0_ := Nat.eq_of_beq_eq_true e0_
    clear hx
    subst e0_
    obtain ⟨e1_, hx1⟩ := fw_if_ok hx0
    have e1_ := Nat.eq_of_beq_eq_true e1_
    clear hx0
    subst e1_
    obtain ⟨hpre, hQ⟩ := hx1
    have hP : ∀ (v : Int) (W2 : fw_W), fw_sm [220, 339] 0 [] W W2 → _ → Q (some (.inl v)) W2 := fun v W2 hs hr => fw_sm_use (Q := fun Z => Q (some (.inl v)) Z) hs (hQ v W2 hr)
    refine s_k_quartersL_0 ?_
    repeat' (first
      | (exact hpre.1)
      | (exact hpre.2.2.2.1)
      | (exact True.intro)
      | (exact hpre.1)
      | (refine And.intro ?_ ?_)
      | (refine jf_put (S := [220, 339]) (o := 0) (F := []) (W := W) (by repeat (first | exact fw_sm_refl | exact fw_sm_put0 | refine fw_sm_arr ?_ rfl | refine fw_sm_up ?_ rfl | refine fw_sm_put ?_ rfl | refine fw_sm_cp ?_ rfl)) (lm_k_quartersL_9 (h := h) hpre hP _ _ _ _ rfl ?_); (first | omega | trivial | (simp (config := { decide := true }) only [fg_in, fg_fin, fg_out, fg_fout, fg_up, fg_same, true_and, and_true] <;> omega)))
      | (refine hP _ _ (by repeat (first | exact fw_sm_refl | exact fw_sm_put0 | refine fw_sm_arr ?_ rfl | refine fw_sm_up ?_ rfl | refine fw_sm_put ?_ rfl | refine fw_sm_cp ?_ rfl)) ?_; (refine ⟨by omega, by omega, ?_⟩; (omega)))
      | omega
      | (intro _))
  · exact hx.elim

def fr_130 : fw_P := [(0, 2, 0, 0, 0), (1, 1, 1, 0, 0), (2, 2, 0, 0, 0), (3, 50, 10, 7, 0), (6, 64, 131, 2, 510), (9, 3, 2, 0, 0), (10, 0, 0, 0, 0), (11, 3, 3, 0, 0), (12, 0, 0, 0, 0), (13, 3, 4, 0, 0), (15, 1, 4, 0, 0), (17, 1, 2, 0, 0), (18, 13, 39, 0, 0), (21, 1, 3, 0, 0), (22, 2, 0, 0, 0), (23, 50, 10, 7, 0), (26, 1, 4, 0, 0), (28, 52, 0, 0, 0), (29, 60, 0, 0, 0), (32, 3, 3, 0, 0), (33, 5, 4, 0, 1), (36, 6, 15, 0, 0), (39, 1, 3, 0, 0), (40, 70, 0, 0, 0)]
theorem fr_130_ok : fw_mk 130 5 10 (some .int) fr_130 = true := by decide +kernel
def ct_k_greatestQuarter : List (Nat × fw_X) := [(131, x_k_quartersQ)]
theorem ct_k_greatestQuarter_ok (d : Nat) : fw_cok fw_T (d + 2) ct_k_greatestQuarter := by
  intro q hq as W Q h
  simp only [ct_k_greatestQuarter, List.mem_cons, List.not_mem_nil, or_false] at hq
  rcases hq with rfl
  · exact jc_of (x_k_quartersQ_ok (d + 0) as W Q h)
theorem s_k_greatestQuarter_0 {Post : Option fw_V → fw_W → Prop} {d : Nat} {W : fw_W} {h : Int}
    (hw_ : (tr ((fw_g W 12 0)) (fun z_ => (fw_g W 13 z_)) ∧ 0 ≤ (fw_g W 12 0) ∧ (fw_g W 12 0) ≤ 14 ∧ (∀ j_, 1 ≤ j_ → j_ < (fw_g W 12 0) → 1 ≤ (fw_g W 204 j_) ∧ (fw_g W 204 j_) < (fw_g W 12 0)) ∧ 0 ≤ h ∧ h < 14) ∧ (∀ (r1 : Int) (f2 : fw_W), ((-2147483648 ≤ r1 ∧ r1 ≤ 2147483647 ∧ (0 ≤ r1 ∧ r1 ≤ 14))) → jf fw_T (d + 3) 130 15 [(0, .inr (.inl 203)), (2, .inl r1), (3, .inl (0 : Int)), (4, .inl (0 : Int))] [] (fw_put [220, 221] 0 [] W f2) Post)) :
    jf fw_T (d + 3) 130 0 [(0, .inr (.inl 203)), (1, .inl h)] [] W Post := fw_ok (n := 11) (ss := [(15, [0, 2, 3, 4])]) (hv := []) fr_130_ok fv_waysq_ok (ct_k_greatestQuarter_ok d) hw_

theorem s_k_greatestQuarter_15 {Post : Option fw_V → fw_W → Prop} {d : Nat} {W : fw_W} {q gr i : Int} {f : fw_W}
    (hw_ : ((q ≤ i → (-2147483648 ≤ gr → gr ≤ 2147483647 → Post (some (.inl gr)) (fw_put [220, 221] 0 [] W f))) ∧ (i < q → 0 ≤ i ∧ i < 14 ∧ (-2147483648 ≤ (fw_g f 221 i) → (fw_g f 221 i) ≤ 2147483647 → -2147483648 ≤ i + (1 : Int) ∧ i + (1 : Int) ≤ 2147483647 ∧ (jf fw_T (d + 3) 130 15 [(0, .inr (.inl 203)), (2, .inl q), (3, .inl (max gr (fw_g f 221 i))), (4, .inl (i + (1 : Int)))] [] (fw_put [220, 221] 0 [] W f) Post))))) :
    jf fw_T (d + 3) 130 15 [(0, .inr (.inl 203)), (2, .inl q), (3, .inl gr), (4, .inl i)] [] (fw_put [220, 221] 0 [] W f) Post := fw_ok (n := 13) (ss := [(15, [0, 2, 3, 4])]) (hv := []) fr_130_ok fv_waysq_ok (ct_k_greatestQuarter_ok d) hw_

theorem lm_k_greatestQuarter_15 {Post : Option fw_V → fw_W → Prop} {d : Nat} {W : fw_W} {h : Int} (hpre : tr ((fw_g W 12 0)) (fun z_ => (fw_g W 13 z_)) ∧ 0 ≤ (fw_g W 12 0) ∧ (fw_g W 12 0) ≤ 14 ∧ (∀ j_, 1 ≤ j_ → j_ < (fw_g W 12 0) → 1 ≤ (fw_g W 204 j_) ∧ (fw_g W 204 j_) < (fw_g W 12 0)) ∧ 0 ≤ h ∧ h < 14) (hP : ∀ (v : Int) (W2 : fw_W), fw_sm [220, 221] 0 [] W W2 → (-2147483648 ≤ v ∧ v ≤ 2147483647 ∧ (True)) → Post (some (.inl v)) W2)  : ∀ (m : Nat) (q gr i : Int) (f : fw_W), (q - i).toNat = m → 0 ≤ i ∧ q ≤ 14 → jf fw_T (d + 3) 130 15 [(0, .inr (.inl 203)), (2, .inl q), (3, .inl gr), (4, .inl i)] [] (fw_put [220, 221] 0 [] W f) Post := by
  intro m
  induction m using Nat.strongRecOn with
  | ind m ih =>
    intro q gr i f hm hi
    refine jf_rng (fun hrg => ?_)
    have hrg : -2147483648 ≤ q ∧ q ≤ 2147483647 ∧ -2147483648 ≤ gr ∧ gr ≤ 2147483647 ∧ -2147483648 ≤ i ∧ i ≤ 2147483647 ∧ True := hrg
    refine s_k_greatestQuarter_15 ?_
    repeat' (first
      | (exact True.intro)
      | (exact hpre.1)
      | (refine And.intro ?_ ?_)
      | (refine jf_put (S := [220, 221]) (o := 0) (F := []) (W := W) (by repeat (first | exact fw_sm_refl | exact fw_sm_put0 | refine fw_sm_arr ?_ rfl | refine fw_sm_up ?_ rfl | refine fw_sm_put ?_ rfl | refine fw_sm_cp ?_ rfl)) (ih _ (by omega) _ _ _ _ rfl ?_); (first | omega | trivial | (simp (config := { decide := true }) only [fg_in, fg_fin, fg_out, fg_fout, fg_up, fg_same, true_and, and_true] <;> omega)))
      | (refine hP _ _ (by repeat (first | exact fw_sm_refl | exact fw_sm_put0 | refine fw_sm_arr ?_ rfl | refine fw_sm_up ?_ rfl | refine fw_sm_put ?_ rfl | refine fw_sm_cp ?_ rfl)) ?_; (refine ⟨by omega, by omega, ?_⟩; (first | trivial | omega)))
      | omega
      | (intro _))
def x_k_greatestQuarter : fw_X := fun as W Q => match as with
  | [.inr (.inl s_), .inl h] => fw_if (Nat.beq s_ 203) ((tr ((fw_g W 12 0)) (fun z_ => (fw_g W 13 z_)) ∧ 0 ≤ (fw_g W 12 0) ∧ (fw_g W 12 0) ≤ 14 ∧ (∀ j_, 1 ≤ j_ → j_ < (fw_g W 12 0) → 1 ≤ (fw_g W 204 j_) ∧ (fw_g W 204 j_) < (fw_g W 12 0)) ∧ 0 ≤ h ∧ h < 14) ∧ (∀ (v : Int) (f : fw_W), (-2147483648 ≤ v ∧ v ≤ 2147483647 ∧ (True)) → Q (some (.inl v)) (fw_put [220, 221] 0 [] W f)))
  | _ => False
theorem x_k_greatestQuarter_ok (d : Nat) (as : List fw_V) (W : fw_W) (Q : Option fw_V → fw_W → Prop) (hx : x_k_greatestQuarter as W Q) : jf fw_T (d + 3) 130 0 (fw_args 0 as) [] W Q := by
  unfold x_k_greatestQuarter at hx
  split at hx
  · rename_i s_ h
    obtain ⟨e_, hpre, hQ⟩ := fw_if_ok hx
    have e_ := Nat.eq_of_beq_eq_true e_
    subst e_
    have hP : ∀ (v : Int) (W2 : fw_W), fw_sm [220, 221] 0 [] W W2 → _ → Q (some (.inl v)) W2 := fun v W2 hs hr => fw_sm_use (Q := fun Z => Q (some (.inl v)) Z) hs (hQ v W2 hr)
    refine s_k_greatestQuarter_0 ?_
    repeat' (first
      | (exact hpre.1)
      | (exact hpre.2.2.2.1)
      | (exact True.intro)
      | (exact hpre.1)
      | (refine And.intro ?_ ?_)
      | (refine jf_put (S := [220, 221]) (o := 0) (F := []) (W := W) (by repeat (first | exact fw_sm_refl | exact fw_sm_put0 | refine fw_sm_arr ?_ rfl | refine fw_sm_up ?_ rfl | refine fw_sm_put ?_ rfl | refine fw_sm_cp ?_ rfl)) (lm_k_greatestQuarter_15 (h := h) hpre hP _ _ _ _ _ rfl ?_); (first | omega | trivial | (simp (config := { decide := true }) only [fg_in, fg_fin, fg_out, fg_fout, fg_up, fg_same, true_and, and_true] <;> omega)))
      | (refine hP _ _ (by repeat (first | exact fw_sm_refl | exact fw_sm_put0 | refine fw_sm_arr ?_ rfl | refine fw_sm_up ?_ rfl | refine fw_sm_put ?_ rfl | refine fw_sm_cp ?_ rfl)) ?_; (refine ⟨by omega, by omega, ?_⟩; (first | trivial | omega)))
      | omega
      | (intro _))
  · exact hx.elim

def fr_128 : fw_P := [(0, 1, 2, 0, 0), (1, 21, 10, 0, 0), (4, 2, 0, 0, 0), (5, 1, 1, 0, 0), (6, 64, 124, 1, 410), (9, 70, 0, 0, 0), (10, 1, 2, 0, 0), (11, 0, 0, 0, 1), (12, 11, 23, 0, 0), (15, 2, 0, 0, 0), (16, 1, 1, 0, 0), (17, 64, 129, 1, 410), (20, 6, 28, 0, 0), (23, 2, 0, 0, 0), (24, 1, 1, 0, 0), (25, 64, 130, 1, 510), (28, 70, 0, 0, 0)]
theorem fr_128_ok : fw_mk 128 3 10 (some .int) fr_128 = true := by decide +kernel
def ct_k_offMiddle : List (Nat × fw_X) := [(130, x_k_greatestQuarter), (124, x_k_longestFrom), (129, x_k_walkedTo)]
theorem ct_k_offMiddle_ok (d : Nat) : fw_cok fw_T (d + 3) ct_k_offMiddle := by
  intro q hq as W Q h
  simp only [ct_k_offMiddle, List.mem_cons, List.not_mem_nil, or_false] at hq
  rcases hq with rfl | rfl | rfl
  · exact jc_of (x_k_greatestQuarter_ok (d + 0) as W Q h)
  · exact jc_of (x_k_longestFrom_ok (d + 2) as W Q h)
  · exact jc_of (x_k_walkedTo_ok (d + 2) as W Q h)
theorem s_k_offMiddle_0 {Post : Option fw_V → fw_W → Prop} {d : Nat} {W : fw_W} {h so : Int}
    (hw_ : ((¬ so = 0 → ((¬ so = (1 : Int) → (tr ((fw_g W 12 0)) (fun z_ => (fw_g W 13 z_)) ∧ 0 ≤ (fw_g W 12 0) ∧ (fw_g W 12 0) ≤ 14 ∧ (∀ j_, 1 ≤ j_ → j_ < (fw_g W 12 0) → 1 ≤ (fw_g W 204 j_) ∧ (fw_g W 204 j_) < (fw_g W 12 0)) ∧ 0 ≤ h ∧ h < 14) ∧ (∀ (r1 : Int) (f2 : fw_W), ((-2147483648 ≤ r1 ∧ r1 ≤ 2147483647 ∧ (True))) → (-2147483648 ≤ r1 → r1 ≤ 2147483647 → Post (some (.inl r1)) (fw_put [220, 221] 0 [] W f2)))) ∧ (so = (1 : Int) → (0 ≤ h ∧ h < 14 ∧ 0 ≤ (fw_g W 12 0) ∧ (fw_g W 12 0) ≤ 14) ∧ (∀ (r3 : Int), ((-2147483648 ≤ r3 ∧ r3 ≤ 2147483647 ∧ (True))) → (-2147483648 ≤ r3 → r3 ≤ 2147483647 → Post (some (.inl r3)) W))))) ∧ (so = 0 → (0 ≤ h ∧ h < 14 ∧ 0 ≤ (fw_g W 12 0) ∧ (fw_g W 12 0) ≤ 14) ∧ (∀ (r4 : Int), ((-2147483648 ≤ r4 ∧ r4 ≤ 2147483647 ∧ (True))) → (-2147483648 ≤ r4 → r4 ≤ 2147483647 → Post (some (.inl r4)) W))))) :
    jf fw_T (d + 4) 128 0 [(0, .inr (.inl 203)), (1, .inl h), (2, .inl so)] [] W Post := fw_ok (n := 11) (ss := []) (hv := []) fr_128_ok fv_waysq_ok (ct_k_offMiddle_ok d) hw_

def x_k_offMiddle : fw_X := fun as W Q => match as with
  | [.inr (.inl s_), .inl h, .inl so] => fw_if (Nat.beq s_ 203) ((tr ((fw_g W 12 0)) (fun z_ => (fw_g W 13 z_)) ∧ 0 ≤ (fw_g W 12 0) ∧ (fw_g W 12 0) ≤ 14 ∧ (∀ j_, 1 ≤ j_ → j_ < (fw_g W 12 0) → 1 ≤ (fw_g W 204 j_) ∧ (fw_g W 204 j_) < (fw_g W 12 0)) ∧ 0 ≤ h ∧ h < 14) ∧ (∀ (v : Int) (f : fw_W), (-2147483648 ≤ v ∧ v ≤ 2147483647 ∧ (True)) → Q (some (.inl v)) (fw_put [220, 221] 0 [] W f)))
  | _ => False
theorem x_k_offMiddle_ok (d : Nat) (as : List fw_V) (W : fw_W) (Q : Option fw_V → fw_W → Prop) (hx : x_k_offMiddle as W Q) : jf fw_T (d + 4) 128 0 (fw_args 0 as) [] W Q := by
  unfold x_k_offMiddle at hx
  split at hx
  · rename_i s_ h so
    obtain ⟨e_, hpre, hQ⟩ := fw_if_ok hx
    have e_ := Nat.eq_of_beq_eq_true e_
    subst e_
    have hP : ∀ (v : Int) (W2 : fw_W), fw_sm [220, 221] 0 [] W W2 → _ → Q (some (.inl v)) W2 := fun v W2 hs hr => fw_sm_use (Q := fun Z => Q (some (.inl v)) Z) hs (hQ v W2 hr)
    refine s_k_offMiddle_0 ?_
    repeat' (first
      | (exact hpre.1)
      | (exact hpre.2.2.2.1)
      | (exact True.intro)
      | (exact hpre.1)
      | (refine And.intro ?_ ?_)
      | (refine hP _ _ (by repeat (first | exact fw_sm_refl | exact fw_sm_put0 | refine fw_sm_arr ?_ rfl | refine fw_sm_up ?_ rfl | refine fw_sm_put ?_ rfl | refine fw_sm_cp ?_ rfl)) ?_; (refine ⟨by omega, by omega, ?_⟩; (first | trivial | omega)))
      | omega
      | (intro _))
  · exact hx.elim

def fr_147 : fw_P := [(0, 2, 0, 0, 0), (1, 50, 11, 2, 0), (4, 50, 9, 0, 0), (7, 20, 19, 0, 0), (10, 1, 1, 0, 0), (11, 22, 19, 0, 0), (14, 1, 1, 0, 0), (15, 0, 0, 0, 2), (16, 15, 21, 0, 0), (19, 0, 0, 0, -1), (20, 70, 0, 0, 0), (21, 0, 0, 0, 0), (22, 3, 2, 0, 0), (23, 0, 0, 0, 1), (24, 3, 3, 0, 0), (25, 1, 3, 0, 0), (26, 2, 0, 0, 0), (27, 50, 11, 2, 0), (30, 50, 9, 0, 0), (33, 13, 65, 0, 0), (36, 2, 0, 0, 0), (37, 50, 11, 5, 0), (40, 1, 3, 0, 0), (41, 1, 1, 0, 0), (42, 64, 128, 2, 310), (45, 2, 0, 0, 0), (46, 50, 11, 5, 0), (49, 1, 2, 0, 0), (50, 1, 1, 0, 0), (51, 64, 128, 2, 310), (54, 13, 59, 0, 0), (57, 1, 3, 0, 0), (58, 3, 2, 0, 0), (59, 5, 3, 0, 1), (62, 6, 25, 0, 0), (65, 1, 2, 0, 0), (66, 70, 0, 0, 0)]
theorem fr_147_ok : fw_mk 147 4 11 (some .int) fr_147 = true := by decide +kernel
def ct_k_middle : List (Nat × fw_X) := [(128, x_k_offMiddle)]
theorem ct_k_middle_ok (d : Nat) : fw_cok fw_T (d + 4) ct_k_middle := by
  intro q hq as W Q h
  simp only [ct_k_middle, List.mem_cons, List.not_mem_nil, or_false] at hq
  rcases hq with rfl
  · exact jc_of (x_k_offMiddle_ok (d + 0) as W Q h)
theorem s_k_middle_0 {Post : Option fw_V → fw_W → Prop} {d : Nat} {W : fw_W} {so : Int}
    (hw_ : (0 ≤ (fw_g W 12 0) → (fw_g W 12 0) ≤ 14 → (((fw_g W 12 0) = 0 → (-2147483648 ≤ (-1 : Int) → (-1 : Int) ≤ 2147483647 → Post (some (.inl (-1 : Int))) W)) ∧ (¬ (fw_g W 12 0) = 0 → ((so < 0 → (-2147483648 ≤ (-1 : Int) → (-1 : Int) ≤ 2147483647 → Post (some (.inl (-1 : Int))) W)) ∧ (0 ≤ so → ((so ≤ (2 : Int) → jf fw_T (d + 5) 147 25 [(0, .inr (.inl 0)), (1, .inl so), (2, .inl (0 : Int)), (3, .inl (1 : Int))] [] W Post) ∧ ((2 : Int) < so → (-2147483648 ≤ (-1 : Int) → (-1 : Int) ≤ 2147483647 → Post (some (.inl (-1 : Int))) W))))))))) :
    jf fw_T (d + 5) 147 0 [(0, .inr (.inl 0)), (1, .inl so)] [] W Post := fw_ok (n := 14) (ss := [(25, [0, 1, 2, 3])]) (hv := []) fr_147_ok fv_owt_ok (ct_k_middle_ok d) hw_

theorem s_k_middle_25 {Post : Option fw_V → fw_W → Prop} {d : Nat} {W : fw_W} {so be h : Int} {f : fw_W}
    (hw_ : (0 ≤ (fw_g W 12 0) → (fw_g W 12 0) ≤ 14 → (((fw_g W 12 0) ≤ h → (-2147483648 ≤ be → be ≤ 2147483647 → Post (some (.inl be)) (fw_put [220, 221] 0 [] W f))) ∧ (h < (fw_g W 12 0) → (tr ((fw_g W 12 0)) (fun z_ => (fw_g W 13 z_)) ∧ 0 ≤ (fw_g W 12 0) ∧ (fw_g W 12 0) ≤ 14 ∧ (∀ j_, 1 ≤ j_ → j_ < (fw_g W 12 0) → 1 ≤ (fw_g W 204 j_) ∧ (fw_g W 204 j_) < (fw_g W 12 0)) ∧ 0 ≤ h ∧ h < 14) ∧ (∀ (r1 : Int) (f2 : fw_W), ((-2147483648 ≤ r1 ∧ r1 ≤ 2147483647 ∧ (True))) → (tr ((fw_g W 12 0)) (fun z_ => (fw_g W 13 z_)) ∧ 0 ≤ (fw_g W 12 0) ∧ (fw_g W 12 0) ≤ 14 ∧ (∀ j_, 1 ≤ j_ → j_ < (fw_g W 12 0) → 1 ≤ (fw_g W 204 j_) ∧ (fw_g W 204 j_) < (fw_g W 12 0)) ∧ 0 ≤ be ∧ be < 14) ∧ (∀ (r3 : Int) (f4 : fw_W), ((-2147483648 ≤ r3 ∧ r3 ≤ 2147483647 ∧ (True))) → ((r3 ≤ r1 → -2147483648 ≤ h + (1 : Int) ∧ h + (1 : Int) ≤ 2147483647 ∧ (jf fw_T (d + 5) 147 25 [(0, .inr (.inl 0)), (1, .inl so), (2, .inl be), (3, .inl (h + (1 : Int)))] [] (fw_put [220, 221] 0 [] (fw_put [220, 221] 0 [] (fw_put [220, 221] 0 [] W f) f2) f4) Post)) ∧ (r1 < r3 → -2147483648 ≤ h + (1 : Int) ∧ h + (1 : Int) ≤ 2147483647 ∧ (jf fw_T (d + 5) 147 25 [(0, .inr (.inl 0)), (1, .inl so), (2, .inl h), (3, .inl (h + (1 : Int)))] [] (fw_put [220, 221] 0 [] (fw_put [220, 221] 0 [] (fw_put [220, 221] 0 [] W f) f2) f4) Post))))))))) :
    jf fw_T (d + 5) 147 25 [(0, .inr (.inl 0)), (1, .inl so), (2, .inl be), (3, .inl h)] [] (fw_put [220, 221] 0 [] W f) Post := fw_ok (n := 21) (ss := [(25, [0, 1, 2, 3])]) (hv := []) fr_147_ok fv_owt_ok (ct_k_middle_ok d) hw_

theorem lm_k_middle_25 {Post : Option fw_V → fw_W → Prop} {d : Nat} {W : fw_W} {so : Int} (hpre : tr ((fw_g W 12 0)) (fun z_ => (fw_g W 13 z_)) ∧ 0 ≤ (fw_g W 12 0) ∧ (fw_g W 12 0) ≤ 14 ∧ (∀ j_, 1 ≤ j_ → j_ < (fw_g W 12 0) → 1 ≤ (fw_g W 204 j_) ∧ (fw_g W 204 j_) < (fw_g W 12 0))) (hP : ∀ (v : Int) (W2 : fw_W), fw_sm [220, 221] 0 [] W W2 → (-2147483648 ≤ v ∧ v ≤ 2147483647 ∧ (True)) → Post (some (.inl v)) W2)  : ∀ (m : Nat) (be h : Int) (f : fw_W), ((fw_g W 12 0) - h).toNat = m → 1 ≤ h ∧ 0 ≤ be ∧ be < 14 → jf fw_T (d + 5) 147 25 [(0, .inr (.inl 0)), (1, .inl so), (2, .inl be), (3, .inl h)] [] (fw_put [220, 221] 0 [] W f) Post := by
  intro m
  induction m using Nat.strongRecOn with
  | ind m ih =>
    intro be h f hm hi
    refine jf_rng (fun hrg => ?_)
    have hrg : -2147483648 ≤ so ∧ so ≤ 2147483647 ∧ -2147483648 ≤ be ∧ be ≤ 2147483647 ∧ -2147483648 ≤ h ∧ h ≤ 2147483647 ∧ True := hrg
    refine s_k_middle_25 ?_
    repeat' (first
      | (exact hpre.1)
      | (exact hpre.2.2.2)
      | (exact True.intro)
      | (exact hpre.1)
      | (refine And.intro ?_ ?_)
      | (refine jf_put (S := [220, 221]) (o := 0) (F := []) (W := W) (by repeat (first | exact fw_sm_refl | exact fw_sm_put0 | refine fw_sm_arr ?_ rfl | refine fw_sm_up ?_ rfl | refine fw_sm_put ?_ rfl | refine fw_sm_cp ?_ rfl)) (ih _ (by omega) _ _ _ rfl ?_); (first | omega | trivial | (simp (config := { decide := true }) only [fg_in, fg_fin, fg_out, fg_fout, fg_up, fg_same, true_and, and_true] <;> omega)))
      | (refine hP _ _ (by repeat (first | exact fw_sm_refl | exact fw_sm_put0 | refine fw_sm_arr ?_ rfl | refine fw_sm_up ?_ rfl | refine fw_sm_put ?_ rfl | refine fw_sm_cp ?_ rfl)) ?_; (refine ⟨by omega, by omega, ?_⟩; (first | trivial | omega)))
      | omega
      | (intro _))
def x_k_middle : fw_X := fun as W Q => match as with
  | [.inr (.inl s_), .inl so] => fw_if (Nat.beq s_ 0) ((tr ((fw_g W 12 0)) (fun z_ => (fw_g W 13 z_)) ∧ 0 ≤ (fw_g W 12 0) ∧ (fw_g W 12 0) ≤ 14 ∧ (∀ j_, 1 ≤ j_ → j_ < (fw_g W 12 0) → 1 ≤ (fw_g W 204 j_) ∧ (fw_g W 204 j_) < (fw_g W 12 0))) ∧ (∀ (v : Int) (f : fw_W), (-2147483648 ≤ v ∧ v ≤ 2147483647 ∧ (True)) → Q (some (.inl v)) (fw_put [220, 221] 0 [] W f)))
  | _ => False
theorem x_k_middle_ok (d : Nat) (as : List fw_V) (W : fw_W) (Q : Option fw_V → fw_W → Prop) (hx : x_k_middle as W Q) : jf fw_T (d + 5) 147 0 (fw_args 0 as) [] W Q := by
  unfold x_k_middle at hx
  split at hx
  · rename_i s_ so
    obtain ⟨e_, hpre, hQ⟩ := fw_if_ok hx
    have e_ := Nat.eq_of_beq_eq_true e_
    subst e_
    have hP : ∀ (v : Int) (W2 : fw_W), fw_sm [220, 221] 0 [] W W2 → _ → Q (some (.inl v)) W2 := fun v W2 hs hr => fw_sm_use (Q := fun Z => Q (some (.inl v)) Z) hs (hQ v W2 hr)
    refine s_k_middle_0 ?_
    repeat' (first
      | (exact hpre.2.2.2)
      | (exact True.intro)
      | (exact hpre.1)
      | (refine And.intro ?_ ?_)
      | (refine jf_put (S := [220, 221]) (o := 0) (F := []) (W := W) (by repeat (first | exact fw_sm_refl | exact fw_sm_put0 | refine fw_sm_arr ?_ rfl | refine fw_sm_up ?_ rfl | refine fw_sm_put ?_ rfl | refine fw_sm_cp ?_ rfl)) (lm_k_middle_25 (so := so) hpre hP _ _ _ _ rfl ?_); (first | omega | trivial | (simp (config := { decide := true }) only [fg_in, fg_fin, fg_out, fg_fout, fg_up, fg_same, true_and, and_true] <;> omega)))
      | (refine hP _ _ (by repeat (first | exact fw_sm_refl | exact fw_sm_put0 | refine fw_sm_arr ?_ rfl | refine fw_sm_up ?_ rfl | refine fw_sm_put ?_ rfl | refine fw_sm_cp ?_ rfl)) ?_; (refine ⟨by omega, by omega, ?_⟩; (first | trivial | omega)))
      | omega
      | (intro _))
  · exact hx.elim

def fv_townp : List (Nat × ai_C) := [(12, .inr (.inr (.inr (9, [.inl (0, 14, true), .inl (0, 999, true), .inr (.inl [13]), .inr (.inl [14]), .inr (.inl [15])])))), (13, .inl (.int, 14, -1, 13, true)), (14, .inl (.int, 14, 0, 99, true)), (15, .inl (.int, 14, 0, 99, true))]
def fg_townp_G : fw_G := []
theorem fv_townp_ok : fw_view fw_T fv_townp fg_townp_G := fw_vb_ok (by decide +kernel)
def fr_111 : fw_P := [(0, 1, 1, 0, 0), (1, 22, 16, 0, 0), (4, 1, 1, 0, 0), (5, 2, 0, 0, 0), (6, 50, 9, 0, 0), (9, 13, 16, 0, 0), (12, 0, 0, 0, 1), (13, 6, 17, 0, 0), (16, 0, 0, 0, 0), (17, 71, 0, 0, 0)]
theorem fr_111_ok : fw_mk 111 2 9 (some .boolean) fr_111 = true := by decide +kernel
theorem s_k_has_0 {Post : Option fw_V → fw_W → Prop} {d : Nat} {W : fw_W} {h : Int}
    (hw_ : ((h < 0 → 0 ≤ (0 : Int) ∧ (0 : Int) ≤ 1 ∧ Post (some (.inl (0 : Int))) W) ∧ (0 ≤ h → (0 ≤ (fw_g W 12 0) → (fw_g W 12 0) ≤ 14 → (((fw_g W 12 0) ≤ h → 0 ≤ (0 : Int) ∧ (0 : Int) ≤ 1 ∧ Post (some (.inl (0 : Int))) W) ∧ (h < (fw_g W 12 0) → 0 ≤ (1 : Int) ∧ (1 : Int) ≤ 1 ∧ Post (some (.inl (1 : Int))) W)))))) :
    jf fw_T (d + 1) 111 0 [(0, .inr (.inl 12)), (1, .inl h)] [] W Post := fw_ok (n := 10) (ss := []) (hv := []) fr_111_ok fv_townp_ok (fw_c0 _ _) hw_

def x_k_has : fw_X := fun as W Q => match as with
  | [.inr (.inl s_), .inl h] => fw_if (Nat.beq s_ 12) ((True) ∧ (∀ (v : Int), (0 ≤ v ∧ v ≤ 1 ∧ ((v = 1 ∧ 0 ≤ h ∧ h < (fw_g W 12 0)) ∨ (v = 0 ∧ (h < 0 ∨ (fw_g W 12 0) ≤ h)))) → Q (some (.inl v)) W))
  | _ => False
theorem x_k_has_ok (d : Nat) (as : List fw_V) (W : fw_W) (Q : Option fw_V → fw_W → Prop) (hx : x_k_has as W Q) : jf fw_T (d + 1) 111 0 (fw_args 0 as) [] W Q := by
  unfold x_k_has at hx
  split at hx
  · rename_i s_ h
    obtain ⟨e_, hpre, hQ⟩ := fw_if_ok hx
    have e_ := Nat.eq_of_beq_eq_true e_
    subst e_
    have hP := hQ
    refine s_k_has_0 ?_
    repeat' (first
      | (exact True.intro)
      | (exact hpre.1)
      | (refine And.intro ?_ ?_)
      | (refine hP _ ?_; (refine ⟨by omega, by omega, ?_⟩; (first | trivial | omega)))
      | omega
      | (intro _))
  · exact hx.elim

def fv_owt2 : List (Nat × ai_C) := [(0, .inr (.inr (.inr (11, [.inr (.inl [1]), .inr (.inl [3]), .inr (.inl [12]), .inr (.inl [16]), .inr (.inl [37]), .inr (.inl [203]), .inr (.inl [223]), .inr (.inl [239]), .inr (.inl [266]), .inr (.inl [268]), .inr (.inl [324]), .inr (.inl [337]), .inr (.inl [338]), .inr (.inl [339]), .inl (0, 14, true)])))), (1, .inr (.inr (.inr (7, [.inl (0, 1200, true), .inl (0, 11, true), .inl (0, 1200, true), .inl (-2147483648, 2147483647, true), .inr (.inr ()), .inr (.inl [2]), .inl (0, 1200, true)])))), (3, .inr (.inr (.inr (5, [.inr (.inl [4]), .inr (.inl [8]), .inr (.inl [9]), .inl (0, 4, true), .inl (-2147483648, 2147483647, true), .inl (-2147483648, 2147483647, true), .inr (.inl [1]), .inr (.inl [10]), .inr (.inl [11]), .inl (0, 1, true)])))), (12, .inr (.inr (.inr (9, [.inl (0, 14, true), .inl (0, 999, true), .inr (.inl [13]), .inr (.inl [14]), .inr (.inl [15])])))), (13, .inl (.int, 14, -1, 13, true)), (14, .inl (.int, 14, 0, 99, true)), (15, .inl (.int, 14, 0, 99, true)), (16, .inr (.inr (.inr (2, [.inl (0, 4, true), .inr (.inl [12]), .inr (.inl [17]), .inr (.inl [18]), .inr (.inl [19]), .inr (.inl [34]), .inr (.inl [35]), .inr (.inl [36]), .inl (0, 20000, true), .inl (0, 65535, true), .inl (-2147483648, 2147483647, true)])))), (37, .inr (.inr (.inr (0, [.inl (0, 40, true), .inl (0, 40, true), .inr (.inl [38]), .inl (0, 40, true)])))), (203, .inr (.inr (.inr (10, [.inr (.inl [204]), .inr (.inl [205]), .inl (-2147483648, 2147483647, true), .inl (-2147483648, 2147483647, true), .inl (-2147483648, 2147483647, true), .inr (.inl [12]), .inr (.inl [220]), .inr (.inl [221]), .inr (.inl [222])])))), (223, .inr (.inr (.inr (8, [.inr (.inl [12]), .inr (.inl [224])])))), (239, .inr (.inr (.inr (6, [.inl (-2147483648, 2147483647, true), .inl (-2147483648, 2147483647, true), .inr (.inl [12]), .inr (.inl [203]), .inr (.inl [240]), .inr (.inl [241]), .inr (.inl [242]), .inr (.inl [243]), .inr (.inl [244]), .inr (.inl [245]), .inr (.inl [260])])))), (266, .inr (.inr (.inr (3, [.inr (.inl [12]), .inr (.inl [12, 340, 344, 348]), .inl (0, 1, true), .inr (.inl [267])])))), (268, .inr (.inr (.inr (4, [.inr (.inl [269]), .inr (.inl [270]), .inr (.inl [271]), .inr (.inl [272]), .inr (.inl [276]), .inr (.inl [296]), .inr (.inl [323])])))), (324, .inr (.inr (.inr (1, [.inl (0, 40, true), .inl (0, 100000, true), .inl (-2147483648, 2147483647, true), .inl (-2147483648, 2147483647, true), .inr (.inl [325]), .inr (.inl [326]), .inr (.inl [327]), .inr (.inl [328]), .inr (.inl [329]), .inr (.inl [330]), .inl (-2147483648, 2147483647, true), .inl (-2147483648, 2147483647, true)])))), (339, .inl (.int, 14, -2147483648, 2147483647, true)), (338, .inl (.boolean, 3, 0, 1, true))]
def fg_owt2_G : fw_G := []
theorem fv_owt2_ok : fw_view fw_T fv_owt2 fg_owt2_G := fw_vb_ok (by decide +kernel)
def fr_149 : fw_P := [(0, 2, 0, 0, 0), (1, 0, 0, 0, 0), (2, 51, 11, 14, 0), (5, 2, 0, 0, 0), (6, 50, 11, 2, 0), (9, 1, 1, 0, 0), (10, 64, 111, 1, 209), (13, 21, 18, 0, 0), (16, 0, 0, 0, -1), (17, 70, 0, 0, 0), (18, 2, 0, 0, 0), (19, 2, 0, 0, 0), (20, 50, 11, 5, 0), (23, 1, 1, 0, 0), (24, 2, 0, 0, 0), (25, 50, 11, 13, 0), (28, 64, 131, 2, 510), (31, 51, 11, 14, 0), (34, 2, 0, 0, 0), (35, 50, 11, 14, 0), (38, 70, 0, 0, 0)]
theorem fr_149_ok : fw_mk 149 2 11 (some .int) fr_149 = true := by decide +kernel
def ct_k_quarters : List (Nat × fw_X) := [(111, x_k_has), (131, x_k_quartersL)]
theorem ct_k_quarters_ok (d : Nat) : fw_cok fw_T (d + 2) ct_k_quarters := by
  intro q hq as W Q h
  simp only [ct_k_quarters, List.mem_cons, List.not_mem_nil, or_false] at hq
  rcases hq with rfl | rfl
  · exact jc_of (x_k_has_ok (d + 1) as W Q h)
  · exact jc_of (x_k_quartersL_ok (d + 0) as W Q h)
theorem s_k_quarters_0 {Post : Option fw_V → fw_W → Prop} {d : Nat} {W : fw_W} {h : Int}
    (hw_ : 0 ≤ (0 : Int) ∧ (0 : Int) ≤ 14 ∧ ((True) ∧ (∀ (r1 : Int), ((0 ≤ r1 ∧ r1 ≤ 1 ∧ ((r1 = 1 ∧ 0 ≤ h ∧ h < (fw_g W 12 0)) ∨ (r1 = 0 ∧ (h < 0 ∨ (fw_g W 12 0) ≤ h))))) → ((¬ r1 = 0 → (tr ((fw_g W 12 0)) (fun z_ => (fw_g W 13 z_)) ∧ 0 ≤ (fw_g W 12 0) ∧ (fw_g W 12 0) ≤ 14 ∧ (∀ j_, 1 ≤ j_ → j_ < (fw_g W 12 0) → 1 ≤ (fw_g W 204 j_) ∧ (fw_g W 204 j_) < (fw_g W 12 0)) ∧ 0 ≤ h ∧ h < 14) ∧ (∀ (r2 : Int) (f3 : fw_W), ((-2147483648 ≤ r2 ∧ r2 ≤ 2147483647 ∧ (0 ≤ r2 ∧ r2 ≤ 14))) → 0 ≤ r2 ∧ r2 ≤ 14 ∧ ((0 ≤ (fw_g (fw_up (fw_put [220, 339] 0 [] (fw_up W 0 14 (0 : Int)) f3) 0 14 r2) 0 14) → (fw_g (fw_up (fw_put [220, 339] 0 [] (fw_up W 0 14 (0 : Int)) f3) 0 14 r2) 0 14) ≤ 14 → (-2147483648 ≤ (fw_g (fw_up (fw_put [220, 339] 0 [] (fw_up W 0 14 (0 : Int)) f3) 0 14 r2) 0 14) → (fw_g (fw_up (fw_put [220, 339] 0 [] (fw_up W 0 14 (0 : Int)) f3) 0 14 r2) 0 14) ≤ 2147483647 → Post (some (.inl (fw_g (fw_up (fw_put [220, 339] 0 [] (fw_up W 0 14 (0 : Int)) f3) 0 14 r2) 0 14))) (fw_up (fw_put [220, 339] 0 [] (fw_up W 0 14 (0 : Int)) f3) 0 14 r2)))))) ∧ (r1 = 0 → (-2147483648 ≤ (-1 : Int) → (-1 : Int) ≤ 2147483647 → Post (some (.inl (-1 : Int))) (fw_up W 0 14 (0 : Int)))))))) :
    jf fw_T (d + 3) 149 0 [(0, .inr (.inl 0)), (1, .inl h)] [] W Post := fw_ok (n := 20) (ss := []) (hv := []) fr_149_ok fv_owt2_ok (ct_k_quarters_ok d) hw_

def x_k_quarters : fw_X := fun as W Q => match as with
  | [.inr (.inl s_), .inl h] => fw_if (Nat.beq s_ 0) ((tr ((fw_g W 12 0)) (fun z_ => (fw_g W 13 z_)) ∧ 0 ≤ (fw_g W 12 0) ∧ (fw_g W 12 0) ≤ 14 ∧ (∀ j_, 1 ≤ j_ → j_ < (fw_g W 12 0) → 1 ≤ (fw_g W 204 j_) ∧ (fw_g W 204 j_) < (fw_g W 12 0))) ∧ (∀ (v : Int) (f : fw_W), (-2147483648 ≤ v ∧ v ≤ 2147483647 ∧ (True)) → Q (some (.inl v)) (fw_put [220, 339] 0 [14] W f)))
  | _ => False
theorem x_k_quarters_ok (d : Nat) (as : List fw_V) (W : fw_W) (Q : Option fw_V → fw_W → Prop) (hx : x_k_quarters as W Q) : jf fw_T (d + 3) 149 0 (fw_args 0 as) [] W Q := by
  unfold x_k_quarters at hx
  split at hx
  · rename_i s_ h
    obtain ⟨e_, hpre, hQ⟩ := fw_if_ok hx
    have e_ := Nat.eq_of_beq_eq_true e_
    subst e_
    have hP : ∀ (v : Int) (W2 : fw_W), fw_sm [220, 339] 0 [14] W W2 → _ → Q (some (.inl v)) W2 := fun v W2 hs hr => fw_sm_use (Q := fun Z => Q (some (.inl v)) Z) hs (hQ v W2 hr)
    refine s_k_quarters_0 ?_
    repeat' (first
      | (exact hpre.1)
      | (exact hpre.2.2.2)
      | (exact True.intro)
      | (exact hpre.1)
      | (refine And.intro ?_ ?_)
      | (refine hP _ _ (by repeat (first | exact fw_sm_refl | exact fw_sm_put0 | refine fw_sm_arr ?_ rfl | refine fw_sm_up ?_ rfl | refine fw_sm_put ?_ rfl | refine fw_sm_cp ?_ rfl)) ?_; (refine ⟨by omega, by omega, ?_⟩; (first | trivial | omega)))
      | omega
      | (intro _))
  · exact hx.elim

def fv_setsp : List (Nat × ai_C) := [(239, .inr (.inr (.inr (6, [.inl (-2147483648, 2147483647, true), .inl (-2147483648, 2147483647, true), .inr (.inl [12]), .inr (.inl [203]), .inr (.inl [240]), .inr (.inl [241]), .inr (.inl [242]), .inr (.inl [243]), .inr (.inl [244]), .inr (.inl [245]), .inr (.inl [260])])))), (240, .inl (.int, 14, -2147483648, 2147483647, true)), (241, .inl (.int, 14, -2147483648, 2147483647, true)), (242, .inl (.int, 14, -2147483648, 2147483647, true)), (243, .inl (.int, 14, -2147483648, 2147483647, true)), (244, .inl (.int, 14, -2147483648, 2147483647, true)), (12, .inr (.inr (.inr (9, [.inl (0, 14, true), .inl (0, 999, true), .inr (.inl [13]), .inr (.inl [14]), .inr (.inl [15])])))), (13, .inl (.int, 14, -1, 13, true)), (14, .inl (.int, 14, 0, 99, true)), (15, .inl (.int, 14, 0, 99, true)), (203, .inr (.inr (.inr (10, [.inr (.inl [204]), .inr (.inl [205]), .inl (-2147483648, 2147483647, true), .inl (-2147483648, 2147483647, true), .inl (-2147483648, 2147483647, true), .inr (.inl [12]), .inr (.inl [220]), .inr (.inl [221]), .inr (.inl [222])])))), (204, .inl (.int, 14, 0, 13, true))]
def fg_setsp_G : fw_G := [(205, 14, 14, -2147483648, 2147483647), (245, 14, 14, -2147483648, 2147483647), (260, 5, 14, -2147483648, 2147483647)]
theorem fv_setsp_ok : fw_view fw_T fv_setsp fg_setsp_G := fw_vb_ok (by decide +kernel)
def fr_77 : fw_P := [(0, 0, 0, 0, 0), (1, 3, 1, 0, 0), (2, 1, 1, 0, 0), (3, 0, 0, 0, 14), (5, 13, 21, 0, 0), (8, 2, 0, 0, 0), (9, 50, 6, 4, 0), (12, 1, 1, 0, 0), (13, 0, 0, 0, 0), (14, 53, 0, 0, 0), (15, 5, 1, 0, 1), (18, 6, 2, 0, 0), (21, 72, 0, 0, 0)]
theorem fr_77_ok : fw_mk 77 2 6 none fr_77 = true := by decide +kernel
theorem s_k_freeAll_0 {Post : Option fw_V → fw_W → Prop} {d : Nat} {W : fw_W}
    (hw_ : jf fw_T (d + 1) 77 2 [(0, .inr (.inl 239)), (1, .inl (0 : Int))] [] W Post) :
    jf fw_T (d + 1) 77 0 [(0, .inr (.inl 239))] [] W Post := fw_ok (n := 3) (ss := [(2, [0, 1])]) (hv := []) fr_77_ok fv_setsp_ok (fw_c0 _ _) hw_

theorem s_k_freeAll_2 {Post : Option fw_V → fw_W → Prop} {d : Nat} {W : fw_W} {h : Int} {f : fw_W}
    (hw_ : (((14 : Int) ≤ h → Post none (fw_put [240] 0 [] W f)) ∧ (h < (14 : Int) → 0 ≤ h ∧ h < 14 ∧ -2147483648 ≤ (0 : Int) ∧ (0 : Int) ≤ 2147483647 ∧ (-2147483648 ≤ h + (1 : Int) ∧ h + (1 : Int) ≤ 2147483647 ∧ (jf fw_T (d + 1) 77 2 [(0, .inr (.inl 239)), (1, .inl (h + (1 : Int)))] [] (fw_up (fw_put [240] 0 [] W f) 240 h (0 : Int)) Post))))) :
    jf fw_T (d + 1) 77 2 [(0, .inr (.inl 239)), (1, .inl h)] [] (fw_put [240] 0 [] W f) Post := fw_ok (n := 11) (ss := [(2, [0, 1])]) (hv := []) fr_77_ok fv_setsp_ok (fw_c0 _ _) hw_

theorem lm_k_freeAll_2 {Post : Option fw_V → fw_W → Prop} {d : Nat} {W : fw_W} (hpre : True) (hP : ∀ (W2 : fw_W), fw_sm [240] 0 [] W W2 → (True) → Post none W2)  : ∀ (m : Nat) (h : Int) (f : fw_W), (14 - h).toNat = m → 0 ≤ h → jf fw_T (d + 1) 77 2 [(0, .inr (.inl 239)), (1, .inl h)] [] (fw_put [240] 0 [] W f) Post := by
  intro m
  induction m using Nat.strongRecOn with
  | ind m ih =>
    intro h f hm hi
    refine jf_rng (fun hrg => ?_)
    have hrg : -2147483648 ≤ h ∧ h ≤ 2147483647 ∧ True := hrg
    refine s_k_freeAll_2 ?_
    repeat' (first
      | (exact True.intro)
      | (exact hpre.1)
      | (refine And.intro ?_ ?_)
      | (refine jf_put (S := [240]) (o := 0) (F := []) (W := W) (by repeat (first | exact fw_sm_refl | exact fw_sm_put0 | refine fw_sm_arr ?_ rfl | refine fw_sm_up ?_ rfl | refine fw_sm_put ?_ rfl | refine fw_sm_cp ?_ rfl)) (ih _ (by omega) _ _ rfl ?_); (first | omega | trivial | (simp (config := { decide := true }) only [fg_in, fg_fin, fg_out, fg_fout, fg_up, fg_same, true_and, and_true] <;> omega)))
      | (refine hP _ (by repeat (first | exact fw_sm_refl | exact fw_sm_put0 | refine fw_sm_arr ?_ rfl | refine fw_sm_up ?_ rfl | refine fw_sm_put ?_ rfl | refine fw_sm_cp ?_ rfl)) ?_; (first | trivial | omega))
      | omega
      | (intro _))
def x_k_freeAll : fw_X := fun as W Q => match as with
  | [.inr (.inl s_)] => fw_if (Nat.beq s_ 239) ((True) ∧ (∀ (f : fw_W), (True) → Q none (fw_put [240] 0 [] W f)))
  | _ => False
theorem x_k_freeAll_ok (d : Nat) (as : List fw_V) (W : fw_W) (Q : Option fw_V → fw_W → Prop) (hx : x_k_freeAll as W Q) : jf fw_T (d + 1) 77 0 (fw_args 0 as) [] W Q := by
  unfold x_k_freeAll at hx
  split at hx
  · rename_i s_
    obtain ⟨e_, hpre, hQ⟩ := fw_if_ok hx
    have e_ := Nat.eq_of_beq_eq_true e_
    subst e_
    have hP : ∀ (W2 : fw_W), fw_sm [240] 0 [] W W2 → _ → Q none W2 := fun W2 hs hr => fw_sm_use (Q := fun Z => Q none Z) hs (hQ W2 hr)
    refine s_k_freeAll_0 ?_
    repeat' (first
      | (exact True.intro)
      | (exact hpre.1)
      | (refine And.intro ?_ ?_)
      | (refine jf_put (S := [240]) (o := 0) (F := []) (W := W) (by repeat (first | exact fw_sm_refl | exact fw_sm_put0 | refine fw_sm_arr ?_ rfl | refine fw_sm_up ?_ rfl | refine fw_sm_put ?_ rfl | refine fw_sm_cp ?_ rfl)) (lm_k_freeAll_2 hpre hP _ _ _ rfl ?_); (first | omega | trivial | (simp (config := { decide := true }) only [fg_in, fg_fin, fg_out, fg_fout, fg_up, fg_same, true_and, and_true] <;> omega)))
      | (refine hP _ (by repeat (first | exact fw_sm_refl | exact fw_sm_put0 | refine fw_sm_arr ?_ rfl | refine fw_sm_up ?_ rfl | refine fw_sm_put ?_ rfl | refine fw_sm_cp ?_ rfl)) ?_; (first | trivial | omega))
      | omega
      | (intro _))
  · exact hx.elim

def fr_83 : fw_P := [(0, 2, 0, 0, 0), (1, 50, 6, 2, 0), (4, 50, 9, 0, 0), (7, 21, 12, 0, 0), (10, 0, 0, 0, 0), (11, 70, 0, 0, 0), (12, 0, 0, 0, 0), (13, 3, 1, 0, 0), (14, 1, 1, 0, 0), (15, 2, 0, 0, 0), (16, 50, 6, 2, 0), (19, 50, 9, 0, 0), (22, 13, 80, 0, 0), (25, 2, 0, 0, 0), (26, 50, 6, 6, 0), (29, 1, 1, 0, 0), (30, 2, 0, 0, 0), (31, 50, 6, 4, 0), (34, 1, 1, 0, 0), (35, 52, 0, 0, 0), (36, 0, 0, 0, 2), (37, 11, 45, 0, 0), (40, 0, 0, 0, -1000000), (42, 6, 51, 0, 0), (45, 2, 0, 0, 0), (46, 50, 6, 5, 0), (49, 1, 1, 0, 0), (50, 52, 0, 0, 0), (51, 53, 0, 0, 0), (52, 2, 0, 0, 0), (53, 50, 6, 7, 0), (56, 1, 1, 0, 0), (57, 2, 0, 0, 0), (58, 50, 6, 4, 0), (61, 1, 1, 0, 0), (62, 52, 0, 0, 0), (63, 0, 0, 0, 1), (64, 11, 72, 0, 0), (67, 0, 0, 0, -1000000), (69, 6, 73, 0, 0), (72, 0, 0, 0, 0), (73, 53, 0, 0, 0), (74, 5, 1, 0, 1), (77, 6, 14, 0, 0), (80, 2, 0, 0, 0), (81, 50, 6, 2, 0), (84, 50, 9, 0, 0), (87, 0, 0, 0, 1), (88, 31, 0, 0, 0), (89, 3, 1, 0, 0), (90, 1, 1, 0, 0), (91, 25, 159, 0, 0), (94, 2, 0, 0, 0), (95, 50, 6, 3, 0), (98, 50, 10, 0, 0), (101, 1, 1, 0, 0), (102, 52, 0, 0, 0), (103, 3, 2, 0, 0), (104, 2, 0, 0, 0), (105, 50, 6, 2, 0), (108, 50, 9, 2, 0), (111, 1, 2, 0, 0), (112, 52, 0, 0, 0), (113, 3, 3, 0, 0), (114, 2, 0, 0, 0), (115, 50, 6, 6, 0), (118, 1, 3, 0, 0), (119, 44, 0, 0, 0), (120, 52, 0, 0, 0), (121, 2, 0, 0, 0), (122, 50, 6, 7, 0), (125, 1, 2, 0, 0), (126, 52, 0, 0, 0), (127, 30, 0, 0, 0), (128, 53, 0, 0, 0), (129, 2, 0, 0, 0), (130, 50, 6, 7, 0), (133, 1, 3, 0, 0), (134, 44, 0, 0, 0), (135, 52, 0, 0, 0), (136, 2, 0, 0, 0), (137, 50, 6, 6, 0), (140, 1, 2, 0, 0), (141, 52, 0, 0, 0), (142, 2, 0, 0, 0), (143, 50, 6, 7, 0), (146, 1, 2, 0, 0), (147, 52, 0, 0, 0), (148, 60, 0, 0, 0), (151, 30, 0, 0, 0), (152, 53, 0, 0, 0), (153, 5, 1, 0, -1), (156, 6, 90, 0, 0), (159, 2, 0, 0, 0), (160, 50, 6, 6, 0), (163, 0, 0, 0, 0), (164, 52, 0, 0, 0), (165, 2, 0, 0, 0), (166, 50, 6, 7, 0), (169, 0, 0, 0, 0), (170, 52, 0, 0, 0), (171, 60, 0, 0, 0), (174, 70, 0, 0, 0)]
theorem fr_83_ok : fw_mk 83 4 6 (some .int) fr_83 = true := by decide +kernel
theorem s_k_heaviestApart_0 {Post : Option fw_V → fw_W → Prop} {d : Nat} {W : fw_W}
    (hw_ : (0 ≤ (fw_g W 12 0) → (fw_g W 12 0) ≤ 14 → ((¬ (fw_g W 12 0) = 0 → jf fw_T (d + 1) 83 14 [(0, .inr (.inl 239)), (1, .inl (0 : Int))] [] W Post) ∧ ((fw_g W 12 0) = 0 → (-2147483648 ≤ (0 : Int) → (0 : Int) ≤ 2147483647 → Post (some (.inl (0 : Int))) W))))) :
    jf fw_T (d + 1) 83 0 [(0, .inr (.inl 239))] [] W Post := fw_ok (n := 7) (ss := [(14, [0, 1]), (90, [0, 1])]) (hv := [127, 151]) fr_83_ok fv_setsp_ok (fw_c0 _ _) hw_

theorem s_k_heaviestApart_90 {Post : Option fw_V → fw_W → Prop} {d : Nat} {W : fw_W} {i : Int} {f : fw_W}
    (hw_ : ((i ≤ 0 → 0 ≤ (0 : Int) ∧ (0 : Int) < 14 ∧ (-2147483648 ≤ (fw_g f 242 (0 : Int)) → (fw_g f 242 (0 : Int)) ≤ 2147483647 → 0 ≤ (0 : Int) ∧ (0 : Int) < 14 ∧ (-2147483648 ≤ (fw_g f 243 (0 : Int)) → (fw_g f 243 (0 : Int)) ≤ 2147483647 → (-2147483648 ≤ (max (fw_g f 242 (0 : Int)) (fw_g f 243 (0 : Int))) → (max (fw_g f 242 (0 : Int)) (fw_g f 243 (0 : Int))) ≤ 2147483647 → Post (some (.inl (max (fw_g f 242 (0 : Int)) (fw_g f 243 (0 : Int))))) (fw_put [242, 243] 0 [] W f))))) ∧ (0 < i → 0 ≤ i ∧ i < 14 ∧ (0 ≤ (fw_g W 204 i) → (fw_g W 204 i) ≤ 13 → 0 ≤ (fw_g W 204 i) ∧ (fw_g W 204 i) < 14 ∧ (-1 ≤ (fw_g W 13 (fw_g W 204 i)) → (fw_g W 13 (fw_g W 204 i)) ≤ 13 → 0 ≤ (fw_g W 13 (fw_g W 204 i)) ∧ (fw_g W 13 (fw_g W 204 i)) < 14 ∧ (-2147483648 ≤ (fw_g f 242 (fw_g W 13 (fw_g W 204 i))) → (fw_g f 242 (fw_g W 13 (fw_g W 204 i))) ≤ 2147483647 → 0 ≤ (fw_g W 204 i) ∧ (fw_g W 204 i) < 14 ∧ (-2147483648 ≤ (fw_g f 243 (fw_g W 204 i)) → (fw_g f 243 (fw_g W 204 i)) ≤ 2147483647 → ∀ v1 : Int, -2147483648 ≤ v1 → v1 ≤ 2147483647 → 0 ≤ (fw_g W 13 (fw_g W 204 i)) ∧ (fw_g W 13 (fw_g W 204 i)) < 14 ∧ -2147483648 ≤ v1 ∧ v1 ≤ 2147483647 ∧ (0 ≤ (fw_g W 13 (fw_g W 204 i)) ∧ (fw_g W 13 (fw_g W 204 i)) < 14 ∧ (-2147483648 ≤ (fw_g f 243 (fw_g W 13 (fw_g W 204 i))) → (fw_g f 243 (fw_g W 13 (fw_g W 204 i))) ≤ 2147483647 → 0 ≤ (fw_g W 204 i) ∧ (fw_g W 204 i) < 14 ∧ (-2147483648 ≤ (fw_g (fw_up (fw_put [242, 243] 0 [] W f) 242 (fw_g W 13 (fw_g W 204 i)) v1) 242 (fw_g W 204 i)) → (fw_g (fw_up (fw_put [242, 243] 0 [] W f) 242 (fw_g W 13 (fw_g W 204 i)) v1) 242 (fw_g W 204 i)) ≤ 2147483647 → 0 ≤ (fw_g W 204 i) ∧ (fw_g W 204 i) < 14 ∧ (-2147483648 ≤ (fw_g f 243 (fw_g W 204 i)) → (fw_g f 243 (fw_g W 204 i)) ≤ 2147483647 → ∀ v2 : Int, -2147483648 ≤ v2 → v2 ≤ 2147483647 → 0 ≤ (fw_g W 13 (fw_g W 204 i)) ∧ (fw_g W 13 (fw_g W 204 i)) < 14 ∧ -2147483648 ≤ v2 ∧ v2 ≤ 2147483647 ∧ (-2147483648 ≤ i + (-1 : Int) ∧ i + (-1 : Int) ≤ 2147483647 ∧ (jf fw_T (d + 1) 83 90 [(0, .inr (.inl 239)), (1, .inl (i + (-1 : Int)))] [] (fw_up (fw_up (fw_put [242, 243] 0 [] W f) 242 (fw_g W 13 (fw_g W 204 i)) v1) 243 (fw_g W 13 (fw_g W 204 i)) v2) Post))))))))))))) :
    jf fw_T (d + 1) 83 90 [(0, .inr (.inl 239)), (1, .inl i)] [] (fw_put [242, 243] 0 [] W f) Post := fw_ok (n := 44) (ss := [(14, [0, 1]), (90, [0, 1])]) (hv := [127, 151]) fr_83_ok fv_setsp_ok (fw_c0 _ _) hw_

theorem s_k_heaviestApart_14 {Post : Option fw_V → fw_W → Prop} {d : Nat} {W : fw_W} {i : Int} {f : fw_W}
    (hw_ : (0 ≤ (fw_g W 12 0) → (fw_g W 12 0) ≤ 14 → (((fw_g W 12 0) ≤ i → (0 ≤ (fw_g W 12 0) → (fw_g W 12 0) ≤ 14 → -2147483648 ≤ (fw_g W 12 0) - (1 : Int) ∧ (fw_g W 12 0) - (1 : Int) ≤ 2147483647 ∧ (jf fw_T (d + 1) 83 90 [(0, .inr (.inl 239)), (1, .inl ((fw_g W 12 0) - (1 : Int)))] [] (fw_put [242, 243] 0 [] W f) Post))) ∧ (i < (fw_g W 12 0) → 0 ≤ i ∧ i < 14 ∧ (-2147483648 ≤ (fw_g W 240 i) → (fw_g W 240 i) ≤ 2147483647 → ((¬ (fw_g W 240 i) = (2 : Int) → 0 ≤ i ∧ i < 14 ∧ (-2147483648 ≤ (fw_g W 241 i) → (fw_g W 241 i) ≤ 2147483647 → 0 ≤ i ∧ i < 14 ∧ -2147483648 ≤ (fw_g W 241 i) ∧ (fw_g W 241 i) ≤ 2147483647 ∧ (0 ≤ i ∧ i < 14 ∧ (-2147483648 ≤ (fw_g W 240 i) → (fw_g W 240 i) ≤ 2147483647 → ((¬ (fw_g W 240 i) = (1 : Int) → 0 ≤ i ∧ i < 14 ∧ -2147483648 ≤ (0 : Int) ∧ (0 : Int) ≤ 2147483647 ∧ (-2147483648 ≤ i + (1 : Int) ∧ i + (1 : Int) ≤ 2147483647 ∧ (jf fw_T (d + 1) 83 14 [(0, .inr (.inl 239)), (1, .inl (i + (1 : Int)))] [] (fw_up (fw_up (fw_put [242, 243] 0 [] W f) 242 i (fw_g W 241 i)) 243 i (0 : Int)) Post))) ∧ ((fw_g W 240 i) = (1 : Int) → 0 ≤ i ∧ i < 14 ∧ -2147483648 ≤ (-1000000 : Int) ∧ (-1000000 : Int) ≤ 2147483647 ∧ (-2147483648 ≤ i + (1 : Int) ∧ i + (1 : Int) ≤ 2147483647 ∧ (jf fw_T (d + 1) 83 14 [(0, .inr (.inl 239)), (1, .inl (i + (1 : Int)))] [] (fw_up (fw_up (fw_put [242, 243] 0 [] W f) 242 i (fw_g W 241 i)) 243 i (-1000000 : Int)) Post)))))))) ∧ ((fw_g W 240 i) = (2 : Int) → 0 ≤ i ∧ i < 14 ∧ -2147483648 ≤ (-1000000 : Int) ∧ (-1000000 : Int) ≤ 2147483647 ∧ (0 ≤ i ∧ i < 14 ∧ (-2147483648 ≤ (fw_g W 240 i) → (fw_g W 240 i) ≤ 2147483647 → ((¬ (fw_g W 240 i) = (1 : Int) → 0 ≤ i ∧ i < 14 ∧ -2147483648 ≤ (0 : Int) ∧ (0 : Int) ≤ 2147483647 ∧ (-2147483648 ≤ i + (1 : Int) ∧ i + (1 : Int) ≤ 2147483647 ∧ (jf fw_T (d + 1) 83 14 [(0, .inr (.inl 239)), (1, .inl (i + (1 : Int)))] [] (fw_up (fw_up (fw_put [242, 243] 0 [] W f) 242 i (-1000000 : Int)) 243 i (0 : Int)) Post))) ∧ ((fw_g W 240 i) = (1 : Int) → 0 ≤ i ∧ i < 14 ∧ -2147483648 ≤ (-1000000 : Int) ∧ (-1000000 : Int) ≤ 2147483647 ∧ (-2147483648 ≤ i + (1 : Int) ∧ i + (1 : Int) ≤ 2147483647 ∧ (jf fw_T (d + 1) 83 14 [(0, .inr (.inl 239)), (1, .inl (i + (1 : Int)))] [] (fw_up (fw_up (fw_put [242, 243] 0 [] W f) 242 i (-1000000 : Int)) 243 i (-1000000 : Int)) Post))))))))))))) :
    jf fw_T (d + 1) 83 14 [(0, .inr (.inl 239)), (1, .inl i)] [] (fw_put [242, 243] 0 [] W f) Post := fw_ok (n := 34) (ss := [(14, [0, 1]), (90, [0, 1])]) (hv := [127, 151]) fr_83_ok fv_setsp_ok (fw_c0 _ _) hw_

theorem lm_k_heaviestApart_90 {Post : Option fw_V → fw_W → Prop} {d : Nat} {W : fw_W} (hpre : tr ((fw_g W 12 0)) (fun z_ => (fw_g W 13 z_)) ∧ 0 ≤ (fw_g W 12 0) ∧ (fw_g W 12 0) ≤ 14 ∧ (∀ j_, 1 ≤ j_ → j_ < (fw_g W 12 0) → 1 ≤ (fw_g W 204 j_) ∧ (fw_g W 204 j_) < (fw_g W 12 0))) (hP : ∀ (v : Int) (W2 : fw_W), fw_sm [242, 243] 0 [] W W2 → (-2147483648 ≤ v ∧ v ≤ 2147483647 ∧ (True)) → Post (some (.inl v)) W2)  : ∀ (m : Nat) (i : Int) (f : fw_W), (i).toNat = m → i < (fw_g W 12 0) → jf fw_T (d + 1) 83 90 [(0, .inr (.inl 239)), (1, .inl i)] [] (fw_put [242, 243] 0 [] W f) Post := by
  intro m
  induction m using Nat.strongRecOn with
  | ind m ih =>
    intro i f hm hi
    refine jf_rng (fun hrg => ?_)
    have hrg : -2147483648 ≤ i ∧ i ≤ 2147483647 ∧ True := hrg
    refine s_k_heaviestApart_90 ?_
    have ho : 1 ≤ i → i < (fw_g W 12 0) → 1 ≤ (fw_g W 204 i) ∧ (fw_g W 204 i) < (fw_g W 12 0) := fun z z2 => hpre.2.2.2 i z z2
    have hp : 1 ≤ i → i < (fw_g W 12 0) → 0 ≤ (fw_g W 13 (fw_g W 204 i)) ∧ (fw_g W 13 (fw_g W 204 i)) < (fw_g W 12 0) := fun z z2 => tr_p hpre.1 (ho z z2).1 (ho z z2).2
    repeat' (first
      | (exact True.intro)
      | (exact hpre.1)
      | (refine And.intro ?_ ?_)
      | (refine jf_put (S := [242, 243]) (o := 0) (F := []) (W := W) (by repeat (first | exact fw_sm_refl | exact fw_sm_put0 | refine fw_sm_arr ?_ rfl | refine fw_sm_up ?_ rfl | refine fw_sm_put ?_ rfl | refine fw_sm_cp ?_ rfl)) (ih _ (by omega) _ _ rfl ?_); (first | omega | trivial | (simp (config := { decide := true }) only [fg_in, fg_fin, fg_out, fg_fout, fg_up, fg_same, true_and, and_true] <;> omega)))
      | (refine hP _ _ (by repeat (first | exact fw_sm_refl | exact fw_sm_put0 | refine fw_sm_arr ?_ rfl | refine fw_sm_up ?_ rfl | refine fw_sm_put ?_ rfl | refine fw_sm_cp ?_ rfl)) ?_; (refine ⟨by omega, by omega, ?_⟩; (first | trivial | omega)))
      | omega
      | (intro _))
theorem lm_k_heaviestApart_14 {Post : Option fw_V → fw_W → Prop} {d : Nat} {W : fw_W} (hpre : tr ((fw_g W 12 0)) (fun z_ => (fw_g W 13 z_)) ∧ 0 ≤ (fw_g W 12 0) ∧ (fw_g W 12 0) ≤ 14 ∧ (∀ j_, 1 ≤ j_ → j_ < (fw_g W 12 0) → 1 ≤ (fw_g W 204 j_) ∧ (fw_g W 204 j_) < (fw_g W 12 0))) (hP : ∀ (v : Int) (W2 : fw_W), fw_sm [242, 243] 0 [] W W2 → (-2147483648 ≤ v ∧ v ≤ 2147483647 ∧ (True)) → Post (some (.inl v)) W2)  : ∀ (m : Nat) (i : Int) (f : fw_W), ((fw_g W 12 0) - i).toNat = m → 0 ≤ i ∧ 1 ≤ (fw_g W 12 0) → jf fw_T (d + 1) 83 14 [(0, .inr (.inl 239)), (1, .inl i)] [] (fw_put [242, 243] 0 [] W f) Post := by
  intro m
  induction m using Nat.strongRecOn with
  | ind m ih =>
    intro i f hm hi
    refine jf_rng (fun hrg => ?_)
    have hrg : -2147483648 ≤ i ∧ i ≤ 2147483647 ∧ True := hrg
    refine s_k_heaviestApart_14 ?_
    repeat' (first
      | (exact True.intro)
      | (exact hpre.1)
      | (refine And.intro ?_ ?_)
      | (refine jf_put (S := [242, 243]) (o := 0) (F := []) (W := W) (by repeat (first | exact fw_sm_refl | exact fw_sm_put0 | refine fw_sm_arr ?_ rfl | refine fw_sm_up ?_ rfl | refine fw_sm_put ?_ rfl | refine fw_sm_cp ?_ rfl)) (ih _ (by omega) _ _ rfl ?_); (first | omega | trivial | (simp (config := { decide := true }) only [fg_in, fg_fin, fg_out, fg_fout, fg_up, fg_same, true_and, and_true] <;> omega)))
      | (refine jf_put (S := [242, 243]) (o := 0) (F := []) (W := W) (by repeat (first | exact fw_sm_refl | exact fw_sm_put0 | refine fw_sm_arr ?_ rfl | refine fw_sm_up ?_ rfl | refine fw_sm_put ?_ rfl | refine fw_sm_cp ?_ rfl)) (lm_k_heaviestApart_90 hpre hP _ _ _ rfl ?_); (first | omega | trivial | (simp (config := { decide := true }) only [fg_in, fg_fin, fg_out, fg_fout, fg_up, fg_same, true_and, and_true] <;> omega)))
      | (refine hP _ _ (by repeat (first | exact fw_sm_refl | exact fw_sm_put0 | refine fw_sm_arr ?_ rfl | refine fw_sm_up ?_ rfl | refine fw_sm_put ?_ rfl | refine fw_sm_cp ?_ rfl)) ?_; (refine ⟨by omega, by omega, ?_⟩; (first | trivial | omega)))
      | omega
      | (intro _))
def x_k_heaviestApart : fw_X := fun as W Q => match as with
  | [.inr (.inl s_)] => fw_if (Nat.beq s_ 239) ((tr ((fw_g W 12 0)) (fun z_ => (fw_g W 13 z_)) ∧ 0 ≤ (fw_g W 12 0) ∧ (fw_g W 12 0) ≤ 14 ∧ (∀ j_, 1 ≤ j_ → j_ < (fw_g W 12 0) → 1 ≤ (fw_g W 204 j_) ∧ (fw_g W 204 j_) < (fw_g W 12 0))) ∧ (∀ (v : Int) (f : fw_W), (-2147483648 ≤ v ∧ v ≤ 2147483647 ∧ (True)) → Q (some (.inl v)) (fw_put [242, 243] 0 [] W f)))
  | _ => False
theorem x_k_heaviestApart_ok (d : Nat) (as : List fw_V) (W : fw_W) (Q : Option fw_V → fw_W → Prop) (hx : x_k_heaviestApart as W Q) : jf fw_T (d + 1) 83 0 (fw_args 0 as) [] W Q := by
  unfold x_k_heaviestApart at hx
  split at hx
  · rename_i s_
    obtain ⟨e_, hpre, hQ⟩ := fw_if_ok hx
    have e_ := Nat.eq_of_beq_eq_true e_
    subst e_
    have hP : ∀ (v : Int) (W2 : fw_W), fw_sm [242, 243] 0 [] W W2 → _ → Q (some (.inl v)) W2 := fun v W2 hs hr => fw_sm_use (Q := fun Z => Q (some (.inl v)) Z) hs (hQ v W2 hr)
    refine s_k_heaviestApart_0 ?_
    repeat' (first
      | (exact True.intro)
      | (exact hpre.1)
      | (refine And.intro ?_ ?_)
      | (refine jf_put (S := [242, 243]) (o := 0) (F := []) (W := W) (by repeat (first | exact fw_sm_refl | exact fw_sm_put0 | refine fw_sm_arr ?_ rfl | refine fw_sm_up ?_ rfl | refine fw_sm_put ?_ rfl | refine fw_sm_cp ?_ rfl)) (lm_k_heaviestApart_14 hpre hP _ _ _ rfl ?_); (first | omega | trivial | (simp (config := { decide := true }) only [fg_in, fg_fin, fg_out, fg_fout, fg_up, fg_same, true_and, and_true] <;> omega)))
      | (refine jf_put (S := [242, 243]) (o := 0) (F := []) (W := W) (by repeat (first | exact fw_sm_refl | exact fw_sm_put0 | refine fw_sm_arr ?_ rfl | refine fw_sm_up ?_ rfl | refine fw_sm_put ?_ rfl | refine fw_sm_cp ?_ rfl)) (lm_k_heaviestApart_90 hpre hP _ _ _ rfl ?_); (first | omega | trivial | (simp (config := { decide := true }) only [fg_in, fg_fin, fg_out, fg_fout, fg_up, fg_same, true_and, and_true] <;> omega)))
      | (refine hP _ _ (by repeat (first | exact fw_sm_refl | exact fw_sm_put0 | refine fw_sm_arr ?_ rfl | refine fw_sm_up ?_ rfl | refine fw_sm_put ?_ rfl | refine fw_sm_cp ?_ rfl)) ?_; (refine ⟨by omega, by omega, ?_⟩; (first | trivial | omega)))
      | omega
      | (intro _))
  · exact hx.elim

def fr_82 : fw_P := [(0, 2, 0, 0, 0), (1, 64, 77, 0, 206), (4, 2, 0, 0, 0), (5, 64, 83, 0, 406), (8, 3, 3, 0, 0), (9, 0, 0, 0, 0), (10, 3, 4, 0, 0), (12, 0, 0, 0, 0), (13, 3, 5, 0, 0), (15, 1, 5, 0, 0), (17, 2, 0, 0, 0), (18, 50, 6, 2, 0), (21, 50, 9, 0, 0), (24, 13, 77, 0, 0), (27, 2, 0, 0, 0), (28, 50, 6, 4, 0), (31, 1, 5, 0, 0), (33, 1, 1, 0, 0), (34, 53, 0, 0, 0), (35, 2, 0, 0, 0), (36, 64, 83, 0, 406), (39, 1, 3, 0, 0), (40, 13, 51, 0, 0), (43, 2, 0, 0, 0), (44, 50, 6, 4, 0), (47, 1, 5, 0, 0), (49, 1, 2, 0, 0), (50, 53, 0, 0, 0), (51, 2, 0, 0, 0), (52, 50, 6, 4, 0), (55, 1, 5, 0, 0), (57, 52, 0, 0, 0), (58, 0, 0, 0, 1), (59, 11, 71, 0, 0), (62, 1, 4, 0, 0), (64, 0, 0, 0, 1), (65, 1, 5, 0, 0), (67, 39, 0, 0, 0), (68, 37, 0, 0, 0), (69, 3, 4, 0, 0), (71, 5, 5, 0, 1), (74, 6, 15, 0, 0), (77, 1, 4, 0, 0), (79, 70, 0, 0, 0)]
theorem fr_82_ok : fw_mk 82 6 6 (some .int) fr_82 = true := by decide +kernel
def ct_k_apartMask : List (Nat × fw_X) := [(77, x_k_freeAll), (83, x_k_heaviestApart)]
theorem ct_k_apartMask_ok (d : Nat) : fw_cok fw_T (d + 1) ct_k_apartMask := by
  intro q hq as W Q h
  simp only [ct_k_apartMask, List.mem_cons, List.not_mem_nil, or_false] at hq
  rcases hq with rfl | rfl
  · exact jc_of (x_k_freeAll_ok (d + 0) as W Q h)
  · exact jc_of (x_k_heaviestApart_ok (d + 0) as W Q h)
theorem s_k_apartMask_0 {Post : Option fw_V → fw_W → Prop} {d : Nat} {W : fw_W} {fi ot : Int}
    (hw_ : (True) ∧ (∀ (f1 : fw_W), ((True)) → (tr ((fw_g W 12 0)) (fun z_ => (fw_g W 13 z_)) ∧ 0 ≤ (fw_g W 12 0) ∧ (fw_g W 12 0) ≤ 14 ∧ (∀ j_, 1 ≤ j_ → j_ < (fw_g W 12 0) → 1 ≤ (fw_g W 204 j_) ∧ (fw_g W 204 j_) < (fw_g W 12 0))) ∧ (∀ (r2 : Int) (f3 : fw_W), ((-2147483648 ≤ r2 ∧ r2 ≤ 2147483647 ∧ (True))) → jf fw_T (d + 2) 82 15 [(0, .inr (.inl 239)), (1, .inl fi), (2, .inl ot), (3, .inl r2), (4, .inl (0 : Int)), (5, .inl (0 : Int))] [] (fw_put [242, 243] 0 [] (fw_put [240] 0 [] W f1) f3) Post))) :
    jf fw_T (d + 2) 82 0 [(0, .inr (.inl 239)), (1, .inl fi), (2, .inl ot)] [] W Post := fw_ok (n := 10) (ss := [(15, [0, 1, 2, 3, 4, 5])]) (hv := []) fr_82_ok fv_setsp_ok (ct_k_apartMask_ok d) hw_

theorem s_k_apartMask_15 {Post : Option fw_V → fw_W → Prop} {d : Nat} {W : fw_W} {fi ot mo ma h : Int} {f : fw_W}
    (hw_ : (0 ≤ (fw_g W 12 0) → (fw_g W 12 0) ≤ 14 → (((fw_g W 12 0) ≤ h → (-2147483648 ≤ ma → ma ≤ 2147483647 → Post (some (.inl ma)) (fw_put [240, 242, 243] 0 [] W f))) ∧ (h < (fw_g W 12 0) → 0 ≤ h ∧ h < 14 ∧ -2147483648 ≤ fi ∧ fi ≤ 2147483647 ∧ ((tr ((fw_g W 12 0)) (fun z_ => (fw_g W 13 z_)) ∧ 0 ≤ (fw_g W 12 0) ∧ (fw_g W 12 0) ≤ 14 ∧ (∀ j_, 1 ≤ j_ → j_ < (fw_g W 12 0) → 1 ≤ (fw_g W 204 j_) ∧ (fw_g W 204 j_) < (fw_g W 12 0))) ∧ (∀ (r1 : Int) (f2 : fw_W), ((-2147483648 ≤ r1 ∧ r1 ≤ 2147483647 ∧ (True))) → ((mo ≤ r1 → 0 ≤ h ∧ h < 14 ∧ (-2147483648 ≤ (fw_g (fw_up (fw_put [240, 242, 243] 0 [] W f) 240 h fi) 240 h) → (fw_g (fw_up (fw_put [240, 242, 243] 0 [] W f) 240 h fi) 240 h) ≤ 2147483647 → ((¬ (fw_g (fw_up (fw_put [240, 242, 243] 0 [] W f) 240 h fi) 240 h) = (1 : Int) → -2147483648 ≤ h + (1 : Int) ∧ h + (1 : Int) ≤ 2147483647 ∧ (jf fw_T (d + 2) 82 15 [(0, .inr (.inl 239)), (1, .inl fi), (2, .inl ot), (3, .inl mo), (4, .inl ma), (5, .inl (h + (1 : Int)))] [] (fw_put [242, 243] 0 [] (fw_up (fw_put [240, 242, 243] 0 [] W f) 240 h fi) f2) Post)) ∧ ((fw_g (fw_up (fw_put [240, 242, 243] 0 [] W f) 240 h fi) 240 h) = (1 : Int) → (-2147483648 ≤ (fw_shl (1 : Int) h) → (fw_shl (1 : Int) h) ≤ 2147483647 → (-2147483648 ≤ (fw_or ma (fw_shl (1 : Int) h)) → (fw_or ma (fw_shl (1 : Int) h)) ≤ 2147483647 → -2147483648 ≤ h + (1 : Int) ∧ h + (1 : Int) ≤ 2147483647 ∧ (jf fw_T (d + 2) 82 15 [(0, .inr (.inl 239)), (1, .inl fi), (2, .inl ot), (3, .inl mo), (4, .inl (fw_or ma (fw_shl (1 : Int) h))), (5, .inl (h + (1 : Int)))] [] (fw_put [242, 243] 0 [] (fw_up (fw_put [240, 242, 243] 0 [] W f) 240 h fi) f2) Post))))))) ∧ (r1 < mo → 0 ≤ h ∧ h < 14 ∧ -2147483648 ≤ ot ∧ ot ≤ 2147483647 ∧ (0 ≤ h ∧ h < 14 ∧ (-2147483648 ≤ (fw_g (fw_up (fw_put [242, 243] 0 [] (fw_up (fw_put [240, 242, 243] 0 [] W f) 240 h fi) f2) 240 h ot) 240 h) → (fw_g (fw_up (fw_put [242, 243] 0 [] (fw_up (fw_put [240, 242, 243] 0 [] W f) 240 h fi) f2) 240 h ot) 240 h) ≤ 2147483647 → ((¬ (fw_g (fw_up (fw_put [242, 243] 0 [] (fw_up (fw_put [240, 242, 243] 0 [] W f) 240 h fi) f2) 240 h ot) 240 h) = (1 : Int) → -2147483648 ≤ h + (1 : Int) ∧ h + (1 : Int) ≤ 2147483647 ∧ (jf fw_T (d + 2) 82 15 [(0, .inr (.inl 239)), (1, .inl fi), (2, .inl ot), (3, .inl mo), (4, .inl ma), (5, .inl (h + (1 : Int)))] [] (fw_up (fw_put [242, 243] 0 [] (fw_up (fw_put [240, 242, 243] 0 [] W f) 240 h fi) f2) 240 h ot) Post)) ∧ ((fw_g (fw_up (fw_put [242, 243] 0 [] (fw_up (fw_put [240, 242, 243] 0 [] W f) 240 h fi) f2) 240 h ot) 240 h) = (1 : Int) → (-2147483648 ≤ (fw_shl (1 : Int) h) → (fw_shl (1 : Int) h) ≤ 2147483647 → (-2147483648 ≤ (fw_or ma (fw_shl (1 : Int) h)) → (fw_or ma (fw_shl (1 : Int) h)) ≤ 2147483647 → -2147483648 ≤ h + (1 : Int) ∧ h + (1 : Int) ≤ 2147483647 ∧ (jf fw_T (d + 2) 82 15 [(0, .inr (.inl 239)), (1, .inl fi), (2, .inl ot), (3, .inl mo), (4, .inl (fw_or ma (fw_shl (1 : Int) h))), (5, .inl (h + (1 : Int)))] [] (fw_up (fw_put [242, 243] 0 [] (fw_up (fw_put [240, 242, 243] 0 [] W f) 240 h fi) f2) 240 h ot) Post))))))))))))))) :
    jf fw_T (d + 2) 82 15 [(0, .inr (.inl 239)), (1, .inl fi), (2, .inl ot), (3, .inl mo), (4, .inl ma), (5, .inl h)] [] (fw_put [240, 242, 243] 0 [] W f) Post := fw_ok (n := 34) (ss := [(15, [0, 1, 2, 3, 4, 5])]) (hv := []) fr_82_ok fv_setsp_ok (ct_k_apartMask_ok d) hw_

theorem lm_k_apartMask_15 {Post : Option fw_V → fw_W → Prop} {d : Nat} {W : fw_W} {fi ot : Int} (hpre : tr ((fw_g W 12 0)) (fun z_ => (fw_g W 13 z_)) ∧ 0 ≤ (fw_g W 12 0) ∧ (fw_g W 12 0) ≤ 14 ∧ (∀ j_, 1 ≤ j_ → j_ < (fw_g W 12 0) → 1 ≤ (fw_g W 204 j_) ∧ (fw_g W 204 j_) < (fw_g W 12 0))) (hP : ∀ (v : Int) (W2 : fw_W), fw_sm [240, 242, 243] 0 [] W W2 → (-2147483648 ≤ v ∧ v ≤ 2147483647 ∧ (True)) → Post (some (.inl v)) W2)  : ∀ (m : Nat) (mo ma h : Int) (f : fw_W), ((fw_g W 12 0) - h).toNat = m → 0 ≤ h → jf fw_T (d + 2) 82 15 [(0, .inr (.inl 239)), (1, .inl fi), (2, .inl ot), (3, .inl mo), (4, .inl ma), (5, .inl h)] [] (fw_put [240, 242, 243] 0 [] W f) Post := by
  intro m
  induction m using Nat.strongRecOn with
  | ind m ih =>
    intro mo ma h f hm hi
    refine jf_rng (fun hrg => ?_)
    have hrg : -2147483648 ≤ fi ∧ fi ≤ 2147483647 ∧ -2147483648 ≤ ot ∧ ot ≤ 2147483647 ∧ -2147483648 ≤ mo ∧ mo ≤ 2147483647 ∧ -2147483648 ≤ ma ∧ ma ≤ 2147483647 ∧ -2147483648 ≤ h ∧ h ≤ 2147483647 ∧ True := hrg
    refine s_k_apartMask_15 ?_
    repeat' (first
      | (exact hpre.1)
      | (exact hpre.2.2.2)
      | (exact True.intro)
      | (exact hpre.1)
      | (refine And.intro ?_ ?_)
      | (refine jf_put (S := [240, 242, 243]) (o := 0) (F := []) (W := W) (by repeat (first | exact fw_sm_refl | exact fw_sm_put0 | refine fw_sm_arr ?_ rfl | refine fw_sm_up ?_ rfl | refine fw_sm_put ?_ rfl | refine fw_sm_cp ?_ rfl)) (ih _ (by omega) _ _ _ _ rfl ?_); (first | omega | trivial | (simp (config := { decide := true }) only [fg_in, fg_fin, fg_out, fg_fout, fg_up, fg_same, true_and, and_true] <;> omega)))
      | (refine hP _ _ (by repeat (first | exact fw_sm_refl | exact fw_sm_put0 | refine fw_sm_arr ?_ rfl | refine fw_sm_up ?_ rfl | refine fw_sm_put ?_ rfl | refine fw_sm_cp ?_ rfl)) ?_; (refine ⟨by omega, by omega, ?_⟩; (first | trivial | omega)))
      | omega
      | (intro _))
def x_k_apartMask : fw_X := fun as W Q => match as with
  | [.inr (.inl s_), .inl fi, .inl ot] => fw_if (Nat.beq s_ 239) ((tr ((fw_g W 12 0)) (fun z_ => (fw_g W 13 z_)) ∧ 0 ≤ (fw_g W 12 0) ∧ (fw_g W 12 0) ≤ 14 ∧ (∀ j_, 1 ≤ j_ → j_ < (fw_g W 12 0) → 1 ≤ (fw_g W 204 j_) ∧ (fw_g W 204 j_) < (fw_g W 12 0))) ∧ (∀ (v : Int) (f : fw_W), (-2147483648 ≤ v ∧ v ≤ 2147483647 ∧ (True)) → Q (some (.inl v)) (fw_put [240, 242, 243] 0 [] W f)))
  | _ => False
theorem x_k_apartMask_ok (d : Nat) (as : List fw_V) (W : fw_W) (Q : Option fw_V → fw_W → Prop) (hx : x_k_apartMask as W Q) : jf fw_T (d + 2) 82 0 (fw_args 0 as) [] W Q := by
  unfold x_k_apartMask at hx
  split at hx
  · rename_i s_ fi ot
    obtain ⟨e_, hpre, hQ⟩ := fw_if_ok hx
    have e_ := Nat.eq_of_beq_eq_true e_
    subst e_
    have hP : ∀ (v : Int) (W2 : fw_W), fw_sm [240, 242, 243] 0 [] W W2 → _ → Q (some (.inl v)) W2 := fun v W2 hs hr => fw_sm_use (Q := fun Z => Q (some (.inl v)) Z) hs (hQ v W2 hr)
    refine jf_rng (fun hrg => ?_)
    have hrg : -2147483648 ≤ fi ∧ fi ≤ 2147483647 ∧ -2147483648 ≤ ot ∧ ot ≤ 2147483647 ∧ True := hrg
    refine s_k_apartMask_0 ?_
    repeat' (first
      | (exact hpre.1)
      | (exact hpre.2.2.2)
      | (exact True.intro)
      | (exact hpre.1)
      | (refine And.intro ?_ ?_)
      | (refine jf_put (S := [240, 242, 243]) (o := 0) (F := []) (W := W) (by repeat (first | exact fw_sm_refl | exact fw_sm_put0 | refine fw_sm_arr ?_ rfl | refine fw_sm_up ?_ rfl | refine fw_sm_put ?_ rfl | refine fw_sm_cp ?_ rfl)) (lm_k_apartMask_15 (fi := fi) (ot := ot) hpre hP _ _ _ _ _ rfl ?_); (first | omega | trivial | (simp (config := { decide := true }) only [fg_in, fg_fin, fg_out, fg_fout, fg_up, fg_same, true_and, and_true] <;> omega)))
      | (refine hP _ _ (by repeat (first | exact fw_sm_refl | exact fw_sm_put0 | refine fw_sm_arr ?_ rfl | refine fw_sm_up ?_ rfl | refine fw_sm_put ?_ rfl | refine fw_sm_cp ?_ rfl)) ?_; (refine ⟨by omega, by omega, ?_⟩; (first | trivial | omega)))
      | omega
      | (intro _))
  · exact hx.elim

def fr_81 : fw_P := [(0, 0, 0, 0, 0), (1, 3, 1, 0, 0), (2, 1, 1, 0, 0), (3, 2, 0, 0, 0), (4, 50, 6, 2, 0), (7, 50, 9, 0, 0), (10, 13, 34, 0, 0), (13, 2, 0, 0, 0), (14, 50, 6, 5, 0), (17, 1, 1, 0, 0), (18, 2, 0, 0, 0), (19, 50, 6, 2, 0), (22, 50, 9, 4, 0), (25, 1, 1, 0, 0), (26, 52, 0, 0, 0), (27, 53, 0, 0, 0), (28, 5, 1, 0, 1), (31, 6, 2, 0, 0), (34, 2, 0, 0, 0), (35, 0, 0, 0, 1), (36, 0, 0, 0, 2), (37, 64, 82, 2, 606), (40, 70, 0, 0, 0)]
theorem fr_81_ok : fw_mk 81 2 6 (some .int) fr_81 = true := by decide +kernel
def ct_k_quietMask : List (Nat × fw_X) := [(82, x_k_apartMask)]
theorem ct_k_quietMask_ok (d : Nat) : fw_cok fw_T (d + 2) ct_k_quietMask := by
  intro q hq as W Q h
  simp only [ct_k_quietMask, List.mem_cons, List.not_mem_nil, or_false] at hq
  rcases hq with rfl
  · exact jc_of (x_k_apartMask_ok (d + 0) as W Q h)
theorem s_k_quietMask_0 {Post : Option fw_V → fw_W → Prop} {d : Nat} {W : fw_W}
    (hw_ : jf fw_T (d + 3) 81 2 [(0, .inr (.inl 239)), (1, .inl (0 : Int))] [] W Post) :
    jf fw_T (d + 3) 81 0 [(0, .inr (.inl 239))] [] W Post := fw_ok (n := 3) (ss := [(2, [0, 1])]) (hv := []) fr_81_ok fv_setsp_ok (ct_k_quietMask_ok d) hw_

theorem s_k_quietMask_2 {Post : Option fw_V → fw_W → Prop} {d : Nat} {W : fw_W} {h : Int} {f : fw_W}
    (hw_ : (0 ≤ (fw_g W 12 0) → (fw_g W 12 0) ≤ 14 → (((fw_g W 12 0) ≤ h → (tr ((fw_g W 12 0)) (fun z_ => (fw_g W 13 z_)) ∧ 0 ≤ (fw_g W 12 0) ∧ (fw_g W 12 0) ≤ 14 ∧ (∀ j_, 1 ≤ j_ → j_ < (fw_g W 12 0) → 1 ≤ (fw_g W 204 j_) ∧ (fw_g W 204 j_) < (fw_g W 12 0))) ∧ (∀ (r1 : Int) (f2 : fw_W), ((-2147483648 ≤ r1 ∧ r1 ≤ 2147483647 ∧ (True))) → (-2147483648 ≤ r1 → r1 ≤ 2147483647 → Post (some (.inl r1)) (fw_put [240, 242, 243] 0 [] (fw_put [240, 241, 242, 243] 0 [] W f) f2)))) ∧ (h < (fw_g W 12 0) → 0 ≤ h ∧ h < 14 ∧ (0 ≤ (fw_g W 15 h) → (fw_g W 15 h) ≤ 99 → 0 ≤ h ∧ h < 14 ∧ -2147483648 ≤ (fw_g W 15 h) ∧ (fw_g W 15 h) ≤ 2147483647 ∧ (-2147483648 ≤ h + (1 : Int) ∧ h + (1 : Int) ≤ 2147483647 ∧ (jf fw_T (d + 3) 81 2 [(0, .inr (.inl 239)), (1, .inl (h + (1 : Int)))] [] (fw_up (fw_put [240, 241, 242, 243] 0 [] W f) 241 h (fw_g W 15 h)) Post))))))) :
    jf fw_T (d + 3) 81 2 [(0, .inr (.inl 239)), (1, .inl h)] [] (fw_put [240, 241, 242, 243] 0 [] W f) Post := fw_ok (n := 17) (ss := [(2, [0, 1])]) (hv := []) fr_81_ok fv_setsp_ok (ct_k_quietMask_ok d) hw_

theorem lm_k_quietMask_2 {Post : Option fw_V → fw_W → Prop} {d : Nat} {W : fw_W} (hpre : tr ((fw_g W 12 0)) (fun z_ => (fw_g W 13 z_)) ∧ 0 ≤ (fw_g W 12 0) ∧ (fw_g W 12 0) ≤ 14 ∧ (∀ j_, 1 ≤ j_ → j_ < (fw_g W 12 0) → 1 ≤ (fw_g W 204 j_) ∧ (fw_g W 204 j_) < (fw_g W 12 0))) (hP : ∀ (v : Int) (W2 : fw_W), fw_sm [240, 241, 242, 243] 0 [] W W2 → (-2147483648 ≤ v ∧ v ≤ 2147483647 ∧ (True)) → Post (some (.inl v)) W2)  : ∀ (m : Nat) (h : Int) (f : fw_W), ((fw_g W 12 0) - h).toNat = m → 0 ≤ h → jf fw_T (d + 3) 81 2 [(0, .inr (.inl 239)), (1, .inl h)] [] (fw_put [240, 241, 242, 243] 0 [] W f) Post := by
  intro m
  induction m using Nat.strongRecOn with
  | ind m ih =>
    intro h f hm hi
    refine jf_rng (fun hrg => ?_)
    have hrg : -2147483648 ≤ h ∧ h ≤ 2147483647 ∧ True := hrg
    refine s_k_quietMask_2 ?_
    repeat' (first
      | (exact hpre.1)
      | (exact hpre.2.2.2)
      | (exact True.intro)
      | (exact hpre.1)
      | (refine And.intro ?_ ?_)
      | (refine jf_put (S := [240, 241, 242, 243]) (o := 0) (F := []) (W := W) (by repeat (first | exact fw_sm_refl | exact fw_sm_put0 | refine fw_sm_arr ?_ rfl | refine fw_sm_up ?_ rfl | refine fw_sm_put ?_ rfl | refine fw_sm_cp ?_ rfl)) (ih _ (by omega) _ _ rfl ?_); (first | omega | trivial | (simp (config := { decide := true }) only [fg_in, fg_fin, fg_out, fg_fout, fg_up, fg_same, true_and, and_true] <;> omega)))
      | (refine hP _ _ (by repeat (first | exact fw_sm_refl | exact fw_sm_put0 | refine fw_sm_arr ?_ rfl | refine fw_sm_up ?_ rfl | refine fw_sm_put ?_ rfl | refine fw_sm_cp ?_ rfl)) ?_; (refine ⟨by omega, by omega, ?_⟩; (first | trivial | omega)))
      | omega
      | (intro _))
def x_k_quietMask : fw_X := fun as W Q => match as with
  | [.inr (.inl s_)] => fw_if (Nat.beq s_ 239) ((tr ((fw_g W 12 0)) (fun z_ => (fw_g W 13 z_)) ∧ 0 ≤ (fw_g W 12 0) ∧ (fw_g W 12 0) ≤ 14 ∧ (∀ j_, 1 ≤ j_ → j_ < (fw_g W 12 0) → 1 ≤ (fw_g W 204 j_) ∧ (fw_g W 204 j_) < (fw_g W 12 0))) ∧ (∀ (v : Int) (f : fw_W), (-2147483648 ≤ v ∧ v ≤ 2147483647 ∧ (True)) → Q (some (.inl v)) (fw_put [240, 241, 242, 243] 0 [] W f)))
  | _ => False
theorem x_k_quietMask_ok (d : Nat) (as : List fw_V) (W : fw_W) (Q : Option fw_V → fw_W → Prop) (hx : x_k_quietMask as W Q) : jf fw_T (d + 3) 81 0 (fw_args 0 as) [] W Q := by
  unfold x_k_quietMask at hx
  split at hx
  · rename_i s_
    obtain ⟨e_, hpre, hQ⟩ := fw_if_ok hx
    have e_ := Nat.eq_of_beq_eq_true e_
    subst e_
    have hP : ∀ (v : Int) (W2 : fw_W), fw_sm [240, 241, 242, 243] 0 [] W W2 → _ → Q (some (.inl v)) W2 := fun v W2 hs hr => fw_sm_use (Q := fun Z => Q (some (.inl v)) Z) hs (hQ v W2 hr)
    refine s_k_quietMask_0 ?_
    repeat' (first
      | (exact True.intro)
      | (exact hpre.1)
      | (refine And.intro ?_ ?_)
      | (refine jf_put (S := [240, 241, 242, 243]) (o := 0) (F := []) (W := W) (by repeat (first | exact fw_sm_refl | exact fw_sm_put0 | refine fw_sm_arr ?_ rfl | refine fw_sm_up ?_ rfl | refine fw_sm_put ?_ rfl | refine fw_sm_cp ?_ rfl)) (lm_k_quietMask_2 hpre hP _ _ _ rfl ?_); (first | omega | trivial | (simp (config := { decide := true }) only [fg_in, fg_fin, fg_out, fg_fout, fg_up, fg_same, true_and, and_true] <;> omega)))
      | (refine hP _ _ (by repeat (first | exact fw_sm_refl | exact fw_sm_put0 | refine fw_sm_arr ?_ rfl | refine fw_sm_up ?_ rfl | refine fw_sm_put ?_ rfl | refine fw_sm_cp ?_ rfl)) ?_; (refine ⟨by omega, by omega, ?_⟩; (first | trivial | omega)))
      | omega
      | (intro _))
  · exact hx.elim

def fr_84 : fw_P := [(0, 0, 0, 0, 0), (1, 3, 1, 0, 0), (2, 1, 1, 0, 0), (3, 2, 0, 0, 0), (4, 50, 6, 2, 0), (7, 50, 9, 0, 0), (10, 13, 26, 0, 0), (13, 2, 0, 0, 0), (14, 50, 6, 5, 0), (17, 1, 1, 0, 0), (18, 0, 0, 0, 1), (19, 53, 0, 0, 0), (20, 5, 1, 0, 1), (23, 6, 2, 0, 0), (26, 2, 0, 0, 0), (27, 0, 0, 0, 2), (28, 0, 0, 0, 1), (29, 64, 82, 2, 606), (32, 0, 0, 0, -1), (33, 38, 0, 0, 0), (34, 0, 0, 0, 1), (35, 2, 0, 0, 0), (36, 50, 6, 2, 0), (39, 50, 9, 0, 0), (42, 39, 0, 0, 0), (43, 0, 0, 0, 1), (44, 31, 0, 0, 0), (45, 36, 0, 0, 0), (46, 70, 0, 0, 0)]
theorem fr_84_ok : fw_mk 84 2 6 (some .int) fr_84 = true := by decide +kernel
def ct_k_guardMask : List (Nat × fw_X) := [(82, x_k_apartMask)]
theorem ct_k_guardMask_ok (d : Nat) : fw_cok fw_T (d + 2) ct_k_guardMask := by
  intro q hq as W Q h
  simp only [ct_k_guardMask, List.mem_cons, List.not_mem_nil, or_false] at hq
  rcases hq with rfl
  · exact jc_of (x_k_apartMask_ok (d + 0) as W Q h)
theorem s_k_guardMask_0 {Post : Option fw_V → fw_W → Prop} {d : Nat} {W : fw_W}
    (hw_ : jf fw_T (d + 3) 84 2 [(0, .inr (.inl 239)), (1, .inl (0 : Int))] [] W Post) :
    jf fw_T (d + 3) 84 0 [(0, .inr (.inl 239))] [] W Post := fw_ok (n := 3) (ss := [(2, [0, 1])]) (hv := [44]) fr_84_ok fv_setsp_ok (ct_k_guardMask_ok d) hw_

theorem s_k_guardMask_2 {Post : Option fw_V → fw_W → Prop} {d : Nat} {W : fw_W} {h : Int} {f : fw_W}
    (hw_ : (0 ≤ (fw_g W 12 0) → (fw_g W 12 0) ≤ 14 → (((fw_g W 12 0) ≤ h → (tr ((fw_g W 12 0)) (fun z_ => (fw_g W 13 z_)) ∧ 0 ≤ (fw_g W 12 0) ∧ (fw_g W 12 0) ≤ 14 ∧ (∀ j_, 1 ≤ j_ → j_ < (fw_g W 12 0) → 1 ≤ (fw_g W 204 j_) ∧ (fw_g W 204 j_) < (fw_g W 12 0))) ∧ (∀ (r1 : Int) (f2 : fw_W), ((-2147483648 ≤ r1 ∧ r1 ≤ 2147483647 ∧ (True))) → (-2147483648 ≤ (fw_xor r1 (-1 : Int)) → (fw_xor r1 (-1 : Int)) ≤ 2147483647 → (0 ≤ (fw_g W 12 0) → (fw_g W 12 0) ≤ 14 → (-2147483648 ≤ (fw_shl (1 : Int) (fw_g W 12 0)) → (fw_shl (1 : Int) (fw_g W 12 0)) ≤ 2147483647 → ∀ v3 : Int, -2147483648 ≤ v3 → v3 ≤ 2147483647 → (-2147483648 ≤ (fw_and (fw_xor r1 (-1 : Int)) v3) → (fw_and (fw_xor r1 (-1 : Int)) v3) ≤ 2147483647 → (-2147483648 ≤ (fw_and (fw_xor r1 (-1 : Int)) v3) → (fw_and (fw_xor r1 (-1 : Int)) v3) ≤ 2147483647 → Post (some (.inl (fw_and (fw_xor r1 (-1 : Int)) v3))) (fw_put [240, 242, 243] 0 [] (fw_put [240, 241, 242, 243] 0 [] W f) f2)))))))) ∧ (h < (fw_g W 12 0) → 0 ≤ h ∧ h < 14 ∧ -2147483648 ≤ (1 : Int) ∧ (1 : Int) ≤ 2147483647 ∧ (-2147483648 ≤ h + (1 : Int) ∧ h + (1 : Int) ≤ 2147483647 ∧ (jf fw_T (d + 3) 84 2 [(0, .inr (.inl 239)), (1, .inl (h + (1 : Int)))] [] (fw_up (fw_put [240, 241, 242, 243] 0 [] W f) 241 h (1 : Int)) Post)))))) :
    jf fw_T (d + 3) 84 2 [(0, .inr (.inl 239)), (1, .inl h)] [] (fw_put [240, 241, 242, 243] 0 [] W f) Post := fw_ok (n := 21) (ss := [(2, [0, 1])]) (hv := [44]) fr_84_ok fv_setsp_ok (ct_k_guardMask_ok d) hw_

theorem lm_k_guardMask_2 {Post : Option fw_V → fw_W → Prop} {d : Nat} {W : fw_W} (hpre : tr ((fw_g W 12 0)) (fun z_ => (fw_g W 13 z_)) ∧ 0 ≤ (fw_g W 12 0) ∧ (fw_g W 12 0) ≤ 14 ∧ (∀ j_, 1 ≤ j_ → j_ < (fw_g W 12 0) → 1 ≤ (fw_g W 204 j_) ∧ (fw_g W 204 j_) < (fw_g W 12 0))) (hP : ∀ (v : Int) (W2 : fw_W), fw_sm [240, 241, 242, 243] 0 [] W W2 → (-2147483648 ≤ v ∧ v ≤ 2147483647 ∧ (True)) → Post (some (.inl v)) W2)  : ∀ (m : Nat) (h : Int) (f : fw_W), ((fw_g W 12 0) - h).toNat = m → 0 ≤ h → jf fw_T (d + 3) 84 2 [(0, .inr (.inl 239)), (1, .inl h)] [] (fw_put [240, 241, 242, 243] 0 [] W f) Post := by
  intro m
  induction m using Nat.strongRecOn with
  | ind m ih =>
    intro h f hm hi
    refine jf_rng (fun hrg => ?_)
    have hrg : -2147483648 ≤ h ∧ h ≤ 2147483647 ∧ True := hrg
    refine s_k_guardMask_2 ?_
    repeat' (first
      | (exact hpre.1)
      | (exact hpre.2.2.2)
      | (exact True.intro)
      | (exact hpre.1)
      | (refine And.intro ?_ ?_)
      | (refine jf_put (S := [240, 241, 242, 243]) (o := 0) (F := []) (W := W) (by repeat (first | exact fw_sm_refl | exact fw_sm_put0 | refine fw_sm_arr ?_ rfl | refine fw_sm_up ?_ rfl | refine fw_sm_put ?_ rfl | refine fw_sm_cp ?_ rfl)) (ih _ (by omega) _ _ rfl ?_); (first | omega | trivial | (simp (config := { decide := true }) only [fg_in, fg_fin, fg_out, fg_fout, fg_up, fg_same, true_and, and_true] <;> omega)))
      | (refine hP _ _ (by repeat (first | exact fw_sm_refl | exact fw_sm_put0 | refine fw_sm_arr ?_ rfl | refine fw_sm_up ?_ rfl | refine fw_sm_put ?_ rfl | refine fw_sm_cp ?_ rfl)) ?_; (refine ⟨by omega, by omega, ?_⟩; (first | trivial | omega)))
      | omega
      | (intro _))
def x_k_guardMask : fw_X := fun as W Q => match as with
  | [.inr (.inl s_)] => fw_if (Nat.beq s_ 239) ((tr ((fw_g W 12 0)) (fun z_ => (fw_g W 13 z_)) ∧ 0 ≤ (fw_g W 12 0) ∧ (fw_g W 12 0) ≤ 14 ∧ (∀ j_, 1 ≤ j_ → j_ < (fw_g W 12 0) → 1 ≤ (fw_g W 204 j_) ∧ (fw_g W 204 j_) < (fw_g W 12 0))) ∧ (∀ (v : Int) (f : fw_W), (-2147483648 ≤ v ∧ v ≤ 2147483647 ∧ (True)) → Q (some (.inl v)) (fw_put [240, 241, 242, 243] 0 [] W f)))
  | _ => False
theorem x_k_guardMask_ok (d : Nat) (as : List fw_V) (W : fw_W) (Q : Option fw_V → fw_W → Prop) (hx : x_k_guardMask as W Q) : jf fw_T (d + 3) 84 0 (fw_args 0 as) [] W Q := by
  unfold x_k_guardMask at hx
  split at hx
  · rename_i s_
    obtain ⟨e_, hpre, hQ⟩ := fw_if_ok hx
    have e_ := Nat.eq_of_beq_eq_true e_
    subst e_
    have hP : ∀ (v : Int) (W2 : fw_W), fw_sm [240, 241, 242, 243] 0 [] W W2 → _ → Q (some (.inl v)) W2 := fun v W2 hs hr => fw_sm_use (Q := fun Z => Q (some (.inl v)) Z) hs (hQ v W2 hr)
    refine s_k_guardMask_0 ?_
    repeat' (first
      | (exact True.intro)
      | (exact hpre.1)
      | (refine And.intro ?_ ?_)
      | (refine jf_put (S := [240, 241, 242, 243]) (o := 0) (F := []) (W := W) (by repeat (first | exact fw_sm_refl | exact fw_sm_put0 | refine fw_sm_arr ?_ rfl | refine fw_sm_up ?_ rfl | refine fw_sm_put ?_ rfl | refine fw_sm_cp ?_ rfl)) (lm_k_guardMask_2 hpre hP _ _ _ rfl ?_); (first | omega | trivial | (simp (config := { decide := true }) only [fg_in, fg_fin, fg_out, fg_fout, fg_up, fg_same, true_and, and_true] <;> omega)))
      | (refine hP _ _ (by repeat (first | exact fw_sm_refl | exact fw_sm_put0 | refine fw_sm_arr ?_ rfl | refine fw_sm_up ?_ rfl | refine fw_sm_put ?_ rfl | refine fw_sm_cp ?_ rfl)) ?_; (refine ⟨by omega, by omega, ?_⟩; (first | trivial | omega)))
      | omega
      | (intro _))
  · exact hx.elim

def fr_163 : fw_P := [(0, 2, 0, 0, 0), (1, 50, 11, 7, 0), (4, 64, 81, 0, 206), (7, 70, 0, 0, 0)]
theorem fr_163_ok : fw_mk 163 1 11 (some .int) fr_163 = true := by decide +kernel
def ct_k_quiet : List (Nat × fw_X) := [(81, x_k_quietMask)]
theorem ct_k_quiet_ok (d : Nat) : fw_cok fw_T (d + 3) ct_k_quiet := by
  intro q hq as W Q h
  simp only [ct_k_quiet, List.mem_cons, List.not_mem_nil, or_false] at hq
  rcases hq with rfl
  · exact jc_of (x_k_quietMask_ok (d + 0) as W Q h)
theorem s_k_quiet_0 {Post : Option fw_V → fw_W → Prop} {d : Nat} {W : fw_W}
    (hw_ : (tr ((fw_g W 12 0)) (fun z_ => (fw_g W 13 z_)) ∧ 0 ≤ (fw_g W 12 0) ∧ (fw_g W 12 0) ≤ 14 ∧ (∀ j_, 1 ≤ j_ → j_ < (fw_g W 12 0) → 1 ≤ (fw_g W 204 j_) ∧ (fw_g W 204 j_) < (fw_g W 12 0))) ∧ (∀ (r1 : Int) (f2 : fw_W), ((-2147483648 ≤ r1 ∧ r1 ≤ 2147483647 ∧ (True))) → (-2147483648 ≤ r1 → r1 ≤ 2147483647 → Post (some (.inl r1)) (fw_put [240, 241, 242, 243] 0 [] W f2)))) :
    jf fw_T (d + 4) 163 0 [(0, .inr (.inl 0))] [] W Post := fw_ok (n := 5) (ss := []) (hv := []) fr_163_ok fv_owt_ok (ct_k_quiet_ok d) hw_

def x_k_quiet : fw_X := fun as W Q => match as with
  | [.inr (.inl s_)] => fw_if (Nat.beq s_ 0) ((tr ((fw_g W 12 0)) (fun z_ => (fw_g W 13 z_)) ∧ 0 ≤ (fw_g W 12 0) ∧ (fw_g W 12 0) ≤ 14 ∧ (∀ j_, 1 ≤ j_ → j_ < (fw_g W 12 0) → 1 ≤ (fw_g W 204 j_) ∧ (fw_g W 204 j_) < (fw_g W 12 0))) ∧ (∀ (v : Int) (f : fw_W), (-2147483648 ≤ v ∧ v ≤ 2147483647 ∧ (True)) → Q (some (.inl v)) (fw_put [240, 241, 242, 243] 0 [] W f)))
  | _ => False
theorem x_k_quiet_ok (d : Nat) (as : List fw_V) (W : fw_W) (Q : Option fw_V → fw_W → Prop) (hx : x_k_quiet as W Q) : jf fw_T (d + 4) 163 0 (fw_args 0 as) [] W Q := by
  unfold x_k_quiet at hx
  split at hx
  · rename_i s_
    obtain ⟨e_, hpre, hQ⟩ := fw_if_ok hx
    have e_ := Nat.eq_of_beq_eq_true e_
    subst e_
    have hP : ∀ (v : Int) (W2 : fw_W), fw_sm [240, 241, 242, 243] 0 [] W W2 → _ → Q (some (.inl v)) W2 := fun v W2 hs hr => fw_sm_use (Q := fun Z => Q (some (.inl v)) Z) hs (hQ v W2 hr)
    refine s_k_quiet_0 ?_
    repeat' (first
      | (exact hpre.1)
      | (exact hpre.2.2.2)
      | (exact True.intro)
      | (exact hpre.1)
      | (refine And.intro ?_ ?_)
      | (refine hP _ _ (by repeat (first | exact fw_sm_refl | exact fw_sm_put0 | refine fw_sm_arr ?_ rfl | refine fw_sm_up ?_ rfl | refine fw_sm_put ?_ rfl | refine fw_sm_cp ?_ rfl)) ?_; (refine ⟨by omega, by omega, ?_⟩; (first | trivial | omega)))
      | omega
      | (intro _))
  · exact hx.elim

def fr_164 : fw_P := [(0, 2, 0, 0, 0), (1, 50, 11, 7, 0), (4, 64, 84, 0, 206), (7, 70, 0, 0, 0)]
theorem fr_164_ok : fw_mk 164 1 11 (some .int) fr_164 = true := by decide +kernel
def ct_k_guards : List (Nat × fw_X) := [(84, x_k_guardMask)]
theorem ct_k_guards_ok (d : Nat) : fw_cok fw_T (d + 3) ct_k_guards := by
  intro q hq as W Q h
  simp only [ct_k_guards, List.mem_cons, List.not_mem_nil, or_false] at hq
  rcases hq with rfl
  · exact jc_of (x_k_guardMask_ok (d + 0) as W Q h)
theorem s_k_guards_0 {Post : Option fw_V → fw_W → Prop} {d : Nat} {W : fw_W}
    (hw_ : (tr ((fw_g W 12 0)) (fun z_ => (fw_g W 13 z_)) ∧ 0 ≤ (fw_g W 12 0) ∧ (fw_g W 12 0) ≤ 14 ∧ (∀ j_, 1 ≤ j_ → j_ < (fw_g W 12 0) → 1 ≤ (fw_g W 204 j_) ∧ (fw_g W 204 j_) < (fw_g W 12 0))) ∧ (∀ (r1 : Int) (f2 : fw_W), ((-2147483648 ≤ r1 ∧ r1 ≤ 2147483647 ∧ (True))) → (-2147483648 ≤ r1 → r1 ≤ 2147483647 → Post (some (.inl r1)) (fw_put [240, 241, 242, 243] 0 [] W f2)))) :
    jf fw_T (d + 4) 164 0 [(0, .inr (.inl 0))] [] W Post := fw_ok (n := 5) (ss := []) (hv := []) fr_164_ok fv_owt_ok (ct_k_guards_ok d) hw_

def x_k_guards : fw_X := fun as W Q => match as with
  | [.inr (.inl s_)] => fw_if (Nat.beq s_ 0) ((tr ((fw_g W 12 0)) (fun z_ => (fw_g W 13 z_)) ∧ 0 ≤ (fw_g W 12 0) ∧ (fw_g W 12 0) ≤ 14 ∧ (∀ j_, 1 ≤ j_ → j_ < (fw_g W 12 0) → 1 ≤ (fw_g W 204 j_) ∧ (fw_g W 204 j_) < (fw_g W 12 0))) ∧ (∀ (v : Int) (f : fw_W), (-2147483648 ≤ v ∧ v ≤ 2147483647 ∧ (True)) → Q (some (.inl v)) (fw_put [240, 241, 242, 243] 0 [] W f)))
  | _ => False
theorem x_k_guards_ok (d : Nat) (as : List fw_V) (W : fw_W) (Q : Option fw_V → fw_W → Prop) (hx : x_k_guards as W Q) : jf fw_T (d + 4) 164 0 (fw_args 0 as) [] W Q := by
  unfold x_k_guards at hx
  split at hx
  · rename_i s_
    obtain ⟨e_, hpre, hQ⟩ := fw_if_ok hx
    have e_ := Nat.eq_of_beq_eq_true e_
    subst e_
    have hP : ∀ (v : Int) (W2 : fw_W), fw_sm [240, 241, 242, 243] 0 [] W W2 → _ → Q (some (.inl v)) W2 := fun v W2 hs hr => fw_sm_use (Q := fun Z => Q (some (.inl v)) Z) hs (hQ v W2 hr)
    refine s_k_guards_0 ?_
    repeat' (first
      | (exact hpre.1)
      | (exact hpre.2.2.2)
      | (exact True.intro)
      | (exact hpre.1)
      | (refine And.intro ?_ ?_)
      | (refine hP _ _ (by repeat (first | exact fw_sm_refl | exact fw_sm_put0 | refine fw_sm_arr ?_ rfl | refine fw_sm_up ?_ rfl | refine fw_sm_put ?_ rfl | refine fw_sm_cp ?_ rfl)) ?_; (refine ⟨by omega, by omega, ?_⟩; (first | trivial | omega)))
      | omega
      | (intro _))
  · exact hx.elim

def fr_90 : fw_P := [(0, 0, 0, 0, 0), (1, 3, 2, 0, 0), (2, 1, 2, 0, 0), (3, 2, 0, 0, 0), (4, 50, 6, 2, 0), (7, 50, 9, 0, 0), (10, 13, 33, 0, 0), (13, 2, 0, 0, 0), (14, 50, 6, 6, 0), (17, 1, 2, 0, 0), (18, 1, 1, 0, 0), (19, 53, 0, 0, 0), (20, 2, 0, 0, 0), (21, 50, 6, 7, 0), (24, 1, 2, 0, 0), (25, 0, 0, 0, 1), (26, 53, 0, 0, 0), (27, 5, 2, 0, 1), (30, 6, 2, 0, 0), (33, 72, 0, 0, 0)]
theorem fr_90_ok : fw_mk 90 3 6 none fr_90 = true := by decide +kernel
theorem s_k_startCount_0 {Post : Option fw_V → fw_W → Prop} {d : Nat} {W : fw_W} {wi : Int}
    (hw_ : jf fw_T (d + 1) 90 2 [(0, .inr (.inl 239)), (1, .inl wi), (2, .inl (0 : Int))] [] W Post) :
    jf fw_T (d + 1) 90 0 [(0, .inr (.inl 239)), (1, .inl wi)] [] W Post := fw_ok (n := 3) (ss := [(2, [0, 1, 2])]) (hv := []) fr_90_ok fv_setsp_ok (fw_c0 _ _) hw_

theorem s_k_startCount_2 {Post : Option fw_V → fw_W → Prop} {d : Nat} {W : fw_W} {wi h : Int} {f : fw_W}
    (hw_ : (0 ≤ (fw_g W 12 0) → (fw_g W 12 0) ≤ 14 → (((fw_g W 12 0) ≤ h → Post none (fw_put [242, 243] 0 [] W f)) ∧ (h < (fw_g W 12 0) → 0 ≤ h ∧ h < 14 ∧ -2147483648 ≤ wi ∧ wi ≤ 2147483647 ∧ (0 ≤ h ∧ h < 14 ∧ -2147483648 ≤ (1 : Int) ∧ (1 : Int) ≤ 2147483647 ∧ (-2147483648 ≤ h + (1 : Int) ∧ h + (1 : Int) ≤ 2147483647 ∧ (jf fw_T (d + 1) 90 2 [(0, .inr (.inl 239)), (1, .inl wi), (2, .inl (h + (1 : Int)))] [] (fw_up (fw_up (fw_put [242, 243] 0 [] W f) 242 h wi) 243 h (1 : Int)) Post))))))) :
    jf fw_T (d + 1) 90 2 [(0, .inr (.inl 239)), (1, .inl wi), (2, .inl h)] [] (fw_put [242, 243] 0 [] W f) Post := fw_ok (n := 18) (ss := [(2, [0, 1, 2])]) (hv := []) fr_90_ok fv_setsp_ok (fw_c0 _ _) hw_

theorem lm_k_startCount_2 {Post : Option fw_V → fw_W → Prop} {d : Nat} {W : fw_W} {wi : Int} (hpre : 0 ≤ (fw_g W 12 0) ∧ (fw_g W 12 0) ≤ 14) (hP : ∀ (W2 : fw_W), fw_sm [242, 243] 0 [] W W2 → (True) → Post none W2)  : ∀ (m : Nat) (h : Int) (f : fw_W), ((fw_g W 12 0) - h).toNat = m → 0 ≤ h → jf fw_T (d + 1) 90 2 [(0, .inr (.inl 239)), (1, .inl wi), (2, .inl h)] [] (fw_put [242, 243] 0 [] W f) Post := by
  intro m
  induction m using Nat.strongRecOn with
  | ind m ih =>
    intro h f hm hi
    refine jf_rng (fun hrg => ?_)
    have hrg : -2147483648 ≤ wi ∧ wi ≤ 2147483647 ∧ -2147483648 ≤ h ∧ h ≤ 2147483647 ∧ True := hrg
    refine s_k_startCount_2 ?_
    repeat' (first
      | (exact True.intro)
      | (exact hpre.1)
      | (refine And.intro ?_ ?_)
      | (refine jf_put (S := [242, 243]) (o := 0) (F := []) (W := W) (by repeat (first | exact fw_sm_refl | exact fw_sm_put0 | refine fw_sm_arr ?_ rfl | refine fw_sm_up ?_ rfl | refine fw_sm_put ?_ rfl | refine fw_sm_cp ?_ rfl)) (ih _ (by omega) _ _ rfl ?_); (first | omega | trivial | (simp (config := { decide := true }) only [fg_in, fg_fin, fg_out, fg_fout, fg_up, fg_same, true_and, and_true] <;> omega)))
      | (refine hP _ (by repeat (first | exact fw_sm_refl | exact fw_sm_put0 | refine fw_sm_arr ?_ rfl | refine fw_sm_up ?_ rfl | refine fw_sm_put ?_ rfl | refine fw_sm_cp ?_ rfl)) ?_; (first | trivial | omega))
      | omega
      | (intro _))
def x_k_startCount : fw_X := fun as W Q => match as with
  | [.inr (.inl s_), .inl wi] => fw_if (Nat.beq s_ 239) ((0 ≤ (fw_g W 12 0) ∧ (fw_g W 12 0) ≤ 14) ∧ (∀ (f : fw_W), (True) → Q none (fw_put [242, 243] 0 [] W f)))
  | _ => False
theorem x_k_startCount_ok (d : Nat) (as : List fw_V) (W : fw_W) (Q : Option fw_V → fw_W → Prop) (hx : x_k_startCount as W Q) : jf fw_T (d + 1) 90 0 (fw_args 0 as) [] W Q := by
  unfold x_k_startCount at hx
  split at hx
  · rename_i s_ wi
    obtain ⟨e_, hpre, hQ⟩ := fw_if_ok hx
    have e_ := Nat.eq_of_beq_eq_true e_
    subst e_
    have hP : ∀ (W2 : fw_W), fw_sm [242, 243] 0 [] W W2 → _ → Q none W2 := fun W2 hs hr => fw_sm_use (Q := fun Z => Q none Z) hs (hQ W2 hr)
    refine jf_rng (fun hrg => ?_)
    have hrg : -2147483648 ≤ wi ∧ wi ≤ 2147483647 ∧ True := hrg
    refine s_k_startCount_0 ?_
    repeat' (first
      | (exact True.intro)
      | (exact hpre.1)
      | (refine And.intro ?_ ?_)
      | (refine jf_put (S := [242, 243]) (o := 0) (F := []) (W := W) (by repeat (first | exact fw_sm_refl | exact fw_sm_put0 | refine fw_sm_arr ?_ rfl | refine fw_sm_up ?_ rfl | refine fw_sm_put ?_ rfl | refine fw_sm_cp ?_ rfl)) (lm_k_startCount_2 (wi := wi) hpre hP _ _ _ rfl ?_); (first | omega | trivial | (simp (config := { decide := true }) only [fg_in, fg_fin, fg_out, fg_fout, fg_up, fg_same, true_and, and_true] <;> omega)))
      | (refine hP _ (by repeat (first | exact fw_sm_refl | exact fw_sm_put0 | refine fw_sm_arr ?_ rfl | refine fw_sm_up ?_ rfl | refine fw_sm_put ?_ rfl | refine fw_sm_cp ?_ rfl)) ?_; (first | trivial | omega))
      | omega
      | (intro _))
  · exact hx.elim

def fr_89 : fw_P := [(0, 2, 0, 0, 0), (1, 50, 6, 2, 0), (4, 50, 9, 0, 0), (7, 21, 12, 0, 0), (10, 0, 0, 0, 1), (11, 70, 0, 0, 0), (12, 2, 0, 0, 0), (13, 0, 0, 0, 1), (14, 64, 90, 1, 306), (17, 2, 0, 0, 0), (18, 50, 6, 2, 0), (21, 50, 9, 0, 0), (24, 0, 0, 0, 1), (25, 31, 0, 0, 0), (26, 3, 1, 0, 0), (27, 1, 1, 0, 0), (28, 25, 94, 0, 0), (31, 2, 0, 0, 0), (32, 50, 6, 3, 0), (35, 50, 10, 0, 0), (38, 1, 1, 0, 0), (39, 52, 0, 0, 0), (40, 3, 2, 0, 0), (41, 2, 0, 0, 0), (42, 50, 6, 2, 0), (45, 50, 9, 2, 0), (48, 1, 2, 0, 0), (49, 52, 0, 0, 0), (50, 3, 3, 0, 0), (51, 2, 0, 0, 0), (52, 50, 6, 6, 0), (55, 1, 3, 0, 0), (56, 44, 0, 0, 0), (57, 52, 0, 0, 0), (58, 2, 0, 0, 0), (59, 50, 6, 7, 0), (62, 1, 2, 0, 0), (63, 52, 0, 0, 0), (64, 32, 0, 0, 0), (65, 53, 0, 0, 0), (66, 2, 0, 0, 0), (67, 50, 6, 7, 0), (70, 1, 3, 0, 0), (71, 44, 0, 0, 0), (72, 52, 0, 0, 0), (73, 2, 0, 0, 0), (74, 50, 6, 6, 0), (77, 1, 2, 0, 0), (78, 52, 0, 0, 0), (79, 2, 0, 0, 0), (80, 50, 6, 7, 0), (83, 1, 2, 0, 0), (84, 52, 0, 0, 0), (85, 30, 0, 0, 0), (86, 32, 0, 0, 0), (87, 53, 0, 0, 0), (88, 5, 1, 0, -1), (91, 6, 27, 0, 0), (94, 2, 0, 0, 0), (95, 50, 6, 6, 0), (98, 0, 0, 0, 0), (99, 52, 0, 0, 0), (100, 2, 0, 0, 0), (101, 50, 6, 7, 0), (104, 0, 0, 0, 0), (105, 52, 0, 0, 0), (106, 30, 0, 0, 0), (107, 70, 0, 0, 0)]
theorem fr_89_ok : fw_mk 89 4 6 (some .int) fr_89 = true := by decide +kernel
def ct_k_countApart : List (Nat × fw_X) := [(90, x_k_startCount)]
theorem ct_k_countApart_ok (d : Nat) : fw_cok fw_T (d + 1) ct_k_countApart := by
  intro q hq as W Q h
  simp only [ct_k_countApart, List.mem_cons, List.not_mem_nil, or_false] at hq
  rcases hq with rfl
  · exact jc_of (x_k_startCount_ok (d + 0) as W Q h)
theorem s_k_countApart_0 {Post : Option fw_V → fw_W → Prop} {d : Nat} {W : fw_W}
    (hw_ : (0 ≤ (fw_g W 12 0) → (fw_g W 12 0) ≤ 14 → ((¬ (fw_g W 12 0) = 0 → (0 ≤ (fw_g W 12 0) ∧ (fw_g W 12 0) ≤ 14) ∧ (∀ (f1 : fw_W), ((True)) → (0 ≤ (fw_g W 12 0) → (fw_g W 12 0) ≤ 14 → -2147483648 ≤ (fw_g W 12 0) - (1 : Int) ∧ (fw_g W 12 0) - (1 : Int) ≤ 2147483647 ∧ (jf fw_T (d + 2) 89 27 [(0, .inr (.inl 239)), (1, .inl ((fw_g W 12 0) - (1 : Int)))] [] (fw_put [242, 243] 0 [] W f1) Post)))) ∧ ((fw_g W 12 0) = 0 → (-2147483648 ≤ (1 : Int) → (1 : Int) ≤ 2147483647 → Post (some (.inl (1 : Int))) W))))) :
    jf fw_T (d + 2) 89 0 [(0, .inr (.inl 239))] [] W Post := fw_ok (n := 14) (ss := [(27, [0, 1])]) (hv := [64, 85, 86, 106]) fr_89_ok fv_setsp_ok (ct_k_countApart_ok d) hw_

theorem s_k_countApart_27 {Post : Option fw_V → fw_W → Prop} {d : Nat} {W : fw_W} {i : Int} {f : fw_W}
    (hw_ : ((i ≤ 0 → 0 ≤ (0 : Int) ∧ (0 : Int) < 14 ∧ (-2147483648 ≤ (fw_g f 242 (0 : Int)) → (fw_g f 242 (0 : Int)) ≤ 2147483647 → 0 ≤ (0 : Int) ∧ (0 : Int) < 14 ∧ (-2147483648 ≤ (fw_g f 243 (0 : Int)) → (fw_g f 243 (0 : Int)) ≤ 2147483647 → ∀ v1 : Int, -2147483648 ≤ v1 → v1 ≤ 2147483647 → (-2147483648 ≤ v1 → v1 ≤ 2147483647 → Post (some (.inl v1)) (fw_put [242, 243] 0 [] W f))))) ∧ (0 < i → 0 ≤ i ∧ i < 14 ∧ (0 ≤ (fw_g W 204 i) → (fw_g W 204 i) ≤ 13 → 0 ≤ (fw_g W 204 i) ∧ (fw_g W 204 i) < 14 ∧ (-1 ≤ (fw_g W 13 (fw_g W 204 i)) → (fw_g W 13 (fw_g W 204 i)) ≤ 13 → 0 ≤ (fw_g W 13 (fw_g W 204 i)) ∧ (fw_g W 13 (fw_g W 204 i)) < 14 ∧ (-2147483648 ≤ (fw_g f 242 (fw_g W 13 (fw_g W 204 i))) → (fw_g f 242 (fw_g W 13 (fw_g W 204 i))) ≤ 2147483647 → 0 ≤ (fw_g W 204 i) ∧ (fw_g W 204 i) < 14 ∧ (-2147483648 ≤ (fw_g f 243 (fw_g W 204 i)) → (fw_g f 243 (fw_g W 204 i)) ≤ 2147483647 → ∀ v2 : Int, -2147483648 ≤ v2 → v2 ≤ 2147483647 → 0 ≤ (fw_g W 13 (fw_g W 204 i)) ∧ (fw_g W 13 (fw_g W 204 i)) < 14 ∧ -2147483648 ≤ v2 ∧ v2 ≤ 2147483647 ∧ (0 ≤ (fw_g W 13 (fw_g W 204 i)) ∧ (fw_g W 13 (fw_g W 204 i)) < 14 ∧ (-2147483648 ≤ (fw_g f 243 (fw_g W 13 (fw_g W 204 i))) → (fw_g f 243 (fw_g W 13 (fw_g W 204 i))) ≤ 2147483647 → 0 ≤ (fw_g W 204 i) ∧ (fw_g W 204 i) < 14 ∧ (-2147483648 ≤ (fw_g (fw_up (fw_put [242, 243] 0 [] W f) 242 (fw_g W 13 (fw_g W 204 i)) v2) 242 (fw_g W 204 i)) → (fw_g (fw_up (fw_put [242, 243] 0 [] W f) 242 (fw_g W 13 (fw_g W 204 i)) v2) 242 (fw_g W 204 i)) ≤ 2147483647 → 0 ≤ (fw_g W 204 i) ∧ (fw_g W 204 i) < 14 ∧ (-2147483648 ≤ (fw_g f 243 (fw_g W 204 i)) → (fw_g f 243 (fw_g W 204 i)) ≤ 2147483647 → ∀ v3 : Int, -2147483648 ≤ v3 → v3 ≤ 2147483647 → ∀ v4 : Int, -2147483648 ≤ v4 → v4 ≤ 2147483647 → 0 ≤ (fw_g W 13 (fw_g W 204 i)) ∧ (fw_g W 13 (fw_g W 204 i)) < 14 ∧ -2147483648 ≤ v4 ∧ v4 ≤ 2147483647 ∧ (-2147483648 ≤ i + (-1 : Int) ∧ i + (-1 : Int) ≤ 2147483647 ∧ (jf fw_T (d + 2) 89 27 [(0, .inr (.inl 239)), (1, .inl (i + (-1 : Int)))] [] (fw_up (fw_up (fw_put [242, 243] 0 [] W f) 242 (fw_g W 13 (fw_g W 204 i)) v2) 243 (fw_g W 13 (fw_g W 204 i)) v4) Post))))))))))))) :
    jf fw_T (d + 2) 89 27 [(0, .inr (.inl 239)), (1, .inl i)] [] (fw_put [242, 243] 0 [] W f) Post := fw_ok (n := 44) (ss := [(27, [0, 1])]) (hv := [64, 85, 86, 106]) fr_89_ok fv_setsp_ok (ct_k_countApart_ok d) hw_

theorem lm_k_countApart_27 {Post : Option fw_V → fw_W → Prop} {d : Nat} {W : fw_W} (hpre : tr ((fw_g W 12 0)) (fun z_ => (fw_g W 13 z_)) ∧ 0 ≤ (fw_g W 12 0) ∧ (fw_g W 12 0) ≤ 14 ∧ (∀ j_, 1 ≤ j_ → j_ < (fw_g W 12 0) → 1 ≤ (fw_g W 204 j_) ∧ (fw_g W 204 j_) < (fw_g W 12 0))) (hP : ∀ (v : Int) (W2 : fw_W), fw_sm [242, 243] 0 [] W W2 → (-2147483648 ≤ v ∧ v ≤ 2147483647 ∧ (True)) → Post (some (.inl v)) W2)  : ∀ (m : Nat) (i : Int) (f : fw_W), (i).toNat = m → i < (fw_g W 12 0) → jf fw_T (d + 2) 89 27 [(0, .inr (.inl 239)), (1, .inl i)] [] (fw_put [242, 243] 0 [] W f) Post := by
  intro m
  induction m using Nat.strongRecOn with
  | ind m ih =>
    intro i f hm hi
    refine jf_rng (fun hrg => ?_)
    have hrg : -2147483648 ≤ i ∧ i ≤ 2147483647 ∧ True := hrg
    refine s_k_countApart_27 ?_
    have ho : 1 ≤ i → i < (fw_g W 12 0) → 1 ≤ (fw_g W 204 i) ∧ (fw_g W 204 i) < (fw_g W 12 0) := fun z z2 => hpre.2.2.2 i z z2
    have hp : 1 ≤ i → i < (fw_g W 12 0) → 0 ≤ (fw_g W 13 (fw_g W 204 i)) ∧ (fw_g W 13 (fw_g W 204 i)) < (fw_g W 12 0) := fun z z2 => tr_p hpre.1 (ho z z2).1 (ho z z2).2
    repeat' (first
      | (exact True.intro)
      | (exact hpre.1)
      | (refine And.intro ?_ ?_)
      | (refine jf_put (S := [242, 243]) (o := 0) (F := []) (W := W) (by repeat (first | exact fw_sm_refl | exact fw_sm_put0 | refine fw_sm_arr ?_ rfl | refine fw_sm_up ?_ rfl | refine fw_sm_put ?_ rfl | refine fw_sm_cp ?_ rfl)) (ih _ (by omega) _ _ rfl ?_); (first | omega | trivial | (simp (config := { decide := true }) only [fg_in, fg_fin, fg_out, fg_fout, fg_up, fg_same, true_and, and_true] <;> omega)))
      | (refine hP _ _ (by repeat (first | exact fw_sm_refl | exact fw_sm_put0 | refine fw_sm_arr ?_ rfl | refine fw_sm_up ?_ rfl | refine fw_sm_put ?_ rfl | refine fw_sm_cp ?_ rfl)) ?_; (refine ⟨by omega, by omega, ?_⟩; (first | trivial | omega)))
      | omega
      | (intro _))
def x_k_countApart : fw_X := fun as W Q => match as with
  | [.inr (.inl s_)] => fw_if (Nat.beq s_ 239) ((tr ((fw_g W 12 0)) (fun z_ => (fw_g W 13 z_)) ∧ 0 ≤ (fw_g W 12 0) ∧ (fw_g W 12 0) ≤ 14 ∧ (∀ j_, 1 ≤ j_ → j_ < (fw_g W 12 0) → 1 ≤ (fw_g W 204 j_) ∧ (fw_g W 204 j_) < (fw_g W 12 0))) ∧ (∀ (v : Int) (f : fw_W), (-2147483648 ≤ v ∧ v ≤ 2147483647 ∧ (True)) → Q (some (.inl v)) (fw_put [242, 243] 0 [] W f)))
  | _ => False
theorem x_k_countApart_ok (d : Nat) (as : List fw_V) (W : fw_W) (Q : Option fw_V → fw_W → Prop) (hx : x_k_countApart as W Q) : jf fw_T (d + 2) 89 0 (fw_args 0 as) [] W Q := by
  unfold x_k_countApart at hx
  split at hx
  · rename_i s_
    obtain ⟨e_, hpre, hQ⟩ := fw_if_ok hx
    have e_ := Nat.eq_of_beq_eq_true e_
    subst e_
    have hP : ∀ (v : Int) (W2 : fw_W), fw_sm [242, 243] 0 [] W W2 → _ → Q (some (.inl v)) W2 := fun v W2 hs hr => fw_sm_use (Q := fun Z => Q (some (.inl v)) Z) hs (hQ v W2 hr)
    refine s_k_countApart_0 ?_
    repeat' (first
      | (exact True.intro)
      | (exact hpre.1)
      | (refine And.intro ?_ ?_)
      | (refine jf_put (S := [242, 243]) (o := 0) (F := []) (W := W) (by repeat (first | exact fw_sm_refl | exact fw_sm_put0 | refine fw_sm_arr ?_ rfl | refine fw_sm_up ?_ rfl | refine fw_sm_put ?_ rfl | refine fw_sm_cp ?_ rfl)) (lm_k_countApart_27 hpre hP _ _ _ rfl ?_); (first | omega | trivial | (simp (config := { decide := true }) only [fg_in, fg_fin, fg_out, fg_fout, fg_up, fg_same, true_and, and_true] <;> omega)))
      | (refine hP _ _ (by repeat (first | exact fw_sm_refl | exact fw_sm_put0 | refine fw_sm_arr ?_ rfl | refine fw_sm_up ?_ rfl | refine fw_sm_put ?_ rfl | refine fw_sm_cp ?_ rfl)) ?_; (refine ⟨by omega, by omega, ?_⟩; (first | trivial | omega)))
      | omega
      | (intro _))
  · exact hx.elim

def fr_91 : fw_P := [(0, 2, 0, 0, 0), (1, 0, 0, 0, 1), (2, 64, 90, 1, 306), (5, 0, 0, 0, 0), (6, 3, 1, 0, 0), (7, 2, 0, 0, 0), (8, 50, 6, 2, 0), (11, 50, 9, 0, 0), (14, 0, 0, 0, 1), (15, 31, 0, 0, 0), (16, 3, 2, 0, 0), (17, 1, 2, 0, 0), (18, 22, 75, 0, 0), (21, 2, 0, 0, 0), (22, 50, 6, 3, 0), (25, 50, 10, 0, 0), (28, 1, 2, 0, 0), (29, 52, 0, 0, 0), (30, 3, 3, 0, 0), (31, 1, 1, 0, 0), (32, 2, 0, 0, 0), (33, 50, 6, 6, 0), (36, 1, 3, 0, 0), (37, 52, 0, 0, 0), (38, 30, 0, 0, 0), (39, 3, 1, 0, 0), (40, 1, 2, 0, 0), (41, 25, 69, 0, 0), (44, 2, 0, 0, 0), (45, 50, 6, 6, 0), (48, 2, 0, 0, 0), (49, 50, 6, 2, 0), (52, 50, 9, 2, 0), (55, 1, 3, 0, 0), (56, 52, 0, 0, 0), (57, 44, 0, 0, 0), (58, 52, 0, 0, 0), (59, 0, 0, 0, 1), (60, 2, 0, 0, 0), (61, 50, 6, 6, 0), (64, 1, 3, 0, 0), (65, 52, 0, 0, 0), (66, 30, 0, 0, 0), (67, 32, 0, 0, 0), (68, 53, 0, 0, 0), (69, 5, 2, 0, -1), (72, 6, 17, 0, 0), (75, 1, 1, 0, 0), (76, 70, 0, 0, 0)]
theorem fr_91_ok : fw_mk 91 4 6 (some .int) fr_91 = true := by decide +kernel
def ct_k_countTogether : List (Nat × fw_X) := [(90, x_k_startCount)]
theorem ct_k_countTogether_ok (d : Nat) : fw_cok fw_T (d + 1) ct_k_countTogether := by
  intro q hq as W Q h
  simp only [ct_k_countTogether, List.mem_cons, List.not_mem_nil, or_false] at hq
  rcases hq with rfl
  · exact jc_of (x_k_startCount_ok (d + 0) as W Q h)
theorem s_k_countTogether_0 {Post : Option fw_V → fw_W → Prop} {d : Nat} {W : fw_W}
    (hw_ : (0 ≤ (fw_g W 12 0) ∧ (fw_g W 12 0) ≤ 14) ∧ (∀ (f1 : fw_W), ((True)) → (0 ≤ (fw_g W 12 0) → (fw_g W 12 0) ≤ 14 → -2147483648 ≤ (fw_g W 12 0) - (1 : Int) ∧ (fw_g W 12 0) - (1 : Int) ≤ 2147483647 ∧ (jf fw_T (d + 2) 91 17 [(0, .inr (.inl 239)), (1, .inl (0 : Int)), (2, .inl ((fw_g W 12 0) - (1 : Int)))] [] (fw_put [242, 243] 0 [] W f1) Post)))) :
    jf fw_T (d + 2) 91 0 [(0, .inr (.inl 239))] [] W Post := fw_ok (n := 12) (ss := [(17, [0, 1, 2])]) (hv := [38, 66, 67]) fr_91_ok fv_setsp_ok (ct_k_countTogether_ok d) hw_

theorem s_k_countTogether_17 {Post : Option fw_V → fw_W → Prop} {d : Nat} {W : fw_W} {su i : Int} {f : fw_W}
    (hw_ : ((i < 0 → (-2147483648 ≤ su → su ≤ 2147483647 → Post (some (.inl su)) (fw_put [242, 243] 0 [] W f))) ∧ (0 ≤ i → 0 ≤ i ∧ i < 14 ∧ (0 ≤ (fw_g W 204 i) → (fw_g W 204 i) ≤ 13 → 0 ≤ (fw_g W 204 i) ∧ (fw_g W 204 i) < 14 ∧ (-2147483648 ≤ (fw_g f 242 (fw_g W 204 i)) → (fw_g f 242 (fw_g W 204 i)) ≤ 2147483647 → ∀ v1 : Int, -2147483648 ≤ v1 → v1 ≤ 2147483647 → ((i ≤ 0 → -2147483648 ≤ i + (-1 : Int) ∧ i + (-1 : Int) ≤ 2147483647 ∧ (jf fw_T (d + 2) 91 17 [(0, .inr (.inl 239)), (1, .inl v1), (2, .inl (i + (-1 : Int)))] [] (fw_put [242, 243] 0 [] W f) Post)) ∧ (0 < i → 0 ≤ (fw_g W 204 i) ∧ (fw_g W 204 i) < 14 ∧ (-1 ≤ (fw_g W 13 (fw_g W 204 i)) → (fw_g W 13 (fw_g W 204 i)) ≤ 13 → 0 ≤ (fw_g W 13 (fw_g W 204 i)) ∧ (fw_g W 13 (fw_g W 204 i)) < 14 ∧ (-2147483648 ≤ (fw_g f 242 (fw_g W 13 (fw_g W 204 i))) → (fw_g f 242 (fw_g W 13 (fw_g W 204 i))) ≤ 2147483647 → 0 ≤ (fw_g W 204 i) ∧ (fw_g W 204 i) < 14 ∧ (-2147483648 ≤ (fw_g f 242 (fw_g W 204 i)) → (fw_g f 242 (fw_g W 204 i)) ≤ 2147483647 → ∀ v2 : Int, -2147483648 ≤ v2 → v2 ≤ 2147483647 → ∀ v3 : Int, -2147483648 ≤ v3 → v3 ≤ 2147483647 → 0 ≤ (fw_g W 13 (fw_g W 204 i)) ∧ (fw_g W 13 (fw_g W 204 i)) < 14 ∧ -2147483648 ≤ v3 ∧ v3 ≤ 2147483647 ∧ (-2147483648 ≤ i + (-1 : Int) ∧ i + (-1 : Int) ≤ 2147483647 ∧ (jf fw_T (d + 2) 91 17 [(0, .inr (.inl 239)), (1, .inl v1), (2, .inl (i + (-1 : Int)))] [] (fw_up (fw_put [242, 243] 0 [] W f) 242 (fw_g W 13 (fw_g W 204 i)) v3) Post)))))))))))) :
    jf fw_T (d + 2) 91 17 [(0, .inr (.inl 239)), (1, .inl su), (2, .inl i)] [] (fw_put [242, 243] 0 [] W f) Post := fw_ok (n := 37) (ss := [(17, [0, 1, 2])]) (hv := [38, 66, 67]) fr_91_ok fv_setsp_ok (ct_k_countTogether_ok d) hw_

theorem lm_k_countTogether_17 {Post : Option fw_V → fw_W → Prop} {d : Nat} {W : fw_W} (hpre : tr ((fw_g W 12 0)) (fun z_ => (fw_g W 13 z_)) ∧ 0 ≤ (fw_g W 12 0) ∧ (fw_g W 12 0) ≤ 14 ∧ (∀ j_, 1 ≤ j_ → j_ < (fw_g W 12 0) → 1 ≤ (fw_g W 204 j_) ∧ (fw_g W 204 j_) < (fw_g W 12 0))) (hP : ∀ (v : Int) (W2 : fw_W), fw_sm [242, 243] 0 [] W W2 → (-2147483648 ≤ v ∧ v ≤ 2147483647 ∧ (True)) → Post (some (.inl v)) W2)  : ∀ (m : Nat) (su i : Int) (f : fw_W), (i + 1).toNat = m → i < (fw_g W 12 0) → jf fw_T (d + 2) 91 17 [(0, .inr (.inl 239)), (1, .inl su), (2, .inl i)] [] (fw_put [242, 243] 0 [] W f) Post := by
  intro m
  induction m using Nat.strongRecOn with
  | ind m ih =>
    intro su i f hm hi
    refine jf_rng (fun hrg => ?_)
    have hrg : -2147483648 ≤ su ∧ su ≤ 2147483647 ∧ -2147483648 ≤ i ∧ i ≤ 2147483647 ∧ True := hrg
    refine s_k_countTogether_17 ?_
    have ho : 1 ≤ i → i < (fw_g W 12 0) → 1 ≤ (fw_g W 204 i) ∧ (fw_g W 204 i) < (fw_g W 12 0) := fun z z2 => hpre.2.2.2 i z z2
    have hp : 1 ≤ i → i < (fw_g W 12 0) → 0 ≤ (fw_g W 13 (fw_g W 204 i)) ∧ (fw_g W 13 (fw_g W 204 i)) < (fw_g W 12 0) := fun z z2 => tr_p hpre.1 (ho z z2).1 (ho z z2).2
    repeat' (first
      | (exact True.intro)
      | (exact hpre.1)
      | (refine And.intro ?_ ?_)
      | (refine jf_put (S := [242, 243]) (o := 0) (F := []) (W := W) (by repeat (first | exact fw_sm_refl | exact fw_sm_put0 | refine fw_sm_arr ?_ rfl | refine fw_sm_up ?_ rfl | refine fw_sm_put ?_ rfl | refine fw_sm_cp ?_ rfl)) (ih _ (by omega) _ _ _ rfl ?_); (first | omega | trivial | (simp (config := { decide := true }) only [fg_in, fg_fin, fg_out, fg_fout, fg_up, fg_same, true_and, and_true] <;> omega)))
      | (refine hP _ _ (by repeat (first | exact fw_sm_refl | exact fw_sm_put0 | refine fw_sm_arr ?_ rfl | refine fw_sm_up ?_ rfl | refine fw_sm_put ?_ rfl | refine fw_sm_cp ?_ rfl)) ?_; (refine ⟨by omega, by omega, ?_⟩; (first | trivial | omega)))
      | omega
      | (intro _))
def x_k_countTogether : fw_X := fun as W Q => match as with
  | [.inr (.inl s_)] => fw_if (Nat.beq s_ 239) ((tr ((fw_g W 12 0)) (fun z_ => (fw_g W 13 z_)) ∧ 0 ≤ (fw_g W 12 0) ∧ (fw_g W 12 0) ≤ 14 ∧ (∀ j_, 1 ≤ j_ → j_ < (fw_g W 12 0) → 1 ≤ (fw_g W 204 j_) ∧ (fw_g W 204 j_) < (fw_g W 12 0))) ∧ (∀ (v : Int) (f : fw_W), (-2147483648 ≤ v ∧ v ≤ 2147483647 ∧ (True)) → Q (some (.inl v)) (fw_put [242, 243] 0 [] W f)))
  | _ => False
theorem x_k_countTogether_ok (d : Nat) (as : List fw_V) (W : fw_W) (Q : Option fw_V → fw_W → Prop) (hx : x_k_countTogether as W Q) : jf fw_T (d + 2) 91 0 (fw_args 0 as) [] W Q := by
  unfold x_k_countTogether at hx
  split at hx
  · rename_i s_
    obtain ⟨e_, hpre, hQ⟩ := fw_if_ok hx
    have e_ := Nat.eq_of_beq_eq_true e_
    subst e_
    have hP : ∀ (v : Int) (W2 : fw_W), fw_sm [242, 243] 0 [] W W2 → _ → Q (some (.inl v)) W2 := fun v W2 hs hr => fw_sm_use (Q := fun Z => Q (some (.inl v)) Z) hs (hQ v W2 hr)
    refine s_k_countTogether_0 ?_
    repeat' (first
      | (exact True.intro)
      | (exact hpre.1)
      | (refine And.intro ?_ ?_)
      | (refine jf_put (S := [242, 243]) (o := 0) (F := []) (W := W) (by repeat (first | exact fw_sm_refl | exact fw_sm_put0 | refine fw_sm_arr ?_ rfl | refine fw_sm_up ?_ rfl | refine fw_sm_put ?_ rfl | refine fw_sm_cp ?_ rfl)) (lm_k_countTogether_17 hpre hP _ _ _ _ rfl ?_); (first | omega | trivial | (simp (config := { decide := true }) only [fg_in, fg_fin, fg_out, fg_fout, fg_up, fg_same, true_and, and_true] <;> omega)))
      | (refine hP _ _ (by repeat (first | exact fw_sm_refl | exact fw_sm_put0 | refine fw_sm_arr ?_ rfl | refine fw_sm_up ?_ rfl | refine fw_sm_put ?_ rfl | refine fw_sm_cp ?_ rfl)) ?_; (refine ⟨by omega, by omega, ?_⟩; (first | trivial | omega)))
      | omega
      | (intro _))
  · exact hx.elim

def fr_92 : fw_P := [(0, 2, 0, 0, 0), (1, 50, 6, 2, 0), (4, 50, 9, 0, 0), (7, 21, 12, 0, 0), (10, 0, 0, 0, 1), (11, 70, 0, 0, 0), (12, 2, 0, 0, 0), (13, 0, 0, 0, 0), (14, 64, 90, 1, 306), (17, 2, 0, 0, 0), (18, 50, 6, 2, 0), (21, 50, 9, 0, 0), (24, 0, 0, 0, 1), (25, 31, 0, 0, 0), (26, 3, 1, 0, 0), (27, 1, 1, 0, 0), (28, 25, 112, 0, 0), (31, 2, 0, 0, 0), (32, 50, 6, 3, 0), (35, 50, 10, 0, 0), (38, 1, 1, 0, 0), (39, 52, 0, 0, 0), (40, 3, 2, 0, 0), (41, 2, 0, 0, 0), (42, 50, 6, 2, 0), (45, 50, 9, 2, 0), (48, 1, 2, 0, 0), (49, 52, 0, 0, 0), (50, 3, 3, 0, 0), (51, 2, 0, 0, 0), (52, 50, 6, 6, 0), (55, 1, 2, 0, 0), (56, 52, 0, 0, 0), (57, 2, 0, 0, 0), (58, 50, 6, 7, 0), (61, 1, 2, 0, 0), (62, 52, 0, 0, 0), (63, 30, 0, 0, 0), (64, 3, 4, 0, 0), (66, 2, 0, 0, 0), (67, 50, 6, 6, 0), (70, 1, 3, 0, 0), (71, 2, 0, 0, 0), (72, 50, 6, 6, 0), (75, 1, 3, 0, 0), (76, 52, 0, 0, 0), (77, 1, 4, 0, 0), (79, 32, 0, 0, 0), (80, 2, 0, 0, 0), (81, 50, 6, 7, 0), (84, 1, 3, 0, 0), (85, 52, 0, 0, 0), (86, 2, 0, 0, 0), (87, 50, 6, 7, 0), (90, 1, 2, 0, 0), (91, 52, 0, 0, 0), (92, 32, 0, 0, 0), (93, 30, 0, 0, 0), (94, 53, 0, 0, 0), (95, 2, 0, 0, 0), (96, 50, 6, 7, 0), (99, 1, 3, 0, 0), (100, 44, 0, 0, 0), (101, 52, 0, 0, 0), (102, 1, 4, 0, 0), (104, 32, 0, 0, 0), (105, 53, 0, 0, 0), (106, 5, 1, 0, -1), (109, 6, 27, 0, 0), (112, 2, 0, 0, 0), (113, 50, 6, 6, 0), (116, 0, 0, 0, 0), (117, 52, 0, 0, 0), (118, 2, 0, 0, 0), (119, 50, 6, 7, 0), (122, 0, 0, 0, 0), (123, 52, 0, 0, 0), (124, 30, 0, 0, 0), (125, 70, 0, 0, 0)]
theorem fr_92_ok : fw_mk 92 5 6 (some .int) fr_92 = true := by decide +kernel
def ct_k_countStreetSets : List (Nat × fw_X) := [(90, x_k_startCount)]
theorem ct_k_countStreetSets_ok (d : Nat) : fw_cok fw_T (d + 1) ct_k_countStreetSets := by
  intro q hq as W Q h
  simp only [ct_k_countStreetSets, List.mem_cons, List.not_mem_nil, or_false] at hq
  rcases hq with rfl
  · exact jc_of (x_k_startCount_ok (d + 0) as W Q h)
theorem s_k_countStreetSets_0 {Post : Option fw_V → fw_W → Prop} {d : Nat} {W : fw_W}
    (hw_ : (0 ≤ (fw_g W 12 0) → (fw_g W 12 0) ≤ 14 → ((¬ (fw_g W 12 0) = 0 → (0 ≤ (fw_g W 12 0) ∧ (fw_g W 12 0) ≤ 14) ∧ (∀ (f1 : fw_W), ((True)) → (0 ≤ (fw_g W 12 0) → (fw_g W 12 0) ≤ 14 → -2147483648 ≤ (fw_g W 12 0) - (1 : Int) ∧ (fw_g W 12 0) - (1 : Int) ≤ 2147483647 ∧ (jf fw_T (d + 2) 92 27 [(0, .inr (.inl 239)), (1, .inl ((fw_g W 12 0) - (1 : Int)))] [] (fw_put [242, 243] 0 [] W f1) Post)))) ∧ ((fw_g W 12 0) = 0 → (-2147483648 ≤ (1 : Int) → (1 : Int) ≤ 2147483647 → Post (some (.inl (1 : Int))) W))))) :
    jf fw_T (d + 2) 92 0 [(0, .inr (.inl 239))] [] W Post := fw_ok (n := 14) (ss := [(27, [0, 1])]) (hv := [63, 79, 92, 93, 104, 124]) fr_92_ok fv_setsp_ok (ct_k_countStreetSets_ok d) hw_

theorem s_k_countStreetSets_27 {Post : Option fw_V → fw_W → Prop} {d : Nat} {W : fw_W} {i : Int} {f : fw_W}
    (hw_ : ((i ≤ 0 → 0 ≤ (0 : Int) ∧ (0 : Int) < 14 ∧ (-2147483648 ≤ (fw_g f 242 (0 : Int)) → (fw_g f 242 (0 : Int)) ≤ 2147483647 → 0 ≤ (0 : Int) ∧ (0 : Int) < 14 ∧ (-2147483648 ≤ (fw_g f 243 (0 : Int)) → (fw_g f 243 (0 : Int)) ≤ 2147483647 → ∀ v1 : Int, -2147483648 ≤ v1 → v1 ≤ 2147483647 → (-2147483648 ≤ v1 → v1 ≤ 2147483647 → Post (some (.inl v1)) (fw_put [242, 243] 0 [] W f))))) ∧ (0 < i → 0 ≤ i ∧ i < 14 ∧ (0 ≤ (fw_g W 204 i) → (fw_g W 204 i) ≤ 13 → 0 ≤ (fw_g W 204 i) ∧ (fw_g W 204 i) < 14 ∧ (-1 ≤ (fw_g W 13 (fw_g W 204 i)) → (fw_g W 13 (fw_g W 204 i)) ≤ 13 → 0 ≤ (fw_g W 204 i) ∧ (fw_g W 204 i) < 14 ∧ (-2147483648 ≤ (fw_g f 242 (fw_g W 204 i)) → (fw_g f 242 (fw_g W 204 i)) ≤ 2147483647 → 0 ≤ (fw_g W 204 i) ∧ (fw_g W 204 i) < 14 ∧ (-2147483648 ≤ (fw_g f 243 (fw_g W 204 i)) → (fw_g f 243 (fw_g W 204 i)) ≤ 2147483647 → ∀ v2 : Int, -2147483648 ≤ v2 → v2 ≤ 2147483647 → 0 ≤ (fw_g W 13 (fw_g W 204 i)) ∧ (fw_g W 13 (fw_g W 204 i)) < 14 ∧ (-2147483648 ≤ (fw_g f 242 (fw_g W 13 (fw_g W 204 i))) → (fw_g f 242 (fw_g W 13 (fw_g W 204 i))) ≤ 2147483647 → ∀ v3 : Int, -2147483648 ≤ v3 → v3 ≤ 2147483647 → 0 ≤ (fw_g W 13 (fw_g W 204 i)) ∧ (fw_g W 13 (fw_g W 204 i)) < 14 ∧ (-2147483648 ≤ (fw_g f 243 (fw_g W 13 (fw_g W 204 i))) → (fw_g f 243 (fw_g W 13 (fw_g W 204 i))) ≤ 2147483647 → 0 ≤ (fw_g W 204 i) ∧ (fw_g W 204 i) < 14 ∧ (-2147483648 ≤ (fw_g f 243 (fw_g W 204 i)) → (fw_g f 243 (fw_g W 204 i)) ≤ 2147483647 → ∀ v4 : Int, -2147483648 ≤ v4 → v4 ≤ 2147483647 → ∀ v5 : Int, -2147483648 ≤ v5 → v5 ≤ 2147483647 → 0 ≤ (fw_g W 13 (fw_g W 204 i)) ∧ (fw_g W 13 (fw_g W 204 i)) < 14 ∧ -2147483648 ≤ v5 ∧ v5 ≤ 2147483647 ∧ (0 ≤ (fw_g W 13 (fw_g W 204 i)) ∧ (fw_g W 13 (fw_g W 204 i)) < 14 ∧ (-2147483648 ≤ (fw_g f 243 (fw_g W 13 (fw_g W 204 i))) → (fw_g f 243 (fw_g W 13 (fw_g W 204 i))) ≤ 2147483647 → ∀ v6 : Int, -2147483648 ≤ v6 → v6 ≤ 2147483647 → 0 ≤ (fw_g W 13 (fw_g W 204 i)) ∧ (fw_g W 13 (fw_g W 204 i)) < 14 ∧ -2147483648 ≤ v6 ∧ v6 ≤ 2147483647 ∧ (-2147483648 ≤ i + (-1 : Int) ∧ i + (-1 : Int) ≤ 2147483647 ∧ (jf fw_T (d + 2) 92 27 [(0, .inr (.inl 239)), (1, .inl (i + (-1 : Int)))] [] (fw_up (fw_up (fw_put [242, 243] 0 [] W f) 242 (fw_g W 13 (fw_g W 204 i)) v5) 243 (fw_g W 13 (fw_g W 204 i)) v6) Post)))))))))))))) :
    jf fw_T (d + 2) 92 27 [(0, .inr (.inl 239)), (1, .inl i)] [] (fw_put [242, 243] 0 [] W f) Post := fw_ok (n := 55) (ss := [(27, [0, 1])]) (hv := [63, 79, 92, 93, 104, 124]) fr_92_ok fv_setsp_ok (ct_k_countStreetSets_ok d) hw_

theorem lm_k_countStreetSets_27 {Post : Option fw_V → fw_W → Prop} {d : Nat} {W : fw_W} (hpre : tr ((fw_g W 12 0)) (fun z_ => (fw_g W 13 z_)) ∧ 0 ≤ (fw_g W 12 0) ∧ (fw_g W 12 0) ≤ 14 ∧ (∀ j_, 1 ≤ j_ → j_ < (fw_g W 12 0) → 1 ≤ (fw_g W 204 j_) ∧ (fw_g W 204 j_) < (fw_g W 12 0))) (hP : ∀ (v : Int) (W2 : fw_W), fw_sm [242, 243] 0 [] W W2 → (-2147483648 ≤ v ∧ v ≤ 2147483647 ∧ (True)) → Post (some (.inl v)) W2)  : ∀ (m : Nat) (i : Int) (f : fw_W), (i).toNat = m → i < (fw_g W 12 0) → jf fw_T (d + 2) 92 27 [(0, .inr (.inl 239)), (1, .inl i)] [] (fw_put [242, 243] 0 [] W f) Post := by
  intro m
  induction m using Nat.strongRecOn with
  | ind m ih =>
    intro i f hm hi
    refine jf_rng (fun hrg => ?_)
    have hrg : -2147483648 ≤ i ∧ i ≤ 2147483647 ∧ True := hrg
    refine s_k_countStreetSets_27 ?_
    have ho : 1 ≤ i → i < (fw_g W 12 0) → 1 ≤ (fw_g W 204 i) ∧ (fw_g W 204 i) < (fw_g W 12 0) := fun z z2 => hpre.2.2.2 i z z2
    have hp : 1 ≤ i → i < (fw_g W 12 0) → 0 ≤ (fw_g W 13 (fw_g W 204 i)) ∧ (fw_g W 13 (fw_g W 204 i)) < (fw_g W 12 0) := fun z z2 => tr_p hpre.1 (ho z z2).1 (ho z z2).2
    repeat' (first
      | (exact True.intro)
      | (exact hpre.1)
      | (refine And.intro ?_ ?_)
      | (refine jf_put (S := [242, 243]) (o := 0) (F := []) (W := W) (by repeat (first | exact fw_sm_refl | exact fw_sm_put0 | refine fw_sm_arr ?_ rfl | refine fw_sm_up ?_ rfl | refine fw_sm_put ?_ rfl | refine fw_sm_cp ?_ rfl)) (ih _ (by omega) _ _ rfl ?_); (first | omega | trivial | (simp (config := { decide := true }) only [fg_in, fg_fin, fg_out, fg_fout, fg_up, fg_same, true_and, and_true] <;> omega)))
      | (refine hP _ _ (by repeat (first | exact fw_sm_refl | exact fw_sm_put0 | refine fw_sm_arr ?_ rfl | refine fw_sm_up ?_ rfl | refine fw_sm_put ?_ rfl | refine fw_sm_cp ?_ rfl)) ?_; (refine ⟨by omega, by omega, ?_⟩; (first | trivial | omega)))
      | omega
      | (intro _))
def x_k_countStreetSets : fw_X := fun as W Q => match as with
  | [.inr (.inl s_)] => fw_if (Nat.beq s_ 239) ((tr ((fw_g W 12 0)) (fun z_ => (fw_g W 13 z_)) ∧ 0 ≤ (fw_g W 12 0) ∧ (fw_g W 12 0) ≤ 14 ∧ (∀ j_, 1 ≤ j_ → j_ < (fw_g W 12 0) → 1 ≤ (fw_g W 204 j_) ∧ (fw_g W 204 j_) < (fw_g W 12 0))) ∧ (∀ (v : Int) (f : fw_W), (-2147483648 ≤ v ∧ v ≤ 2147483647 ∧ (True)) → Q (some (.inl v)) (fw_put [242, 243] 0 [] W f)))
  | _ => False
theorem x_k_countStreetSets_ok (d : Nat) (as : List fw_V) (W : fw_W) (Q : Option fw_V → fw_W → Prop) (hx : x_k_countStreetSets as W Q) : jf fw_T (d + 2) 92 0 (fw_args 0 as) [] W Q := by
  unfold x_k_countStreetSets at hx
  split at hx
  · rename_i s_
    obtain ⟨e_, hpre, hQ⟩ := fw_if_ok hx
    have e_ := Nat.eq_of_beq_eq_true e_
    subst e_
    have hP : ∀ (v : Int) (W2 : fw_W), fw_sm [242, 243] 0 [] W W2 → _ → Q (some (.inl v)) W2 := fun v W2 hs hr => fw_sm_use (Q := fun Z => Q (some (.inl v)) Z) hs (hQ v W2 hr)
    refine s_k_countStreetSets_0 ?_
    repeat' (first
      | (exact True.intro)
      | (exact hpre.1)
      | (refine And.intro ?_ ?_)
      | (refine jf_put (S := [242, 243]) (o := 0) (F := []) (W := W) (by repeat (first | exact fw_sm_refl | exact fw_sm_put0 | refine fw_sm_arr ?_ rfl | refine fw_sm_up ?_ rfl | refine fw_sm_put ?_ rfl | refine fw_sm_cp ?_ rfl)) (lm_k_countStreetSets_27 hpre hP _ _ _ rfl ?_); (first | omega | trivial | (simp (config := { decide := true }) only [fg_in, fg_fin, fg_out, fg_fout, fg_up, fg_same, true_and, and_true] <;> omega)))
      | (refine hP _ _ (by repeat (first | exact fw_sm_refl | exact fw_sm_put0 | refine fw_sm_arr ?_ rfl | refine fw_sm_up ?_ rfl | refine fw_sm_put ?_ rfl | refine fw_sm_cp ?_ rfl)) ?_; (refine ⟨by omega, by omega, ?_⟩; (first | trivial | omega)))
      | omega
      | (intro _))
  · exact hx.elim

def fr_168 : fw_P := [(0, 1, 1, 0, 0), (1, 95, 885454974674567954488, 5, 0), (32, 2, 0, 0, 0), (33, 50, 11, 7, 0), (36, 64, 89, 0, 406), (39, 70, 0, 0, 0), (40, 2, 0, 0, 0), (41, 50, 11, 7, 0), (44, 64, 91, 0, 406), (47, 70, 0, 0, 0), (48, 2, 0, 0, 0), (49, 50, 11, 7, 0), (52, 64, 92, 0, 506), (55, 70, 0, 0, 0), (56, 0, 0, 0, -1), (57, 70, 0, 0, 0)]
theorem fr_168_ok : fw_mk 168 2 11 (some .int) fr_168 = true := by decide +kernel
def ct_k_counted : List (Nat × fw_X) := [(89, x_k_countApart), (92, x_k_countStreetSets), (91, x_k_countTogether)]
theorem ct_k_counted_ok (d : Nat) : fw_cok fw_T (d + 2) ct_k_counted := by
  intro q hq as W Q h
  simp only [ct_k_counted, List.mem_cons, List.not_mem_nil, or_false] at hq
  rcases hq with rfl | rfl | rfl
  · exact jc_of (x_k_countApart_ok (d + 0) as W Q h)
  · exact jc_of (x_k_countStreetSets_ok (d + 0) as W Q h)
  · exact jc_of (x_k_countTogether_ok (d + 0) as W Q h)
theorem s_k_counted_0 {Post : Option fw_V → fw_W → Prop} {d : Nat} {W : fw_W} {what : Int}
    (hw_ : (((-2147483648 ≤ (-1 : Int) → (-1 : Int) ≤ 2147483647 → Post (some (.inl (-1 : Int))) W)) ∧ (((tr ((fw_g W 12 0)) (fun z_ => (fw_g W 13 z_)) ∧ 0 ≤ (fw_g W 12 0) ∧ (fw_g W 12 0) ≤ 14 ∧ (∀ j_, 1 ≤ j_ → j_ < (fw_g W 12 0) → 1 ≤ (fw_g W 204 j_) ∧ (fw_g W 204 j_) < (fw_g W 12 0))) ∧ (∀ (r7 : Int) (f8 : fw_W), ((-2147483648 ≤ r7 ∧ r7 ≤ 2147483647 ∧ (True))) → (-2147483648 ≤ r7 → r7 ≤ 2147483647 → Post (some (.inl r7)) (fw_put [242, 243] 0 [] W f8)))) ∧ (((tr ((fw_g W 12 0)) (fun z_ => (fw_g W 13 z_)) ∧ 0 ≤ (fw_g W 12 0) ∧ (fw_g W 12 0) ≤ 14 ∧ (∀ j_, 1 ≤ j_ → j_ < (fw_g W 12 0) → 1 ≤ (fw_g W 204 j_) ∧ (fw_g W 204 j_) < (fw_g W 12 0))) ∧ (∀ (r5 : Int) (f6 : fw_W), ((-2147483648 ≤ r5 ∧ r5 ≤ 2147483647 ∧ (True))) → (-2147483648 ≤ r5 → r5 ≤ 2147483647 → Post (some (.inl r5)) (fw_put [242, 243] 0 [] W f6)))) ∧ (((tr ((fw_g W 12 0)) (fun z_ => (fw_g W 13 z_)) ∧ 0 ≤ (fw_g W 12 0) ∧ (fw_g W 12 0) ≤ 14 ∧ (∀ j_, 1 ≤ j_ → j_ < (fw_g W 12 0) → 1 ≤ (fw_g W 204 j_) ∧ (fw_g W 204 j_) < (fw_g W 12 0))) ∧ (∀ (r3 : Int) (f4 : fw_W), ((-2147483648 ≤ r3 ∧ r3 ≤ 2147483647 ∧ (True))) → (-2147483648 ≤ r3 → r3 ≤ 2147483647 → Post (some (.inl r3)) (fw_put [242, 243] 0 [] W f4)))) ∧ (((tr ((fw_g W 12 0)) (fun z_ => (fw_g W 13 z_)) ∧ 0 ≤ (fw_g W 12 0) ∧ (fw_g W 12 0) ≤ 14 ∧ (∀ j_, 1 ≤ j_ → j_ < (fw_g W 12 0) → 1 ≤ (fw_g W 204 j_) ∧ (fw_g W 204 j_) < (fw_g W 12 0))) ∧ (∀ (r1 : Int) (f2 : fw_W), ((-2147483648 ≤ r1 ∧ r1 ≤ 2147483647 ∧ (True))) → (-2147483648 ≤ r1 → r1 ≤ 2147483647 → Post (some (.inl r1)) (fw_put [242, 243] 0 [] W f2)))) ∧ True)))))) :
    jf fw_T (d + 3) 168 0 [(0, .inr (.inl 0)), (1, .inl what)] [] W Post := fw_ok (n := 7) (ss := []) (hv := []) fr_168_ok fv_owt_ok (ct_k_counted_ok d) hw_

def x_k_counted : fw_X := fun as W Q => match as with
  | [.inr (.inl s_), .inl what] => fw_if (Nat.beq s_ 0) ((tr ((fw_g W 12 0)) (fun z_ => (fw_g W 13 z_)) ∧ 0 ≤ (fw_g W 12 0) ∧ (fw_g W 12 0) ≤ 14 ∧ (∀ j_, 1 ≤ j_ → j_ < (fw_g W 12 0) → 1 ≤ (fw_g W 204 j_) ∧ (fw_g W 204 j_) < (fw_g W 12 0))) ∧ (∀ (v : Int) (f : fw_W), (-2147483648 ≤ v ∧ v ≤ 2147483647 ∧ (True)) → Q (some (.inl v)) (fw_put [242, 243] 0 [] W f)))
  | _ => False
theorem x_k_counted_ok (d : Nat) (as : List fw_V) (W : fw_W) (Q : Option fw_V → fw_W → Prop) (hx : x_k_counted as W Q) : jf fw_T (d + 3) 168 0 (fw_args 0 as) [] W Q := by
  unfold x_k_counted at hx
  split at hx
  · rename_i s_ what
    obtain ⟨e_, hpre, hQ⟩ := fw_if_ok hx
    have e_ := Nat.eq_of_beq_eq_true e_
    subst e_
    have hP : ∀ (v : Int) (W2 : fw_W), fw_sm [242, 243] 0 [] W W2 → _ → Q (some (.inl v)) W2 := fun v W2 hs hr => fw_sm_use (Q := fun Z => Q (some (.inl v)) Z) hs (hQ v W2 hr)
    refine s_k_counted_0 ?_
    repeat' (first
      | (exact hpre.1)
      | (exact hpre.2.2.2)
      | (exact True.intro)
      | (exact hpre.1)
      | (refine And.intro ?_ ?_)
      | (refine hP _ _ (by repeat (first | exact fw_sm_refl | exact fw_sm_put0 | refine fw_sm_arr ?_ rfl | refine fw_sm_up ?_ rfl | refine fw_sm_put ?_ rfl | refine fw_sm_cp ?_ rfl)) ?_; (refine ⟨by omega, by omega, ?_⟩; (first | trivial | omega)))
      | omega
      | (intro _))
  · exact hx.elim

