/-! a town out of its marks -/
theorem ci_put {S F : List Nat} {W f : fw_W} (hc : ci W) (e1 : sc_b 12 13 S F = true) (e2 : sc_b 37 202 S F = true) (e3 : sc_b 204 204 S F = true) (e4 : sc_b 324 1000 S F = true) : fs W (fw_put S 0 F W f) ∧ ci (fw_put S 0 F W f) :=
  ⟨fs_sc1 (sc_put e4), ta_sc (sc_put e1) (by omega) (by omega) hc.1, kz_sc (sc_put e2) hc.2.1, ba_sc (sc_sub (sc_put e4) (by omega) (by omega)) hc.2.2.1, oi_sc (sc_sub (sc_put e1) (by omega) (by omega)) (sc_put e3) hc.2.2.2⟩
theorem ta_pl {S F : List Nat} {W f : fw_W} {n : Int} (e : S.any (fun k => Nat.beq k 13) = true) (e2 : fw_inS S 0 F 12 0 = true) (n1 : 0 ≤ n) (n2 : n ≤ 14) (h : fw_g f 12 0 = n ∧ tr n (fun z => fw_g f 13 z)) : ta (fw_put S 0 F W f) 12 := ta_putf e e2 (by rw [h.1]; exact ⟨n1, n2, h.2⟩)
theorem ci_act2 {W W1 f : fw_W} (hc : ci W) (a : sc 324 1000 W W1) (b : ta W1 12) (h : kr W1 f ∧ kz f ∧ oi f) : fs W f ∧ ci f :=
  ⟨fs_tr (fs_sc1 (sc_sub a (by omega) (by omega))) (fs_sc1 (sc_sub h.1.2.2 (by omega) (by omega))), ta_sc h.1.1 (by omega) (by omega) b, h.2.1, ba_sc (sc_tr (sc_sub a (by omega) (by omega)) (sc_sub h.1.2.2 (by omega) (by omega))) hc.2.2.1, h.2.2⟩

def fv_needs : List (Nat × ai_C) := [(16, .inr (.inr (.inr (2, [.inl (0, 4, true), .inr (.inl [12]), .inr (.inl [17]), .inr (.inl [18]), .inr (.inl [19]), .inr (.inl [34]), .inr (.inl [35]), .inr (.inl [36]), .inl (0, 20000, true), .inl (0, 65535, true), .inl (-2147483648, 2147483647, true)])))), (17, .inl (.int, 4, 0, 13, true)), (18, .inl (.int, 4, 0, 13, true))]
def fg_needs_G : fw_G := []
theorem fv_needs_ok : fw_view fw_T fv_needs fg_needs_G := fw_vb_ok (by decide +kernel)
def fr_23 : fw_P := [(0, 0, 0, 0, 0), (1, 3, 2, 0, 0), (2, 1, 2, 0, 0), (3, 2, 0, 0, 0), (4, 50, 2, 0, 0), (7, 13, 38, 0, 0), (10, 2, 0, 0, 0), (11, 50, 2, 2, 0), (14, 1, 2, 0, 0), (15, 52, 0, 0, 0), (16, 1, 1, 0, 0), (17, 13, 30, 0, 0), (20, 2, 0, 0, 0), (21, 50, 2, 3, 0), (24, 1, 2, 0, 0), (25, 52, 0, 0, 0), (26, 1, 1, 0, 0), (27, 12, 32, 0, 0), (30, 0, 0, 0, 1), (31, 71, 0, 0, 0), (32, 5, 2, 0, 1), (35, 6, 2, 0, 0), (38, 0, 0, 0, 0), (39, 71, 0, 0, 0)]
theorem fr_23_ok : fw_mk 23 3 2 (some .boolean) fr_23 = true := by decide +kernel
theorem s_k_needsHouse_0 {Post : Option fw_V → fw_W → Prop} {d : Nat} {W : fw_W} {le : Int}
    (hw_ : jf fw_T (d + 1) 23 2 [(0, .inr (.inl 16)), (1, .inl le), (2, .inl (0 : Int))] [] W Post) :
    jf fw_T (d + 1) 23 0 [(0, .inr (.inl 16)), (1, .inl le)] [] W Post := fw_ok (n := 3) (ss := [(2, [0, 1, 2])]) (hv := []) fr_23_ok fv_needs_ok (fw_c0 _ _) hw_

theorem s_k_needsHouse_2 {Post : Option fw_V → fw_W → Prop} {d : Nat} {W : fw_W} {le ca : Int}
    (hw_ : (0 ≤ (fw_g W 16 0) → (fw_g W 16 0) ≤ 4 → (((fw_g W 16 0) ≤ ca → 0 ≤ (0 : Int) ∧ (0 : Int) ≤ 1 ∧ Post (some (.inl (0 : Int))) W) ∧ (ca < (fw_g W 16 0) → 0 ≤ ca ∧ ca < 4 ∧ (0 ≤ (fw_g W 17 ca) → (fw_g W 17 ca) ≤ 13 → ((le ≤ (fw_g W 17 ca) → 0 ≤ (1 : Int) ∧ (1 : Int) ≤ 1 ∧ Post (some (.inl (1 : Int))) W) ∧ ((fw_g W 17 ca) < le → 0 ≤ ca ∧ ca < 4 ∧ (0 ≤ (fw_g W 18 ca) → (fw_g W 18 ca) ≤ 13 → (((fw_g W 18 ca) < le → -2147483648 ≤ ca + (1 : Int) ∧ ca + (1 : Int) ≤ 2147483647 ∧ (jf fw_T (d + 1) 23 2 [(0, .inr (.inl 16)), (1, .inl le), (2, .inl (ca + (1 : Int)))] [] W Post)) ∧ (le ≤ (fw_g W 18 ca) → 0 ≤ (1 : Int) ∧ (1 : Int) ≤ 1 ∧ Post (some (.inl (1 : Int))) W)))))))))) :
    jf fw_T (d + 1) 23 2 [(0, .inr (.inl 16)), (1, .inl le), (2, .inl ca)] [] W Post := fw_ok (n := 19) (ss := [(2, [0, 1, 2])]) (hv := []) fr_23_ok fv_needs_ok (fw_c0 _ _) hw_

theorem lm_k_needsHouse_2 {Post : Option fw_V → fw_W → Prop} {d : Nat} {W : fw_W} {le : Int} (hpre : True) (hP : ∀ (v : Int) , (0 ≤ v ∧ v ≤ 1 ∧ (True)) → Post (some (.inl v)) W)  : ∀ (m : Nat) (ca : Int), ((fw_g W 16 0) - ca).toNat = m → 0 ≤ ca → jf fw_T (d + 1) 23 2 [(0, .inr (.inl 16)), (1, .inl le), (2, .inl ca)] [] W Post := by
  intro m
  induction m using Nat.strongRecOn with
  | ind m ih =>
    intro ca hm hi
    refine jf_rng (fun hrg => ?_)
    have hrg : -2147483648 ≤ le ∧ le ≤ 2147483647 ∧ -2147483648 ≤ ca ∧ ca ≤ 2147483647 ∧ True := hrg
    refine s_k_needsHouse_2 ?_
    repeat' (first
      | (exact True.intro)
      | (exact hpre.1)
      | (refine And.intro ?_ ?_)
      | (refine (ih _ (by omega) _ rfl ?_); (first | omega | trivial))
      | (refine hP _ ?_; (refine ⟨by omega, by omega, ?_⟩; (first | trivial | omega)))
      | omega
      | (intro _))
def x_k_needsHouse : fw_X := fun as W Q => match as with
  | [.inr (.inl s_), .inl le] => fw_if (Nat.beq s_ 16) ((True) ∧ (∀ (v : Int), (0 ≤ v ∧ v ≤ 1 ∧ (True)) → Q (some (.inl v)) W))
  | _ => False
theorem x_k_needsHouse_ok (d : Nat) (as : List fw_V) (W : fw_W) (Q : Option fw_V → fw_W → Prop) (hx : x_k_needsHouse as W Q) : jf fw_T (d + 1) 23 0 (fw_args 0 as) [] W Q := by
  unfold x_k_needsHouse at hx
  split at hx
  · rename_i s_ le
    obtain ⟨e_, hpre, hQ⟩ := fw_if_ok hx
    have e_ := Nat.eq_of_beq_eq_true e_
    subst e_
    have hP := hQ
    refine s_k_needsHouse_0 ?_
    repeat' (first
      | (exact True.intro)
      | (exact hpre.1)
      | (refine And.intro ?_ ?_)
      | (refine (lm_k_needsHouse_2 (le := le) hpre hP _ _ rfl ?_); (first | omega | trivial))
      | (refine hP _ ?_; (refine ⟨by omega, by omega, ?_⟩; (first | trivial | omega)))
      | omega
      | (intro _))
  · exact hx.elim

def fv_grownv : List (Nat × ai_C) := [(0, .inr (.inr (.inr (11, [.inr (.inl [1]), .inr (.inl [3]), .inr (.inl [12]), .inr (.inl [16]), .inr (.inl [37]), .inr (.inl [203]), .inr (.inl [223]), .inr (.inl [239]), .inr (.inl [266]), .inr (.inl [268]), .inr (.inl [324]), .inr (.inl [337]), .inr (.inl [338]), .inr (.inl [339]), .inl (0, 14, true)])))), (12, .inr (.inr (.inr (9, [.inl (0, 14, true), .inl (0, 999, true), .inr (.inl [13]), .inr (.inl [14]), .inr (.inl [15])])))), (16, .inr (.inr (.inr (2, [.inl (0, 4, true), .inr (.inl [12]), .inr (.inl [17]), .inr (.inl [18]), .inr (.inl [19]), .inr (.inl [34]), .inr (.inl [35]), .inr (.inl [36]), .inl (0, 20000, true), .inl (0, 65535, true), .inl (-2147483648, 2147483647, true)])))), (37, .inr (.inr (.inr (0, [.inl (0, 40, true), .inl (0, 40, true), .inr (.inl [38]), .inl (0, 40, true)])))), (203, .inr (.inr (.inr (10, [.inr (.inl [204]), .inr (.inl [205]), .inl (-2147483648, 2147483647, true), .inl (-2147483648, 2147483647, true), .inl (-2147483648, 2147483647, true), .inr (.inl [12]), .inr (.inl [220]), .inr (.inl [221]), .inr (.inl [222])])))), (268, .inr (.inr (.inr (4, [.inr (.inl [269]), .inr (.inl [270]), .inr (.inl [271]), .inr (.inl [272]), .inr (.inl [276]), .inr (.inl [296]), .inr (.inl [323])]))))]
def fg_grownv_G : fw_G := []
theorem fv_grownv_ok : fw_view fw_T fv_grownv fg_grownv_G := fw_vb_ok (by decide +kernel)
def fr_156 : fw_P := [(0, 1, 1, 0, 0), (1, 0, 0, 0, 2), (2, 12, 34, 0, 0), (5, 1, 1, 0, 0), (6, 0, 0, 0, 14), (8, 14, 34, 0, 0), (11, 2, 0, 0, 0), (12, 50, 11, 3, 0), (15, 1, 1, 0, 0), (16, 64, 23, 1, 302), (19, 21, 34, 0, 0), (22, 2, 0, 0, 0), (23, 50, 11, 9, 0), (26, 1, 1, 0, 0), (27, 81, 2, 0, 0), (28, 64, 44, 2, 504), (31, 21, 36, 0, 0), (34, 0, 0, 0, 0), (35, 71, 0, 0, 0), (36, 2, 0, 0, 0), (37, 50, 11, 9, 0), (40, 1, 1, 0, 0), (41, 2, 0, 0, 0), (42, 50, 11, 2, 0), (45, 64, 45, 2, 404), (48, 2, 0, 0, 0), (49, 64, 152, 0, 111), (52, 0, 0, 0, 1), (53, 71, 0, 0, 0)]
theorem fr_156_ok : fw_mk 156 4 11 (some .boolean) fr_156 = true := by decide +kernel
def ct_k_grown : List (Nat × fw_X) := [(23, x_k_needsHouse), (44, x_k_take), (45, x_k_plantP), (152, x_k_keepAct)]
theorem ct_k_grown_ok (d : Nat) : fw_cok fw_T (d + 4) ct_k_grown := by
  intro q hq as W Q h
  simp only [ct_k_grown, List.mem_cons, List.not_mem_nil, or_false] at hq
  rcases hq with rfl | rfl | rfl | rfl
  · exact jc_of (x_k_needsHouse_ok (d + 3) as W Q h)
  · exact jc_of (x_k_take_ok (d + 3) as W Q h)
  · exact jc_of (x_k_plantP_ok (d + 1) as W Q h)
  · exact jc_of (x_k_keepAct_ok (d + 0) as W Q h)
theorem s_k_grown_0 {Post : Option fw_V → fw_W → Prop} {d : Nat} {W : fw_W} {nn : Int}
    (hw_ : ((nn < (2 : Int) → 0 ≤ (0 : Int) ∧ (0 : Int) ≤ 1 ∧ Post (some (.inl (0 : Int))) W) ∧ ((2 : Int) ≤ nn → (((14 : Int) < nn → 0 ≤ (0 : Int) ∧ (0 : Int) ≤ 1 ∧ Post (some (.inl (0 : Int))) W) ∧ (nn ≤ (14 : Int) → (True) ∧ (∀ (r1 : Int), ((0 ≤ r1 ∧ r1 ≤ 1 ∧ (True))) → ((¬ r1 = 0 → 0 ≤ (0 : Int) ∧ (0 : Int) ≤ 1 ∧ Post (some (.inl (0 : Int))) W) ∧ (r1 = 0 → (2 ≤ nn ∧ nn ≤ 14) ∧ (∀ (r2 : Int) (f3 : fw_W), ((0 ≤ r2 ∧ r2 ≤ 1 ∧ (r2 = 1 → ∀ i_, 0 ≤ i_ → i_ < nn - 2 → 0 ≤ (fw_g f3 269 i_) ∧ (fw_g f3 269 i_) < nn))) → ((¬ r2 = 0 → (2 ≤ nn ∧ nn ≤ 14 ∧ ∀ i_, 0 ≤ i_ → i_ < nn - 2 → 0 ≤ (fw_g f3 269 i_) ∧ (fw_g f3 269 i_) < nn) ∧ (∀ (f4 : fw_W), (((fw_g f4 12 0) = nn ∧ tr nn (fun z_ => (fw_g f4 13 z_)))) → (ta (fw_put [270, 271, 13, 14, 15] 0 [12000] (fw_put [269] 0 [] W f3) f4) 12 ∧ kz (fw_put [270, 271, 13, 14, 15] 0 [12000] (fw_put [269] 0 [] W f3) f4)) ∧ (∀ (f5 : fw_W), ((kr (fw_put [270, 271, 13, 14, 15] 0 [12000] (fw_put [269] 0 [] W f3) f4) f5 ∧ kz f5 ∧ oi f5)) → 0 ≤ (1 : Int) ∧ (1 : Int) ≤ 1 ∧ Post (some (.inl (1 : Int))) f5))) ∧ (r2 = 0 → 0 ≤ (0 : Int) ∧ (0 : Int) ≤ 1 ∧ Post (some (.inl (0 : Int))) (fw_put [269] 0 [] W f3)))))))))))) :
    jf fw_T (d + 5) 156 0 [(0, .inr (.inl 0)), (1, .inl nn), (2, .inr (.inr 1000))] [] W Post := fw_ok (n := 28) (ss := []) (hv := []) fr_156_ok fv_grownv_ok (ct_k_grown_ok d) hw_

def x_k_grown : fw_X := fun as W Q => match as with
  | [.inr (.inl s_), .inl nn, .inr (.inr l1_)] => fw_if (Nat.beq s_ 0) (fw_if (Nat.beq l1_ 1000) ((ci W) ∧ (∀ (v : Int) (f : fw_W), (0 ≤ v ∧ v ≤ 1 ∧ (fs W f ∧ ci f)) → Q (some (.inl v)) f)))
  | _ => False
theorem x_k_grown_ok (d : Nat) (as : List fw_V) (W : fw_W) (Q : Option fw_V → fw_W → Prop) (hx : x_k_grown as W Q) : jf fw_T (d + 5) 156 0 (fw_args 0 as) [] W Q := by
  unfold x_k_grown at hx
  split at hx
  · rename_i s_ nn l1_
    obtain ⟨e0_, hx0⟩ := fw_if_ok hx
    have e0_ := Nat.eq_of_beq_eq_true e0_
    clear hx
    subst e0_
    obtain ⟨e1_, hx1⟩ := fw_if_ok hx0
    have e1_ := Nat.eq_of_beq_eq_true e1_
    clear hx0
    subst e1_
    obtain ⟨hpre, hQ⟩ := hx1
    have hP := hQ
    refine s_k_grown_0 ?_
    repeat' (first
      | (rename_i r1 h1 w1 r2 f2 h2 w2 f3 h3; exact ta_pl rfl rfl (by omega) (by omega) h3)
      | (exact kz_sc (sc_tr (sc_put rfl) (sc_put rfl)) hpre.2.1)
      | (rename_i r1 h1 w1 r2 f2 h2 w2; exact h2.2.2 (by omega))
      | (exact True.intro)
      | (exact hpre.1)
      | (refine And.intro ?_ ?_)
      | (refine hP _ _ ?_; (refine ⟨by omega, by omega, ?_⟩; (first | exact ⟨fs_refl, hpre⟩ | exact ci_put hpre rfl rfl rfl rfl | (rename_i r1 h1 w1 r2 f2 h2 w2 f3 h3 f4 h4; exact ci_act2 hpre (sc_tr (sc_put rfl) (sc_put rfl)) (ta_pl rfl rfl (by omega) (by omega) h3) h4))))
      | omega
      | (intro _))
  · exact hx.elim

