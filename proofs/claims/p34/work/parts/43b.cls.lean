/-! likeness: its numbers -/
def jl_P (Q : Option fw_V → fw_W → Prop) : Option fw_V → fw_W → Prop := fun a W => match a with
  | some (.inr (.inr c)) => Nat.ble 1000 c = true ∧ Q (some (.inr (.inr 1000))) W
  | _ => Q a W
theorem jf_lw {T : List ai_C} {d y pc : Nat} {lv : fw_L} {st : List fw_V} {W : fw_W} {Q : Option fw_V → fw_W → Prop} (h : jf T d y pc lv st W (jl_P Q)) : jf T d y pc lv st W Q := fun lc sc hh h1 h2 h3 => jg_mono (h lc sc hh h1 h2 h3) (fun v h' hx => by
  obtain ⟨a, W', g1, g2, g3⟩ := hx
  unfold jl_P at g3
  split at g3
  · rename_i c
    cases v with
    | none => exact g1.elim
    | some v => exact ⟨some (.inr (.inr 1000)), W', fw_v_wk g3.1 g1, g2, g3.2⟩
  · exact ⟨a, W', g1, g2, g3⟩)
def fr_35 : fw_P := [(0, 0, 0, 0, 0), (1, 3, 1, 0, 0), (2, 0, 0, 0, 0), (3, 3, 2, 0, 0), (4, 1, 2, 0, 0), (5, 2, 0, 0, 0), (6, 50, 3, 1, 0), (9, 50, 9, 0, 0), (12, 13, 36, 0, 0), (15, 2, 0, 0, 0), (16, 0, 0, 0, 0), (17, 0, 0, 0, -1), (18, 1, 2, 0, 0), (19, 0, 0, 0, -1), (20, 0, 0, 0, 0), (21, 64, 36, 5, 1103), (24, 20, 30, 0, 0), (27, 5, 1, 0, 1), (30, 5, 2, 0, 1), (33, 6, 4, 0, 0), (36, 1, 1, 0, 0), (37, 70, 0, 0, 0)]
theorem fr_35_ok : fw_mk 35 3 3 (some .int) fr_35 = true := by decide +kernel
def ct_k_roots : List (Nat × fw_X) := [(36, x_k_isBL0)]
theorem ct_k_roots_ok (d : Nat) : fw_cok fw_T (d + 17) ct_k_roots := by
  intro q hq as W Q h
  simp only [ct_k_roots, List.mem_cons, List.not_mem_nil, or_false] at hq
  rcases hq with rfl
  · exact jc_of (x_k_isBL0_ok (d + 0) as W Q h)
theorem s_k_roots_0 {Post : Option fw_V → fw_W → Prop} {d : Nat} {W : fw_W}
    (hw_ : jf fw_T (d + 18) 35 4 [(0, .inr (.inl 266)), (1, .inl (0 : Int)), (2, .inl (0 : Int))] [] W Post) :
    jf fw_T (d + 18) 35 0 [(0, .inr (.inl 266))] [] W Post := fw_ok (n := 5) (ss := [(4, [0, 1, 2])]) (hv := [27]) fr_35_ok fv_like_ok (ct_k_roots_ok d) hw_

theorem s_k_roots_4 {Post : Option fw_V → fw_W → Prop} {d : Nat} {W : fw_W} {li ro : Int}
    (hw_ : (∀ v1 : Int, 0 ≤ v1 → v1 ≤ 14 → ((v1 ≤ ro → (-2147483648 ≤ li → li ≤ 2147483647 → Post (some (.inl li)) W)) ∧ (ro < v1 → (0 ≤ (0 : Int) ∧ (0 : Int) < 14 ∧ 0 ≤ ro ∧ ro < 14 ∧ (0 : Int) = 0) ∧ (∀ (r2 : Int), ((0 ≤ r2 ∧ r2 ≤ 1 ∧ (True))) → ((r2 = 0 → -2147483648 ≤ ro + (1 : Int) ∧ ro + (1 : Int) ≤ 2147483647 ∧ (jf fw_T (d + 18) 35 4 [(0, .inr (.inl 266)), (1, .inl li), (2, .inl (ro + (1 : Int)))] [] W Post)) ∧ (¬ r2 = 0 → ∀ v3 : Int, -2147483648 ≤ v3 → v3 ≤ 2147483647 → -2147483648 ≤ ro + (1 : Int) ∧ ro + (1 : Int) ≤ 2147483647 ∧ (jf fw_T (d + 18) 35 4 [(0, .inr (.inl 266)), (1, .inl v3), (2, .inl (ro + (1 : Int)))] [] W Post)))))))) :
    jf fw_T (d + 18) 35 4 [(0, .inr (.inl 266)), (1, .inl li), (2, .inl ro)] [] W Post := fw_ok (n := 17) (ss := [(4, [0, 1, 2])]) (hv := [27]) fr_35_ok fv_like_ok (ct_k_roots_ok d) hw_

theorem lm_k_roots_4 {Post : Option fw_V → fw_W → Prop} {d : Nat} {W : fw_W} (hpre : True) (hP : ∀ (v : Int) , (-2147483648 ≤ v ∧ v ≤ 2147483647 ∧ (True)) → Post (some (.inl v)) W)  : ∀ (m : Nat) (li ro : Int), (14 - ro).toNat = m → 0 ≤ ro ∧ ro ≤ 14 → jf fw_T (d + 18) 35 4 [(0, .inr (.inl 266)), (1, .inl li), (2, .inl ro)] [] W Post := by
  intro m
  induction m using Nat.strongRecOn with
  | ind m ih =>
    intro li ro hm hi
    refine jf_rng (fun hrg => ?_)
    have hrg : -2147483648 ≤ li ∧ li ≤ 2147483647 ∧ -2147483648 ≤ ro ∧ ro ≤ 2147483647 ∧ True := hrg
    refine s_k_roots_4 ?_
    repeat' (first
      | (exact True.intro)
      | (exact hpre.1)
      | (refine And.intro ?_ ?_)
      | (refine (ih _ (by omega) _ _ rfl ?_); (first | omega | trivial))
      | (refine hP _ ?_; (refine ⟨by omega, by omega, ?_⟩; (first | trivial | omega)))
      | omega
      | (intro _))
def x_k_roots : fw_X := fun as W Q => match as with
  | [.inr (.inl s_)] => fw_if (Nat.beq s_ 266) ((True) ∧ (∀ (v : Int), (-2147483648 ≤ v ∧ v ≤ 2147483647 ∧ (True)) → Q (some (.inl v)) W))
  | _ => False
theorem x_k_roots_ok (d : Nat) (as : List fw_V) (W : fw_W) (Q : Option fw_V → fw_W → Prop) (hx : x_k_roots as W Q) : jf fw_T (d + 18) 35 0 (fw_args 0 as) [] W Q := by
  unfold x_k_roots at hx
  split at hx
  · rename_i s_
    obtain ⟨e_, hpre, hQ⟩ := fw_if_ok hx
    have e_ := Nat.eq_of_beq_eq_true e_
    subst e_
    have hP := hQ
    refine s_k_roots_0 ?_
    repeat' (first
      | (exact True.intro)
      | (exact hpre.1)
      | (refine And.intro ?_ ?_)
      | (refine (lm_k_roots_4 hpre hP _ _ _ rfl ?_); (first | omega | trivial))
      | (refine hP _ ?_; (refine ⟨by omega, by omega, ?_⟩; (first | trivial | omega)))
      | omega
      | (intro _))
  · exact hx.elim

def fr_39 : fw_P := [(0, 2, 0, 0, 0), (1, 50, 3, 0, 0), (4, 50, 9, 2, 0), (7, 1, 1, 0, 0), (8, 52, 0, 0, 0), (9, 3, 2, 0, 0), (10, 0, 0, 0, 0), (11, 3, 3, 0, 0), (12, 0, 0, 0, 1), (13, 3, 4, 0, 0), (15, 1, 4, 0, 0), (17, 1, 1, 0, 0), (18, 13, 83, 0, 0), (21, 2, 0, 0, 0), (22, 50, 3, 0, 0), (25, 50, 9, 2, 0), (28, 1, 4, 0, 0), (30, 52, 0, 0, 0), (31, 1, 2, 0, 0), (32, 11, 77, 0, 0), (35, 2, 0, 0, 0), (36, 2, 0, 0, 0), (37, 50, 3, 0, 0), (40, 50, 9, 3, 0), (43, 1, 4, 0, 0), (45, 52, 0, 0, 0), (46, 2, 0, 0, 0), (47, 50, 3, 0, 0), (50, 50, 9, 3, 0), (53, 1, 1, 0, 0), (54, 52, 0, 0, 0), (55, 64, 37, 2, 303), (58, 20, 77, 0, 0), (61, 2, 0, 0, 0), (62, 1, 4, 0, 0), (64, 1, 2, 0, 0), (65, 1, 1, 0, 0), (66, 1, 2, 0, 0), (67, 0, 0, 0, 1), (68, 64, 36, 5, 1103), (71, 20, 77, 0, 0), (74, 5, 3, 0, 1), (77, 5, 4, 0, 1), (80, 6, 15, 0, 0), (83, 1, 3, 0, 0), (84, 70, 0, 0, 0)]
theorem fr_39_ok : fw_mk 39 5 3 (some .int) fr_39 = true := by decide +kernel
def ct_k_ahead : List (Nat × fw_X) := [(37, x_k_isStreetLike), (36, x_k_isBL1)]
theorem ct_k_ahead_ok (d : Nat) : fw_cok fw_T (d + 16) ct_k_ahead := by
  intro q hq as W Q h
  simp only [ct_k_ahead, List.mem_cons, List.not_mem_nil, or_false] at hq
  rcases hq with rfl | rfl
  · exact jc_of (x_k_isStreetLike_ok (d + 15) as W Q h)
  · exact jc_of (x_k_isBL1_ok (d + 0) as W Q h)
theorem s_k_ahead_0 {Post : Option fw_V → fw_W → Prop} {d : Nat} {W : fw_W} {h : Int}
    (hw_ : 0 ≤ h ∧ h < 14 ∧ (-1 ≤ (fw_g W 13 h) → (fw_g W 13 h) ≤ 13 → jf fw_T (d + 17) 39 15 [(0, .inr (.inl 266)), (1, .inl h), (2, .inl (fw_g W 13 h)), (3, .inl (0 : Int)), (4, .inl (1 : Int))] [] W Post)) :
    jf fw_T (d + 17) 39 0 [(0, .inr (.inl 266)), (1, .inl h)] [] W Post := fw_ok (n := 11) (ss := [(15, [0, 1, 2, 3, 4])]) (hv := [74]) fr_39_ok fv_like_ok (ct_k_ahead_ok d) hw_

theorem s_k_ahead_15 {Post : Option fw_V → fw_W → Prop} {d : Nat} {W : fw_W} {h at_ li ah : Int}
    (hw_ : ((h ≤ ah → (-2147483648 ≤ li → li ≤ 2147483647 → Post (some (.inl li)) W)) ∧ (ah < h → 0 ≤ ah ∧ ah < 14 ∧ (-1 ≤ (fw_g W 13 ah) → (fw_g W 13 ah) ≤ 13 → ((¬ (fw_g W 13 ah) = at_ → -2147483648 ≤ ah + (1 : Int) ∧ ah + (1 : Int) ≤ 2147483647 ∧ (jf fw_T (d + 17) 39 15 [(0, .inr (.inl 266)), (1, .inl h), (2, .inl at_), (3, .inl li), (4, .inl (ah + (1 : Int)))] [] W Post)) ∧ ((fw_g W 13 ah) = at_ → 0 ≤ ah ∧ ah < 14 ∧ (0 ≤ (fw_g W 14 ah) → (fw_g W 14 ah) ≤ 99 → 0 ≤ h ∧ h < 14 ∧ (0 ≤ (fw_g W 14 h) → (fw_g W 14 h) ≤ 99 → (True) ∧ (∀ (r1 : Int), ((0 ≤ r1 ∧ r1 ≤ 1 ∧ (True))) → ((r1 = 0 → -2147483648 ≤ ah + (1 : Int) ∧ ah + (1 : Int) ≤ 2147483647 ∧ (jf fw_T (d + 17) 39 15 [(0, .inr (.inl 266)), (1, .inl h), (2, .inl at_), (3, .inl li), (4, .inl (ah + (1 : Int)))] [] W Post)) ∧ (¬ r1 = 0 → (0 ≤ ah ∧ ah < 14 ∧ 0 ≤ h ∧ h < 14 ∧ (1 : Int) = 1) ∧ (∀ (r2 : Int), ((0 ≤ r2 ∧ r2 ≤ 1 ∧ (True))) → ((r2 = 0 → -2147483648 ≤ ah + (1 : Int) ∧ ah + (1 : Int) ≤ 2147483647 ∧ (jf fw_T (d + 17) 39 15 [(0, .inr (.inl 266)), (1, .inl h), (2, .inl at_), (3, .inl li), (4, .inl (ah + (1 : Int)))] [] W Post)) ∧ (¬ r2 = 0 → ∀ v3 : Int, -2147483648 ≤ v3 → v3 ≤ 2147483647 → -2147483648 ≤ ah + (1 : Int) ∧ ah + (1 : Int) ≤ 2147483647 ∧ (jf fw_T (d + 17) 39 15 [(0, .inr (.inl 266)), (1, .inl h), (2, .inl at_), (3, .inl v3), (4, .inl (ah + (1 : Int)))] [] W Post))))))))))))))) :
    jf fw_T (d + 17) 39 15 [(0, .inr (.inl 266)), (1, .inl h), (2, .inl at_), (3, .inl li), (4, .inl ah)] [] W Post := fw_ok (n := 35) (ss := [(15, [0, 1, 2, 3, 4])]) (hv := [74]) fr_39_ok fv_like_ok (ct_k_ahead_ok d) hw_

theorem lm_k_ahead_15 {Post : Option fw_V → fw_W → Prop} {d : Nat} {W : fw_W} {h : Int} (hpre : 0 ≤ h ∧ h < 14) (hP : ∀ (v : Int) , (-2147483648 ≤ v ∧ v ≤ 2147483647 ∧ (True)) → Post (some (.inl v)) W)  : ∀ (m : Nat) (at_ li ah : Int), (h - ah).toNat = m → 1 ≤ ah → jf fw_T (d + 17) 39 15 [(0, .inr (.inl 266)), (1, .inl h), (2, .inl at_), (3, .inl li), (4, .inl ah)] [] W Post := by
  intro m
  induction m using Nat.strongRecOn with
  | ind m ih =>
    intro at_ li ah hm hi
    refine jf_rng (fun hrg => ?_)
    have hrg : -2147483648 ≤ h ∧ h ≤ 2147483647 ∧ -2147483648 ≤ at_ ∧ at_ ≤ 2147483647 ∧ -2147483648 ≤ li ∧ li ≤ 2147483647 ∧ -2147483648 ≤ ah ∧ ah ≤ 2147483647 ∧ True := hrg
    refine s_k_ahead_15 ?_
    repeat' (first
      | (exact True.intro)
      | (exact hpre.1)
      | (refine And.intro ?_ ?_)
      | (refine (ih _ (by omega) _ _ _ rfl ?_); (first | omega | trivial))
      | (refine hP _ ?_; (refine ⟨by omega, by omega, ?_⟩; (first | trivial | omega)))
      | omega
      | (intro _))
def x_k_ahead : fw_X := fun as W Q => match as with
  | [.inr (.inl s_), .inl h] => fw_if (Nat.beq s_ 266) ((0 ≤ h ∧ h < 14) ∧ (∀ (v : Int), (-2147483648 ≤ v ∧ v ≤ 2147483647 ∧ (True)) → Q (some (.inl v)) W))
  | _ => False
theorem x_k_ahead_ok (d : Nat) (as : List fw_V) (W : fw_W) (Q : Option fw_V → fw_W → Prop) (hx : x_k_ahead as W Q) : jf fw_T (d + 17) 39 0 (fw_args 0 as) [] W Q := by
  unfold x_k_ahead at hx
  split at hx
  · rename_i s_ h
    obtain ⟨e_, hpre, hQ⟩ := fw_if_ok hx
    have e_ := Nat.eq_of_beq_eq_true e_
    subst e_
    have hP := hQ
    refine s_k_ahead_0 ?_
    repeat' (first
      | (exact True.intro)
      | (exact hpre.1)
      | (refine And.intro ?_ ?_)
      | (refine (lm_k_ahead_15 (h := h) hpre hP _ _ _ _ rfl ?_); (first | omega | trivial))
      | (refine hP _ ?_; (refine ⟨by omega, by omega, ?_⟩; (first | trivial | omega)))
      | omega
      | (intro _))
  · exact hx.elim

def fr_34 : fw_P := [(0, 2, 0, 0, 0), (1, 2, 1, 0, 0), (2, 67, 3, 0, 0), (5, 2, 0, 0, 0), (6, 2, 2, 0, 0), (7, 67, 3, 1, 0), (10, 2, 0, 0, 0), (11, 1, 3, 0, 0), (12, 58, 3, 2, 0), (15, 2, 0, 0, 0), (16, 50, 3, 0, 0), (19, 50, 9, 0, 0), (22, 2, 0, 0, 0), (23, 50, 3, 1, 0), (26, 50, 9, 0, 0), (29, 11, 53, 0, 0), (32, 2, 0, 0, 0), (33, 50, 3, 0, 0), (36, 50, 9, 0, 0), (39, 20, 49, 0, 0), (42, 2, 0, 0, 0), (43, 64, 35, 0, 303), (46, 25, 53, 0, 0), (49, 0, 0, 0, 1), (50, 6, 54, 0, 0), (53, 0, 0, 0, 0), (54, 71, 0, 0, 0)]
theorem fr_34_ok : fw_mk 34 4 3 (some .boolean) fr_34 = true := by decide +kernel
def ct_k_isLike340 : List (Nat × fw_X) := [(35, x_k_roots)]
theorem ct_k_isLike340_ok (d : Nat) : fw_cok fw_T (d + 18) ct_k_isLike340 := by
  intro q hq as W Q h
  simp only [ct_k_isLike340, List.mem_cons, List.not_mem_nil, or_false] at hq
  rcases hq with rfl
  · exact jc_of (x_k_roots_ok (d + 0) as W Q h)
theorem s_k_isLike340_0 {Post : Option fw_V → fw_W → Prop} {d : Nat} {W : fw_W} {ln : Int}
    (hw_ : 0 ≤ ln ∧ ln ≤ 1 ∧ 0 ≤ ln ∧ ln ≤ 1 ∧ ((0 ≤ (fw_g W 12 0) → (fw_g W 12 0) ≤ 14 → (∀ v1 : Int, 0 ≤ v1 → v1 ≤ 14 → ((¬ (fw_g W 12 0) = v1 → 0 ≤ (0 : Int) ∧ (0 : Int) ≤ 1 ∧ Post (some (.inl (0 : Int))) (fw_up W 266 2 ln)) ∧ ((fw_g W 12 0) = v1 → (0 ≤ (fw_g W 12 0) → (fw_g W 12 0) ≤ 14 → (((fw_g W 12 0) = 0 → 0 ≤ (1 : Int) ∧ (1 : Int) ≤ 1 ∧ Post (some (.inl (1 : Int))) (fw_up W 266 2 ln)) ∧ (¬ (fw_g W 12 0) = 0 → (True) ∧ (∀ (r2 : Int), ((-2147483648 ≤ r2 ∧ r2 ≤ 2147483647 ∧ (True))) → ((r2 ≤ 0 → 0 ≤ (0 : Int) ∧ (0 : Int) ≤ 1 ∧ Post (some (.inl (0 : Int))) (fw_up W 266 2 ln)) ∧ (0 < r2 → 0 ≤ (1 : Int) ∧ (1 : Int) ≤ 1 ∧ Post (some (.inl (1 : Int))) (fw_up W 266 2 ln))))))))))))) :
    jf fw_T (d + 19) 34 0 [(0, .inr (.inl 266)), (1, .inr (.inl 12)), (2, .inr (.inl 340)), (3, .inl ln)] [] W Post := fw_ok (n := 27) (ss := []) (hv := []) fr_34_ok fv_like_ok (ct_k_isLike340_ok d) hw_

def x_k_isLike340 : fw_X := fun as W Q => match as with
  | [.inr (.inl s_), .inr (.inl r0_), .inr (.inl r1_), .inl ln] => fw_if (Nat.beq s_ 266) (fw_if (Nat.beq r0_ 12) (fw_if (Nat.beq r1_ 340) ((0 ≤ ln ∧ ln ≤ 1) ∧ (∀ (v : Int) (f : fw_W), (0 ≤ v ∧ v ≤ 1 ∧ (True)) → Q (some (.inl v)) (fw_put [] 0 [266002] W f)))))
  | _ => False
theorem x_k_isLike340_ok (d : Nat) (as : List fw_V) (W : fw_W) (Q : Option fw_V → fw_W → Prop) (hx : x_k_isLike340 as W Q) : jf fw_T (d + 19) 34 0 (fw_args 0 as) [] W Q := by
  unfold x_k_isLike340 at hx
  split at hx
  · rename_i s_ r0_ r1_ ln
    obtain ⟨e0_, hx0⟩ := fw_if_ok hx
    have e0_ := Nat.eq_of_beq_eq_true e0_
    clear hx
    subst e0_
    obtain ⟨e1_, hx1⟩ := fw_if_ok hx0
    have e1_ := Nat.eq_of_beq_eq_true e1_
    clear hx0
    subst e1_
    obtain ⟨e2_, hx2⟩ := fw_if_ok hx1
    have e2_ := Nat.eq_of_beq_eq_true e2_
    clear hx1
    subst e2_
    obtain ⟨hpre, hQ⟩ := hx2
    have hP : ∀ (v : Int) (W2 : fw_W), fw_sm [] 0 [266002] W W2 → _ → Q (some (.inl v)) W2 := fun v W2 hs hr => fw_sm_use (Q := fun Z => Q (some (.inl v)) Z) hs (hQ v W2 hr)
    refine s_k_isLike340_0 ?_
    repeat' (first
      | (exact True.intro)
      | (exact hpre.1)
      | (refine And.intro ?_ ?_)
      | (refine hP _ _ (by repeat (first | exact fw_sm_refl | exact fw_sm_put0 | refine fw_sm_arr ?_ rfl | refine fw_sm_up ?_ rfl | refine fw_sm_put ?_ rfl | refine fw_sm_cp ?_ rfl)) ?_; (refine ⟨by omega, by omega, ?_⟩; (first | trivial | omega)))
      | omega
      | (intro _))
  · exact hx.elim

def ct_k_isLike344 : List (Nat × fw_X) := [(35, x_k_roots)]
theorem ct_k_isLike344_ok (d : Nat) : fw_cok fw_T (d + 18) ct_k_isLike344 := by
  intro q hq as W Q h
  simp only [ct_k_isLike344, List.mem_cons, List.not_mem_nil, or_false] at hq
  rcases hq with rfl
  · exact jc_of (x_k_roots_ok (d + 0) as W Q h)
theorem s_k_isLike344_0 {Post : Option fw_V → fw_W → Prop} {d : Nat} {W : fw_W} {ln : Int}
    (hw_ : 0 ≤ ln ∧ ln ≤ 1 ∧ 0 ≤ ln ∧ ln ≤ 1 ∧ ((0 ≤ (fw_g W 12 0) → (fw_g W 12 0) ≤ 14 → (∀ v1 : Int, 0 ≤ v1 → v1 ≤ 14 → ((¬ (fw_g W 12 0) = v1 → 0 ≤ (0 : Int) ∧ (0 : Int) ≤ 1 ∧ Post (some (.inl (0 : Int))) (fw_up W 266 2 ln)) ∧ ((fw_g W 12 0) = v1 → (0 ≤ (fw_g W 12 0) → (fw_g W 12 0) ≤ 14 → (((fw_g W 12 0) = 0 → 0 ≤ (1 : Int) ∧ (1 : Int) ≤ 1 ∧ Post (some (.inl (1 : Int))) (fw_up W 266 2 ln)) ∧ (¬ (fw_g W 12 0) = 0 → (True) ∧ (∀ (r2 : Int), ((-2147483648 ≤ r2 ∧ r2 ≤ 2147483647 ∧ (True))) → ((r2 ≤ 0 → 0 ≤ (0 : Int) ∧ (0 : Int) ≤ 1 ∧ Post (some (.inl (0 : Int))) (fw_up W 266 2 ln)) ∧ (0 < r2 → 0 ≤ (1 : Int) ∧ (1 : Int) ≤ 1 ∧ Post (some (.inl (1 : Int))) (fw_up W 266 2 ln))))))))))))) :
    jf fw_T (d + 19) 34 0 [(0, .inr (.inl 266)), (1, .inr (.inl 12)), (2, .inr (.inl 344)), (3, .inl ln)] [] W Post := fw_ok (n := 27) (ss := []) (hv := []) fr_34_ok fv_like_ok (ct_k_isLike344_ok d) hw_

def x_k_isLike344 : fw_X := fun as W Q => match as with
  | [.inr (.inl s_), .inr (.inl r0_), .inr (.inl r1_), .inl ln] => fw_if (Nat.beq s_ 266) (fw_if (Nat.beq r0_ 12) (fw_if (Nat.beq r1_ 344) ((0 ≤ ln ∧ ln ≤ 1) ∧ (∀ (v : Int) (f : fw_W), (0 ≤ v ∧ v ≤ 1 ∧ (True)) → Q (some (.inl v)) (fw_put [] 0 [266002] W f)))))
  | _ => False
theorem x_k_isLike344_ok (d : Nat) (as : List fw_V) (W : fw_W) (Q : Option fw_V → fw_W → Prop) (hx : x_k_isLike344 as W Q) : jf fw_T (d + 19) 34 0 (fw_args 0 as) [] W Q := by
  unfold x_k_isLike344 at hx
  split at hx
  · rename_i s_ r0_ r1_ ln
    obtain ⟨e0_, hx0⟩ := fw_if_ok hx
    have e0_ := Nat.eq_of_beq_eq_true e0_
    clear hx
    subst e0_
    obtain ⟨e1_, hx1⟩ := fw_if_ok hx0
    have e1_ := Nat.eq_of_beq_eq_true e1_
    clear hx0
    subst e1_
    obtain ⟨e2_, hx2⟩ := fw_if_ok hx1
    have e2_ := Nat.eq_of_beq_eq_true e2_
    clear hx1
    subst e2_
    obtain ⟨hpre, hQ⟩ := hx2
    have hP : ∀ (v : Int) (W2 : fw_W), fw_sm [] 0 [266002] W W2 → _ → Q (some (.inl v)) W2 := fun v W2 hs hr => fw_sm_use (Q := fun Z => Q (some (.inl v)) Z) hs (hQ v W2 hr)
    refine s_k_isLike344_0 ?_
    repeat' (first
      | (exact True.intro)
      | (exact hpre.1)
      | (refine And.intro ?_ ?_)
      | (refine hP _ _ (by repeat (first | exact fw_sm_refl | exact fw_sm_put0 | refine fw_sm_arr ?_ rfl | refine fw_sm_up ?_ rfl | refine fw_sm_put ?_ rfl | refine fw_sm_cp ?_ rfl)) ?_; (refine ⟨by omega, by omega, ?_⟩; (first | trivial | omega)))
      | omega
      | (intro _))
  · exact hx.elim

def ct_k_isLike348 : List (Nat × fw_X) := [(35, x_k_roots)]
theorem ct_k_isLike348_ok (d : Nat) : fw_cok fw_T (d + 18) ct_k_isLike348 := by
  intro q hq as W Q h
  simp only [ct_k_isLike348, List.mem_cons, List.not_mem_nil, or_false] at hq
  rcases hq with rfl
  · exact jc_of (x_k_roots_ok (d + 0) as W Q h)
theorem s_k_isLike348_0 {Post : Option fw_V → fw_W → Prop} {d : Nat} {W : fw_W} {ln : Int}
    (hw_ : 0 ≤ ln ∧ ln ≤ 1 ∧ 0 ≤ ln ∧ ln ≤ 1 ∧ ((0 ≤ (fw_g W 12 0) → (fw_g W 12 0) ≤ 14 → (∀ v1 : Int, 0 ≤ v1 → v1 ≤ 14 → ((¬ (fw_g W 12 0) = v1 → 0 ≤ (0 : Int) ∧ (0 : Int) ≤ 1 ∧ Post (some (.inl (0 : Int))) (fw_up W 266 2 ln)) ∧ ((fw_g W 12 0) = v1 → (0 ≤ (fw_g W 12 0) → (fw_g W 12 0) ≤ 14 → (((fw_g W 12 0) = 0 → 0 ≤ (1 : Int) ∧ (1 : Int) ≤ 1 ∧ Post (some (.inl (1 : Int))) (fw_up W 266 2 ln)) ∧ (¬ (fw_g W 12 0) = 0 → (True) ∧ (∀ (r2 : Int), ((-2147483648 ≤ r2 ∧ r2 ≤ 2147483647 ∧ (True))) → ((r2 ≤ 0 → 0 ≤ (0 : Int) ∧ (0 : Int) ≤ 1 ∧ Post (some (.inl (0 : Int))) (fw_up W 266 2 ln)) ∧ (0 < r2 → 0 ≤ (1 : Int) ∧ (1 : Int) ≤ 1 ∧ Post (some (.inl (1 : Int))) (fw_up W 266 2 ln))))))))))))) :
    jf fw_T (d + 19) 34 0 [(0, .inr (.inl 266)), (1, .inr (.inl 12)), (2, .inr (.inl 348)), (3, .inl ln)] [] W Post := fw_ok (n := 27) (ss := []) (hv := []) fr_34_ok fv_like_ok (ct_k_isLike348_ok d) hw_

def x_k_isLike348 : fw_X := fun as W Q => match as with
  | [.inr (.inl s_), .inr (.inl r0_), .inr (.inl r1_), .inl ln] => fw_if (Nat.beq s_ 266) (fw_if (Nat.beq r0_ 12) (fw_if (Nat.beq r1_ 348) ((0 ≤ ln ∧ ln ≤ 1) ∧ (∀ (v : Int) (f : fw_W), (0 ≤ v ∧ v ≤ 1 ∧ (True)) → Q (some (.inl v)) (fw_put [] 0 [266002] W f)))))
  | _ => False
theorem x_k_isLike348_ok (d : Nat) (as : List fw_V) (W : fw_W) (Q : Option fw_V → fw_W → Prop) (hx : x_k_isLike348 as W Q) : jf fw_T (d + 19) 34 0 (fw_args 0 as) [] W Q := by
  unfold x_k_isLike348 at hx
  split at hx
  · rename_i s_ r0_ r1_ ln
    obtain ⟨e0_, hx0⟩ := fw_if_ok hx
    have e0_ := Nat.eq_of_beq_eq_true e0_
    clear hx
    subst e0_
    obtain ⟨e1_, hx1⟩ := fw_if_ok hx0
    have e1_ := Nat.eq_of_beq_eq_true e1_
    clear hx0
    subst e1_
    obtain ⟨e2_, hx2⟩ := fw_if_ok hx1
    have e2_ := Nat.eq_of_beq_eq_true e2_
    clear hx1
    subst e2_
    obtain ⟨hpre, hQ⟩ := hx2
    have hP : ∀ (v : Int) (W2 : fw_W), fw_sm [] 0 [266002] W W2 → _ → Q (some (.inl v)) W2 := fun v W2 hs hr => fw_sm_use (Q := fun Z => Q (some (.inl v)) Z) hs (hQ v W2 hr)
    refine s_k_isLike348_0 ?_
    repeat' (first
      | (exact True.intro)
      | (exact hpre.1)
      | (refine And.intro ?_ ?_)
      | (refine hP _ _ (by repeat (first | exact fw_sm_refl | exact fw_sm_put0 | refine fw_sm_arr ?_ rfl | refine fw_sm_up ?_ rfl | refine fw_sm_put ?_ rfl | refine fw_sm_cp ?_ rfl)) ?_; (refine ⟨by omega, by omega, ?_⟩; (first | trivial | omega)))
      | omega
      | (intro _))
  · exact hx.elim

def x_k_isLike : fw_X := fun as W Q => match as with
  | [.inr (.inl s_), .inr (.inl a_), .inr (.inl b_), .inl ln] => fw_if (Nat.beq s_ 266 && (Nat.beq a_ 12 && (Nat.beq b_ 340 || (Nat.beq b_ 344 || Nat.beq b_ 348)))) ((0 ≤ ln ∧ ln ≤ 1) ∧ (∀ (v : Int) (f : fw_W), (0 ≤ v ∧ v ≤ 1 ∧ (True)) → Q (some (.inl v)) (fw_put [] 0 [266002] W f)))
  | _ => False
theorem x_k_isLike_ok (d : Nat) (as : List fw_V) (W : fw_W) (Q : Option fw_V → fw_W → Prop) (hx : x_k_isLike as W Q) : jf fw_T (d + 19) 34 0 (fw_args 0 as) [] W Q := by
  unfold x_k_isLike at hx
  split at hx
  · rename_i s_ a_ b_ ln
    obtain ⟨e0, hy⟩ := fw_if_ok hx
    clear hx
    rw [Bool.and_eq_true, Bool.and_eq_true, Bool.or_eq_true, Bool.or_eq_true] at e0
    have e1 := Nat.eq_of_beq_eq_true e0.1
    have e2 := Nat.eq_of_beq_eq_true e0.2.1
    subst e1
    subst e2
    rcases e0.2.2 with e | e | e
    · have e := Nat.eq_of_beq_eq_true e
      subst e
      exact x_k_isLike340_ok d _ W Q hy
    · have e := Nat.eq_of_beq_eq_true e
      subst e
      exact x_k_isLike344_ok d _ W Q hy
    · have e := Nat.eq_of_beq_eq_true e
      subst e
      exact x_k_isLike348_ok d _ W Q hy
  · exact hx.elim
def fr_38 : fw_P := [(0, 2, 0, 0, 0), (1, 2, 1, 0, 0), (2, 67, 3, 0, 0), (5, 2, 0, 0, 0), (6, 2, 1, 0, 0), (7, 67, 3, 1, 0), (10, 2, 0, 0, 0), (11, 1, 2, 0, 0), (12, 58, 3, 2, 0), (15, 2, 1, 0, 0), (16, 50, 9, 0, 0), (19, 21, 24, 0, 0), (22, 80, 1002, 0, 0), (23, 93, 0, 0, 0), (24, 2, 0, 0, 0), (25, 64, 35, 0, 303), (28, 91, 0, 0, 0), (29, 82, 3, 0, 0), (30, 0, 0, 0, 1), (31, 3, 5, 0, 0), (33, 1, 5, 0, 0), (35, 2, 1, 0, 0), (36, 50, 9, 0, 0), (39, 13, 60, 0, 0), (42, 81, 3, 0, 0), (43, 0, 0, 0, 1), (44, 2, 0, 0, 0), (45, 1, 5, 0, 0), (47, 64, 39, 1, 503), (50, 30, 0, 0, 0), (51, 91, 0, 0, 0), (52, 87, 0, 0, 0), (53, 82, 3, 0, 0), (54, 5, 5, 0, 1), (57, 6, 33, 0, 0), (60, 81, 3, 0, 0), (61, 93, 0, 0, 0)]
theorem fr_38_ok : fw_mk 38 6 3 (some .long) fr_38 = true := by decide +kernel
def ct_k_countSelves : List (Nat × fw_X) := [(35, x_k_roots), (39, x_k_ahead)]
theorem ct_k_countSelves_ok (d : Nat) : fw_cok fw_T (d + 18) ct_k_countSelves := by
  intro q hq as W Q h
  simp only [ct_k_countSelves, List.mem_cons, List.not_mem_nil, or_false] at hq
  rcases hq with rfl | rfl
  · exact jc_of (x_k_roots_ok (d + 0) as W Q h)
  · exact jc_of (x_k_ahead_ok (d + 1) as W Q h)
theorem s_k_countSelves_0 {Post : Option fw_V → fw_W → Prop} {d : Nat} {W : fw_W} {ln : Int}
    (hw_ : 0 ≤ ln ∧ ln ≤ 1 ∧ 0 ≤ ln ∧ ln ≤ 1 ∧ ((0 ≤ (fw_g W 12 0) → (fw_g W 12 0) ≤ 14 → ((¬ (fw_g W 12 0) = 0 → (True) ∧ (∀ (r1 : Int), ((-2147483648 ≤ r1 ∧ r1 ≤ 2147483647 ∧ (True))) → jf fw_T (d + 19) 38 33 [(0, .inr (.inl 266)), (1, .inr (.inl 12)), (3, .inr (.inr 1000)), (5, .inl (1 : Int))] [] (fw_up W 266 2 ln) Post)) ∧ ((fw_g W 12 0) = 0 → Post (some (.inr (.inr 1002))) (fw_up W 266 2 ln)))))) :
    jf fw_T (d + 19) 38 0 [(0, .inr (.inl 266)), (1, .inr (.inl 12)), (2, .inl ln)] [] W Post := fw_ok (n := 19) (ss := [(33, [0, 1, 3, 5])]) (hv := [50]) fr_38_ok fv_like_ok (ct_k_countSelves_ok d) hw_

theorem s_k_countSelves_33 {Post : Option fw_V → fw_W → Prop} {d : Nat} {W : fw_W} {h : Int} {f : fw_W}
    (hw_ : (0 ≤ (fw_g W 12 0) → (fw_g W 12 0) ≤ 14 → (((fw_g W 12 0) ≤ h → Post (some (.inr (.inr 1000))) (fw_put [] 0 [266002] W f)) ∧ (h < (fw_g W 12 0) → (0 ≤ h ∧ h < 14) ∧ (∀ (r1 : Int), ((-2147483648 ≤ r1 ∧ r1 ≤ 2147483647 ∧ (True))) → ∀ v2 : Int, -2147483648 ≤ v2 → v2 ≤ 2147483647 → -2147483648 ≤ h + (1 : Int) ∧ h + (1 : Int) ≤ 2147483647 ∧ (jf fw_T (d + 19) 38 33 [(0, .inr (.inl 266)), (1, .inr (.inl 12)), (3, .inr (.inr 1000)), (5, .inl (h + (1 : Int)))] [] (fw_put [] 0 [266002] W f) Post)))))) :
    jf fw_T (d + 19) 38 33 [(0, .inr (.inl 266)), (1, .inr (.inl 12)), (3, .inr (.inr 1000)), (5, .inl h)] [] (fw_put [] 0 [266002] W f) Post := fw_ok (n := 16) (ss := [(33, [0, 1, 3, 5])]) (hv := [50]) fr_38_ok fv_like_ok (ct_k_countSelves_ok d) hw_

theorem lm_k_countSelves_33 {Post : Option fw_V → fw_W → Prop} {d : Nat} {W : fw_W} {ln : Int} (hpre : 0 ≤ ln ∧ ln ≤ 1) (hP : ∀ (c_ : Nat) (W2 : fw_W), Nat.ble 1000 c_ = true → fw_sm [] 0 [266002] W W2 → (True) → Post (some (.inr (.inr c_))) W2)  : ∀ (m : Nat) (h : Int) (f : fw_W), ((fw_g W 12 0) - h).toNat = m → 1 ≤ h → jf fw_T (d + 19) 38 33 [(0, .inr (.inl 266)), (1, .inr (.inl 12)), (3, .inr (.inr 1000)), (5, .inl h)] [] (fw_put [] 0 [266002] W f) Post := by
  intro m
  induction m using Nat.strongRecOn with
  | ind m ih =>
    intro h f hm hi
    refine jf_rng (fun hrg => ?_)
    have hrg : -2147483648 ≤ h ∧ h ≤ 2147483647 ∧ True := hrg
    refine s_k_countSelves_33 ?_
    repeat' (first
      | (exact True.intro)
      | (exact hpre.1)
      | (refine And.intro ?_ ?_)
      | (refine (ih _ (by omega) _ _ rfl ?_); (first | omega | trivial | (simp (config := { decide := true }) only [fg_in, fg_fin, fg_out, fg_fout, fg_up, fg_same, true_and, and_true] <;> omega)))
      | (refine jf_put (S := []) (o := 0) (F := [266002]) (W := W) (by repeat (first | exact fw_sm_refl | exact fw_sm_put0 | refine fw_sm_arr ?_ rfl | refine fw_sm_up ?_ rfl | refine fw_sm_put ?_ rfl | refine fw_sm_cp ?_ rfl)) (ih _ (by omega) _ _ rfl ?_); (first | omega | trivial | (simp (config := { decide := true }) only [fg_in, fg_fin, fg_out, fg_fout, fg_up, fg_same, true_and, and_true] <;> omega)))
      | (refine hP _ _ rfl (by repeat (first | exact fw_sm_refl | exact fw_sm_put0 | refine fw_sm_arr ?_ rfl | refine fw_sm_up ?_ rfl | refine fw_sm_put ?_ rfl | refine fw_sm_cp ?_ rfl)) ?_; (first | trivial | omega))
      | omega
      | (intro _))
def x_k_countSelves : fw_X := fun as W Q => match as with
  | [.inr (.inl s_), .inr (.inl r0_), .inl ln] => fw_if (Nat.beq s_ 266) (fw_if (Nat.beq r0_ 12) ((0 ≤ ln ∧ ln ≤ 1) ∧ (∀ (f : fw_W), (True) → Q (some (.inr (.inr 1000))) (fw_put [] 0 [266002] W f))))
  | _ => False
theorem x_k_countSelves_ok (d : Nat) (as : List fw_V) (W : fw_W) (Q : Option fw_V → fw_W → Prop) (hx : x_k_countSelves as W Q) : jf fw_T (d + 19) 38 0 (fw_args 0 as) [] W Q := by
  unfold x_k_countSelves at hx
  split at hx
  · rename_i s_ r0_ ln
    obtain ⟨e0_, hx0⟩ := fw_if_ok hx
    have e0_ := Nat.eq_of_beq_eq_true e0_
    clear hx
    subst e0_
    obtain ⟨e1_, hx1⟩ := fw_if_ok hx0
    have e1_ := Nat.eq_of_beq_eq_true e1_
    clear hx0
    subst e1_
    obtain ⟨hpre, hQ⟩ := hx1
    refine jf_lw ?_
    have hP : ∀ (c_ : Nat) (W2 : fw_W), Nat.ble 1000 c_ = true → fw_sm [] 0 [266002] W W2 → _ → jl_P Q (some (.inr (.inr c_))) W2 := fun c_ W2 hb hs hr => ⟨hb, fw_sm_use (Q := fun Z => Q (some (.inr (.inr 1000))) Z) hs (hQ W2 hr)⟩
    generalize jl_P Q = Q2 at hP ⊢
    refine s_k_countSelves_0 ?_
    repeat' (first
      | (exact True.intro)
      | (exact hpre.1)
      | (refine And.intro ?_ ?_)
      | (refine jf_put (S := []) (o := 0) (F := [266002]) (W := W) (by repeat (first | exact fw_sm_refl | exact fw_sm_put0 | refine fw_sm_arr ?_ rfl | refine fw_sm_up ?_ rfl | refine fw_sm_put ?_ rfl | refine fw_sm_cp ?_ rfl)) (lm_k_countSelves_33 (ln := ln) hpre hP _ _ _ rfl ?_); (first | omega | trivial | (simp (config := { decide := true }) only [fg_in, fg_fin, fg_out, fg_fout, fg_up, fg_same, true_and, and_true] <;> omega)))
      | (refine hP _ _ rfl (by repeat (first | exact fw_sm_refl | exact fw_sm_put0 | refine fw_sm_arr ?_ rfl | refine fw_sm_up ?_ rfl | refine fw_sm_put ?_ rfl | refine fw_sm_cp ?_ rfl)) ?_; (first | trivial | omega))
      | omega
      | (intro _))
  · exact hx.elim

def fv_alikev : List (Nat × ai_C) := [(0, .inr (.inr (.inr (11, [.inr (.inl [1]), .inr (.inl [3]), .inr (.inl [12]), .inr (.inl [16]), .inr (.inl [37]), .inr (.inl [203]), .inr (.inl [223]), .inr (.inl [239]), .inr (.inl [266]), .inr (.inl [268]), .inr (.inl [324]), .inr (.inl [337]), .inr (.inl [338]), .inr (.inl [339]), .inl (0, 14, true)])))), (12, .inr (.inr (.inr (9, [.inl (0, 14, true), .inl (0, 999, true), .inr (.inl [13]), .inr (.inl [14]), .inr (.inl [15])])))), (266, .inr (.inr (.inr (3, [.inr (.inl [12]), .inr (.inl [12, 340, 344, 348]), .inl (0, 1, true), .inr (.inl [267])])))), (337, .inr (.inr (.inl (.object "OneWayTown$Town", [340, 344, 348])))), (338, .inl (.boolean, 3, 0, 1, true))]
def fg_alikev_G : fw_G := []
theorem fv_alikev_ok : fw_view fw_T fv_alikev fg_alikev_G := fw_vb_ok (by decide +kernel)
def fr_173 : fw_P := [(0, 2, 0, 0, 0), (1, 1, 1, 0, 0), (2, 64, 161, 1, 211), (5, 21, 10, 0, 0), (8, 0, 0, 0, -1), (9, 70, 0, 0, 0), (10, 2, 0, 0, 0), (11, 50, 11, 8, 0), (14, 2, 0, 0, 0), (15, 50, 11, 2, 0), (18, 2, 0, 0, 0), (19, 50, 11, 11, 0), (22, 1, 1, 0, 0), (23, 56, 0, 0, 0), (24, 1, 2, 0, 0), (25, 64, 34, 3, 403), (28, 20, 35, 0, 0), (31, 0, 0, 0, 1), (32, 6, 36, 0, 0), (35, 0, 0, 0, 0), (36, 70, 0, 0, 0)]
theorem fr_173_ok : fw_mk 173 3 11 (some .int) fr_173 = true := by decide +kernel
def ct_k_alike : List (Nat × fw_X) := [(161, x_k_isFilled), (34, x_k_isLike)]
theorem ct_k_alike_ok (d : Nat) : fw_cok fw_T (d + 19) ct_k_alike := by
  intro q hq as W Q h
  simp only [ct_k_alike, List.mem_cons, List.not_mem_nil, or_false] at hq
  rcases hq with rfl | rfl
  · exact jc_of (x_k_isFilled_ok (d + 18) as W Q h)
  · exact jc_of (x_k_isLike_ok (d + 0) as W Q h)
theorem s_k_alike_0 {Post : Option fw_V → fw_W → Prop} {d : Nat} {W : fw_W} {box ln : Int}
    (hw_ : (True) ∧ (∀ (r1 : Int), ((0 ≤ r1 ∧ r1 ≤ 1 ∧ (r1 = 1 → 0 ≤ box ∧ box ≤ 2))) → ((¬ r1 = 0 → 0 ≤ box ∧ box < 3 ∧ (((0 ≤ ln ∧ ln ≤ 1) ∧ (∀ (r6 : Int) (f7 : fw_W), ((0 ≤ r6 ∧ r6 ≤ 1 ∧ (True))) → ((r6 = 0 → (-2147483648 ≤ (0 : Int) → (0 : Int) ≤ 2147483647 → Post (some (.inl (0 : Int))) (fw_put [] 0 [266002] W f7))) ∧ (¬ r6 = 0 → (-2147483648 ≤ (1 : Int) → (1 : Int) ≤ 2147483647 → Post (some (.inl (1 : Int))) (fw_put [] 0 [266002] W f7)))))) ∧ (((0 ≤ ln ∧ ln ≤ 1) ∧ (∀ (r4 : Int) (f5 : fw_W), ((0 ≤ r4 ∧ r4 ≤ 1 ∧ (True))) → ((r4 = 0 → (-2147483648 ≤ (0 : Int) → (0 : Int) ≤ 2147483647 → Post (some (.inl (0 : Int))) (fw_put [] 0 [266002] W f5))) ∧ (¬ r4 = 0 → (-2147483648 ≤ (1 : Int) → (1 : Int) ≤ 2147483647 → Post (some (.inl (1 : Int))) (fw_put [] 0 [266002] W f5)))))) ∧ (((0 ≤ ln ∧ ln ≤ 1) ∧ (∀ (r2 : Int) (f3 : fw_W), ((0 ≤ r2 ∧ r2 ≤ 1 ∧ (True))) → ((r2 = 0 → (-2147483648 ≤ (0 : Int) → (0 : Int) ≤ 2147483647 → Post (some (.inl (0 : Int))) (fw_put [] 0 [266002] W f3))) ∧ (¬ r2 = 0 → (-2147483648 ≤ (1 : Int) → (1 : Int) ≤ 2147483647 → Post (some (.inl (1 : Int))) (fw_put [] 0 [266002] W f3)))))) ∧ True)))) ∧ (r1 = 0 → (-2147483648 ≤ (-1 : Int) → (-1 : Int) ≤ 2147483647 → Post (some (.inl (-1 : Int))) W))))) :
    jf fw_T (d + 20) 173 0 [(0, .inr (.inl 0)), (1, .inl box), (2, .inl ln)] [] W Post := fw_ok (n := 19) (ss := []) (hv := []) fr_173_ok fv_alikev_ok (ct_k_alike_ok d) hw_

def x_k_alike : fw_X := fun as W Q => match as with
  | [.inr (.inl s_), .inl box, .inl ln] => fw_if (Nat.beq s_ 0) ((0 ≤ ln ∧ ln ≤ 1) ∧ (∀ (v : Int) (f : fw_W), (-2147483648 ≤ v ∧ v ≤ 2147483647 ∧ (True)) → Q (some (.inl v)) (fw_put [] 0 [266002] W f)))
  | _ => False
theorem x_k_alike_ok (d : Nat) (as : List fw_V) (W : fw_W) (Q : Option fw_V → fw_W → Prop) (hx : x_k_alike as W Q) : jf fw_T (d + 20) 173 0 (fw_args 0 as) [] W Q := by
  unfold x_k_alike at hx
  split at hx
  · rename_i s_ box ln
    obtain ⟨e_, hpre, hQ⟩ := fw_if_ok hx
    have e_ := Nat.eq_of_beq_eq_true e_
    subst e_
    have hP : ∀ (v : Int) (W2 : fw_W), fw_sm [] 0 [266002] W W2 → _ → Q (some (.inl v)) W2 := fun v W2 hs hr => fw_sm_use (Q := fun Z => Q (some (.inl v)) Z) hs (hQ v W2 hr)
    refine s_k_alike_0 ?_
    repeat' (first
      | (exact True.intro)
      | (exact hpre.1)
      | (refine And.intro ?_ ?_)
      | (refine hP _ _ (by repeat (first | exact fw_sm_refl | exact fw_sm_put0 | refine fw_sm_arr ?_ rfl | refine fw_sm_up ?_ rfl | refine fw_sm_put ?_ rfl | refine fw_sm_cp ?_ rfl)) ?_; (refine ⟨by omega, by omega, ?_⟩; (first | trivial | omega)))
      | (rename_i h1 w1; have q := h1.2.2 (by omega); omega)
      | omega
      | (intro _))
  · exact hx.elim

def fr_174 : fw_P := [(0, 2, 0, 0, 0), (1, 50, 11, 8, 0), (4, 2, 0, 0, 0), (5, 50, 11, 2, 0), (8, 1, 1, 0, 0), (9, 64, 38, 2, 603), (12, 93, 0, 0, 0)]
theorem fr_174_ok : fw_mk 174 2 11 (some .long) fr_174 = true := by decide +kernel
def ct_k_selves : List (Nat × fw_X) := [(38, x_k_countSelves)]
theorem ct_k_selves_ok (d : Nat) : fw_cok fw_T (d + 19) ct_k_selves := by
  intro q hq as W Q h
  simp only [ct_k_selves, List.mem_cons, List.not_mem_nil, or_false] at hq
  rcases hq with rfl
  · exact jc_of (x_k_countSelves_ok (d + 0) as W Q h)
theorem s_k_selves_0 {Post : Option fw_V → fw_W → Prop} {d : Nat} {W : fw_W} {ln : Int}
    (hw_ : (0 ≤ ln ∧ ln ≤ 1) ∧ (∀ (f1 : fw_W), ((True)) → Post (some (.inr (.inr 1000))) (fw_put [] 0 [266002] W f1))) :
    jf fw_T (d + 20) 174 0 [(0, .inr (.inl 0)), (1, .inl ln)] [] W Post := fw_ok (n := 8) (ss := []) (hv := []) fr_174_ok fv_alikev_ok (ct_k_selves_ok d) hw_

def x_k_selves : fw_X := fun as W Q => match as with
  | [.inr (.inl s_), .inl ln] => fw_if (Nat.beq s_ 0) ((0 ≤ ln ∧ ln ≤ 1) ∧ (∀ (f : fw_W), (True) → Q (some (.inr (.inr 1000))) (fw_put [] 0 [266002] W f)))
  | _ => False
theorem x_k_selves_ok (d : Nat) (as : List fw_V) (W : fw_W) (Q : Option fw_V → fw_W → Prop) (hx : x_k_selves as W Q) : jf fw_T (d + 20) 174 0 (fw_args 0 as) [] W Q := by
  unfold x_k_selves at hx
  split at hx
  · rename_i s_ ln
    obtain ⟨e_, hpre, hQ⟩ := fw_if_ok hx
    have e_ := Nat.eq_of_beq_eq_true e_
    subst e_
    refine jf_lw ?_
    have hP : ∀ (c_ : Nat) (W2 : fw_W), Nat.ble 1000 c_ = true → fw_sm [] 0 [266002] W W2 → _ → jl_P Q (some (.inr (.inr c_))) W2 := fun c_ W2 hb hs hr => ⟨hb, fw_sm_use (Q := fun Z => Q (some (.inr (.inr 1000))) Z) hs (hQ W2 hr)⟩
    generalize jl_P Q = Q2 at hP ⊢
    refine s_k_selves_0 ?_
    repeat' (first
      | (exact True.intro)
      | (exact hpre.1)
      | (refine And.intro ?_ ?_)
      | (refine hP _ _ rfl (by repeat (first | exact fw_sm_refl | exact fw_sm_put0 | refine fw_sm_arr ?_ rfl | refine fw_sm_up ?_ rfl | refine fw_sm_put ?_ rfl | refine fw_sm_cp ?_ rfl)) ?_; (first | trivial | omega))
      | omega
      | (intro _))
  · exact hx.elim

