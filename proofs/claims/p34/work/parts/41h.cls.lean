/-! the class, method by method -/
def fr_115 : fw_P := [(0, 1, 1, 0, 0), (1, 3, 3, 0, 0), (2, 0, 0, 0, 0), (3, 3, 4, 0, 0), (5, 1, 4, 0, 0), (7, 0, 0, 0, 14), (9, 13, 40, 0, 0), (12, 2, 0, 0, 0), (13, 1, 3, 0, 0), (14, 64, 111, 1, 209), (17, 20, 40, 0, 0), (20, 1, 3, 0, 0), (21, 1, 2, 0, 0), (22, 11, 27, 0, 0), (25, 0, 0, 0, 1), (26, 71, 0, 0, 0), (27, 2, 0, 0, 0), (28, 50, 9, 2, 0), (31, 1, 3, 0, 0), (32, 52, 0, 0, 0), (33, 3, 3, 0, 0), (34, 5, 4, 0, 1), (37, 6, 5, 0, 0), (40, 0, 0, 0, 0), (41, 71, 0, 0, 0)]
theorem fr_115_ok : fw_mk 115 5 9 (some .boolean) fr_115 = true := by decide +kernel
def ct_k_isWithin : List (Nat × fw_X) := [(111, x_k_has)]
theorem ct_k_isWithin_ok (d : Nat) : fw_cok fw_T (d + 1) ct_k_isWithin := by
  intro q hq as W Q h
  simp only [ct_k_isWithin, List.mem_cons, List.not_mem_nil, or_false] at hq
  rcases hq with rfl
  · exact jc_of (x_k_has_ok (d + 0) as W Q h)
theorem s_k_isWithin_0 {Post : Option fw_V → fw_W → Prop} {d : Nat} {W : fw_W} {h q : Int}
    (hw_ : jf fw_T (d + 2) 115 5 [(0, .inr (.inl 12)), (2, .inl q), (3, .inl h), (4, .inl (0 : Int))] [] W Post) :
    jf fw_T (d + 2) 115 0 [(0, .inr (.inl 12)), (1, .inl h), (2, .inl q)] [] W Post := fw_ok (n := 5) (ss := [(5, [0, 2, 3, 4])]) (hv := []) fr_115_ok fv_townp_ok (ct_k_isWithin_ok d) hw_

theorem s_k_isWithin_5 {Post : Option fw_V → fw_W → Prop} {d : Nat} {W : fw_W} {q a st_ : Int}
    (hw_ : (((14 : Int) ≤ st_ → 0 ≤ (0 : Int) ∧ (0 : Int) ≤ 1 ∧ Post (some (.inl (0 : Int))) W) ∧ (st_ < (14 : Int) → (True) ∧ (∀ (r1 : Int), ((0 ≤ r1 ∧ r1 ≤ 1 ∧ ((r1 = 1 ∧ 0 ≤ a ∧ a < (fw_g W 12 0)) ∨ (r1 = 0 ∧ (a < 0 ∨ (fw_g W 12 0) ≤ a))))) → ((r1 = 0 → 0 ≤ (0 : Int) ∧ (0 : Int) ≤ 1 ∧ Post (some (.inl (0 : Int))) W) ∧ (¬ r1 = 0 → ((¬ a = q → 0 ≤ a ∧ a < 14 ∧ (-1 ≤ (fw_g W 13 a) → (fw_g W 13 a) ≤ 13 → -2147483648 ≤ st_ + (1 : Int) ∧ st_ + (1 : Int) ≤ 2147483647 ∧ (jf fw_T (d + 2) 115 5 [(0, .inr (.inl 12)), (2, .inl q), (3, .inl (fw_g W 13 a)), (4, .inl (st_ + (1 : Int)))] [] W Post))) ∧ (a = q → 0 ≤ (1 : Int) ∧ (1 : Int) ≤ 1 ∧ Post (some (.inl (1 : Int))) W)))))))) :
    jf fw_T (d + 2) 115 5 [(0, .inr (.inl 12)), (2, .inl q), (3, .inl a), (4, .inl st_)] [] W Post := fw_ok (n := 18) (ss := [(5, [0, 2, 3, 4])]) (hv := []) fr_115_ok fv_townp_ok (ct_k_isWithin_ok d) hw_

theorem lm_k_isWithin_5 {Post : Option fw_V → fw_W → Prop} {d : Nat} {W : fw_W} {h q : Int} (δ : Int → Int) (hδ : tr_dep ((fw_g W 12 0)) (fun z_ => (fw_g W 13 z_)) δ) (B : Int → Prop) (hB : tr_beh ((fw_g W 12 0)) (fun z_ => (fw_g W 13 z_)) q B) (hpre : tr ((fw_g W 12 0)) (fun z_ => (fw_g W 13 z_)) ∧ 0 ≤ (fw_g W 12 0) ∧ (fw_g W 12 0) ≤ 14 ∧ 0 ≤ h ∧ h < (fw_g W 12 0)) (hP : ∀ (v : Int) , (0 ≤ v ∧ v ≤ 1 ∧ (∀ B, tr_beh ((fw_g W 12 0)) (fun z_ => (fw_g W 13 z_)) q B → 0 ≤ q → (v = 1 ↔ B h))) → Post (some (.inl v)) W)  : ∀ (m : Nat) (a st_ : Int), (14 - st_).toNat = m → (0 ≤ st_ ∧ -1 ≤ a) ∧ a < (fw_g W 12 0) ∧ ((0 ≤ a ∧ (B h ↔ B a) ∧ st_ + δ a = δ h) ∨ (a = -1 ∧ ¬ B h)) → jf fw_T (d + 2) 115 5 [(0, .inr (.inl 12)), (2, .inl q), (3, .inl a), (4, .inl st_)] [] W Post := by
  intro m
  induction m using Nat.strongRecOn with
  | ind m ih =>
    intro a st_ hm hi
    refine jf_rng (fun hrg => ?_)
    have hrg : -2147483648 ≤ q ∧ q ≤ 2147483647 ∧ -2147483648 ≤ a ∧ a ≤ 2147483647 ∧ -2147483648 ≤ st_ ∧ st_ ≤ 2147483647 ∧ True := hrg
    refine s_k_isWithin_5 ?_
    have hi1 := hi.1
    have hi2 := hi.2.1
    have p1 := fun hk : 1 ≤ a => tr_p hpre.1 hk hi2
    have p0 : 0 < (fw_g W 12 0) → (fw_g W 13 0) = -1 := hpre.1.1
    have pz : a = 0 → (fw_g W 13 a) = -1 := fun z => by rw [z]; exact p0 (by omega)
    repeat' (first
      | (exact True.intro)
      | (exact hpre.1)
      | (refine And.intro ?_ ?_)
      | (refine (ih _ (by omega) _ _ rfl ?_); (
        rcases hi.2.2 with ⟨e1, e2, e3⟩ | ⟨e1, e2⟩
        · by_cases e4 : a = 0
          · refine ⟨by have := pz e4; omega, by have := pz e4; omega, Or.inr ⟨pz e4, fun e5 => ?_⟩⟩
            rw [e2, e4, hB.1] at e5
            omega
          · have p2 := p1 (by omega)
            have p3 : 0 ≤ fw_g W 13 a ∧ fw_g W 13 a < fw_g W 12 0 := p2
            have d1 : δ a = δ (fw_g W 13 a) + 1 := hδ.2.1 a (by omega) hi2
            refine ⟨by omega, by omega, Or.inl ⟨by omega, ?_, by omega⟩⟩
            rw [e2, hB.2 a (by omega) hi2]
            exact ⟨fun e5 => e5.resolve_left (by omega), Or.inr⟩
        · omega))
      | (refine hP _ ?_; (refine ⟨by omega, by omega, ?_⟩; (
        intro C hC hq
        rw [← tr_beh_u hpre.1 hB hC h hpre.2.2.2.1 hpre.2.2.2.2]
        rcases hi.2.2 with ⟨e1, e2, e3⟩ | ⟨e1, e2⟩
        · first
            | (rw [e2]; have e4 : a = q := by omega
               subst e4; exact ⟨fun _ => tr_beh_self hB e1 hi.2.1, fun _ => rfl⟩)
            | (exfalso; have := hδ.2.2 a e1 hi.2.1; have := hδ.2.2 h hpre.2.2.2.1 hpre.2.2.2.2; omega)
        · exact ⟨fun e3 => absurd e3 (by omega), fun e3 => absurd e3 e2⟩)))
      | omega
      | (intro _))
def x_k_isWithin : fw_X := fun as W Q => match as with
  | [.inr (.inl s_), .inl h, .inl q] => fw_if (Nat.beq s_ 12) ((tr ((fw_g W 12 0)) (fun z_ => (fw_g W 13 z_)) ∧ 0 ≤ (fw_g W 12 0) ∧ (fw_g W 12 0) ≤ 14 ∧ 0 ≤ h ∧ h < (fw_g W 12 0)) ∧ (∀ (v : Int), (0 ≤ v ∧ v ≤ 1 ∧ (∀ B, tr_beh ((fw_g W 12 0)) (fun z_ => (fw_g W 13 z_)) q B → 0 ≤ q → (v = 1 ↔ B h))) → Q (some (.inl v)) W))
  | _ => False
theorem x_k_isWithin_ok (d : Nat) (as : List fw_V) (W : fw_W) (Q : Option fw_V → fw_W → Prop) (hx : x_k_isWithin as W Q) : jf fw_T (d + 2) 115 0 (fw_args 0 as) [] W Q := by
  unfold x_k_isWithin at hx
  split at hx
  · rename_i s_ h q
    obtain ⟨e_, hpre, hQ⟩ := fw_if_ok hx
    have e_ := Nat.eq_of_beq_eq_true e_
    subst e_
    have hP := hQ
    obtain ⟨δ, hδ⟩ := tr_has hpre.1
    obtain ⟨B, hB⟩ := tr_hasb hpre.1 q
    refine s_k_isWithin_0 ?_
    repeat' (first
      | (exact True.intro)
      | (exact hpre.1)
      | (refine And.intro ?_ ?_)
      | (refine (lm_k_isWithin_5 (h := h) (q := q) δ hδ B hB hpre hP _ _ _ rfl ?_); (exact ⟨by omega, by omega, Or.inl ⟨by omega, Iff.rfl, by omega⟩⟩))
      | (refine hP _ ?_; (refine ⟨by omega, by omega, ?_⟩; (
        intro C hC hq
        rw [← tr_beh_u hpre.1 hB hC h hpre.2.2.2.1 hpre.2.2.2.2]
        rcases hi.2.2 with ⟨e1, e2, e3⟩ | ⟨e1, e2⟩
        · first
            | (rw [e2]; have e4 : a = q := by omega
               subst e4; exact ⟨fun _ => tr_beh_self hB e1 hi.2.1, fun _ => rfl⟩)
            | (exfalso; have := hδ.2.2 a e1 hi.2.1; have := hδ.2.2 h hpre.2.2.2.1 hpre.2.2.2.2; omega)
        · exact ⟨fun e3 => absurd e3 (by omega), fun e3 => absurd e3 e2⟩)))
      | omega
      | (intro _))
  · exact hx.elim

def fr_117 : fw_P := [(0, 2, 0, 0, 0), (1, 50, 9, 0, 0), (4, 0, 0, 0, 1), (5, 31, 0, 0, 0), (6, 3, 1, 0, 0), (7, 1, 1, 0, 0), (8, 22, 34, 0, 0), (11, 2, 0, 0, 0), (12, 1, 1, 0, 0), (13, 64, 112, 1, 409), (16, 0, 0, 0, 1), (17, 11, 28, 0, 0), (20, 2, 0, 0, 0), (21, 50, 9, 4, 0), (24, 1, 1, 0, 0), (25, 0, 0, 0, 0), (26, 53, 0, 0, 0), (27, 72, 0, 0, 0), (28, 5, 1, 0, -1), (31, 6, 7, 0, 0), (34, 72, 0, 0, 0)]
theorem fr_117_ok : fw_mk 117 2 9 none fr_117 = true := by decide +kernel
def ct_k_burn : List (Nat × fw_X) := [(112, x_k_streetsAt)]
theorem ct_k_burn_ok (d : Nat) : fw_cok fw_T (d + 1) ct_k_burn := by
  intro q hq as W Q h
  simp only [ct_k_burn, List.mem_cons, List.not_mem_nil, or_false] at hq
  rcases hq with rfl
  · exact jc_of (x_k_streetsAt_ok (d + 0) as W Q h)
theorem s_k_burn_0 {Post : Option fw_V → fw_W → Prop} {d : Nat} {W : fw_W}
    (hw_ : (0 ≤ (fw_g W 12 0) → (fw_g W 12 0) ≤ 14 → -2147483648 ≤ (fw_g W 12 0) - (1 : Int) ∧ (fw_g W 12 0) - (1 : Int) ≤ 2147483647 ∧ (jf fw_T (d + 2) 117 7 [(0, .inr (.inl 12)), (1, .inl ((fw_g W 12 0) - (1 : Int)))] [] W Post))) :
    jf fw_T (d + 2) 117 0 [(0, .inr (.inl 12))] [] W Post := fw_ok (n := 6) (ss := [(7, [0, 1])]) (hv := []) fr_117_ok fv_townp_ok (ct_k_burn_ok d) hw_

theorem s_k_burn_7 {Post : Option fw_V → fw_W → Prop} {d : Nat} {W : fw_W} {h : Int} {f : fw_W}
    (hw_ : ((h < 0 → Post none (fw_put [15] 0 [] W f)) ∧ (0 ≤ h → (0 ≤ (fw_g W 12 0) ∧ (fw_g W 12 0) ≤ 14) ∧ (∀ (r1 : Int), ((-2147483648 ≤ r1 ∧ r1 ≤ 2147483647 ∧ (True))) → ((¬ r1 = (1 : Int) → -2147483648 ≤ h + (-1 : Int) ∧ h + (-1 : Int) ≤ 2147483647 ∧ (jf fw_T (d + 2) 117 7 [(0, .inr (.inl 12)), (1, .inl (h + (-1 : Int)))] [] (fw_put [15] 0 [] W f) Post)) ∧ (r1 = (1 : Int) → 0 ≤ h ∧ h < 14 ∧ 0 ≤ (0 : Int) ∧ (0 : Int) ≤ 99 ∧ (Post none (fw_up (fw_put [15] 0 [] W f) 15 h (0 : Int))))))))) :
    jf fw_T (d + 2) 117 7 [(0, .inr (.inl 12)), (1, .inl h)] [] (fw_put [15] 0 [] W f) Post := fw_ok (n := 14) (ss := [(7, [0, 1])]) (hv := []) fr_117_ok fv_townp_ok (ct_k_burn_ok d) hw_

theorem lm_k_burn_7 {Post : Option fw_V → fw_W → Prop} {d : Nat} {W : fw_W} (hpre : 0 ≤ (fw_g W 12 0) ∧ (fw_g W 12 0) ≤ 14) (hP : ∀ (W2 : fw_W), fw_sm [15] 0 [] W W2 → (True) → Post none W2)  : ∀ (m : Nat) (h : Int) (f : fw_W), (h + 1).toNat = m → h < 14 ∧ -1 ≤ h → jf fw_T (d + 2) 117 7 [(0, .inr (.inl 12)), (1, .inl h)] [] (fw_put [15] 0 [] W f) Post := by
  intro m
  induction m using Nat.strongRecOn with
  | ind m ih =>
    intro h f hm hi
    refine jf_rng (fun hrg => ?_)
    have hrg : -2147483648 ≤ h ∧ h ≤ 2147483647 ∧ True := hrg
    refine s_k_burn_7 ?_
    repeat' (first
      | (exact True.intro)
      | (exact hpre.1)
      | (refine And.intro ?_ ?_)
      | (refine jf_put (S := [15]) (o := 0) (F := []) (W := W) (by repeat (first | exact fw_sm_refl | exact fw_sm_put0 | refine fw_sm_arr ?_ rfl | refine fw_sm_up ?_ rfl | refine fw_sm_put ?_ rfl | refine fw_sm_cp ?_ rfl)) (ih _ (by omega) _ _ rfl ?_); (first | omega | trivial | (simp (config := { decide := true }) only [fg_in, fg_fin, fg_out, fg_fout, fg_up, fg_same, true_and, and_true] <;> omega)))
      | (refine hP _ (by repeat (first | exact fw_sm_refl | exact fw_sm_put0 | refine fw_sm_arr ?_ rfl | refine fw_sm_up ?_ rfl | refine fw_sm_put ?_ rfl | refine fw_sm_cp ?_ rfl)) ?_; (first | trivial | omega))
      | omega
      | (intro _))
def x_k_burn : fw_X := fun as W Q => match as with
  | [.inr (.inl s_)] => fw_if (Nat.beq s_ 12) ((0 ≤ (fw_g W 12 0) ∧ (fw_g W 12 0) ≤ 14) ∧ (∀ (f : fw_W), (True) → Q none (fw_put [15] 0 [] W f)))
  | _ => False
theorem x_k_burn_ok (d : Nat) (as : List fw_V) (W : fw_W) (Q : Option fw_V → fw_W → Prop) (hx : x_k_burn as W Q) : jf fw_T (d + 2) 117 0 (fw_args 0 as) [] W Q := by
  unfold x_k_burn at hx
  split at hx
  · rename_i s_
    obtain ⟨e_, hpre, hQ⟩ := fw_if_ok hx
    have e_ := Nat.eq_of_beq_eq_true e_
    subst e_
    have hP : ∀ (W2 : fw_W), fw_sm [15] 0 [] W W2 → _ → Q none W2 := fun W2 hs hr => fw_sm_use (Q := fun Z => Q none Z) hs (hQ W2 hr)
    refine s_k_burn_0 ?_
    repeat' (first
      | (exact True.intro)
      | (exact hpre.1)
      | (refine And.intro ?_ ?_)
      | (refine jf_put (S := [15]) (o := 0) (F := []) (W := W) (by repeat (first | exact fw_sm_refl | exact fw_sm_put0 | refine fw_sm_arr ?_ rfl | refine fw_sm_up ?_ rfl | refine fw_sm_put ?_ rfl | refine fw_sm_cp ?_ rfl)) (lm_k_burn_7 hpre hP _ _ _ rfl ?_); (first | omega | trivial | (simp (config := { decide := true }) only [fg_in, fg_fin, fg_out, fg_fout, fg_up, fg_same, true_and, and_true] <;> omega)))
      | (refine hP _ (by repeat (first | exact fw_sm_refl | exact fw_sm_put0 | refine fw_sm_arr ?_ rfl | refine fw_sm_up ?_ rfl | refine fw_sm_put ?_ rfl | refine fw_sm_cp ?_ rfl)) ?_; (first | trivial | omega))
      | omega
      | (intro _))
  · exact hx.elim

def fr_116 : fw_P := [(0, 2, 0, 0, 0), (1, 50, 9, 0, 0), (4, 21, 8, 0, 0), (7, 72, 0, 0, 0), (8, 2, 0, 0, 0), (9, 2, 0, 0, 0), (10, 50, 9, 1, 0), (13, 0, 0, 0, 137), (16, 32, 0, 0, 0), (17, 0, 0, 0, 71), (19, 30, 0, 0, 0), (20, 0, 0, 0, 1000), (23, 34, 0, 0, 0), (24, 51, 9, 1, 0), (27, 2, 0, 0, 0), (28, 50, 9, 1, 0), (31, 0, 0, 0, 4), (32, 34, 0, 0, 0), (33, 21, 41, 0, 0), (36, 2, 0, 0, 0), (37, 64, 117, 0, 209), (40, 72, 0, 0, 0), (41, 2, 0, 0, 0), (42, 50, 9, 1, 0), (45, 2, 0, 0, 0), (46, 50, 9, 0, 0), (49, 34, 0, 0, 0), (50, 3, 1, 0, 0), (51, 2, 0, 0, 0), (52, 50, 9, 0, 0), (55, 0, 0, 0, 14), (57, 13, 84, 0, 0), (60, 2, 0, 0, 0), (61, 1, 1, 0, 0), (62, 0, 0, 0, 1), (63, 2, 0, 0, 0), (64, 50, 9, 1, 0), (67, 0, 0, 0, 9), (69, 34, 0, 0, 0), (70, 30, 0, 0, 0), (71, 2, 0, 0, 0), (72, 50, 9, 1, 0), (75, 0, 0, 0, 5), (76, 34, 0, 0, 0), (77, 64, 109, 3, 409), (80, 45, 0, 0, 0), (81, 6, 103, 0, 0), (84, 2, 0, 0, 0), (85, 50, 9, 4, 0), (88, 1, 1, 0, 0), (89, 0, 0, 0, 99), (91, 2, 0, 0, 0), (92, 50, 9, 4, 0), (95, 1, 1, 0, 0), (96, 52, 0, 0, 0), (97, 0, 0, 0, 1), (98, 30, 0, 0, 0), (99, 61, 0, 0, 0), (102, 53, 0, 0, 0), (103, 72, 0, 0, 0)]
theorem fr_116_ok : fw_mk 116 2 9 none fr_116 = true := by decide +kernel
def ct_k_passYear : List (Nat × fw_X) := [(109, x_k_add), (117, x_k_burn)]
theorem ct_k_passYear_ok (d : Nat) : fw_cok fw_T (d + 2) ct_k_passYear := by
  intro q hq as W Q h
  simp only [ct_k_passYear, List.mem_cons, List.not_mem_nil, or_false] at hq
  rcases hq with rfl | rfl
  · exact jc_of (x_k_add_ok (d + 1) as W Q h)
  · exact jc_of (x_k_burn_ok (d + 0) as W Q h)
theorem s_k_passYear_0 {Post : Option fw_V → fw_W → Prop} {d : Nat} {W : fw_W}
    (hw_ : (0 ≤ (fw_g W 12 0) → (fw_g W 12 0) ≤ 14 → ((¬ (fw_g W 12 0) = 0 → (0 ≤ (fw_g W 12 1) → (fw_g W 12 1) ≤ 999 → -2147483648 ≤ (fw_g W 12 1) * (137 : Int) ∧ (fw_g W 12 1) * (137 : Int) ≤ 2147483647 ∧ (-2147483648 ≤ ((fw_g W 12 1) * (137 : Int)) + (71 : Int) ∧ ((fw_g W 12 1) * (137 : Int)) + (71 : Int) ≤ 2147483647 ∧ (0 ≤ (((fw_g W 12 1) * (137 : Int)) + (71 : Int)) ∧ 0 < (1000 : Int) ∧ (0 ≤ ((((fw_g W 12 1) * (137 : Int)) + (71 : Int)) % (1000 : Int)) ∧ ((((fw_g W 12 1) * (137 : Int)) + (71 : Int)) % (1000 : Int)) ≤ 999 ∧ ((0 ≤ (fw_g (fw_up W 12 1 ((((fw_g W 12 1) * (137 : Int)) + (71 : Int)) % (1000 : Int))) 12 1) → (fw_g (fw_up W 12 1 ((((fw_g W 12 1) * (137 : Int)) + (71 : Int)) % (1000 : Int))) 12 1) ≤ 999 → 0 ≤ (fw_g (fw_up W 12 1 ((((fw_g W 12 1) * (137 : Int)) + (71 : Int)) % (1000 : Int))) 12 1) ∧ 0 < (4 : Int) ∧ (((¬ ((fw_g (fw_up W 12 1 ((((fw_g W 12 1) * (137 : Int)) + (71 : Int)) % (1000 : Int))) 12 1) % (4 : Int)) = 0 → (0 ≤ (fw_g (fw_up W 12 1 ((((fw_g W 12 1) * (137 : Int)) + (71 : Int)) % (1000 : Int))) 12 1) → (fw_g (fw_up W 12 1 ((((fw_g W 12 1) * (137 : Int)) + (71 : Int)) % (1000 : Int))) 12 1) ≤ 999 → (0 ≤ (fw_g W 12 0) → (fw_g W 12 0) ≤ 14 → 0 ≤ (fw_g (fw_up W 12 1 ((((fw_g W 12 1) * (137 : Int)) + (71 : Int)) % (1000 : Int))) 12 1) ∧ 0 < (fw_g W 12 0) ∧ ((0 ≤ (fw_g W 12 0) → (fw_g W 12 0) ≤ 14 → (((14 : Int) ≤ (fw_g W 12 0) → 0 ≤ ((fw_g (fw_up W 12 1 ((((fw_g W 12 1) * (137 : Int)) + (71 : Int)) % (1000 : Int))) 12 1) % (fw_g W 12 0)) ∧ ((fw_g (fw_up W 12 1 ((((fw_g W 12 1) * (137 : Int)) + (71 : Int)) % (1000 : Int))) 12 1) % (fw_g W 12 0)) < 14 ∧ (0 ≤ (fw_g W 15 ((fw_g (fw_up W 12 1 ((((fw_g W 12 1) * (137 : Int)) + (71 : Int)) % (1000 : Int))) 12 1) % (fw_g W 12 0))) → (fw_g W 15 ((fw_g (fw_up W 12 1 ((((fw_g W 12 1) * (137 : Int)) + (71 : Int)) % (1000 : Int))) 12 1) % (fw_g W 12 0))) ≤ 99 → -2147483648 ≤ (fw_g W 15 ((fw_g (fw_up W 12 1 ((((fw_g W 12 1) * (137 : Int)) + (71 : Int)) % (1000 : Int))) 12 1) % (fw_g W 12 0))) + (1 : Int) ∧ (fw_g W 15 ((fw_g (fw_up W 12 1 ((((fw_g W 12 1) * (137 : Int)) + (71 : Int)) % (1000 : Int))) 12 1) % (fw_g W 12 0))) + (1 : Int) ≤ 2147483647 ∧ (0 ≤ ((fw_g (fw_up W 12 1 ((((fw_g W 12 1) * (137 : Int)) + (71 : Int)) % (1000 : Int))) 12 1) % (fw_g W 12 0)) ∧ ((fw_g (fw_up W 12 1 ((((fw_g W 12 1) * (137 : Int)) + (71 : Int)) % (1000 : Int))) 12 1) % (fw_g W 12 0)) < 14 ∧ 0 ≤ (min (99 : Int) ((fw_g W 15 ((fw_g (fw_up W 12 1 ((((fw_g W 12 1) * (137 : Int)) + (71 : Int)) % (1000 : Int))) 12 1) % (fw_g W 12 0))) + (1 : Int))) ∧ (min (99 : Int) ((fw_g W 15 ((fw_g (fw_up W 12 1 ((((fw_g W 12 1) * (137 : Int)) + (71 : Int)) % (1000 : Int))) 12 1) % (fw_g W 12 0))) + (1 : Int))) ≤ 99 ∧ (Post none (fw_up (fw_up W 12 1 ((((fw_g W 12 1) * (137 : Int)) + (71 : Int)) % (1000 : Int))) 15 ((fw_g (fw_up W 12 1 ((((fw_g W 12 1) * (137 : Int)) + (71 : Int)) % (1000 : Int))) 12 1) % (fw_g W 12 0)) (min (99 : Int) ((fw_g W 15 ((fw_g (fw_up W 12 1 ((((fw_g W 12 1) * (137 : Int)) + (71 : Int)) % (1000 : Int))) 12 1) % (fw_g W 12 0))) + (1 : Int)))))))) ∧ ((fw_g W 12 0) < (14 : Int) → (0 ≤ (fw_g (fw_up W 12 1 ((((fw_g W 12 1) * (137 : Int)) + (71 : Int)) % (1000 : Int))) 12 1) → (fw_g (fw_up W 12 1 ((((fw_g W 12 1) * (137 : Int)) + (71 : Int)) % (1000 : Int))) 12 1) ≤ 999 → 0 ≤ (fw_g (fw_up W 12 1 ((((fw_g W 12 1) * (137 : Int)) + (71 : Int)) % (1000 : Int))) 12 1) ∧ 0 < (9 : Int) ∧ (-2147483648 ≤ (1 : Int) + ((fw_g (fw_up W 12 1 ((((fw_g W 12 1) * (137 : Int)) + (71 : Int)) % (1000 : Int))) 12 1) % (9 : Int)) ∧ (1 : Int) + ((fw_g (fw_up W 12 1 ((((fw_g W 12 1) * (137 : Int)) + (71 : Int)) % (1000 : Int))) 12 1) % (9 : Int)) ≤ 2147483647 ∧ ((0 ≤ (fw_g (fw_up W 12 1 ((((fw_g W 12 1) * (137 : Int)) + (71 : Int)) % (1000 : Int))) 12 1) → (fw_g (fw_up W 12 1 ((((fw_g W 12 1) * (137 : Int)) + (71 : Int)) % (1000 : Int))) 12 1) ≤ 999 → 0 ≤ (fw_g (fw_up W 12 1 ((((fw_g W 12 1) * (137 : Int)) + (71 : Int)) % (1000 : Int))) 12 1) ∧ 0 < (5 : Int) ∧ ((tr ((fw_g W 12 0)) (fun z_ => (fw_g W 13 z_)) ∧ 0 ≤ (fw_g W 12 0) ∧ (fw_g W 12 0) ≤ 14 ∧ -1 ≤ ((fw_g (fw_up W 12 1 ((((fw_g W 12 1) * (137 : Int)) + (71 : Int)) % (1000 : Int))) 12 1) % (fw_g W 12 0)) ∧ ((fw_g (fw_up W 12 1 ((((fw_g W 12 1) * (137 : Int)) + (71 : Int)) % (1000 : Int))) 12 1) % (fw_g W 12 0)) ≤ 13 ∧ 0 ≤ ((1 : Int) + ((fw_g (fw_up W 12 1 ((((fw_g W 12 1) * (137 : Int)) + (71 : Int)) % (1000 : Int))) 12 1) % (9 : Int))) ∧ ((1 : Int) + ((fw_g (fw_up W 12 1 ((((fw_g W 12 1) * (137 : Int)) + (71 : Int)) % (1000 : Int))) 12 1) % (9 : Int))) ≤ 99 ∧ 0 ≤ ((fw_g (fw_up W 12 1 ((((fw_g W 12 1) * (137 : Int)) + (71 : Int)) % (1000 : Int))) 12 1) % (5 : Int)) ∧ ((fw_g (fw_up W 12 1 ((((fw_g W 12 1) * (137 : Int)) + (71 : Int)) % (1000 : Int))) 12 1) % (5 : Int)) ≤ 99 ∧ (1 ≤ (fw_g W 12 0) → 0 ≤ ((fw_g (fw_up W 12 1 ((((fw_g W 12 1) * (137 : Int)) + (71 : Int)) % (1000 : Int))) 12 1) % (fw_g W 12 0)) ∧ ((fw_g (fw_up W 12 1 ((((fw_g W 12 1) * (137 : Int)) + (71 : Int)) % (1000 : Int))) 12 1) % (fw_g W 12 0)) < (fw_g W 12 0)) ∧ ((fw_g W 12 0) = 0 → ((fw_g (fw_up W 12 1 ((((fw_g W 12 1) * (137 : Int)) + (71 : Int)) % (1000 : Int))) 12 1) % (fw_g W 12 0)) = -1)) ∧ (∀ (r1 : Int) (f2 : fw_W), ((-2147483648 ≤ r1 ∧ r1 ≤ 2147483647 ∧ ((0 ≤ (fw_g f2 12 0) ∧ (fw_g f2 12 0) ≤ 14 ∧ tr ((fw_g f2 12 0)) (fun z_ => (fw_g f2 13 z_)))))) → Post none (fw_put [13, 14, 15] 0 [12000] (fw_up W 12 1 ((((fw_g W 12 1) * (137 : Int)) + (71 : Int)) % (1000 : Int))) f2)))))))))))))) ∧ (((fw_g (fw_up W 12 1 ((((fw_g W 12 1) * (137 : Int)) + (71 : Int)) % (1000 : Int))) 12 1) % (4 : Int)) = 0 → (0 ≤ (fw_g W 12 0) ∧ (fw_g W 12 0) ≤ 14) ∧ (∀ (f3 : fw_W), ((True)) → Post none (fw_put [15] 0 [] (fw_up W 12 1 ((((fw_g W 12 1) * (137 : Int)) + (71 : Int)) % (1000 : Int))) f3)))))))))))) ∧ ((fw_g W 12 0) = 0 → Post none W)))) :
    jf fw_T (d + 3) 116 0 [(0, .inr (.inl 12))] [] W Post := fw_ok (n := 45) (ss := []) (hv := []) fr_116_ok fv_townp_ok (ct_k_passYear_ok d) hw_

def x_k_passYear : fw_X := fun as W Q => match as with
  | [.inr (.inl s_)] => fw_if (Nat.beq s_ 12) ((tr ((fw_g W 12 0)) (fun z_ => (fw_g W 13 z_)) ∧ 0 ≤ (fw_g W 12 0) ∧ (fw_g W 12 0) ≤ 14) ∧ (∀ (f : fw_W), ((0 ≤ (fw_g f 12 0) ∧ (fw_g f 12 0) ≤ 14 ∧ tr ((fw_g f 12 0)) (fun z_ => (fw_g f 13 z_)))) → Q none (fw_put [13, 14, 15] 0 [12000, 12001] W f)))
  | _ => False
theorem x_k_passYear_ok (d : Nat) (as : List fw_V) (W : fw_W) (Q : Option fw_V → fw_W → Prop) (hx : x_k_passYear as W Q) : jf fw_T (d + 3) 116 0 (fw_args 0 as) [] W Q := by
  unfold x_k_passYear at hx
  split at hx
  · rename_i s_
    obtain ⟨e_, hpre, hQ⟩ := fw_if_ok hx
    have e_ := Nat.eq_of_beq_eq_true e_
    subst e_
    have hP : ∀ (W2 : fw_W), fw_sm [13, 14, 15] 0 [12000, 12001] W W2 → _ → Q none W2 := fun W2 hs hr => fw_sm_use (Q := fun Z => Q none Z) hs (hQ W2 hr)
    refine s_k_passYear_0 ?_
    have m1 := Int.emod_nonneg (fw_g W 12 1 * 137 + 71) (show (1000 : Int) ≠ 0 by decide)
    have m2 := Int.emod_lt_of_pos (fw_g W 12 1 * 137 + 71) (show (0 : Int) < 1000 by decide)
    have m3 : 1 ≤ fw_g W 12 0 → 0 ≤ fw_g (fw_up W 12 1 ((fw_g W 12 1 * 137 + 71) % 1000)) 12 1 % fw_g W 12 0 ∧ fw_g (fw_up W 12 1 ((fw_g W 12 1 * 137 + 71) % 1000)) 12 1 % fw_g W 12 0 < fw_g W 12 0 := fun z => ⟨Int.emod_nonneg _ (by omega), Int.emod_lt_of_pos _ (by omega)⟩
    repeat' (first
      | (exact hpre.1)
      | (exact True.intro)
      | (exact hpre.1)
      | (refine And.intro ?_ ?_)
      | (refine hP _ (by repeat (first | exact fw_sm_refl | exact fw_sm_put0 | refine fw_sm_arr ?_ rfl | refine fw_sm_up ?_ rfl | refine fw_sm_put ?_ rfl | refine fw_sm_cp ?_ rfl)) ?_; (first
          | exact ⟨hpre.2.1, hpre.2.2, hpre.1⟩
          | (rename_i r1 f1 h1; exact h1.2.2)))
      | (simp (disch := first | decide | omega) only [fg_same, fg_lit, fg_in, fg_fin, fg_out, fg_fout, fg_up, true_and, and_true, true_or, or_true, true_implies]; omega)
      | omega
      | (intro _))
  · exact hx.elim

