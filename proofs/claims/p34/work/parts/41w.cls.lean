/-! the class, method by method -/
def fr_134 : fw_P := [(0, 0, 0, 0, 0), (1, 3, 2, 0, 0), (2, 0, 0, 0, 0), (3, 3, 3, 0, 0), (4, 1, 3, 0, 0), (5, 2, 0, 0, 0), (6, 50, 10, 5, 0), (9, 50, 9, 0, 0), (12, 13, 39, 0, 0), (15, 2, 0, 0, 0), (16, 50, 10, 5, 0), (19, 1, 3, 0, 0), (20, 1, 1, 0, 0), (21, 64, 115, 2, 509), (24, 20, 33, 0, 0), (27, 1, 2, 0, 0), (28, 0, 0, 0, 1), (29, 1, 3, 0, 0), (30, 39, 0, 0, 0), (31, 37, 0, 0, 0), (32, 3, 2, 0, 0), (33, 5, 3, 0, 1), (36, 6, 4, 0, 0), (39, 1, 2, 0, 0), (40, 70, 0, 0, 0)]
theorem fr_134_ok : fw_mk 134 4 10 (some .int) fr_134 = true := by decide +kernel
def ct_k_maskWithin : List (Nat × fw_X) := [(115, x_k_isWithin)]
theorem ct_k_maskWithin_ok (d : Nat) : fw_cok fw_T (d + 2) ct_k_maskWithin := by
  intro q hq as W Q h
  simp only [ct_k_maskWithin, List.mem_cons, List.not_mem_nil, or_false] at hq
  rcases hq with rfl
  · exact jc_of (x_k_isWithin_ok (d + 0) as W Q h)
theorem s_k_maskWithin_0 {Post : Option fw_V → fw_W → Prop} {d : Nat} {W : fw_W} {h : Int}
    (hw_ : jf fw_T (d + 3) 134 4 [(0, .inr (.inl 203)), (1, .inl h), (2, .inl (0 : Int)), (3, .inl (0 : Int))] [] W Post) :
    jf fw_T (d + 3) 134 0 [(0, .inr (.inl 203)), (1, .inl h)] [] W Post := fw_ok (n := 5) (ss := [(4, [0, 1, 2, 3])]) (hv := []) fr_134_ok fv_waysq_ok (ct_k_maskWithin_ok d) hw_

theorem s_k_maskWithin_4 {Post : Option fw_V → fw_W → Prop} {d : Nat} {W : fw_W} {h ma o : Int}
    (hw_ : (0 ≤ (fw_g W 12 0) → (fw_g W 12 0) ≤ 14 → (((fw_g W 12 0) ≤ o → (-2147483648 ≤ ma → ma ≤ 2147483647 → Post (some (.inl ma)) W)) ∧ (o < (fw_g W 12 0) → (tr ((fw_g W 12 0)) (fun z_ => (fw_g W 13 z_)) ∧ 0 ≤ (fw_g W 12 0) ∧ (fw_g W 12 0) ≤ 14 ∧ 0 ≤ o ∧ o < (fw_g W 12 0)) ∧ (∀ (r1 : Int), ((0 ≤ r1 ∧ r1 ≤ 1 ∧ (∀ B, tr_beh ((fw_g W 12 0)) (fun z_ => (fw_g W 13 z_)) h B → 0 ≤ h → (r1 = 1 ↔ B o)))) → ((r1 = 0 → -2147483648 ≤ o + (1 : Int) ∧ o + (1 : Int) ≤ 2147483647 ∧ (jf fw_T (d + 3) 134 4 [(0, .inr (.inl 203)), (1, .inl h), (2, .inl ma), (3, .inl (o + (1 : Int)))] [] W Post)) ∧ (¬ r1 = 0 → (-2147483648 ≤ (fw_shl (1 : Int) o) → (fw_shl (1 : Int) o) ≤ 2147483647 → (-2147483648 ≤ (fw_or ma (fw_shl (1 : Int) o)) → (fw_or ma (fw_shl (1 : Int) o)) ≤ 2147483647 → -2147483648 ≤ o + (1 : Int) ∧ o + (1 : Int) ≤ 2147483647 ∧ (jf fw_T (d + 3) 134 4 [(0, .inr (.inl 203)), (1, .inl h), (2, .inl (fw_or ma (fw_shl (1 : Int) o))), (3, .inl (o + (1 : Int)))] [] W Post)))))))))) :
    jf fw_T (d + 3) 134 4 [(0, .inr (.inl 203)), (1, .inl h), (2, .inl ma), (3, .inl o)] [] W Post := fw_ok (n := 20) (ss := [(4, [0, 1, 2, 3])]) (hv := []) fr_134_ok fv_waysq_ok (ct_k_maskWithin_ok d) hw_

theorem lm_k_maskWithin_4 {Post : Option fw_V → fw_W → Prop} {d : Nat} {W : fw_W} {h : Int} (hpre : tr ((fw_g W 12 0)) (fun z_ => (fw_g W 13 z_)) ∧ 0 ≤ (fw_g W 12 0) ∧ (fw_g W 12 0) ≤ 14) (hP : ∀ (v : Int) , (-2147483648 ≤ v ∧ v ≤ 2147483647 ∧ (True)) → Post (some (.inl v)) W)  : ∀ (m : Nat) (ma o : Int), ((fw_g W 12 0) - o).toNat = m → 0 ≤ o → jf fw_T (d + 3) 134 4 [(0, .inr (.inl 203)), (1, .inl h), (2, .inl ma), (3, .inl o)] [] W Post := by
  intro m
  induction m using Nat.strongRecOn with
  | ind m ih =>
    intro ma o hm hi
    refine jf_rng (fun hrg => ?_)
    have hrg : -2147483648 ≤ h ∧ h ≤ 2147483647 ∧ -2147483648 ≤ ma ∧ ma ≤ 2147483647 ∧ -2147483648 ≤ o ∧ o ≤ 2147483647 ∧ True := hrg
    refine s_k_maskWithin_4 ?_
    repeat' (first
      | (exact hpre.1)
      | (exact True.intro)
      | (exact hpre.1)
      | (refine And.intro ?_ ?_)
      | (refine (ih _ (by omega) _ _ rfl ?_); (first | omega | trivial))
      | (refine hP _ ?_; (refine ⟨by omega, by omega, ?_⟩; (first | trivial | omega)))
      | omega
      | (intro _))
def x_k_maskWithin : fw_X := fun as W Q => match as with
  | [.inr (.inl s_), .inl h] => fw_if (Nat.beq s_ 203) ((tr ((fw_g W 12 0)) (fun z_ => (fw_g W 13 z_)) ∧ 0 ≤ (fw_g W 12 0) ∧ (fw_g W 12 0) ≤ 14) ∧ (∀ (v : Int), (-2147483648 ≤ v ∧ v ≤ 2147483647 ∧ (True)) → Q (some (.inl v)) W))
  | _ => False
theorem x_k_maskWithin_ok (d : Nat) (as : List fw_V) (W : fw_W) (Q : Option fw_V → fw_W → Prop) (hx : x_k_maskWithin as W Q) : jf fw_T (d + 3) 134 0 (fw_args 0 as) [] W Q := by
  unfold x_k_maskWithin at hx
  split at hx
  · rename_i s_ h
    obtain ⟨e_, hpre, hQ⟩ := fw_if_ok hx
    have e_ := Nat.eq_of_beq_eq_true e_
    subst e_
    have hP := hQ
    refine s_k_maskWithin_0 ?_
    repeat' (first
      | (exact True.intro)
      | (exact hpre.1)
      | (refine And.intro ?_ ?_)
      | (refine (lm_k_maskWithin_4 (h := h) hpre hP _ _ _ rfl ?_); (first | omega | trivial))
      | (refine hP _ ?_; (refine ⟨by omega, by omega, ?_⟩; (first | trivial | omega)))
      | omega
      | (intro _))
  · exact hx.elim

def fr_135 : fw_P := [(0, 0, 0, 0, 0), (1, 3, 2, 0, 0), (2, 0, 0, 0, 0), (3, 3, 3, 0, 0), (4, 1, 3, 0, 0), (5, 2, 0, 0, 0), (6, 50, 10, 5, 0), (9, 50, 9, 0, 0), (12, 13, 98, 0, 0), (15, 2, 0, 0, 0), (16, 50, 10, 8, 0), (19, 1, 3, 0, 0), (20, 0, 0, 0, 0), (21, 53, 0, 0, 0), (22, 0, 0, 0, 0), (23, 3, 4, 0, 0), (25, 1, 4, 0, 0), (27, 2, 0, 0, 0), (28, 50, 10, 5, 0), (31, 50, 9, 0, 0), (34, 13, 81, 0, 0), (37, 1, 1, 0, 0), (38, 1, 3, 0, 0), (39, 40, 0, 0, 0), (40, 0, 0, 0, 1), (41, 36, 0, 0, 0), (42, 1, 1, 0, 0), (43, 1, 4, 0, 0), (45, 40, 0, 0, 0), (46, 0, 0, 0, 1), (47, 36, 0, 0, 0), (48, 11, 75, 0, 0), (51, 2, 0, 0, 0), (52, 50, 10, 8, 0), (55, 1, 3, 0, 0), (56, 2, 0, 0, 0), (57, 50, 10, 8, 0), (60, 1, 3, 0, 0), (61, 52, 0, 0, 0), (62, 2, 0, 0, 0), (63, 50, 10, 1, 0), (66, 1, 3, 0, 0), (67, 56, 0, 0, 0), (68, 1, 4, 0, 0), (70, 52, 0, 0, 0), (71, 60, 0, 0, 0), (74, 53, 0, 0, 0), (75, 5, 4, 0, 1), (78, 6, 25, 0, 0), (81, 1, 2, 0, 0), (82, 2, 0, 0, 0), (83, 50, 10, 8, 0), (86, 1, 3, 0, 0), (87, 52, 0, 0, 0), (88, 60, 0, 0, 0), (91, 3, 2, 0, 0), (92, 5, 3, 0, 1), (95, 6, 4, 0, 0), (98, 1, 2, 0, 0), (99, 70, 0, 0, 0)]
theorem fr_135_ok : fw_mk 135 5 10 (some .int) fr_135 = true := by decide +kernel
theorem s_k_measureParts_0 {Post : Option fw_V → fw_W → Prop} {d : Nat} {W : fw_W} {wi : Int}
    (hw_ : jf fw_T (d + 1) 135 4 [(0, .inr (.inl 203)), (1, .inl wi), (2, .inl (0 : Int)), (3, .inl (0 : Int))] [] W Post) :
    jf fw_T (d + 1) 135 0 [(0, .inr (.inl 203)), (1, .inl wi)] [] W Post := fw_ok (n := 5) (ss := [(4, [0, 1, 2, 3]), (25, [0, 1, 2, 3, 4])]) (hv := []) fr_135_ok fv_waysq_ok (fw_c0 _ _) hw_

theorem s_k_measureParts_25 {Post : Option fw_V → fw_W → Prop} {d : Nat} {W : fw_W} {wi lo h o : Int} {f : fw_W}
    (hw_ : (0 ≤ (fw_g W 12 0) → (fw_g W 12 0) ≤ 14 → (((fw_g W 12 0) ≤ o → 0 ≤ h ∧ h < 14 ∧ (-2147483648 ≤ (fw_g f 222 h) → (fw_g f 222 h) ≤ 2147483647 → -2147483648 ≤ h + (1 : Int) ∧ h + (1 : Int) ≤ 2147483647 ∧ (jf fw_T (d + 1) 135 4 [(0, .inr (.inl 203)), (1, .inl wi), (2, .inl (max lo (fw_g f 222 h))), (3, .inl (h + (1 : Int)))] [] (fw_put [222] 0 [] W f) Post))) ∧ (o < (fw_g W 12 0) → (-2147483648 ≤ (fw_shr wi h) → (fw_shr wi h) ≤ 2147483647 → (-2147483648 ≤ (fw_and (fw_shr wi h) (1 : Int)) → (fw_and (fw_shr wi h) (1 : Int)) ≤ 2147483647 → (-2147483648 ≤ (fw_shr wi o) → (fw_shr wi o) ≤ 2147483647 → (-2147483648 ≤ (fw_and (fw_shr wi o) (1 : Int)) → (fw_and (fw_shr wi o) (1 : Int)) ≤ 2147483647 → ((¬ (fw_and (fw_shr wi h) (1 : Int)) = (fw_and (fw_shr wi o) (1 : Int)) → -2147483648 ≤ o + (1 : Int) ∧ o + (1 : Int) ≤ 2147483647 ∧ (jf fw_T (d + 1) 135 25 [(0, .inr (.inl 203)), (1, .inl wi), (2, .inl lo), (3, .inl h), (4, .inl (o + (1 : Int)))] [] (fw_put [222] 0 [] W f) Post)) ∧ ((fw_and (fw_shr wi h) (1 : Int)) = (fw_and (fw_shr wi o) (1 : Int)) → 0 ≤ h ∧ h < 14 ∧ (-2147483648 ≤ (fw_g f 222 h) → (fw_g f 222 h) ≤ 2147483647 → 0 ≤ h ∧ h < 14 ∧ (0 ≤ o ∧ o < 14 ∧ (∀ v1 : Int, -2147483648 ≤ v1 → v1 ≤ 2147483647 → 0 ≤ h ∧ h < 14 ∧ -2147483648 ≤ (max (fw_g f 222 h) v1) ∧ (max (fw_g f 222 h) v1) ≤ 2147483647 ∧ (-2147483648 ≤ o + (1 : Int) ∧ o + (1 : Int) ≤ 2147483647 ∧ (jf fw_T (d + 1) 135 25 [(0, .inr (.inl 203)), (1, .inl wi), (2, .inl lo), (3, .inl h), (4, .inl (o + (1 : Int)))] [] (fw_up (fw_put [222] 0 [] W f) 222 h (max (fw_g f 222 h) v1)) Post))))))))))))))) :
    jf fw_T (d + 1) 135 25 [(0, .inr (.inl 203)), (1, .inl wi), (2, .inl lo), (3, .inl h), (4, .inl o)] [] (fw_put [222] 0 [] W f) Post := fw_ok (n := 34) (ss := [(4, [0, 1, 2, 3]), (25, [0, 1, 2, 3, 4])]) (hv := []) fr_135_ok fv_waysq_ok (fw_c0 _ _) hw_

theorem s_k_measureParts_4 {Post : Option fw_V → fw_W → Prop} {d : Nat} {W : fw_W} {wi lo h : Int} {f : fw_W}
    (hw_ : (0 ≤ (fw_g W 12 0) → (fw_g W 12 0) ≤ 14 → (((fw_g W 12 0) ≤ h → (-2147483648 ≤ lo → lo ≤ 2147483647 → Post (some (.inl lo)) (fw_put [222] 0 [] W f))) ∧ (h < (fw_g W 12 0) → 0 ≤ h ∧ h < 14 ∧ -2147483648 ≤ (0 : Int) ∧ (0 : Int) ≤ 2147483647 ∧ (jf fw_T (d + 1) 135 25 [(0, .inr (.inl 203)), (1, .inl wi), (2, .inl lo), (3, .inl h), (4, .inl (0 : Int))] [] (fw_up (fw_put [222] 0 [] W f) 222 h (0 : Int)) Post))))) :
    jf fw_T (d + 1) 135 4 [(0, .inr (.inl 203)), (1, .inl wi), (2, .inl lo), (3, .inl h)] [] (fw_put [222] 0 [] W f) Post := fw_ok (n := 13) (ss := [(4, [0, 1, 2, 3]), (25, [0, 1, 2, 3, 4])]) (hv := []) fr_135_ok fv_waysq_ok (fw_c0 _ _) hw_

theorem lm_k_measureParts_25 {Post : Option fw_V → fw_W → Prop} {d : Nat} {W : fw_W} {wi : Int} (hpre : 0 ≤ (fw_g W 12 0) ∧ (fw_g W 12 0) ≤ 14) (hP : ∀ (v : Int) (W2 : fw_W), fw_sm [222] 0 [] W W2 → (-2147483648 ≤ v ∧ v ≤ 2147483647 ∧ (True)) → Post (some (.inl v)) W2) (M4 : Int) (h4 : ∀ (lo h : Int) (f : fw_W), 0 ≤ h → ((fw_g W 12 0) - h) < M4 → jf fw_T (d + 1) 135 4 [(0, .inr (.inl 203)), (1, .inl wi), (2, .inl lo), (3, .inl h)] [] (fw_put [222] 0 [] W f) Post) : ∀ (m : Nat) (lo h o : Int) (f : fw_W), ((fw_g W 12 0) - o).toNat = m → 0 ≤ o ∧ 0 ≤ h ∧ h < (fw_g W 12 0) → ((fw_g W 12 0) - h) ≤ M4 → jf fw_T (d + 1) 135 25 [(0, .inr (.inl 203)), (1, .inl wi), (2, .inl lo), (3, .inl h), (4, .inl o)] [] (fw_put [222] 0 [] W f) Post := by
  intro m
  induction m using Nat.strongRecOn with
  | ind m ih =>
    intro lo h o f hm hi e4
    refine jf_rng (fun hrg => ?_)
    have hrg : -2147483648 ≤ wi ∧ wi ≤ 2147483647 ∧ -2147483648 ≤ lo ∧ lo ≤ 2147483647 ∧ -2147483648 ≤ h ∧ h ≤ 2147483647 ∧ -2147483648 ≤ o ∧ o ≤ 2147483647 ∧ True := hrg
    refine s_k_measureParts_25 ?_
    repeat' (first
      | (exact True.intro)
      | (exact hpre.1)
      | (refine And.intro ?_ ?_)
      | (refine jf_put (S := [222]) (o := 0) (F := []) (W := W) (by repeat (first | exact fw_sm_refl | exact fw_sm_put0 | refine fw_sm_arr ?_ rfl | refine fw_sm_up ?_ rfl | refine fw_sm_put ?_ rfl | refine fw_sm_cp ?_ rfl)) (h4 _ _ _ ?_ (by omega)); (first | omega | trivial | (simp (config := { decide := true }) only [fg_in, fg_fin, fg_out, fg_fout, fg_up, fg_same, true_and, and_true] <;> omega)))
      | (refine jf_put (S := [222]) (o := 0) (F := []) (W := W) (by repeat (first | exact fw_sm_refl | exact fw_sm_put0 | refine fw_sm_arr ?_ rfl | refine fw_sm_up ?_ rfl | refine fw_sm_put ?_ rfl | refine fw_sm_cp ?_ rfl)) (ih _ (by omega) _ _ _ _ rfl ?_ (by omega)); (first | omega | trivial | (simp (config := { decide := true }) only [fg_in, fg_fin, fg_out, fg_fout, fg_up, fg_same, true_and, and_true] <;> omega)))
      | (refine hP _ _ (by repeat (first | exact fw_sm_refl | exact fw_sm_put0 | refine fw_sm_arr ?_ rfl | refine fw_sm_up ?_ rfl | refine fw_sm_put ?_ rfl | refine fw_sm_cp ?_ rfl)) ?_; (refine ⟨by omega, by omega, ?_⟩; (first | trivial | omega)))
      | omega
      | (intro _))
theorem lm_k_measureParts_4 {Post : Option fw_V → fw_W → Prop} {d : Nat} {W : fw_W} {wi : Int} (hpre : 0 ≤ (fw_g W 12 0) ∧ (fw_g W 12 0) ≤ 14) (hP : ∀ (v : Int) (W2 : fw_W), fw_sm [222] 0 [] W W2 → (-2147483648 ≤ v ∧ v ≤ 2147483647 ∧ (True)) → Post (some (.inl v)) W2)  : ∀ (m : Nat) (lo h : Int) (f : fw_W), ((fw_g W 12 0) - h).toNat = m → 0 ≤ h → jf fw_T (d + 1) 135 4 [(0, .inr (.inl 203)), (1, .inl wi), (2, .inl lo), (3, .inl h)] [] (fw_put [222] 0 [] W f) Post := by
  intro m
  induction m using Nat.strongRecOn with
  | ind m ih =>
    intro lo h f hm hi
    refine jf_rng (fun hrg => ?_)
    have hrg : -2147483648 ≤ wi ∧ wi ≤ 2147483647 ∧ -2147483648 ≤ lo ∧ lo ≤ 2147483647 ∧ -2147483648 ≤ h ∧ h ≤ 2147483647 ∧ True := hrg
    refine s_k_measureParts_4 ?_
    repeat' (first
      | (exact True.intro)
      | (exact hpre.1)
      | (refine And.intro ?_ ?_)
      | (refine jf_put (S := [222]) (o := 0) (F := []) (W := W) (by repeat (first | exact fw_sm_refl | exact fw_sm_put0 | refine fw_sm_arr ?_ rfl | refine fw_sm_up ?_ rfl | refine fw_sm_put ?_ rfl | refine fw_sm_cp ?_ rfl)) (ih _ (by omega) _ _ _ rfl ?_); (first | omega | trivial | (simp (config := { decide := true }) only [fg_in, fg_fin, fg_out, fg_fout, fg_up, fg_same, true_and, and_true] <;> omega)))
      | (refine jf_put (S := [222]) (o := 0) (F := []) (W := W) (by repeat (first | exact fw_sm_refl | exact fw_sm_put0 | refine fw_sm_arr ?_ rfl | refine fw_sm_up ?_ rfl | refine fw_sm_put ?_ rfl | refine fw_sm_cp ?_ rfl)) (lm_k_measureParts_25 (wi := wi) hpre hP ((fw_g W 12 0) - h) (fun a0 a1 af hi hl => ih _ (by omega) a0 a1 af rfl hi) _ _ _ _ _ rfl ?_ (by omega)); (first | omega | trivial | (simp (config := { decide := true }) only [fg_in, fg_fin, fg_out, fg_fout, fg_up, fg_same, true_and, and_true] <;> omega)))
      | (refine hP _ _ (by repeat (first | exact fw_sm_refl | exact fw_sm_put0 | refine fw_sm_arr ?_ rfl | refine fw_sm_up ?_ rfl | refine fw_sm_put ?_ rfl | refine fw_sm_cp ?_ rfl)) ?_; (refine ⟨by omega, by omega, ?_⟩; (first | trivial | omega)))
      | omega
      | (intro _))
def x_k_measureParts : fw_X := fun as W Q => match as with
  | [.inr (.inl s_), .inl wi] => fw_if (Nat.beq s_ 203) ((0 ≤ (fw_g W 12 0) ∧ (fw_g W 12 0) ≤ 14) ∧ (∀ (v : Int) (f : fw_W), (-2147483648 ≤ v ∧ v ≤ 2147483647 ∧ (True)) → Q (some (.inl v)) (fw_put [222] 0 [] W f)))
  | _ => False
theorem x_k_measureParts_ok (d : Nat) (as : List fw_V) (W : fw_W) (Q : Option fw_V → fw_W → Prop) (hx : x_k_measureParts as W Q) : jf fw_T (d + 1) 135 0 (fw_args 0 as) [] W Q := by
  unfold x_k_measureParts at hx
  split at hx
  · rename_i s_ wi
    obtain ⟨e_, hpre, hQ⟩ := fw_if_ok hx
    have e_ := Nat.eq_of_beq_eq_true e_
    subst e_
    have hP : ∀ (v : Int) (W2 : fw_W), fw_sm [222] 0 [] W W2 → _ → Q (some (.inl v)) W2 := fun v W2 hs hr => fw_sm_use (Q := fun Z => Q (some (.inl v)) Z) hs (hQ v W2 hr)
    refine s_k_measureParts_0 ?_
    repeat' (first
      | (exact True.intro)
      | (exact hpre.1)
      | (refine And.intro ?_ ?_)
      | (refine jf_put (S := [222]) (o := 0) (F := []) (W := W) (by repeat (first | exact fw_sm_refl | exact fw_sm_put0 | refine fw_sm_arr ?_ rfl | refine fw_sm_up ?_ rfl | refine fw_sm_put ?_ rfl | refine fw_sm_cp ?_ rfl)) (lm_k_measureParts_4 (wi := wi) hpre hP _ _ _ _ rfl ?_); (first | omega | trivial | (simp (config := { decide := true }) only [fg_in, fg_fin, fg_out, fg_fout, fg_up, fg_same, true_and, and_true] <;> omega)))
      | (refine jf_put (S := [222]) (o := 0) (F := []) (W := W) (by repeat (first | exact fw_sm_refl | exact fw_sm_put0 | refine fw_sm_arr ?_ rfl | refine fw_sm_up ?_ rfl | refine fw_sm_put ?_ rfl | refine fw_sm_cp ?_ rfl)) (lm_k_measureParts_25 (wi := wi) hpre hP M4 h4 _ _ _ _ _ rfl ?_ (by omega)); (first | omega | trivial | (simp (config := { decide := true }) only [fg_in, fg_fin, fg_out, fg_fout, fg_up, fg_same, true_and, and_true] <;> omega)))
      | (refine hP _ _ (by repeat (first | exact fw_sm_refl | exact fw_sm_put0 | refine fw_sm_arr ?_ rfl | refine fw_sm_up ?_ rfl | refine fw_sm_put ?_ rfl | refine fw_sm_cp ?_ rfl)) ?_; (refine ⟨by omega, by omega, ?_⟩; (first | trivial | omega)))
      | omega
      | (intro _))
  · exact hx.elim

def fr_133 : fw_P := [(0, 2, 0, 0, 0), (1, 1, 1, 0, 0), (2, 64, 134, 1, 410), (5, 3, 2, 0, 0), (6, 2, 0, 0, 0), (7, 1, 2, 0, 0), (8, 64, 135, 1, 510), (11, 3, 3, 0, 0), (12, 0, 0, 0, 0), (13, 3, 4, 0, 0), (15, 0, 0, 0, 0), (16, 3, 5, 0, 0), (18, 1, 5, 0, 0), (20, 2, 0, 0, 0), (21, 50, 10, 5, 0), (24, 50, 9, 0, 0), (27, 13, 148, 0, 0), (30, 0, 0, 0, 0), (31, 3, 6, 0, 0), (33, 1, 6, 0, 0), (35, 2, 0, 0, 0), (36, 50, 10, 5, 0), (39, 50, 9, 0, 0), (42, 13, 142, 0, 0), (45, 1, 2, 0, 0), (46, 1, 5, 0, 0), (48, 40, 0, 0, 0), (49, 0, 0, 0, 1), (50, 36, 0, 0, 0), (51, 20, 136, 0, 0), (54, 1, 2, 0, 0), (55, 1, 6, 0, 0), (57, 40, 0, 0, 0), (58, 0, 0, 0, 1), (59, 36, 0, 0, 0), (60, 20, 66, 0, 0), (63, 6, 136, 0, 0), (66, 2, 0, 0, 0), (67, 50, 10, 8, 0), (70, 1, 5, 0, 0), (72, 52, 0, 0, 0), (73, 2, 0, 0, 0), (74, 50, 10, 5, 0), (77, 50, 9, 3, 0), (80, 1, 1, 0, 0), (81, 52, 0, 0, 0), (82, 30, 0, 0, 0), (83, 2, 0, 0, 0), (84, 50, 10, 8, 0), (87, 1, 6, 0, 0), (89, 52, 0, 0, 0), (90, 30, 0, 0, 0), (91, 3, 7, 0, 0), (93, 1, 3, 0, 0), (94, 1, 7, 0, 0), (96, 60, 0, 0, 0), (99, 3, 8, 0, 0), (101, 1, 4, 0, 0), (103, 20, 115, 0, 0), (106, 1, 8, 0, 0), (108, 2, 0, 0, 0), (109, 50, 10, 2, 0), (112, 13, 136, 0, 0), (115, 0, 0, 0, 1), (116, 3, 4, 0, 0), (118, 2, 0, 0, 0), (119, 1, 8, 0, 0), (121, 51, 10, 2, 0), (124, 2, 0, 0, 0), (125, 1, 5, 0, 0), (127, 51, 10, 3, 0), (130, 2, 0, 0, 0), (131, 1, 6, 0, 0), (133, 51, 10, 4, 0), (136, 5, 6, 0, 1), (139, 6, 33, 0, 0), (142, 5, 5, 0, 1), (145, 6, 18, 0, 0), (148, 72, 0, 0, 0)]
theorem fr_133_ok : fw_mk 133 9 10 none fr_133 = true := by decide +kernel
def ct_k_joinElsewhere : List (Nat × fw_X) := [(134, x_k_maskWithin), (135, x_k_measureParts)]
theorem ct_k_joinElsewhere_ok (d : Nat) : fw_cok fw_T (d + 3) ct_k_joinElsewhere := by
  intro q hq as W Q h
  simp only [ct_k_joinElsewhere, List.mem_cons, List.not_mem_nil, or_false] at hq
  rcases hq with rfl | rfl
  · exact jc_of (x_k_maskWithin_ok (d + 0) as W Q h)
  · exact jc_of (x_k_measureParts_ok (d + 2) as W Q h)
theorem s_k_joinElsewhere_0 {Post : Option fw_V → fw_W → Prop} {d : Nat} {W : fw_W} {h : Int}
    (hw_ : (tr ((fw_g W 12 0)) (fun z_ => (fw_g W 13 z_)) ∧ 0 ≤ (fw_g W 12 0) ∧ (fw_g W 12 0) ≤ 14) ∧ (∀ (r1 : Int), ((-2147483648 ≤ r1 ∧ r1 ≤ 2147483647 ∧ (True))) → (0 ≤ (fw_g W 12 0) ∧ (fw_g W 12 0) ≤ 14) ∧ (∀ (r2 : Int) (f3 : fw_W), ((-2147483648 ≤ r2 ∧ r2 ≤ 2147483647 ∧ (True))) → jf fw_T (d + 4) 133 18 [(0, .inr (.inl 203)), (1, .inl h), (2, .inl r1), (3, .inl r2), (4, .inl (0 : Int)), (5, .inl (0 : Int))] [] (fw_put [222] 0 [] W f3) Post))) :
    jf fw_T (d + 4) 133 0 [(0, .inr (.inl 203)), (1, .inl h)] [] W Post := fw_ok (n := 13) (ss := [(18, [0, 1, 2, 3, 4, 5]), (33, [0, 1, 2, 3, 4, 5, 6])]) (hv := [82, 90]) fr_133_ok fv_waysq_ok (ct_k_joinElsewhere_ok d) hw_

theorem s_k_joinElsewhere_33 {Post : Option fw_V → fw_W → Prop} {d : Nat} {W : fw_W} {h wi la fo i o : Int} {f : fw_W}
    (hw_ : (0 ≤ (fw_g W 12 0) → (fw_g W 12 0) ≤ 14 → (((fw_g W 12 0) ≤ o → -2147483648 ≤ i + (1 : Int) ∧ i + (1 : Int) ≤ 2147483647 ∧ (jf fw_T (d + 4) 133 18 [(0, .inr (.inl 203)), (1, .inl h), (2, .inl wi), (3, .inl la), (4, .inl fo), (5, .inl (i + (1 : Int)))] [] (fw_put [222] 0 [203002, 203003, 203004] W f) Post)) ∧ (o < (fw_g W 12 0) → (-2147483648 ≤ (fw_shr wi i) → (fw_shr wi i) ≤ 2147483647 → (-2147483648 ≤ (fw_and (fw_shr wi i) (1 : Int)) → (fw_and (fw_shr wi i) (1 : Int)) ≤ 2147483647 → (((fw_and (fw_shr wi i) (1 : Int)) = 0 → -2147483648 ≤ o + (1 : Int) ∧ o + (1 : Int) ≤ 2147483647 ∧ (jf fw_T (d + 4) 133 33 [(0, .inr (.inl 203)), (1, .inl h), (2, .inl wi), (3, .inl la), (4, .inl fo), (5, .inl i), (6, .inl (o + (1 : Int)))] [] (fw_put [222] 0 [203002, 203003, 203004] W f) Post)) ∧ (¬ (fw_and (fw_shr wi i) (1 : Int)) = 0 → (-2147483648 ≤ (fw_shr wi o) → (fw_shr wi o) ≤ 2147483647 → (-2147483648 ≤ (fw_and (fw_shr wi o) (1 : Int)) → (fw_and (fw_shr wi o) (1 : Int)) ≤ 2147483647 → (((fw_and (fw_shr wi o) (1 : Int)) = 0 → 0 ≤ i ∧ i < 14 ∧ (-2147483648 ≤ (fw_g f 222 i) → (fw_g f 222 i) ≤ 2147483647 → 0 ≤ h ∧ h < 14 ∧ (0 ≤ (fw_g W 14 h) → (fw_g W 14 h) ≤ 99 → ∀ v1 : Int, -2147483648 ≤ v1 → v1 ≤ 2147483647 → 0 ≤ o ∧ o < 14 ∧ (-2147483648 ≤ (fw_g f 222 o) → (fw_g f 222 o) ≤ 2147483647 → ∀ v2 : Int, -2147483648 ≤ v2 → v2 ≤ 2147483647 → ((fo = 0 → -2147483648 ≤ (max la v2) ∧ (max la v2) ≤ 2147483647 ∧ (-2147483648 ≤ i ∧ i ≤ 2147483647 ∧ (-2147483648 ≤ o ∧ o ≤ 2147483647 ∧ (-2147483648 ≤ o + (1 : Int) ∧ o + (1 : Int) ≤ 2147483647 ∧ (jf fw_T (d + 4) 133 33 [(0, .inr (.inl 203)), (1, .inl h), (2, .inl wi), (3, .inl la), (4, .inl (1 : Int)), (5, .inl i), (6, .inl (o + (1 : Int)))] [] (fw_up (fw_up (fw_up (fw_put [222] 0 [203002, 203003, 203004] W f) 203 2 (max la v2)) 203 3 i) 203 4 o) Post))))) ∧ (¬ fo = 0 → (-2147483648 ≤ (fw_g f 203 2) → (fw_g f 203 2) ≤ 2147483647 → (((fw_g f 203 2) ≤ (max la v2) → -2147483648 ≤ o + (1 : Int) ∧ o + (1 : Int) ≤ 2147483647 ∧ (jf fw_T (d + 4) 133 33 [(0, .inr (.inl 203)), (1, .inl h), (2, .inl wi), (3, .inl la), (4, .inl fo), (5, .inl i), (6, .inl (o + (1 : Int)))] [] (fw_put [222] 0 [203002, 203003, 203004] W f) Post)) ∧ ((max la v2) < (fw_g f 203 2) → -2147483648 ≤ (max la v2) ∧ (max la v2) ≤ 2147483647 ∧ (-2147483648 ≤ i ∧ i ≤ 2147483647 ∧ (-2147483648 ≤ o ∧ o ≤ 2147483647 ∧ (-2147483648 ≤ o + (1 : Int) ∧ o + (1 : Int) ≤ 2147483647 ∧ (jf fw_T (d + 4) 133 33 [(0, .inr (.inl 203)), (1, .inl h), (2, .inl wi), (3, .inl la), (4, .inl (1 : Int)), (5, .inl i), (6, .inl (o + (1 : Int)))] [] (fw_up (fw_up (fw_up (fw_put [222] 0 [203002, 203003, 203004] W f) 203 2 (max la v2)) 203 3 i) 203 4 o) Post))))))))))))) ∧ (¬ (fw_and (fw_shr wi o) (1 : Int)) = 0 → -2147483648 ≤ o + (1 : Int) ∧ o + (1 : Int) ≤ 2147483647 ∧ (jf fw_T (d + 4) 133 33 [(0, .inr (.inl 203)), (1, .inl h), (2, .inl wi), (3, .inl la), (4, .inl fo), (5, .inl i), (6, .inl (o + (1 : Int)))] [] (fw_put [222] 0 [203002, 203003, 203004] W f) Post))))))))))))) :
    jf fw_T (d + 4) 133 33 [(0, .inr (.inl 203)), (1, .inl h), (2, .inl wi), (3, .inl la), (4, .inl fo), (5, .inl i), (6, .inl o)] [] (fw_put [222] 0 [203002, 203003, 203004] W f) Post := fw_ok (n := 57) (ss := [(18, [0, 1, 2, 3, 4, 5]), (33, [0, 1, 2, 3, 4, 5, 6])]) (hv := [82, 90]) fr_133_ok fv_waysq_ok (ct_k_joinElsewhere_ok d) hw_

theorem s_k_joinElsewhere_18 {Post : Option fw_V → fw_W → Prop} {d : Nat} {W : fw_W} {h wi la fo i : Int} {f : fw_W}
    (hw_ : (0 ≤ (fw_g W 12 0) → (fw_g W 12 0) ≤ 14 → (((fw_g W 12 0) ≤ i → Post none (fw_put [222] 0 [203002, 203003, 203004] W f)) ∧ (i < (fw_g W 12 0) → jf fw_T (d + 4) 133 33 [(0, .inr (.inl 203)), (1, .inl h), (2, .inl wi), (3, .inl la), (4, .inl fo), (5, .inl i), (6, .inl (0 : Int))] [] (fw_put [222] 0 [203002, 203003, 203004] W f) Post)))) :
    jf fw_T (d + 4) 133 18 [(0, .inr (.inl 203)), (1, .inl h), (2, .inl wi), (3, .inl la), (4, .inl fo), (5, .inl i)] [] (fw_put [222] 0 [203002, 203003, 203004] W f) Post := fw_ok (n := 8) (ss := [(18, [0, 1, 2, 3, 4, 5]), (33, [0, 1, 2, 3, 4, 5, 6])]) (hv := [82, 90]) fr_133_ok fv_waysq_ok (ct_k_joinElsewhere_ok d) hw_

theorem lm_k_joinElsewhere_33 {Post : Option fw_V → fw_W → Prop} {d : Nat} {W : fw_W} {h : Int} (hpre : tr ((fw_g W 12 0)) (fun z_ => (fw_g W 13 z_)) ∧ 0 ≤ (fw_g W 12 0) ∧ (fw_g W 12 0) ≤ 14 ∧ 0 ≤ h ∧ h < 14) (hP : ∀ (W2 : fw_W), fw_sm [222] 0 [203002, 203003, 203004] W W2 → (True) → Post none W2) (M18 : Int) (h18 : ∀ (wi la fo i : Int) (f : fw_W), 0 ≤ i → ((fw_g W 12 0) - i) < M18 → jf fw_T (d + 4) 133 18 [(0, .inr (.inl 203)), (1, .inl h), (2, .inl wi), (3, .inl la), (4, .inl fo), (5, .inl i)] [] (fw_put [222] 0 [203002, 203003, 203004] W f) Post) : ∀ (m : Nat) (wi la fo i o : Int) (f : fw_W), ((fw_g W 12 0) - o).toNat = m → 0 ≤ o ∧ 0 ≤ i ∧ i < (fw_g W 12 0) → ((fw_g W 12 0) - i) ≤ M18 → jf fw_T (d + 4) 133 33 [(0, .inr (.inl 203)), (1, .inl h), (2, .inl wi), (3, .inl la), (4, .inl fo), (5, .inl i), (6, .inl o)] [] (fw_put [222] 0 [203002, 203003, 203004] W f) Post := by
  intro m
  induction m using Nat.strongRecOn with
  | ind m ih =>
    intro wi la fo i o f hm hi e18
    refine jf_rng (fun hrg => ?_)
    have hrg : -2147483648 ≤ h ∧ h ≤ 2147483647 ∧ -2147483648 ≤ wi ∧ wi ≤ 2147483647 ∧ -2147483648 ≤ la ∧ la ≤ 2147483647 ∧ -2147483648 ≤ fo ∧ fo ≤ 2147483647 ∧ -2147483648 ≤ i ∧ i ≤ 2147483647 ∧ -2147483648 ≤ o ∧ o ≤ 2147483647 ∧ True := hrg
    refine s_k_joinElsewhere_33 ?_
    repeat' (first
      | (exact True.intro)
      | (exact hpre.1)
      | (refine And.intro ?_ ?_)
      | (refine (h18 _ _ _ _ _ ?_ (by omega)); (first | omega | trivial | (simp (config := { decide := true }) only [fg_in, fg_fin, fg_out, fg_fout, fg_up, fg_same, true_and, and_true] <;> omega)))
      | (refine jf_put (S := [222]) (o := 0) (F := [203002, 203003, 203004]) (W := W) (by repeat (first | exact fw_sm_refl | exact fw_sm_put0 | refine fw_sm_arr ?_ rfl | refine fw_sm_up ?_ rfl | refine fw_sm_put ?_ rfl | refine fw_sm_cp ?_ rfl)) (h18 _ _ _ _ _ ?_ (by omega)); (first | omega | trivial | (simp (config := { decide := true }) only [fg_in, fg_fin, fg_out, fg_fout, fg_up, fg_same, true_and, and_true] <;> omega)))
      | (refine (ih _ (by omega) _ _ _ _ _ _ rfl ?_ (by omega)); (first | omega | trivial | (simp (config := { decide := true }) only [fg_in, fg_fin, fg_out, fg_fout, fg_up, fg_same, true_and, and_true] <;> omega)))
      | (refine jf_put (S := [222]) (o := 0) (F := [203002, 203003, 203004]) (W := W) (by repeat (first | exact fw_sm_refl | exact fw_sm_put0 | refine fw_sm_arr ?_ rfl | refine fw_sm_up ?_ rfl | refine fw_sm_put ?_ rfl | refine fw_sm_cp ?_ rfl)) (ih _ (by omega) _ _ _ _ _ _ rfl ?_ (by omega)); (first | omega | trivial | (simp (config := { decide := true }) only [fg_in, fg_fin, fg_out, fg_fout, fg_up, fg_same, true_and, and_true] <;> omega)))
      | (refine hP _ (by repeat (first | exact fw_sm_refl | exact fw_sm_put0 | refine fw_sm_arr ?_ rfl | refine fw_sm_up ?_ rfl | refine fw_sm_put ?_ rfl | refine fw_sm_cp ?_ rfl)) ?_; (first | trivial | omega))
      | omega
      | (intro _))
theorem lm_k_joinElsewhere_18 {Post : Option fw_V → fw_W → Prop} {d : Nat} {W : fw_W} {h : Int} (hpre : tr ((fw_g W 12 0)) (fun z_ => (fw_g W 13 z_)) ∧ 0 ≤ (fw_g W 12 0) ∧ (fw_g W 12 0) ≤ 14 ∧ 0 ≤ h ∧ h < 14) (hP : ∀ (W2 : fw_W), fw_sm [222] 0 [203002, 203003, 203004] W W2 → (True) → Post none W2)  : ∀ (m : Nat) (wi la fo i : Int) (f : fw_W), ((fw_g W 12 0) - i).toNat = m → 0 ≤ i → jf fw_T (d + 4) 133 18 [(0, .inr (.inl 203)), (1, .inl h), (2, .inl wi), (3, .inl la), (4, .inl fo), (5, .inl i)] [] (fw_put [222] 0 [203002, 203003, 203004] W f) Post := by
  intro m
  induction m using Nat.strongRecOn with
  | ind m ih =>
    intro wi la fo i f hm hi
    refine jf_rng (fun hrg => ?_)
    have hrg : -2147483648 ≤ h ∧ h ≤ 2147483647 ∧ -2147483648 ≤ wi ∧ wi ≤ 2147483647 ∧ -2147483648 ≤ la ∧ la ≤ 2147483647 ∧ -2147483648 ≤ fo ∧ fo ≤ 2147483647 ∧ -2147483648 ≤ i ∧ i ≤ 2147483647 ∧ True := hrg
    refine s_k_joinElsewhere_18 ?_
    repeat' (first
      | (exact True.intro)
      | (exact hpre.1)
      | (refine And.intro ?_ ?_)
      | (refine (ih _ (by omega) _ _ _ _ _ rfl ?_); (first | omega | trivial | (simp (config := { decide := true }) only [fg_in, fg_fin, fg_out, fg_fout, fg_up, fg_same, true_and, and_true] <;> omega)))
      | (refine jf_put (S := [222]) (o := 0) (F := [203002, 203003, 203004]) (W := W) (by repeat (first | exact fw_sm_refl | exact fw_sm_put0 | refine fw_sm_arr ?_ rfl | refine fw_sm_up ?_ rfl | refine fw_sm_put ?_ rfl | refine fw_sm_cp ?_ rfl)) (ih _ (by omega) _ _ _ _ _ rfl ?_); (first | omega | trivial | (simp (config := { decide := true }) only [fg_in, fg_fin, fg_out, fg_fout, fg_up, fg_same, true_and, and_true] <;> omega)))
      | (refine (lm_k_joinElsewhere_33 (h := h) hpre hP ((fw_g W 12 0) - i) (fun a0 a1 a2 a3 af hi hl => ih _ (by omega) a0 a1 a2 a3 af rfl hi) _ _ _ _ _ _ _ rfl ?_ (by omega)); (first | omega | trivial | (simp (config := { decide := true }) only [fg_in, fg_fin, fg_out, fg_fout, fg_up, fg_same, true_and, and_true] <;> omega)))
      | (refine jf_put (S := [222]) (o := 0) (F := [203002, 203003, 203004]) (W := W) (by repeat (first | exact fw_sm_refl | exact fw_sm_put0 | refine fw_sm_arr ?_ rfl | refine fw_sm_up ?_ rfl | refine fw_sm_put ?_ rfl | refine fw_sm_cp ?_ rfl)) (lm_k_joinElsewhere_33 (h := h) hpre hP ((fw_g W 12 0) - i) (fun a0 a1 a2 a3 af hi hl => ih _ (by omega) a0 a1 a2 a3 af rfl hi) _ _ _ _ _ _ _ rfl ?_ (by omega)); (first | omega | trivial | (simp (config := { decide := true }) only [fg_in, fg_fin, fg_out, fg_fout, fg_up, fg_same, true_and, and_true] <;> omega)))
      | (refine hP _ (by repeat (first | exact fw_sm_refl | exact fw_sm_put0 | refine fw_sm_arr ?_ rfl | refine fw_sm_up ?_ rfl | refine fw_sm_put ?_ rfl | refine fw_sm_cp ?_ rfl)) ?_; (first | trivial | omega))
      | omega
      | (intro _))
def x_k_joinElsewhere : fw_X := fun as W Q => match as with
  | [.inr (.inl s_), .inl h] => fw_if (Nat.beq s_ 203) ((tr ((fw_g W 12 0)) (fun z_ => (fw_g W 13 z_)) ∧ 0 ≤ (fw_g W 12 0) ∧ (fw_g W 12 0) ≤ 14 ∧ 0 ≤ h ∧ h < 14) ∧ (∀ (f : fw_W), (True) → Q none (fw_put [222] 0 [203002, 203003, 203004] W f)))
  | _ => False
theorem x_k_joinElsewhere_ok (d : Nat) (as : List fw_V) (W : fw_W) (Q : Option fw_V → fw_W → Prop) (hx : x_k_joinElsewhere as W Q) : jf fw_T (d + 4) 133 0 (fw_args 0 as) [] W Q := by
  unfold x_k_joinElsewhere at hx
  split at hx
  · rename_i s_ h
    obtain ⟨e_, hpre, hQ⟩ := fw_if_ok hx
    have e_ := Nat.eq_of_beq_eq_true e_
    subst e_
    have hP : ∀ (W2 : fw_W), fw_sm [222] 0 [203002, 203003, 203004] W W2 → _ → Q none W2 := fun W2 hs hr => fw_sm_use (Q := fun Z => Q none Z) hs (hQ W2 hr)
    refine s_k_joinElsewhere_0 ?_
    repeat' (first
      | (exact hpre.1)
      | (exact True.intro)
      | (exact hpre.1)
      | (refine And.intro ?_ ?_)
      | (refine jf_put (S := [222]) (o := 0) (F := [203002, 203003, 203004]) (W := W) (by repeat (first | exact fw_sm_refl | exact fw_sm_put0 | refine fw_sm_arr ?_ rfl | refine fw_sm_up ?_ rfl | refine fw_sm_put ?_ rfl | refine fw_sm_cp ?_ rfl)) (lm_k_joinElsewhere_18 (h := h) hpre hP _ _ _ _ _ _ rfl ?_); (first | omega | trivial | (simp (config := { decide := true }) only [fg_in, fg_fin, fg_out, fg_fout, fg_up, fg_same, true_and, and_true] <;> omega)))
      | (refine jf_put (S := [222]) (o := 0) (F := [203002, 203003, 203004]) (W := W) (by repeat (first | exact fw_sm_refl | exact fw_sm_put0 | refine fw_sm_arr ?_ rfl | refine fw_sm_up ?_ rfl | refine fw_sm_put ?_ rfl | refine fw_sm_cp ?_ rfl)) (lm_k_joinElsewhere_33 (h := h) hpre hP M18 h18 _ _ _ _ _ _ _ rfl ?_ (by omega)); (first | omega | trivial | (simp (config := { decide := true }) only [fg_in, fg_fin, fg_out, fg_fout, fg_up, fg_same, true_and, and_true] <;> omega)))
      | (refine hP _ (by repeat (first | exact fw_sm_refl | exact fw_sm_put0 | refine fw_sm_arr ?_ rfl | refine fw_sm_up ?_ rfl | refine fw_sm_put ?_ rfl | refine fw_sm_cp ?_ rfl)) ?_; (first | trivial | omega))
      | omega
      | (intro _))
  · exact hx.elim

def fr_150 : fw_P := [(0, 2, 0, 0, 0), (1, 50, 11, 2, 0), (4, 1, 1, 0, 0), (5, 64, 111, 1, 209), (8, 20, 24, 0, 0), (11, 1, 1, 0, 0), (12, 20, 24, 0, 0), (15, 1, 2, 0, 0), (16, 22, 24, 0, 0), (19, 1, 2, 0, 0), (20, 0, 0, 0, 2), (21, 15, 26, 0, 0), (24, 0, 0, 0, -1), (25, 70, 0, 0, 0), (26, 2, 0, 0, 0), (27, 50, 11, 5, 0), (30, 1, 1, 0, 0), (31, 64, 133, 1, 910), (34, 1, 2, 0, 0), (35, 21, 46, 0, 0), (38, 2, 0, 0, 0), (39, 50, 11, 5, 0), (42, 50, 10, 2, 0), (45, 70, 0, 0, 0), (46, 1, 2, 0, 0), (47, 0, 0, 0, 1), (48, 11, 61, 0, 0), (51, 2, 0, 0, 0), (52, 50, 11, 5, 0), (55, 50, 10, 3, 0), (58, 6, 68, 0, 0), (61, 2, 0, 0, 0), (62, 50, 11, 5, 0), (65, 50, 10, 4, 0), (68, 70, 0, 0, 0)]
theorem fr_150_ok : fw_mk 150 3 11 (some .int) fr_150 = true := by decide +kernel
def ct_k_joined : List (Nat × fw_X) := [(111, x_k_has), (133, x_k_joinElsewhere)]
theorem ct_k_joined_ok (d : Nat) : fw_cok fw_T (d + 4) ct_k_joined := by
  intro q hq as W Q h
  simp only [ct_k_joined, List.mem_cons, List.not_mem_nil, or_false] at hq
  rcases hq with rfl | rfl
  · exact jc_of (x_k_has_ok (d + 3) as W Q h)
  · exact jc_of (x_k_joinElsewhere_ok (d + 0) as W Q h)
theorem s_k_joined_0 {Post : Option fw_V → fw_W → Prop} {d : Nat} {W : fw_W} {h wh : Int}
    (hw_ : (True) ∧ (∀ (r1 : Int), ((0 ≤ r1 ∧ r1 ≤ 1 ∧ ((r1 = 1 ∧ 0 ≤ h ∧ h < (fw_g W 12 0)) ∨ (r1 = 0 ∧ (h < 0 ∨ (fw_g W 12 0) ≤ h))))) → ((r1 = 0 → (-2147483648 ≤ (-1 : Int) → (-1 : Int) ≤ 2147483647 → Post (some (.inl (-1 : Int))) W)) ∧ (¬ r1 = 0 → ((h = 0 → (-2147483648 ≤ (-1 : Int) → (-1 : Int) ≤ 2147483647 → Post (some (.inl (-1 : Int))) W)) ∧ (¬ h = 0 → ((wh < 0 → (-2147483648 ≤ (-1 : Int) → (-1 : Int) ≤ 2147483647 → Post (some (.inl (-1 : Int))) W)) ∧ (0 ≤ wh → ((wh ≤ (2 : Int) → (tr ((fw_g W 12 0)) (fun z_ => (fw_g W 13 z_)) ∧ 0 ≤ (fw_g W 12 0) ∧ (fw_g W 12 0) ≤ 14 ∧ 0 ≤ h ∧ h < 14) ∧ (∀ (f2 : fw_W), ((True)) → ((¬ wh = 0 → ((¬ wh = (1 : Int) → (-2147483648 ≤ (fw_g f2 203 4) → (fw_g f2 203 4) ≤ 2147483647 → (-2147483648 ≤ (fw_g f2 203 4) → (fw_g f2 203 4) ≤ 2147483647 → Post (some (.inl (fw_g f2 203 4))) (fw_put [222] 0 [203002, 203003, 203004] W f2)))) ∧ (wh = (1 : Int) → (-2147483648 ≤ (fw_g f2 203 3) → (fw_g f2 203 3) ≤ 2147483647 → (-2147483648 ≤ (fw_g f2 203 3) → (fw_g f2 203 3) ≤ 2147483647 → Post (some (.inl (fw_g f2 203 3))) (fw_put [222] 0 [203002, 203003, 203004] W f2)))))) ∧ (wh = 0 → (-2147483648 ≤ (fw_g f2 203 2) → (fw_g f2 203 2) ≤ 2147483647 → (-2147483648 ≤ (fw_g f2 203 2) → (fw_g f2 203 2) ≤ 2147483647 → Post (some (.inl (fw_g f2 203 2))) (fw_put [222] 0 [203002, 203003, 203004] W f2))))))) ∧ ((2 : Int) < wh → (-2147483648 ≤ (-1 : Int) → (-1 : Int) ≤ 2147483647 → Post (some (.inl (-1 : Int))) W))))))))))) :
    jf fw_T (d + 5) 150 0 [(0, .inr (.inl 0)), (1, .inl h), (2, .inl wh)] [] W Post := fw_ok (n := 27) (ss := []) (hv := []) fr_150_ok fv_owt2_ok (ct_k_joined_ok d) hw_

def x_k_joined : fw_X := fun as W Q => match as with
  | [.inr (.inl s_), .inl h, .inl wh] => fw_if (Nat.beq s_ 0) ((tr ((fw_g W 12 0)) (fun z_ => (fw_g W 13 z_)) ∧ 0 ≤ (fw_g W 12 0) ∧ (fw_g W 12 0) ≤ 14) ∧ (∀ (v : Int) (f : fw_W), (-2147483648 ≤ v ∧ v ≤ 2147483647 ∧ (True)) → Q (some (.inl v)) (fw_put [222] 0 [203002, 203003, 203004] W f)))
  | _ => False
theorem x_k_joined_ok (d : Nat) (as : List fw_V) (W : fw_W) (Q : Option fw_V → fw_W → Prop) (hx : x_k_joined as W Q) : jf fw_T (d + 5) 150 0 (fw_args 0 as) [] W Q := by
  unfold x_k_joined at hx
  split at hx
  · rename_i s_ h wh
    obtain ⟨e_, hpre, hQ⟩ := fw_if_ok hx
    have e_ := Nat.eq_of_beq_eq_true e_
    subst e_
    have hP : ∀ (v : Int) (W2 : fw_W), fw_sm [222] 0 [203002, 203003, 203004] W W2 → _ → Q (some (.inl v)) W2 := fun v W2 hs hr => fw_sm_use (Q := fun Z => Q (some (.inl v)) Z) hs (hQ v W2 hr)
    refine s_k_joined_0 ?_
    repeat' (first
      | (exact hpre.1)
      | (exact True.intro)
      | (exact hpre.1)
      | (refine And.intro ?_ ?_)
      | (refine hP _ _ (by repeat (first | exact fw_sm_refl | exact fw_sm_put0 | refine fw_sm_arr ?_ rfl | refine fw_sm_up ?_ rfl | refine fw_sm_put ?_ rfl | refine fw_sm_cp ?_ rfl)) ?_; (refine ⟨by omega, by omega, ?_⟩; (first | trivial | omega)))
      | omega
      | (intro _))
  · exact hx.elim

