/-! the reference, method by method -/
def fr_251 : fw_P := [(0, 0, 0, 0, 0), (1, 3, 1, 0, 0), (2, 1, 0, 0, 0), (3, 3, 2, 0, 0), (4, 1, 2, 0, 0), (5, 20, 20, 0, 0), (8, 5, 1, 0, 1), (11, 1, 2, 0, 0), (12, 1, 2, 0, 0), (13, 0, 0, 0, 1), (14, 31, 0, 0, 0), (15, 36, 0, 0, 0), (16, 3, 2, 0, 0), (17, 6, 4, 0, 0), (20, 1, 1, 0, 0), (21, 70, 0, 0, 0)]
theorem fr_251_ok : fw_mk 251 3 12 (some .int) fr_251 = true := by decide +kernel
theorem s_bitsOf_0 {Post : Option fw_V → fw_W → Prop} {d : Nat} {W : fw_W} {s : Int}
    (hw_ : jf fw_T (d + 1) 251 4 [(1, .inl (0 : Int)), (2, .inl s)] [] W Post) :
    jf fw_T (d + 1) 251 0 [(0, .inl s)] [] W Post := fw_ok (n := 5) (ss := [(4, [1, 2])]) (hv := []) fr_251_ok fm_ok (fw_c0 _ _) hw_

theorem s_bitsOf_4 {Post : Option fw_V → fw_W → Prop} {d : Nat} {W : fw_W} {n k : Int}
    (hw_ : ((k = 0 → (-2147483648 ≤ n → n ≤ 2147483647 → Post (some (.inl n)) W)) ∧ (¬ k = 0 → -2147483648 ≤ n + (1 : Int) ∧ n + (1 : Int) ≤ 2147483647 ∧ (-2147483648 ≤ k - (1 : Int) ∧ k - (1 : Int) ≤ 2147483647 ∧ ((-2147483648 ≤ (fw_and k (k - (1 : Int))) → (fw_and k (k - (1 : Int))) ≤ 2147483647 → jf fw_T (d + 1) 251 4 [(1, .inl (n + (1 : Int))), (2, .inl (fw_and k (k - (1 : Int))))] [] W Post)))))) :
    jf fw_T (d + 1) 251 4 [(1, .inl n), (2, .inl k)] [] W Post := fw_ok (n := 11) (ss := [(4, [1, 2])]) (hv := []) fr_251_ok fm_ok (fw_c0 _ _) hw_

theorem lm_bitsOf_4 {Post : Option fw_V → fw_W → Prop} {d : Nat} {W : fw_W} {s : Int} (hpre : 0 ≤ s ∧ s ≤ 2147483647) (hP : ∀ (v : Int) , (-2147483648 ≤ v ∧ v ≤ 2147483647 ∧ (0 ≤ v)) → Post (some (.inl v)) W)  : ∀ (m : Nat) (n k : Int), (k).toNat = m → 0 ≤ k ∧ k ≤ 2147483647 ∧ 0 ≤ n ∧ n + k ≤ 2147483647 → jf fw_T (d + 1) 251 4 [(1, .inl n), (2, .inl k)] [] W Post := by
  intro m
  induction m using Nat.strongRecOn with
  | ind m ih =>
    intro n k hm hi
    refine jf_rng (fun hrg => ?_)
    have hrg : -2147483648 ≤ n ∧ n ≤ 2147483647 ∧ -2147483648 ≤ k ∧ k ≤ 2147483647 ∧ True := hrg
    refine s_bitsOf_4 ?_
    have a1 := fun h : 0 < k => fw_and_b k (y := k - 1) (by omega) (by omega)
    repeat' (first
      | (exact True.intro)
      | (exact hpre.1)
      | (refine And.intro ?_ ?_)
      | (refine (ih _ (by omega) _ _ rfl ?_); (first | omega | trivial))
      | (refine hP _ ?_; (refine ⟨by omega, by omega, ?_⟩; (first | trivial | omega)))
      | omega
      | (intro _))
def x_bitsOf : fw_X := fun as W Q => match as with
  | [.inl s] => (0 ≤ s ∧ s ≤ 2147483647) ∧ (∀ (v : Int), (-2147483648 ≤ v ∧ v ≤ 2147483647 ∧ (0 ≤ v)) → Q (some (.inl v)) W)
  | _ => False
theorem x_bitsOf_ok (d : Nat) (as : List fw_V) (W : fw_W) (Q : Option fw_V → fw_W → Prop) (hx : x_bitsOf as W Q) : jf fw_T (d + 1) 251 0 (fw_args 0 as) [] W Q := by
  unfold x_bitsOf at hx
  split at hx
  · rename_i s
    obtain ⟨hpre, hQ⟩ := hx
    have hP := hQ
    refine s_bitsOf_0 ?_
    repeat' (first
      | (exact True.intro)
      | (exact hpre.1)
      | (refine And.intro ?_ ?_)
      | (refine (lm_bitsOf_4 (s := s) hpre hP _ _ _ rfl ?_); (first | omega | trivial))
      | (refine hP _ ?_; (refine ⟨by omega, by omega, ?_⟩; (first | trivial | omega)))
      | omega
      | (intro _))
  · exact hx.elim

def fr_252 : fw_P := [(0, 1, 0, 0, 0), (1, 1, 1, 0, 0), (2, 38, 0, 0, 0), (3, 3, 2, 0, 0), (4, 1, 2, 0, 0), (5, 20, 21, 0, 0), (8, 1, 0, 0, 0), (9, 1, 2, 0, 0), (10, 36, 0, 0, 0), (11, 1, 2, 0, 0), (12, 35, 0, 0, 0), (13, 36, 0, 0, 0), (14, 20, 21, 0, 0), (17, 0, 0, 0, 1), (18, 6, 22, 0, 0), (21, 0, 0, 0, 0), (22, 71, 0, 0, 0)]
theorem fr_252_ok : fw_mk 252 3 12 (some .boolean) fr_252 = true := by decide +kernel
theorem s_isFirst_0 {Post : Option fw_V → fw_W → Prop} {d : Nat} {W : fw_W} {a b : Int}
    (hw_ : (-2147483648 ≤ (fw_xor a b) → (fw_xor a b) ≤ 2147483647 → (((fw_xor a b) = 0 → 0 ≤ (0 : Int) ∧ (0 : Int) ≤ 1 ∧ Post (some (.inl (0 : Int))) W) ∧ (¬ (fw_xor a b) = 0 → (-2147483648 ≤ (fw_and a (fw_xor a b)) → (fw_and a (fw_xor a b)) ≤ 2147483647 → ∀ v1 : Int, -2147483648 ≤ v1 → v1 ≤ 2147483647 → (-2147483648 ≤ (fw_and (fw_and a (fw_xor a b)) v1) → (fw_and (fw_and a (fw_xor a b)) v1) ≤ 2147483647 → (((fw_and (fw_and a (fw_xor a b)) v1) = 0 → 0 ≤ (0 : Int) ∧ (0 : Int) ≤ 1 ∧ Post (some (.inl (0 : Int))) W) ∧ (¬ (fw_and (fw_and a (fw_xor a b)) v1) = 0 → 0 ≤ (1 : Int) ∧ (1 : Int) ≤ 1 ∧ Post (some (.inl (1 : Int))) W)))))))) :
    jf fw_T (d + 1) 252 0 [(0, .inl a), (1, .inl b)] [] W Post := fw_ok (n := 17) (ss := []) (hv := [12]) fr_252_ok fm_ok (fw_c0 _ _) hw_

def x_isFirst : fw_X := fun as W Q => match as with
  | [.inl a, .inl b] => (True) ∧ (∀ (v : Int), (0 ≤ v ∧ v ≤ 1 ∧ (True)) → Q (some (.inl v)) W)
  | _ => False
theorem x_isFirst_ok (d : Nat) (as : List fw_V) (W : fw_W) (Q : Option fw_V → fw_W → Prop) (hx : x_isFirst as W Q) : jf fw_T (d + 1) 252 0 (fw_args 0 as) [] W Q := by
  unfold x_isFirst at hx
  split at hx
  · rename_i a b
    obtain ⟨hpre, hQ⟩ := hx
    have hP := hQ
    refine s_isFirst_0 ?_
    repeat' (first
      | (exact True.intro)
      | (exact hpre.1)
      | (refine And.intro ?_ ?_)
      | (refine hP _ ?_; (refine ⟨by omega, by omega, ?_⟩; (first | trivial | omega)))
      | omega
      | (intro _))
  · exact hx.elim

def fr_250 : fw_P := [(0, 0, 0, 0, 1), (1, 2, 0, 0, 0), (2, 64, 188, 0, 112), (5, 39, 0, 0, 0), (6, 70, 0, 0, 0)]
theorem fr_250_ok : fw_mk 250 1 12 (some .int) fr_250 = true := by decide +kernel
def ct_sets : List (Nat × fw_X) := [(188, x_many)]
theorem ct_sets_ok (d : Nat) : fw_cok fw_T (d + 1) ct_sets := by
  intro q hq as W Q h
  simp only [ct_sets, List.mem_cons, List.not_mem_nil, or_false] at hq
  rcases hq with rfl
  · exact jc_of (x_many_ok (d + 0) as W Q h)
theorem s_sets_0 {Post : Option fw_V → fw_W → Prop} {d : Nat} {W : fw_W}
    (hw_ : (True) ∧ ((-2147483648 ≤ (fw_shl (1 : Int) (fw_g W 366 0)) → (fw_shl (1 : Int) (fw_g W 366 0)) ≤ 2147483647 → (-2147483648 ≤ (fw_shl (1 : Int) (fw_g W 366 0)) → (fw_shl (1 : Int) (fw_g W 366 0)) ≤ 2147483647 → Post (some (.inl (fw_shl (1 : Int) (fw_g W 366 0)))) W)))) :
    jf fw_T (d + 2) 250 0 [(0, .inr (.inl 352))] [] W Post := fw_ok (n := 6) (ss := []) (hv := []) fr_250_ok fm_ok (ct_sets_ok d) hw_

def x_sets : fw_X := fun as W Q => match as with
  | [.inr (.inl s_)] => fw_if (Nat.beq s_ 352) ((True) ∧ Q (some (.inl (fw_shl 1 (fw_g W 366 0)))) W)
  | _ => False
theorem x_sets_ok (d : Nat) (as : List fw_V) (W : fw_W) (Q : Option fw_V → fw_W → Prop) (hx : x_sets as W Q) : jf fw_T (d + 2) 250 0 (fw_args 0 as) [] W Q := by
  unfold x_sets at hx
  split at hx
  · rename_i s_
    obtain ⟨e_, hpre, hQ⟩ := fw_if_ok hx
    have e_ := Nat.eq_of_beq_eq_true e_
    subst e_
    have hP : ∀ (v : Int), v = fw_shl 1 (fw_g W 366 0) → Q (some (.inl v)) W := fun v e => by subst e; exact hQ
    refine s_sets_0 ?_
    repeat' (first
      | (exact True.intro)
      | (exact hpre.1)
      | (refine And.intro ?_ ?_)
      | (refine hP _ ?_; (first | trivial | omega))
      | omega
      | (intro _))
  · exact hx.elim

def fr_249 : fw_P := [(0, 2, 0, 0, 0), (1, 64, 222, 0, 312), (4, 0, 0, 0, 0), (5, 3, 2, 0, 0), (6, 1, 2, 0, 0), (7, 2, 0, 0, 0), (8, 64, 188, 0, 112), (11, 13, 74, 0, 0), (14, 2, 0, 0, 0), (15, 50, 12, 31, 0), (18, 1, 2, 0, 0), (19, 0, 0, 0, 0), (20, 53, 0, 0, 0), (21, 0, 0, 0, 0), (22, 3, 3, 0, 0), (23, 1, 3, 0, 0), (24, 2, 0, 0, 0), (25, 64, 188, 0, 112), (28, 13, 68, 0, 0), (31, 2, 0, 0, 0), (32, 50, 12, 31, 0), (35, 1, 2, 0, 0), (36, 44, 0, 0, 0), (37, 52, 0, 0, 0), (38, 2, 0, 0, 0), (39, 50, 12, 25, 0), (42, 0, 0, 0, 14), (44, 1, 2, 0, 0), (45, 32, 0, 0, 0), (46, 1, 3, 0, 0), (47, 30, 0, 0, 0), (48, 52, 0, 0, 0), (49, 1, 1, 0, 0), (50, 14, 59, 0, 0), (53, 0, 0, 0, 1), (54, 1, 3, 0, 0), (55, 39, 0, 0, 0), (56, 6, 60, 0, 0), (59, 0, 0, 0, 0), (60, 37, 0, 0, 0), (61, 53, 0, 0, 0), (62, 5, 3, 0, 1), (65, 6, 23, 0, 0), (68, 5, 2, 0, 1), (71, 6, 6, 0, 0), (74, 72, 0, 0, 0)]
theorem fr_249_ok : fw_mk 249 4 12 none fr_249 = true := by decide +kernel
def ct_layNear : List (Nat × fw_X) := [(222, x_layWays), (188, x_many)]
theorem ct_layNear_ok (d : Nat) : fw_cok fw_T (d + 4) ct_layNear := by
  intro q hq as W Q h
  simp only [ct_layNear, List.mem_cons, List.not_mem_nil, or_false] at hq
  rcases hq with rfl | rfl
  · exact jc_of (x_layWays_ok (d + 0) as W Q h)
  · exact jc_of (x_many_ok (d + 3) as W Q h)
theorem s_layNear_0 {Post : Option fw_V → fw_W → Prop} {d : Nat} {W : fw_W} {d_ : Int}
    (hw_ : (mt W ∧ 0 ≤ (fw_g W 366 0) ∧ (fw_g W 366 0) ≤ 14) ∧ (∀ (f1 : fw_W), ((True)) → jf fw_T (d + 5) 249 6 [(0, .inr (.inl 352)), (1, .inl d_), (2, .inl (0 : Int))] [] (fw_put [367] 352 [] W f1) Post)) :
    jf fw_T (d + 5) 249 0 [(0, .inr (.inl 352)), (1, .inl d_)] [] W Post := fw_ok (n := 5) (ss := [(6, [0, 1, 2]), (23, [0, 1, 2, 3])]) (hv := []) fr_249_ok fm_ok (ct_layNear_ok d) hw_

theorem s_layNear_23 {Post : Option fw_V → fw_W → Prop} {d : Nat} {W : fw_W} {d_ h k : Int} {f : fw_W}
    (hw_ : (True) ∧ ((((fw_g W 366 0) ≤ k → -2147483648 ≤ h + (1 : Int) ∧ h + (1 : Int) ≤ 2147483647 ∧ (jf fw_T (d + 5) 249 6 [(0, .inr (.inl 352)), (1, .inl d_), (2, .inl (h + (1 : Int)))] [] (fw_put [367, 370] 352 [] W f) Post)) ∧ (k < (fw_g W 366 0) → 0 ≤ h ∧ h < 14 ∧ (-2147483648 ≤ (fw_g f 370 h) → (fw_g f 370 h) ≤ 2147483647 → -2147483648 ≤ (14 : Int) * h ∧ (14 : Int) * h ≤ 2147483647 ∧ (-2147483648 ≤ ((14 : Int) * h) + k ∧ ((14 : Int) * h) + k ≤ 2147483647 ∧ (0 ≤ (((14 : Int) * h) + k) ∧ (((14 : Int) * h) + k) < 196 ∧ (-2147483648 ≤ (fw_g f 367 (((14 : Int) * h) + k)) → (fw_g f 367 (((14 : Int) * h) + k)) ≤ 2147483647 → ((d_ < (fw_g f 367 (((14 : Int) * h) + k)) → (-2147483648 ≤ (fw_or (fw_g f 370 h) (0 : Int)) → (fw_or (fw_g f 370 h) (0 : Int)) ≤ 2147483647 → 0 ≤ h ∧ h < 14 ∧ -2147483648 ≤ (fw_or (fw_g f 370 h) (0 : Int)) ∧ (fw_or (fw_g f 370 h) (0 : Int)) ≤ 2147483647 ∧ (-2147483648 ≤ k + (1 : Int) ∧ k + (1 : Int) ≤ 2147483647 ∧ (jf fw_T (d + 5) 249 23 [(0, .inr (.inl 352)), (1, .inl d_), (2, .inl h), (3, .inl (k + (1 : Int)))] [] (fw_up (fw_put [367, 370] 352 [] W f) 370 h (fw_or (fw_g f 370 h) (0 : Int))) Post)))) ∧ ((fw_g f 367 (((14 : Int) * h) + k)) ≤ d_ → (-2147483648 ≤ (fw_shl (1 : Int) k) → (fw_shl (1 : Int) k) ≤ 2147483647 → (-2147483648 ≤ (fw_or (fw_g f 370 h) (fw_shl (1 : Int) k)) → (fw_or (fw_g f 370 h) (fw_shl (1 : Int) k)) ≤ 2147483647 → 0 ≤ h ∧ h < 14 ∧ -2147483648 ≤ (fw_or (fw_g f 370 h) (fw_shl (1 : Int) k)) ∧ (fw_or (fw_g f 370 h) (fw_shl (1 : Int) k)) ≤ 2147483647 ∧ (-2147483648 ≤ k + (1 : Int) ∧ k + (1 : Int) ≤ 2147483647 ∧ (jf fw_T (d + 5) 249 23 [(0, .inr (.inl 352)), (1, .inl d_), (2, .inl h), (3, .inl (k + (1 : Int)))] [] (fw_up (fw_put [367, 370] 352 [] W f) 370 h (fw_or (fw_g f 370 h) (fw_shl (1 : Int) k))) Post)))))))))))))) :
    jf fw_T (d + 5) 249 23 [(0, .inr (.inl 352)), (1, .inl d_), (2, .inl h), (3, .inl k)] [] (fw_put [367, 370] 352 [] W f) Post := fw_ok (n := 28) (ss := [(6, [0, 1, 2]), (23, [0, 1, 2, 3])]) (hv := []) fr_249_ok fm_ok (ct_layNear_ok d) hw_

theorem s_layNear_6 {Post : Option fw_V → fw_W → Prop} {d : Nat} {W : fw_W} {d_ h : Int} {f : fw_W}
    (hw_ : (True) ∧ ((((fw_g W 366 0) ≤ h → Post none (fw_put [367, 370] 352 [] W f)) ∧ (h < (fw_g W 366 0) → 0 ≤ h ∧ h < 14 ∧ -2147483648 ≤ (0 : Int) ∧ (0 : Int) ≤ 2147483647 ∧ (jf fw_T (d + 5) 249 23 [(0, .inr (.inl 352)), (1, .inl d_), (2, .inl h), (3, .inl (0 : Int))] [] (fw_up (fw_put [367, 370] 352 [] W f) 370 h (0 : Int)) Post))))) :
    jf fw_T (d + 5) 249 6 [(0, .inr (.inl 352)), (1, .inl d_), (2, .inl h)] [] (fw_put [367, 370] 352 [] W f) Post := fw_ok (n := 12) (ss := [(6, [0, 1, 2]), (23, [0, 1, 2, 3])]) (hv := []) fr_249_ok fm_ok (ct_layNear_ok d) hw_

theorem lm_layNear_23 {Post : Option fw_V → fw_W → Prop} {d : Nat} {W : fw_W} {d_ : Int} (hpre : mt W ∧ 0 ≤ (fw_g W 366 0) ∧ (fw_g W 366 0) ≤ 14) (hP : ∀ (W2 : fw_W), fw_sm [367, 370] 352 [] W W2 → (True) → Post none W2) (M6 : Int) (h6 : ∀ (h : Int) (f : fw_W), 0 ≤ h → ((fw_g W 366 0) - h) < M6 → jf fw_T (d + 5) 249 6 [(0, .inr (.inl 352)), (1, .inl d_), (2, .inl h)] [] (fw_put [367, 370] 352 [] W f) Post) : ∀ (m : Nat) (h k : Int) (f : fw_W), ((fw_g W 366 0) - k).toNat = m → 0 ≤ k ∧ 0 ≤ h ∧ h < (fw_g W 366 0) → ((fw_g W 366 0) - h) ≤ M6 → jf fw_T (d + 5) 249 23 [(0, .inr (.inl 352)), (1, .inl d_), (2, .inl h), (3, .inl k)] [] (fw_put [367, 370] 352 [] W f) Post := by
  intro m
  induction m using Nat.strongRecOn with
  | ind m ih =>
    intro h k f hm hi e6
    refine jf_rng (fun hrg => ?_)
    have hrg : -2147483648 ≤ d_ ∧ d_ ≤ 2147483647 ∧ -2147483648 ≤ h ∧ h ≤ 2147483647 ∧ -2147483648 ≤ k ∧ k ≤ 2147483647 ∧ True := hrg
    refine s_layNear_23 ?_
    repeat' (first
      | (exact True.intro)
      | (exact hpre.1)
      | (refine And.intro ?_ ?_)
      | (refine jf_put (S := [367, 370]) (o := 352) (F := []) (W := W) (by repeat (first | exact fw_sm_refl | exact fw_sm_put0 | refine fw_sm_arr ?_ rfl | refine fw_sm_up ?_ rfl | refine fw_sm_put ?_ rfl | refine fw_sm_cp ?_ rfl)) (h6 _ _ ?_ (by omega)); (first | omega | trivial | (simp (config := { decide := true }) only [fg_in, fg_fin, fg_out, fg_fout, fg_up, fg_same, true_and, and_true] <;> omega)))
      | (refine jf_put (S := [367, 370]) (o := 352) (F := []) (W := W) (by repeat (first | exact fw_sm_refl | exact fw_sm_put0 | refine fw_sm_arr ?_ rfl | refine fw_sm_up ?_ rfl | refine fw_sm_put ?_ rfl | refine fw_sm_cp ?_ rfl)) (ih _ (by omega) _ _ _ rfl ?_ (by omega)); (first | omega | trivial | (simp (config := { decide := true }) only [fg_in, fg_fin, fg_out, fg_fout, fg_up, fg_same, true_and, and_true] <;> omega)))
      | (refine hP _ (by repeat (first | exact fw_sm_refl | exact fw_sm_put0 | refine fw_sm_arr ?_ rfl | refine fw_sm_up ?_ rfl | refine fw_sm_put ?_ rfl | refine fw_sm_cp ?_ rfl)) ?_; (first | trivial | omega))
      | omega
      | (intro _))
theorem lm_layNear_6 {Post : Option fw_V → fw_W → Prop} {d : Nat} {W : fw_W} {d_ : Int} (hpre : mt W ∧ 0 ≤ (fw_g W 366 0) ∧ (fw_g W 366 0) ≤ 14) (hP : ∀ (W2 : fw_W), fw_sm [367, 370] 352 [] W W2 → (True) → Post none W2)  : ∀ (m : Nat) (h : Int) (f : fw_W), ((fw_g W 366 0) - h).toNat = m → 0 ≤ h → jf fw_T (d + 5) 249 6 [(0, .inr (.inl 352)), (1, .inl d_), (2, .inl h)] [] (fw_put [367, 370] 352 [] W f) Post := by
  intro m
  induction m using Nat.strongRecOn with
  | ind m ih =>
    intro h f hm hi
    refine jf_rng (fun hrg => ?_)
    have hrg : -2147483648 ≤ d_ ∧ d_ ≤ 2147483647 ∧ -2147483648 ≤ h ∧ h ≤ 2147483647 ∧ True := hrg
    refine s_layNear_6 ?_
    repeat' (first
      | (exact True.intro)
      | (exact hpre.1)
      | (refine And.intro ?_ ?_)
      | (refine jf_put (S := [367, 370]) (o := 352) (F := []) (W := W) (by repeat (first | exact fw_sm_refl | exact fw_sm_put0 | refine fw_sm_arr ?_ rfl | refine fw_sm_up ?_ rfl | refine fw_sm_put ?_ rfl | refine fw_sm_cp ?_ rfl)) (ih _ (by omega) _ _ rfl ?_); (first | omega | trivial | (simp (config := { decide := true }) only [fg_in, fg_fin, fg_out, fg_fout, fg_up, fg_same, true_and, and_true] <;> omega)))
      | (refine jf_put (S := [367, 370]) (o := 352) (F := []) (W := W) (by repeat (first | exact fw_sm_refl | exact fw_sm_put0 | refine fw_sm_arr ?_ rfl | refine fw_sm_up ?_ rfl | refine fw_sm_put ?_ rfl | refine fw_sm_cp ?_ rfl)) (lm_layNear_23 (d_ := d_) hpre hP ((fw_g W 366 0) - h) (fun a0 af hi hl => ih _ (by omega) a0 af rfl hi) _ _ _ _ rfl ?_ (by omega)); (first | omega | trivial | (simp (config := { decide := true }) only [fg_in, fg_fin, fg_out, fg_fout, fg_up, fg_same, true_and, and_true] <;> omega)))
      | (refine hP _ (by repeat (first | exact fw_sm_refl | exact fw_sm_put0 | refine fw_sm_arr ?_ rfl | refine fw_sm_up ?_ rfl | refine fw_sm_put ?_ rfl | refine fw_sm_cp ?_ rfl)) ?_; (first | trivial | omega))
      | omega
      | (intro _))
def x_layNear : fw_X := fun as W Q => match as with
  | [.inr (.inl s_), .inl d_] => fw_if (Nat.beq s_ 352) ((mt W ∧ 0 ≤ (fw_g W 366 0) ∧ (fw_g W 366 0) ≤ 14) ∧ (∀ (f : fw_W), (True) → Q none (fw_put [367, 370] 352 [] W f)))
  | _ => False
theorem x_layNear_ok (d : Nat) (as : List fw_V) (W : fw_W) (Q : Option fw_V → fw_W → Prop) (hx : x_layNear as W Q) : jf fw_T (d + 5) 249 0 (fw_args 0 as) [] W Q := by
  unfold x_layNear at hx
  split at hx
  · rename_i s_ d_
    obtain ⟨e_, hpre, hQ⟩ := fw_if_ok hx
    have e_ := Nat.eq_of_beq_eq_true e_
    subst e_
    have hP : ∀ (W2 : fw_W), fw_sm [367, 370] 352 [] W W2 → _ → Q none W2 := fun W2 hs hr => fw_sm_use (Q := fun Z => Q none Z) hs (hQ W2 hr)
    refine s_layNear_0 ?_
    repeat' (first
      | (exact True.intro)
      | (exact hpre.1)
      | (refine And.intro ?_ ?_)
      | (refine jf_put (S := [367, 370]) (o := 352) (F := []) (W := W) (by repeat (first | exact fw_sm_refl | exact fw_sm_put0 | refine fw_sm_arr ?_ rfl | refine fw_sm_up ?_ rfl | refine fw_sm_put ?_ rfl | refine fw_sm_cp ?_ rfl)) (lm_layNear_6 (d_ := d_) hpre hP _ _ _ rfl ?_); (first | omega | trivial | (simp (config := { decide := true }) only [fg_in, fg_fin, fg_out, fg_fout, fg_up, fg_same, true_and, and_true] <;> omega)))
      | (refine jf_put (S := [367, 370]) (o := 352) (F := []) (W := W) (by repeat (first | exact fw_sm_refl | exact fw_sm_put0 | refine fw_sm_arr ?_ rfl | refine fw_sm_up ?_ rfl | refine fw_sm_put ?_ rfl | refine fw_sm_cp ?_ rfl)) (lm_layNear_23 (d_ := d_) hpre hP M6 h6 _ _ _ _ rfl ?_ (by omega)); (first | omega | trivial | (simp (config := { decide := true }) only [fg_in, fg_fin, fg_out, fg_fout, fg_up, fg_same, true_and, and_true] <;> omega)))
      | (refine hP _ (by repeat (first | exact fw_sm_refl | exact fw_sm_put0 | refine fw_sm_arr ?_ rfl | refine fw_sm_up ?_ rfl | refine fw_sm_put ?_ rfl | refine fw_sm_cp ?_ rfl)) ?_; (first | trivial | omega))
      | omega
      | (intro _))
  · exact hx.elim

def fr_248 : fw_P := [(0, 2, 0, 0, 0), (1, 1, 1, 0, 0), (2, 64, 249, 1, 412), (5, 2, 0, 0, 0), (6, 64, 250, 0, 112), (9, 0, 0, 0, 1), (10, 31, 0, 0, 0), (11, 3, 2, 0, 0), (12, 0, 0, 0, 0), (13, 3, 3, 0, 0), (14, 1, 3, 0, 0), (15, 2, 0, 0, 0), (16, 64, 250, 0, 112), (19, 13, 113, 0, 0), (22, 1, 3, 0, 0), (23, 65, 251, 1, 300), (26, 1, 2, 0, 0), (27, 65, 251, 1, 300), (30, 14, 107, 0, 0), (33, 1, 3, 0, 0), (34, 65, 251, 1, 300), (37, 1, 2, 0, 0), (38, 65, 251, 1, 300), (41, 11, 55, 0, 0), (44, 1, 3, 0, 0), (45, 1, 2, 0, 0), (46, 65, 252, 2, 300), (49, 21, 55, 0, 0), (52, 6, 107, 0, 0), (55, 0, 0, 0, 1), (56, 3, 4, 0, 0), (58, 0, 0, 0, 0), (59, 3, 5, 0, 0), (61, 1, 5, 0, 0), (63, 2, 0, 0, 0), (64, 64, 188, 0, 112), (67, 13, 100, 0, 0), (70, 1, 4, 0, 0), (72, 20, 100, 0, 0), (75, 2, 0, 0, 0), (76, 50, 12, 31, 0), (79, 1, 5, 0, 0), (81, 52, 0, 0, 0), (82, 1, 3, 0, 0), (83, 36, 0, 0, 0), (84, 20, 91, 0, 0), (87, 0, 0, 0, 1), (88, 6, 92, 0, 0), (91, 0, 0, 0, 0), (92, 3, 4, 0, 0), (94, 5, 5, 0, 1), (97, 6, 61, 0, 0), (100, 1, 4, 0, 0), (102, 20, 107, 0, 0), (105, 1, 3, 0, 0), (106, 3, 2, 0, 0), (107, 5, 3, 0, 1), (110, 6, 14, 0, 0), (113, 1, 2, 0, 0), (114, 70, 0, 0, 0)]
theorem fr_248_ok : fw_mk 248 6 12 (some .int) fr_248 = true := by decide +kernel
def ct_wardensBy : List (Nat × fw_X) := [(251, x_bitsOf), (252, x_isFirst), (249, x_layNear), (188, x_many), (250, x_sets)]
theorem ct_wardensBy_ok (d : Nat) : fw_cok fw_T (d + 5) ct_wardensBy := by
  intro q hq as W Q h
  simp only [ct_wardensBy, List.mem_cons, List.not_mem_nil, or_false] at hq
  rcases hq with rfl | rfl | rfl | rfl | rfl
  · exact jc_of (x_bitsOf_ok (d + 4) as W Q h)
  · exact jc_of (x_isFirst_ok (d + 4) as W Q h)
  · exact jc_of (x_layNear_ok (d + 0) as W Q h)
  · exact jc_of (x_many_ok (d + 4) as W Q h)
  · exact jc_of (x_sets_ok (d + 3) as W Q h)
theorem s_wardensBy_0 {Post : Option fw_V → fw_W → Prop} {d : Nat} {W : fw_W} {d_ : Int}
    (hw_ : (mt W ∧ 0 ≤ (fw_g W 366 0) ∧ (fw_g W 366 0) ≤ 14) ∧ (∀ (f1 : fw_W), ((True)) → (True) ∧ (-2147483648 ≤ (fw_shl 1 (fw_g W 366 0)) - (1 : Int) ∧ (fw_shl 1 (fw_g W 366 0)) - (1 : Int) ≤ 2147483647 ∧ (jf fw_T (d + 6) 248 14 [(0, .inr (.inl 352)), (2, .inl ((fw_shl 1 (fw_g W 366 0)) - (1 : Int))), (3, .inl (0 : Int))] [] (fw_put [367, 370] 352 [] W f1) Post)))) :
    jf fw_T (d + 6) 248 0 [(0, .inr (.inl 352)), (1, .inl d_)] [] W Post := fw_ok (n := 11) (ss := [(14, [0, 2, 3]), (61, [0, 2, 3, 4, 5])]) (hv := []) fr_248_ok fm_ok (ct_wardensBy_ok d) hw_

theorem s_wardensBy_61 {Post : Option fw_V → fw_W → Prop} {d : Nat} {W : fw_W} {best set is h : Int} {f : fw_W}
    (hw_ : (True) ∧ ((((fw_g W 366 0) ≤ h → ((is = 0 → -2147483648 ≤ set + (1 : Int) ∧ set + (1 : Int) ≤ 2147483647 ∧ (jf fw_T (d + 6) 248 14 [(0, .inr (.inl 352)), (2, .inl best), (3, .inl (set + (1 : Int)))] [] (fw_put [367, 370] 352 [] W f) Post)) ∧ (¬ is = 0 → -2147483648 ≤ set + (1 : Int) ∧ set + (1 : Int) ≤ 2147483647 ∧ (jf fw_T (d + 6) 248 14 [(0, .inr (.inl 352)), (2, .inl set), (3, .inl (set + (1 : Int)))] [] (fw_put [367, 370] 352 [] W f) Post)))) ∧ (h < (fw_g W 366 0) → ((is = 0 → ((is = 0 → -2147483648 ≤ set + (1 : Int) ∧ set + (1 : Int) ≤ 2147483647 ∧ (jf fw_T (d + 6) 248 14 [(0, .inr (.inl 352)), (2, .inl best), (3, .inl (set + (1 : Int)))] [] (fw_put [367, 370] 352 [] W f) Post)) ∧ (¬ is = 0 → -2147483648 ≤ set + (1 : Int) ∧ set + (1 : Int) ≤ 2147483647 ∧ (jf fw_T (d + 6) 248 14 [(0, .inr (.inl 352)), (2, .inl set), (3, .inl (set + (1 : Int)))] [] (fw_put [367, 370] 352 [] W f) Post)))) ∧ (¬ is = 0 → 0 ≤ h ∧ h < 14 ∧ (-2147483648 ≤ (fw_g f 370 h) → (fw_g f 370 h) ≤ 2147483647 → (-2147483648 ≤ (fw_and (fw_g f 370 h) set) → (fw_and (fw_g f 370 h) set) ≤ 2147483647 → (((fw_and (fw_g f 370 h) set) = 0 → -2147483648 ≤ h + (1 : Int) ∧ h + (1 : Int) ≤ 2147483647 ∧ (jf fw_T (d + 6) 248 61 [(0, .inr (.inl 352)), (2, .inl best), (3, .inl set), (4, .inl (0 : Int)), (5, .inl (h + (1 : Int)))] [] (fw_put [367, 370] 352 [] W f) Post)) ∧ (¬ (fw_and (fw_g f 370 h) set) = 0 → -2147483648 ≤ h + (1 : Int) ∧ h + (1 : Int) ≤ 2147483647 ∧ (jf fw_T (d + 6) 248 61 [(0, .inr (.inl 352)), (2, .inl best), (3, .inl set), (4, .inl (1 : Int)), (5, .inl (h + (1 : Int)))] [] (fw_put [367, 370] 352 [] W f) Post))))))))))) :
    jf fw_T (d + 6) 248 61 [(0, .inr (.inl 352)), (2, .inl best), (3, .inl set), (4, .inl is), (5, .inl h)] [] (fw_put [367, 370] 352 [] W f) Post := fw_ok (n := 19) (ss := [(14, [0, 2, 3]), (61, [0, 2, 3, 4, 5])]) (hv := []) fr_248_ok fm_ok (ct_wardensBy_ok d) hw_

theorem s_wardensBy_14 {Post : Option fw_V → fw_W → Prop} {d : Nat} {W : fw_W} {best set : Int} {f : fw_W}
    (hw_ : (True) ∧ ((((fw_shl 1 (fw_g W 366 0)) ≤ set → (-2147483648 ≤ best → best ≤ 2147483647 → Post (some (.inl best)) (fw_put [367, 370] 352 [] W f))) ∧ (set < (fw_shl 1 (fw_g W 366 0)) → (0 ≤ set ∧ set ≤ 2147483647) ∧ (∀ (r1 : Int), ((-2147483648 ≤ r1 ∧ r1 ≤ 2147483647 ∧ (0 ≤ r1))) → (0 ≤ best ∧ best ≤ 2147483647) ∧ (∀ (r2 : Int), ((-2147483648 ≤ r2 ∧ r2 ≤ 2147483647 ∧ (0 ≤ r2))) → ((r2 < r1 → -2147483648 ≤ set + (1 : Int) ∧ set + (1 : Int) ≤ 2147483647 ∧ (jf fw_T (d + 6) 248 14 [(0, .inr (.inl 352)), (2, .inl best), (3, .inl (set + (1 : Int)))] [] (fw_put [367, 370] 352 [] W f) Post)) ∧ (r1 ≤ r2 → (0 ≤ set ∧ set ≤ 2147483647) ∧ (∀ (r3 : Int), ((-2147483648 ≤ r3 ∧ r3 ≤ 2147483647 ∧ (0 ≤ r3))) → (0 ≤ best ∧ best ≤ 2147483647) ∧ (∀ (r4 : Int), ((-2147483648 ≤ r4 ∧ r4 ≤ 2147483647 ∧ (0 ≤ r4))) → ((¬ r3 = r4 → jf fw_T (d + 6) 248 61 [(0, .inr (.inl 352)), (2, .inl best), (3, .inl set), (4, .inl (1 : Int)), (5, .inl (0 : Int))] [] (fw_put [367, 370] 352 [] W f) Post) ∧ (r3 = r4 → (True) ∧ (∀ (r5 : Int), ((0 ≤ r5 ∧ r5 ≤ 1 ∧ (True))) → ((¬ r5 = 0 → jf fw_T (d + 6) 248 61 [(0, .inr (.inl 352)), (2, .inl best), (3, .inl set), (4, .inl (1 : Int)), (5, .inl (0 : Int))] [] (fw_put [367, 370] 352 [] W f) Post) ∧ (r5 = 0 → -2147483648 ≤ set + (1 : Int) ∧ set + (1 : Int) ≤ 2147483647 ∧ (jf fw_T (d + 6) 248 14 [(0, .inr (.inl 352)), (2, .inl best), (3, .inl (set + (1 : Int)))] [] (fw_put [367, 370] 352 [] W f) Post)))))))))))))))) :
    jf fw_T (d + 6) 248 14 [(0, .inr (.inl 352)), (2, .inl best), (3, .inl set)] [] (fw_put [367, 370] 352 [] W f) Post := fw_ok (n := 23) (ss := [(14, [0, 2, 3]), (61, [0, 2, 3, 4, 5])]) (hv := []) fr_248_ok fm_ok (ct_wardensBy_ok d) hw_

theorem lm_wardensBy_61 {Post : Option fw_V → fw_W → Prop} {d : Nat} {W : fw_W} {d_ : Int} (hpre : mt W ∧ 0 ≤ (fw_g W 366 0) ∧ (fw_g W 366 0) ≤ 14) (hP : ∀ (v : Int) (W2 : fw_W), fw_sm [367, 370] 352 [] W W2 → (-2147483648 ≤ v ∧ v ≤ 2147483647 ∧ (0 ≤ v ∧ v < 16384)) → Post (some (.inl v)) W2) (M14 : Int) (h14 : ∀ (best set : Int) (f : fw_W), 0 ≤ set ∧ 0 ≤ best ∧ best < 16384 → ((fw_shl 1 (fw_g W 366 0)) - set) < M14 → jf fw_T (d + 6) 248 14 [(0, .inr (.inl 352)), (2, .inl best), (3, .inl set)] [] (fw_put [367, 370] 352 [] W f) Post) : ∀ (m : Nat) (best set is h : Int) (f : fw_W), ((fw_g W 366 0) - h).toNat = m → 0 ≤ h ∧ 0 ≤ best ∧ best < 16384 ∧ 0 ≤ set ∧ set < fw_shl 1 (fw_g W 366 0) → ((fw_shl 1 (fw_g W 366 0)) - set) ≤ M14 → jf fw_T (d + 6) 248 61 [(0, .inr (.inl 352)), (2, .inl best), (3, .inl set), (4, .inl is), (5, .inl h)] [] (fw_put [367, 370] 352 [] W f) Post := by
  intro m
  induction m using Nat.strongRecOn with
  | ind m ih =>
    intro best set is h f hm hi e14
    refine jf_rng (fun hrg => ?_)
    have hrg : -2147483648 ≤ best ∧ best ≤ 2147483647 ∧ -2147483648 ≤ set ∧ set ≤ 2147483647 ∧ -2147483648 ≤ is ∧ is ≤ 2147483647 ∧ -2147483648 ≤ h ∧ h ≤ 2147483647 ∧ True := hrg
    refine s_wardensBy_61 ?_
    have s1 := fw_shl1 hpre.2.1 hpre.2.2
    repeat' (first
      | (exact True.intro)
      | (exact hpre.1)
      | (refine And.intro ?_ ?_)
      | (refine jf_put (S := [367, 370]) (o := 352) (F := []) (W := W) (by repeat (first | exact fw_sm_refl | exact fw_sm_put0 | refine fw_sm_arr ?_ rfl | refine fw_sm_up ?_ rfl | refine fw_sm_put ?_ rfl | refine fw_sm_cp ?_ rfl)) (h14 _ _ _ ?_ (by omega)); (first | omega | trivial | (simp (config := { decide := true }) only [fg_in, fg_fin, fg_out, fg_fout, fg_up, fg_same, true_and, and_true] <;> omega)))
      | (refine jf_put (S := [367, 370]) (o := 352) (F := []) (W := W) (by repeat (first | exact fw_sm_refl | exact fw_sm_put0 | refine fw_sm_arr ?_ rfl | refine fw_sm_up ?_ rfl | refine fw_sm_put ?_ rfl | refine fw_sm_cp ?_ rfl)) (ih _ (by omega) _ _ _ _ _ rfl ?_ (by omega)); (first | omega | trivial | (simp (config := { decide := true }) only [fg_in, fg_fin, fg_out, fg_fout, fg_up, fg_same, true_and, and_true] <;> omega)))
      | (refine hP _ _ (by repeat (first | exact fw_sm_refl | exact fw_sm_put0 | refine fw_sm_arr ?_ rfl | refine fw_sm_up ?_ rfl | refine fw_sm_put ?_ rfl | refine fw_sm_cp ?_ rfl)) ?_; (refine ⟨by omega, by omega, ?_⟩; (first | trivial | omega)))
      | omega
      | (intro _))
theorem lm_wardensBy_14 {Post : Option fw_V → fw_W → Prop} {d : Nat} {W : fw_W} {d_ : Int} (hpre : mt W ∧ 0 ≤ (fw_g W 366 0) ∧ (fw_g W 366 0) ≤ 14) (hP : ∀ (v : Int) (W2 : fw_W), fw_sm [367, 370] 352 [] W W2 → (-2147483648 ≤ v ∧ v ≤ 2147483647 ∧ (0 ≤ v ∧ v < 16384)) → Post (some (.inl v)) W2)  : ∀ (m : Nat) (best set : Int) (f : fw_W), ((fw_shl 1 (fw_g W 366 0)) - set).toNat = m → 0 ≤ set ∧ 0 ≤ best ∧ best < 16384 → jf fw_T (d + 6) 248 14 [(0, .inr (.inl 352)), (2, .inl best), (3, .inl set)] [] (fw_put [367, 370] 352 [] W f) Post := by
  intro m
  induction m using Nat.strongRecOn with
  | ind m ih =>
    intro best set f hm hi
    refine jf_rng (fun hrg => ?_)
    have hrg : -2147483648 ≤ best ∧ best ≤ 2147483647 ∧ -2147483648 ≤ set ∧ set ≤ 2147483647 ∧ True := hrg
    refine s_wardensBy_14 ?_
    have s1 := fw_shl1 hpre.2.1 hpre.2.2
    repeat' (first
      | (exact True.intro)
      | (exact hpre.1)
      | (refine And.intro ?_ ?_)
      | (refine jf_put (S := [367, 370]) (o := 352) (F := []) (W := W) (by repeat (first | exact fw_sm_refl | exact fw_sm_put0 | refine fw_sm_arr ?_ rfl | refine fw_sm_up ?_ rfl | refine fw_sm_put ?_ rfl | refine fw_sm_cp ?_ rfl)) (ih _ (by omega) _ _ _ rfl ?_); (first | omega | trivial | (simp (config := { decide := true }) only [fg_in, fg_fin, fg_out, fg_fout, fg_up, fg_same, true_and, and_true] <;> omega)))
      | (refine jf_put (S := [367, 370]) (o := 352) (F := []) (W := W) (by repeat (first | exact fw_sm_refl | exact fw_sm_put0 | refine fw_sm_arr ?_ rfl | refine fw_sm_up ?_ rfl | refine fw_sm_put ?_ rfl | refine fw_sm_cp ?_ rfl)) (lm_wardensBy_61 (d_ := d_) hpre hP ((fw_shl 1 (fw_g W 366 0)) - set) (fun a0 a1 af hi hl => ih _ (by omega) a0 a1 af rfl hi) _ _ _ _ _ _ rfl ?_ (by omega)); (first | omega | trivial | (simp (config := { decide := true }) only [fg_in, fg_fin, fg_out, fg_fout, fg_up, fg_same, true_and, and_true] <;> omega)))
      | (refine hP _ _ (by repeat (first | exact fw_sm_refl | exact fw_sm_put0 | refine fw_sm_arr ?_ rfl | refine fw_sm_up ?_ rfl | refine fw_sm_put ?_ rfl | refine fw_sm_cp ?_ rfl)) ?_; (refine ⟨by omega, by omega, ?_⟩; (first | trivial | omega)))
      | omega
      | (intro _))
def x_wardensBy : fw_X := fun as W Q => match as with
  | [.inr (.inl s_), .inl d_] => fw_if (Nat.beq s_ 352) ((mt W ∧ 0 ≤ (fw_g W 366 0) ∧ (fw_g W 366 0) ≤ 14) ∧ (∀ (v : Int) (f : fw_W), (-2147483648 ≤ v ∧ v ≤ 2147483647 ∧ (0 ≤ v ∧ v < 16384)) → Q (some (.inl v)) (fw_put [367, 370] 352 [] W f)))
  | _ => False
theorem x_wardensBy_ok (d : Nat) (as : List fw_V) (W : fw_W) (Q : Option fw_V → fw_W → Prop) (hx : x_wardensBy as W Q) : jf fw_T (d + 6) 248 0 (fw_args 0 as) [] W Q := by
  unfold x_wardensBy at hx
  split at hx
  · rename_i s_ d_
    obtain ⟨e_, hpre, hQ⟩ := fw_if_ok hx
    have e_ := Nat.eq_of_beq_eq_true e_
    subst e_
    have hP : ∀ (v : Int) (W2 : fw_W), fw_sm [367, 370] 352 [] W W2 → _ → Q (some (.inl v)) W2 := fun v W2 hs hr => fw_sm_use (Q := fun Z => Q (some (.inl v)) Z) hs (hQ v W2 hr)
    refine s_wardensBy_0 ?_
    have s1 := fw_shl1 hpre.2.1 hpre.2.2
    repeat' (first
      | (exact True.intro)
      | (exact hpre.1)
      | (refine And.intro ?_ ?_)
      | (refine jf_put (S := [367, 370]) (o := 352) (F := []) (W := W) (by repeat (first | exact fw_sm_refl | exact fw_sm_put0 | refine fw_sm_arr ?_ rfl | refine fw_sm_up ?_ rfl | refine fw_sm_put ?_ rfl | refine fw_sm_cp ?_ rfl)) (lm_wardensBy_14 (d_ := d_) hpre hP _ _ _ _ rfl ?_); (first | omega | trivial | (simp (config := { decide := true }) only [fg_in, fg_fin, fg_out, fg_fout, fg_up, fg_same, true_and, and_true] <;> omega)))
      | (refine jf_put (S := [367, 370]) (o := 352) (F := []) (W := W) (by repeat (first | exact fw_sm_refl | exact fw_sm_put0 | refine fw_sm_arr ?_ rfl | refine fw_sm_up ?_ rfl | refine fw_sm_put ?_ rfl | refine fw_sm_cp ?_ rfl)) (lm_wardensBy_61 (d_ := d_) hpre hP M14 h14 _ _ _ _ _ _ rfl ?_ (by omega)); (first | omega | trivial | (simp (config := { decide := true }) only [fg_in, fg_fin, fg_out, fg_fout, fg_up, fg_same, true_and, and_true] <;> omega)))
      | (refine hP _ _ (by repeat (first | exact fw_sm_refl | exact fw_sm_put0 | refine fw_sm_arr ?_ rfl | refine fw_sm_up ?_ rfl | refine fw_sm_put ?_ rfl | refine fw_sm_cp ?_ rfl)) ?_; (refine ⟨by omega, by omega, ?_⟩; (first | trivial | omega)))
      | omega
      | (intro _))
  · exact hx.elim

def fr_247 : fw_P := [(0, 1, 1, 0, 0), (1, 0, 0, 0, 0), (2, 0, 0, 0, 999), (5, 65, 214, 3, 300), (8, 20, 19, 0, 0), (11, 2, 0, 0, 0), (12, 1, 1, 0, 0), (13, 64, 248, 1, 612), (16, 6, 20, 0, 0), (19, 0, 0, 0, -1), (20, 70, 0, 0, 0)]
theorem fr_247_ok : fw_mk 247 2 12 (some .int) fr_247 = true := by decide +kernel
def ct_wardens : List (Nat × fw_X) := [(214, x_isIn), (248, x_wardensBy)]
theorem ct_wardens_ok (d : Nat) : fw_cok fw_T (d + 6) ct_wardens := by
  intro q hq as W Q h
  simp only [ct_wardens, List.mem_cons, List.not_mem_nil, or_false] at hq
  rcases hq with rfl | rfl
  · exact jc_of (x_isIn_ok (d + 5) as W Q h)
  · exact jc_of (x_wardensBy_ok (d + 0) as W Q h)
theorem s_wardens_0 {Post : Option fw_V → fw_W → Prop} {d : Nat} {W : fw_W} {d_ : Int}
    (hw_ : (True) ∧ (∀ (r1 : Int), ((0 ≤ r1 ∧ r1 ≤ 1 ∧ ((r1 = 1 ∧ (0 : Int) ≤ d_ ∧ d_ ≤ (999 : Int)) ∨ (r1 = 0 ∧ (d_ < (0 : Int) ∨ (999 : Int) < d_))))) → ((r1 = 0 → (-2147483648 ≤ (-1 : Int) → (-1 : Int) ≤ 2147483647 → Post (some (.inl (-1 : Int))) W)) ∧ (¬ r1 = 0 → (mt W ∧ 0 ≤ (fw_g W 366 0) ∧ (fw_g W 366 0) ≤ 14) ∧ (∀ (r2 : Int) (f3 : fw_W), ((-2147483648 ≤ r2 ∧ r2 ≤ 2147483647 ∧ (0 ≤ r2 ∧ r2 < 16384))) → (-2147483648 ≤ r2 → r2 ≤ 2147483647 → Post (some (.inl r2)) (fw_put [367, 370] 352 [] W f3))))))) :
    jf fw_T (d + 7) 247 0 [(0, .inr (.inl 352)), (1, .inl d_)] [] W Post := fw_ok (n := 11) (ss := []) (hv := []) fr_247_ok fm_ok (ct_wardens_ok d) hw_

def x_wardens : fw_X := fun as W Q => match as with
  | [.inr (.inl s_), .inl d_] => fw_if (Nat.beq s_ 352) ((mt W ∧ 0 ≤ (fw_g W 366 0) ∧ (fw_g W 366 0) ≤ 14) ∧ (∀ (v : Int) (f : fw_W), (-2147483648 ≤ v ∧ v ≤ 2147483647 ∧ (True)) → Q (some (.inl v)) (fw_put [367, 370] 352 [] W f)))
  | _ => False
theorem x_wardens_ok (d : Nat) (as : List fw_V) (W : fw_W) (Q : Option fw_V → fw_W → Prop) (hx : x_wardens as W Q) : jf fw_T (d + 7) 247 0 (fw_args 0 as) [] W Q := by
  unfold x_wardens at hx
  split at hx
  · rename_i s_ d_
    obtain ⟨e_, hpre, hQ⟩ := fw_if_ok hx
    have e_ := Nat.eq_of_beq_eq_true e_
    subst e_
    have hP : ∀ (v : Int) (W2 : fw_W), fw_sm [367, 370] 352 [] W W2 → _ → Q (some (.inl v)) W2 := fun v W2 hs hr => fw_sm_use (Q := fun Z => Q (some (.inl v)) Z) hs (hQ v W2 hr)
    refine s_wardens_0 ?_
    repeat' (first
      | (exact True.intro)
      | (exact hpre.1)
      | (refine And.intro ?_ ?_)
      | (refine hP _ _ (by repeat (first | exact fw_sm_refl | exact fw_sm_put0 | refine fw_sm_arr ?_ rfl | refine fw_sm_up ?_ rfl | refine fw_sm_put ?_ rfl | refine fw_sm_cp ?_ rfl)) ?_; (refine ⟨by omega, by omega, ?_⟩; (first | trivial | omega)))
      | omega
      | (intro _))
  · exact hx.elim

def fr_254 : fw_P := [(0, 0, 0, 0, 1), (1, 3, 2, 0, 0), (2, 1, 2, 0, 0), (3, 2, 0, 0, 0), (4, 64, 188, 0, 112), (7, 13, 40, 0, 0), (10, 1, 1, 0, 0), (11, 1, 2, 0, 0), (12, 40, 0, 0, 0), (13, 0, 0, 0, 1), (14, 36, 0, 0, 0), (15, 0, 0, 0, 1), (16, 11, 34, 0, 0), (19, 1, 1, 0, 0), (20, 2, 0, 0, 0), (21, 1, 2, 0, 0), (22, 64, 215, 1, 212), (25, 40, 0, 0, 0), (26, 0, 0, 0, 1), (27, 36, 0, 0, 0), (28, 0, 0, 0, 1), (29, 11, 34, 0, 0), (32, 0, 0, 0, 0), (33, 71, 0, 0, 0), (34, 5, 2, 0, 1), (37, 6, 2, 0, 0), (40, 0, 0, 0, 1), (41, 71, 0, 0, 0)]
theorem fr_254_ok : fw_mk 254 3 12 (some .boolean) fr_254 = true := by decide +kernel
def ct_isApart : List (Nat × fw_X) := [(215, x_hangsAt), (188, x_many)]
theorem ct_isApart_ok (d : Nat) : fw_cok fw_T (d + 1) ct_isApart := by
  intro q hq as W Q h
  simp only [ct_isApart, List.mem_cons, List.not_mem_nil, or_false] at hq
  rcases hq with rfl | rfl
  · exact jc_of (x_hangsAt_ok (d + 0) as W Q h)
  · exact jc_of (x_many_ok (d + 0) as W Q h)
theorem s_isApart_0 {Post : Option fw_V → fw_W → Prop} {d : Nat} {W : fw_W} {set : Int}
    (hw_ : jf fw_T (d + 2) 254 2 [(0, .inr (.inl 352)), (1, .inl set), (2, .inl (1 : Int))] [] W Post) :
    jf fw_T (d + 2) 254 0 [(0, .inr (.inl 352)), (1, .inl set)] [] W Post := fw_ok (n := 3) (ss := [(2, [0, 1, 2])]) (hv := []) fr_254_ok fm_ok (ct_isApart_ok d) hw_

theorem s_isApart_2 {Post : Option fw_V → fw_W → Prop} {d : Nat} {W : fw_W} {set h : Int}
    (hw_ : (True) ∧ ((((fw_g W 366 0) ≤ h → 0 ≤ (1 : Int) ∧ (1 : Int) ≤ 1 ∧ Post (some (.inl (1 : Int))) W) ∧ (h < (fw_g W 366 0) → (-2147483648 ≤ (fw_shr set h) → (fw_shr set h) ≤ 2147483647 → (-2147483648 ≤ (fw_and (fw_shr set h) (1 : Int)) → (fw_and (fw_shr set h) (1 : Int)) ≤ 2147483647 → ((¬ (fw_and (fw_shr set h) (1 : Int)) = (1 : Int) → -2147483648 ≤ h + (1 : Int) ∧ h + (1 : Int) ≤ 2147483647 ∧ (jf fw_T (d + 2) 254 2 [(0, .inr (.inl 352)), (1, .inl set), (2, .inl (h + (1 : Int)))] [] W Post)) ∧ ((fw_and (fw_shr set h) (1 : Int)) = (1 : Int) → (0 ≤ h ∧ h < 14) ∧ ((-2147483648 ≤ (fw_shr set (fw_g W 366 (2 + 3 * h))) → (fw_shr set (fw_g W 366 (2 + 3 * h))) ≤ 2147483647 → (-2147483648 ≤ (fw_and (fw_shr set (fw_g W 366 (2 + 3 * h))) (1 : Int)) → (fw_and (fw_shr set (fw_g W 366 (2 + 3 * h))) (1 : Int)) ≤ 2147483647 → ((¬ (fw_and (fw_shr set (fw_g W 366 (2 + 3 * h))) (1 : Int)) = (1 : Int) → -2147483648 ≤ h + (1 : Int) ∧ h + (1 : Int) ≤ 2147483647 ∧ (jf fw_T (d + 2) 254 2 [(0, .inr (.inl 352)), (1, .inl set), (2, .inl (h + (1 : Int)))] [] W Post)) ∧ ((fw_and (fw_shr set (fw_g W 366 (2 + 3 * h))) (1 : Int)) = (1 : Int) → 0 ≤ (0 : Int) ∧ (0 : Int) ≤ 1 ∧ Post (some (.inl (0 : Int))) W))))))))))))) :
    jf fw_T (d + 2) 254 2 [(0, .inr (.inl 352)), (1, .inl set), (2, .inl h)] [] W Post := fw_ok (n := 23) (ss := [(2, [0, 1, 2])]) (hv := []) fr_254_ok fm_ok (ct_isApart_ok d) hw_

theorem lm_isApart_2 {Post : Option fw_V → fw_W → Prop} {d : Nat} {W : fw_W} {set : Int} (hpre : mt W ∧ 0 ≤ (fw_g W 366 0) ∧ (fw_g W 366 0) ≤ 14) (hP : ∀ (v : Int) , (0 ≤ v ∧ v ≤ 1 ∧ (True)) → Post (some (.inl v)) W)  : ∀ (m : Nat) (h : Int), ((fw_g W 366 0) - h).toNat = m → 1 ≤ h → jf fw_T (d + 2) 254 2 [(0, .inr (.inl 352)), (1, .inl set), (2, .inl h)] [] W Post := by
  intro m
  induction m using Nat.strongRecOn with
  | ind m ih =>
    intro h hm hi
    refine jf_rng (fun hrg => ?_)
    have hrg : -2147483648 ≤ set ∧ set ≤ 2147483647 ∧ -2147483648 ≤ h ∧ h ≤ 2147483647 ∧ True := hrg
    refine s_isApart_2 ?_
    repeat' (first
      | (exact True.intro)
      | (exact hpre.1)
      | (refine And.intro ?_ ?_)
      | (refine (ih _ (by omega) _ rfl ?_); (first | omega | trivial))
      | (refine hP _ ?_; (refine ⟨by omega, by omega, ?_⟩; (first | trivial | omega)))
      | omega
      | (intro _))
def x_isApart : fw_X := fun as W Q => match as with
  | [.inr (.inl s_), .inl set] => fw_if (Nat.beq s_ 352) ((mt W ∧ 0 ≤ (fw_g W 366 0) ∧ (fw_g W 366 0) ≤ 14) ∧ (∀ (v : Int), (0 ≤ v ∧ v ≤ 1 ∧ (True)) → Q (some (.inl v)) W))
  | _ => False
theorem x_isApart_ok (d : Nat) (as : List fw_V) (W : fw_W) (Q : Option fw_V → fw_W → Prop) (hx : x_isApart as W Q) : jf fw_T (d + 2) 254 0 (fw_args 0 as) [] W Q := by
  unfold x_isApart at hx
  split at hx
  · rename_i s_ set
    obtain ⟨e_, hpre, hQ⟩ := fw_if_ok hx
    have e_ := Nat.eq_of_beq_eq_true e_
    subst e_
    have hP := hQ
    refine s_isApart_0 ?_
    repeat' (first
      | (exact True.intro)
      | (exact hpre.1)
      | (refine And.intro ?_ ?_)
      | (refine (lm_isApart_2 (set := set) hpre hP _ _ rfl ?_); (first | omega | trivial))
      | (refine hP _ ?_; (refine ⟨by omega, by omega, ?_⟩; (first | trivial | omega)))
      | omega
      | (intro _))
  · exact hx.elim

def fr_255 : fw_P := [(0, 0, 0, 0, 0), (1, 3, 2, 0, 0), (2, 0, 0, 0, 0), (3, 3, 3, 0, 0), (4, 1, 3, 0, 0), (5, 2, 0, 0, 0), (6, 64, 188, 0, 112), (9, 13, 39, 0, 0), (12, 1, 2, 0, 0), (13, 1, 1, 0, 0), (14, 1, 3, 0, 0), (15, 40, 0, 0, 0), (16, 0, 0, 0, 1), (17, 36, 0, 0, 0), (18, 0, 0, 0, 1), (19, 11, 30, 0, 0), (22, 2, 0, 0, 0), (23, 1, 3, 0, 0), (24, 64, 217, 1, 212), (27, 6, 31, 0, 0), (30, 0, 0, 0, 0), (31, 30, 0, 0, 0), (32, 3, 2, 0, 0), (33, 5, 3, 0, 1), (36, 6, 4, 0, 0), (39, 1, 2, 0, 0), (40, 70, 0, 0, 0)]
theorem fr_255_ok : fw_mk 255 4 12 (some .int) fr_255 = true := by decide +kernel
def ct_peopleIn : List (Nat × fw_X) := [(188, x_many), (217, x_peopleOf)]
theorem ct_peopleIn_ok (d : Nat) : fw_cok fw_T (d + 1) ct_peopleIn := by
  intro q hq as W Q h
  simp only [ct_peopleIn, List.mem_cons, List.not_mem_nil, or_false] at hq
  rcases hq with rfl | rfl
  · exact jc_of (x_many_ok (d + 0) as W Q h)
  · exact jc_of (x_peopleOf_ok (d + 0) as W Q h)
theorem s_peopleIn_0 {Post : Option fw_V → fw_W → Prop} {d : Nat} {W : fw_W} {set : Int}
    (hw_ : jf fw_T (d + 2) 255 4 [(0, .inr (.inl 352)), (1, .inl set), (2, .inl (0 : Int)), (3, .inl (0 : Int))] [] W Post) :
    jf fw_T (d + 2) 255 0 [(0, .inr (.inl 352)), (1, .inl set)] [] W Post := fw_ok (n := 5) (ss := [(4, [0, 1, 2, 3])]) (hv := [31]) fr_255_ok fm_ok (ct_peopleIn_ok d) hw_

theorem s_peopleIn_4 {Post : Option fw_V → fw_W → Prop} {d : Nat} {W : fw_W} {set sum h : Int}
    (hw_ : (True) ∧ ((((fw_g W 366 0) ≤ h → (-2147483648 ≤ sum → sum ≤ 2147483647 → Post (some (.inl sum)) W)) ∧ (h < (fw_g W 366 0) → (-2147483648 ≤ (fw_shr set h) → (fw_shr set h) ≤ 2147483647 → (-2147483648 ≤ (fw_and (fw_shr set h) (1 : Int)) → (fw_and (fw_shr set h) (1 : Int)) ≤ 2147483647 → ((¬ (fw_and (fw_shr set h) (1 : Int)) = (1 : Int) → ∀ v1 : Int, -2147483648 ≤ v1 → v1 ≤ 2147483647 → -2147483648 ≤ h + (1 : Int) ∧ h + (1 : Int) ≤ 2147483647 ∧ (jf fw_T (d + 2) 255 4 [(0, .inr (.inl 352)), (1, .inl set), (2, .inl v1), (3, .inl (h + (1 : Int)))] [] W Post)) ∧ ((fw_and (fw_shr set h) (1 : Int)) = (1 : Int) → (0 ≤ h ∧ h < 14) ∧ (∀ v2 : Int, -2147483648 ≤ v2 → v2 ≤ 2147483647 → -2147483648 ≤ h + (1 : Int) ∧ h + (1 : Int) ≤ 2147483647 ∧ (jf fw_T (d + 2) 255 4 [(0, .inr (.inl 352)), (1, .inl set), (2, .inl v2), (3, .inl (h + (1 : Int)))] [] W Post)))))))))) :
    jf fw_T (d + 2) 255 4 [(0, .inr (.inl 352)), (1, .inl set), (2, .inl sum), (3, .inl h)] [] W Post := fw_ok (n := 21) (ss := [(4, [0, 1, 2, 3])]) (hv := [31]) fr_255_ok fm_ok (ct_peopleIn_ok d) hw_

theorem lm_peopleIn_4 {Post : Option fw_V → fw_W → Prop} {d : Nat} {W : fw_W} {set : Int} (hpre : mt W ∧ 0 ≤ (fw_g W 366 0) ∧ (fw_g W 366 0) ≤ 14) (hP : ∀ (v : Int) , (-2147483648 ≤ v ∧ v ≤ 2147483647 ∧ (True)) → Post (some (.inl v)) W)  : ∀ (m : Nat) (sum h : Int), ((fw_g W 366 0) - h).toNat = m → 0 ≤ h → jf fw_T (d + 2) 255 4 [(0, .inr (.inl 352)), (1, .inl set), (2, .inl sum), (3, .inl h)] [] W Post := by
  intro m
  induction m using Nat.strongRecOn with
  | ind m ih =>
    intro sum h hm hi
    refine jf_rng (fun hrg => ?_)
    have hrg : -2147483648 ≤ set ∧ set ≤ 2147483647 ∧ -2147483648 ≤ sum ∧ sum ≤ 2147483647 ∧ -2147483648 ≤ h ∧ h ≤ 2147483647 ∧ True := hrg
    refine s_peopleIn_4 ?_
    repeat' (first
      | (exact True.intro)
      | (exact hpre.1)
      | (refine And.intro ?_ ?_)
      | (refine (ih _ (by omega) _ _ rfl ?_); (first | omega | trivial))
      | (refine hP _ ?_; (refine ⟨by omega, by omega, ?_⟩; (first | trivial | omega)))
      | omega
      | (intro _))
def x_peopleIn : fw_X := fun as W Q => match as with
  | [.inr (.inl s_), .inl set] => fw_if (Nat.beq s_ 352) ((mt W ∧ 0 ≤ (fw_g W 366 0) ∧ (fw_g W 366 0) ≤ 14) ∧ (∀ (v : Int), (-2147483648 ≤ v ∧ v ≤ 2147483647 ∧ (True)) → Q (some (.inl v)) W))
  | _ => False
theorem x_peopleIn_ok (d : Nat) (as : List fw_V) (W : fw_W) (Q : Option fw_V → fw_W → Prop) (hx : x_peopleIn as W Q) : jf fw_T (d + 2) 255 0 (fw_args 0 as) [] W Q := by
  unfold x_peopleIn at hx
  split at hx
  · rename_i s_ set
    obtain ⟨e_, hpre, hQ⟩ := fw_if_ok hx
    have e_ := Nat.eq_of_beq_eq_true e_
    subst e_
    have hP := hQ
    refine s_peopleIn_0 ?_
    repeat' (first
      | (exact True.intro)
      | (exact hpre.1)
      | (refine And.intro ?_ ?_)
      | (refine (lm_peopleIn_4 (set := set) hpre hP _ _ _ rfl ?_); (first | omega | trivial))
      | (refine hP _ ?_; (refine ⟨by omega, by omega, ?_⟩; (first | trivial | omega)))
      | omega
      | (intro _))
  · exact hx.elim

def fr_253 : fw_P := [(0, 0, 0, 0, 0), (1, 3, 1, 0, 0), (2, 0, 0, 0, 1), (3, 3, 2, 0, 0), (4, 1, 2, 0, 0), (5, 2, 0, 0, 0), (6, 64, 250, 0, 112), (9, 13, 59, 0, 0), (12, 2, 0, 0, 0), (13, 1, 2, 0, 0), (14, 64, 254, 1, 312), (17, 21, 23, 0, 0), (20, 6, 53, 0, 0), (23, 2, 0, 0, 0), (24, 1, 2, 0, 0), (25, 64, 255, 1, 412), (28, 2, 0, 0, 0), (29, 1, 1, 0, 0), (30, 64, 255, 1, 412), (33, 31, 0, 0, 0), (34, 3, 3, 0, 0), (35, 1, 3, 0, 0), (36, 24, 51, 0, 0), (39, 1, 3, 0, 0), (40, 21, 53, 0, 0), (43, 1, 2, 0, 0), (44, 1, 1, 0, 0), (45, 65, 252, 2, 300), (48, 20, 53, 0, 0), (51, 1, 2, 0, 0), (52, 3, 1, 0, 0), (53, 5, 2, 0, 1), (56, 6, 4, 0, 0), (59, 1, 1, 0, 0), (60, 70, 0, 0, 0)]
theorem fr_253_ok : fw_mk 253 4 12 (some .int) fr_253 = true := by decide +kernel
def ct_quiet : List (Nat × fw_X) := [(254, x_isApart), (252, x_isFirst), (255, x_peopleIn), (250, x_sets)]
theorem ct_quiet_ok (d : Nat) : fw_cok fw_T (d + 2) ct_quiet := by
  intro q hq as W Q h
  simp only [ct_quiet, List.mem_cons, List.not_mem_nil, or_false] at hq
  rcases hq with rfl | rfl | rfl | rfl
  · exact jc_of (x_isApart_ok (d + 0) as W Q h)
  · exact jc_of (x_isFirst_ok (d + 1) as W Q h)
  · exact jc_of (x_peopleIn_ok (d + 0) as W Q h)
  · exact jc_of (x_sets_ok (d + 0) as W Q h)
theorem s_quiet_0 {Post : Option fw_V → fw_W → Prop} {d : Nat} {W : fw_W}
    (hw_ : jf fw_T (d + 3) 253 4 [(0, .inr (.inl 352)), (1, .inl (0 : Int)), (2, .inl (1 : Int))] [] W Post) :
    jf fw_T (d + 3) 253 0 [(0, .inr (.inl 352))] [] W Post := fw_ok (n := 5) (ss := [(4, [0, 1, 2])]) (hv := [33]) fr_253_ok fm_ok (ct_quiet_ok d) hw_

theorem s_quiet_4 {Post : Option fw_V → fw_W → Prop} {d : Nat} {W : fw_W} {best set : Int}
    (hw_ : (True) ∧ ((((fw_shl 1 (fw_g W 366 0)) ≤ set → (-2147483648 ≤ best → best ≤ 2147483647 → Post (some (.inl best)) W)) ∧ (set < (fw_shl 1 (fw_g W 366 0)) → (mt W ∧ 0 ≤ (fw_g W 366 0) ∧ (fw_g W 366 0) ≤ 14) ∧ (∀ (r1 : Int), ((0 ≤ r1 ∧ r1 ≤ 1 ∧ (True))) → ((¬ r1 = 0 → (mt W ∧ 0 ≤ (fw_g W 366 0) ∧ (fw_g W 366 0) ≤ 14) ∧ (∀ (r2 : Int), ((-2147483648 ≤ r2 ∧ r2 ≤ 2147483647 ∧ (True))) → (mt W ∧ 0 ≤ (fw_g W 366 0) ∧ (fw_g W 366 0) ≤ 14) ∧ (∀ (r3 : Int), ((-2147483648 ≤ r3 ∧ r3 ≤ 2147483647 ∧ (True))) → ∀ v4 : Int, -2147483648 ≤ v4 → v4 ≤ 2147483647 → ((0 < v4 → -2147483648 ≤ set + (1 : Int) ∧ set + (1 : Int) ≤ 2147483647 ∧ (jf fw_T (d + 3) 253 4 [(0, .inr (.inl 352)), (1, .inl set), (2, .inl (set + (1 : Int)))] [] W Post)) ∧ (v4 ≤ 0 → ((¬ v4 = 0 → -2147483648 ≤ set + (1 : Int) ∧ set + (1 : Int) ≤ 2147483647 ∧ (jf fw_T (d + 3) 253 4 [(0, .inr (.inl 352)), (1, .inl best), (2, .inl (set + (1 : Int)))] [] W Post)) ∧ (v4 = 0 → (True) ∧ (∀ (r5 : Int), ((0 ≤ r5 ∧ r5 ≤ 1 ∧ (True))) → ((r5 = 0 → -2147483648 ≤ set + (1 : Int) ∧ set + (1 : Int) ≤ 2147483647 ∧ (jf fw_T (d + 3) 253 4 [(0, .inr (.inl 352)), (1, .inl best), (2, .inl (set + (1 : Int)))] [] W Post)) ∧ (¬ r5 = 0 → -2147483648 ≤ set + (1 : Int) ∧ set + (1 : Int) ≤ 2147483647 ∧ (jf fw_T (d + 3) 253 4 [(0, .inr (.inl 352)), (1, .inl set), (2, .inl (set + (1 : Int)))] [] W Post))))))))))) ∧ (r1 = 0 → -2147483648 ≤ set + (1 : Int) ∧ set + (1 : Int) ≤ 2147483647 ∧ (jf fw_T (d + 3) 253 4 [(0, .inr (.inl 352)), (1, .inl best), (2, .inl (set + (1 : Int)))] [] W Post)))))))) :
    jf fw_T (d + 3) 253 4 [(0, .inr (.inl 352)), (1, .inl best), (2, .inl set)] [] W Post := fw_ok (n := 29) (ss := [(4, [0, 1, 2])]) (hv := [33]) fr_253_ok fm_ok (ct_quiet_ok d) hw_

theorem lm_quiet_4 {Post : Option fw_V → fw_W → Prop} {d : Nat} {W : fw_W} (hpre : mt W ∧ 0 ≤ (fw_g W 366 0) ∧ (fw_g W 366 0) ≤ 14) (hP : ∀ (v : Int) , (-2147483648 ≤ v ∧ v ≤ 2147483647 ∧ (True)) → Post (some (.inl v)) W)  : ∀ (m : Nat) (best set : Int), ((fw_shl 1 (fw_g W 366 0)) - set).toNat = m → 1 ≤ set → jf fw_T (d + 3) 253 4 [(0, .inr (.inl 352)), (1, .inl best), (2, .inl set)] [] W Post := by
  intro m
  induction m using Nat.strongRecOn with
  | ind m ih =>
    intro best set hm hi
    refine jf_rng (fun hrg => ?_)
    have hrg : -2147483648 ≤ best ∧ best ≤ 2147483647 ∧ -2147483648 ≤ set ∧ set ≤ 2147483647 ∧ True := hrg
    refine s_quiet_4 ?_
    have s1 := fw_shl1 hpre.2.1 hpre.2.2
    repeat' (first
      | (exact True.intro)
      | (exact hpre.1)
      | (refine And.intro ?_ ?_)
      | (refine (ih _ (by omega) _ _ rfl ?_); (first | omega | trivial))
      | (refine hP _ ?_; (refine ⟨by omega, by omega, ?_⟩; (first | trivial | omega)))
      | omega
      | (intro _))
def x_quiet : fw_X := fun as W Q => match as with
  | [.inr (.inl s_)] => fw_if (Nat.beq s_ 352) ((mt W ∧ 0 ≤ (fw_g W 366 0) ∧ (fw_g W 366 0) ≤ 14) ∧ (∀ (v : Int), (-2147483648 ≤ v ∧ v ≤ 2147483647 ∧ (True)) → Q (some (.inl v)) W))
  | _ => False
theorem x_quiet_ok (d : Nat) (as : List fw_V) (W : fw_W) (Q : Option fw_V → fw_W → Prop) (hx : x_quiet as W Q) : jf fw_T (d + 3) 253 0 (fw_args 0 as) [] W Q := by
  unfold x_quiet at hx
  split at hx
  · rename_i s_
    obtain ⟨e_, hpre, hQ⟩ := fw_if_ok hx
    have e_ := Nat.eq_of_beq_eq_true e_
    subst e_
    have hP := hQ
    refine s_quiet_0 ?_
    have s1 := fw_shl1 hpre.2.1 hpre.2.2
    repeat' (first
      | (exact True.intro)
      | (exact hpre.1)
      | (refine And.intro ?_ ?_)
      | (refine (lm_quiet_4 hpre hP _ _ _ rfl ?_); (first | omega | trivial))
      | (refine hP _ ?_; (refine ⟨by omega, by omega, ?_⟩; (first | trivial | omega)))
      | omega
      | (intro _))
  · exact hx.elim

def fr_256 : fw_P := [(0, 2, 0, 0, 0), (1, 64, 250, 0, 112), (4, 0, 0, 0, 1), (5, 31, 0, 0, 0), (6, 3, 1, 0, 0), (7, 0, 0, 0, 0), (8, 3, 2, 0, 0), (9, 1, 2, 0, 0), (10, 2, 0, 0, 0), (11, 64, 250, 0, 112), (14, 13, 69, 0, 0), (17, 2, 0, 0, 0), (18, 2, 0, 0, 0), (19, 64, 250, 0, 112), (22, 0, 0, 0, 1), (23, 31, 0, 0, 0), (24, 1, 2, 0, 0), (25, 31, 0, 0, 0), (26, 64, 254, 1, 312), (29, 21, 35, 0, 0), (32, 6, 63, 0, 0), (35, 1, 2, 0, 0), (36, 65, 251, 1, 300), (39, 1, 1, 0, 0), (40, 65, 251, 1, 300), (43, 31, 0, 0, 0), (44, 3, 3, 0, 0), (45, 1, 3, 0, 0), (46, 22, 61, 0, 0), (49, 1, 3, 0, 0), (50, 21, 63, 0, 0), (53, 1, 2, 0, 0), (54, 1, 1, 0, 0), (55, 65, 252, 2, 300), (58, 20, 63, 0, 0), (61, 1, 2, 0, 0), (62, 3, 1, 0, 0), (63, 5, 2, 0, 1), (66, 6, 9, 0, 0), (69, 1, 1, 0, 0), (70, 70, 0, 0, 0)]
theorem fr_256_ok : fw_mk 256 4 12 (some .int) fr_256 = true := by decide +kernel
def ct_guards : List (Nat × fw_X) := [(251, x_bitsOf), (254, x_isApart), (252, x_isFirst), (250, x_sets)]
theorem ct_guards_ok (d : Nat) : fw_cok fw_T (d + 2) ct_guards := by
  intro q hq as W Q h
  simp only [ct_guards, List.mem_cons, List.not_mem_nil, or_false] at hq
  rcases hq with rfl | rfl | rfl | rfl
  · exact jc_of (x_bitsOf_ok (d + 1) as W Q h)
  · exact jc_of (x_isApart_ok (d + 0) as W Q h)
  · exact jc_of (x_isFirst_ok (d + 1) as W Q h)
  · exact jc_of (x_sets_ok (d + 0) as W Q h)
theorem s_guards_0 {Post : Option fw_V → fw_W → Prop} {d : Nat} {W : fw_W}
    (hw_ : (True) ∧ (-2147483648 ≤ (fw_shl 1 (fw_g W 366 0)) - (1 : Int) ∧ (fw_shl 1 (fw_g W 366 0)) - (1 : Int) ≤ 2147483647 ∧ (jf fw_T (d + 3) 256 9 [(0, .inr (.inl 352)), (1, .inl ((fw_shl 1 (fw_g W 366 0)) - (1 : Int))), (2, .inl (0 : Int))] [] W Post))) :
    jf fw_T (d + 3) 256 0 [(0, .inr (.inl 352))] [] W Post := fw_ok (n := 8) (ss := [(9, [0, 1, 2])]) (hv := [43]) fr_256_ok fm_ok (ct_guards_ok d) hw_

theorem s_guards_9 {Post : Option fw_V → fw_W → Prop} {d : Nat} {W : fw_W} {best set : Int}
    (hw_ : (True) ∧ ((((fw_shl 1 (fw_g W 366 0)) ≤ set → (-2147483648 ≤ best → best ≤ 2147483647 → Post (some (.inl best)) W)) ∧ (set < (fw_shl 1 (fw_g W 366 0)) → (True) ∧ (-2147483648 ≤ (fw_shl 1 (fw_g W 366 0)) - (1 : Int) ∧ (fw_shl 1 (fw_g W 366 0)) - (1 : Int) ≤ 2147483647 ∧ (-2147483648 ≤ ((fw_shl 1 (fw_g W 366 0)) - (1 : Int)) - set ∧ ((fw_shl 1 (fw_g W 366 0)) - (1 : Int)) - set ≤ 2147483647 ∧ ((mt W ∧ 0 ≤ (fw_g W 366 0) ∧ (fw_g W 366 0) ≤ 14) ∧ (∀ (r1 : Int), ((0 ≤ r1 ∧ r1 ≤ 1 ∧ (True))) → ((¬ r1 = 0 → (0 ≤ set ∧ set ≤ 2147483647) ∧ (∀ (r2 : Int), ((-2147483648 ≤ r2 ∧ r2 ≤ 2147483647 ∧ (0 ≤ r2))) → (0 ≤ best ∧ best ≤ 2147483647) ∧ (∀ (r3 : Int), ((-2147483648 ≤ r3 ∧ r3 ≤ 2147483647 ∧ (0 ≤ r3))) → ∀ v4 : Int, -2147483648 ≤ v4 → v4 ≤ 2147483647 → ((v4 < 0 → -2147483648 ≤ set + (1 : Int) ∧ set + (1 : Int) ≤ 2147483647 ∧ (jf fw_T (d + 3) 256 9 [(0, .inr (.inl 352)), (1, .inl set), (2, .inl (set + (1 : Int)))] [] W Post)) ∧ (0 ≤ v4 → ((¬ v4 = 0 → -2147483648 ≤ set + (1 : Int) ∧ set + (1 : Int) ≤ 2147483647 ∧ (jf fw_T (d + 3) 256 9 [(0, .inr (.inl 352)), (1, .inl best), (2, .inl (set + (1 : Int)))] [] W Post)) ∧ (v4 = 0 → (True) ∧ (∀ (r5 : Int), ((0 ≤ r5 ∧ r5 ≤ 1 ∧ (True))) → ((r5 = 0 → -2147483648 ≤ set + (1 : Int) ∧ set + (1 : Int) ≤ 2147483647 ∧ (jf fw_T (d + 3) 256 9 [(0, .inr (.inl 352)), (1, .inl best), (2, .inl (set + (1 : Int)))] [] W Post)) ∧ (¬ r5 = 0 → -2147483648 ≤ set + (1 : Int) ∧ set + (1 : Int) ≤ 2147483647 ∧ (jf fw_T (d + 3) 256 9 [(0, .inr (.inl 352)), (1, .inl set), (2, .inl (set + (1 : Int)))] [] W Post))))))))))) ∧ (r1 = 0 → -2147483648 ≤ set + (1 : Int) ∧ set + (1 : Int) ≤ 2147483647 ∧ (jf fw_T (d + 3) 256 9 [(0, .inr (.inl 352)), (1, .inl best), (2, .inl (set + (1 : Int)))] [] W Post))))))))))) :
    jf fw_T (d + 3) 256 9 [(0, .inr (.inl 352)), (1, .inl best), (2, .inl set)] [] W Post := fw_ok (n := 32) (ss := [(9, [0, 1, 2])]) (hv := [43]) fr_256_ok fm_ok (ct_guards_ok d) hw_

theorem lm_guards_9 {Post : Option fw_V → fw_W → Prop} {d : Nat} {W : fw_W} (hpre : mt W ∧ 0 ≤ (fw_g W 366 0) ∧ (fw_g W 366 0) ≤ 14) (hP : ∀ (v : Int) , (-2147483648 ≤ v ∧ v ≤ 2147483647 ∧ (True)) → Post (some (.inl v)) W)  : ∀ (m : Nat) (best set : Int), ((fw_shl 1 (fw_g W 366 0)) - set).toNat = m → 0 ≤ set ∧ 0 ≤ best ∧ best < 16384 → jf fw_T (d + 3) 256 9 [(0, .inr (.inl 352)), (1, .inl best), (2, .inl set)] [] W Post := by
  intro m
  induction m using Nat.strongRecOn with
  | ind m ih =>
    intro best set hm hi
    refine jf_rng (fun hrg => ?_)
    have hrg : -2147483648 ≤ best ∧ best ≤ 2147483647 ∧ -2147483648 ≤ set ∧ set ≤ 2147483647 ∧ True := hrg
    refine s_guards_9 ?_
    have s1 := fw_shl1 hpre.2.1 hpre.2.2
    repeat' (first
      | (exact True.intro)
      | (exact hpre.1)
      | (refine And.intro ?_ ?_)
      | (refine (ih _ (by omega) _ _ rfl ?_); (first | omega | trivial))
      | (refine hP _ ?_; (refine ⟨by omega, by omega, ?_⟩; (first | trivial | omega)))
      | omega
      | (intro _))
def x_guards : fw_X := fun as W Q => match as with
  | [.inr (.inl s_)] => fw_if (Nat.beq s_ 352) ((mt W ∧ 0 ≤ (fw_g W 366 0) ∧ (fw_g W 366 0) ≤ 14) ∧ (∀ (v : Int), (-2147483648 ≤ v ∧ v ≤ 2147483647 ∧ (True)) → Q (some (.inl v)) W))
  | _ => False
theorem x_guards_ok (d : Nat) (as : List fw_V) (W : fw_W) (Q : Option fw_V → fw_W → Prop) (hx : x_guards as W Q) : jf fw_T (d + 3) 256 0 (fw_args 0 as) [] W Q := by
  unfold x_guards at hx
  split at hx
  · rename_i s_
    obtain ⟨e_, hpre, hQ⟩ := fw_if_ok hx
    have e_ := Nat.eq_of_beq_eq_true e_
    subst e_
    have hP := hQ
    refine s_guards_0 ?_
    have s1 := fw_shl1 hpre.2.1 hpre.2.2
    repeat' (first
      | (exact True.intro)
      | (exact hpre.1)
      | (refine And.intro ?_ ?_)
      | (refine (lm_guards_9 hpre hP _ _ _ rfl ?_); (first | omega | trivial))
      | (refine hP _ ?_; (refine ⟨by omega, by omega, ?_⟩; (first | trivial | omega)))
      | omega
      | (intro _))
  · exact hx.elim

def fr_258 : fw_P := [(0, 0, 0, 0, -1), (1, 3, 2, 0, 0), (2, 0, 0, 0, 0), (3, 3, 3, 0, 0), (4, 1, 3, 0, 0), (5, 2, 0, 0, 0), (6, 64, 188, 0, 112), (9, 13, 69, 0, 0), (12, 0, 0, 0, 0), (13, 3, 4, 0, 0), (15, 1, 4, 0, 0), (17, 2, 0, 0, 0), (18, 64, 188, 0, 112), (21, 13, 63, 0, 0), (24, 2, 0, 0, 0), (25, 50, 12, 25, 0), (28, 0, 0, 0, 14), (30, 1, 3, 0, 0), (31, 32, 0, 0, 0), (32, 1, 4, 0, 0), (34, 30, 0, 0, 0), (35, 52, 0, 0, 0), (36, 3, 5, 0, 0), (38, 1, 5, 0, 0), (40, 1, 1, 0, 0), (41, 15, 57, 0, 0), (44, 1, 2, 0, 0), (45, 22, 54, 0, 0), (48, 1, 5, 0, 0), (50, 1, 2, 0, 0), (51, 13, 57, 0, 0), (54, 1, 5, 0, 0), (56, 3, 2, 0, 0), (57, 5, 4, 0, 1), (60, 6, 15, 0, 0), (63, 5, 3, 0, 1), (66, 6, 4, 0, 0), (69, 1, 2, 0, 0), (70, 70, 0, 0, 0)]
theorem fr_258_ok : fw_mk 258 6 12 (some .int) fr_258 = true := by decide +kernel
def ct_nextFar : List (Nat × fw_X) := [(188, x_many)]
theorem ct_nextFar_ok (d : Nat) : fw_cok fw_T (d + 1) ct_nextFar := by
  intro q hq as W Q h
  simp only [ct_nextFar, List.mem_cons, List.not_mem_nil, or_false] at hq
  rcases hq with rfl
  · exact jc_of (x_many_ok (d + 0) as W Q h)
theorem s_nextFar_0 {Post : Option fw_V → fw_W → Prop} {d : Nat} {W : fw_W} {d_ : Int}
    (hw_ : jf fw_T (d + 2) 258 4 [(0, .inr (.inl 352)), (1, .inl d_), (2, .inl (-1 : Int)), (3, .inl (0 : Int))] [] W Post) :
    jf fw_T (d + 2) 258 0 [(0, .inr (.inl 352)), (1, .inl d_)] [] W Post := fw_ok (n := 5) (ss := [(4, [0, 1, 2, 3]), (15, [0, 1, 2, 3, 4])]) (hv := []) fr_258_ok fm_ok (ct_nextFar_ok d) hw_

theorem s_nextFar_15 {Post : Option fw_V → fw_W → Prop} {d : Nat} {W : fw_W} {d_ best a b : Int}
    (hw_ : (True) ∧ ((((fw_g W 366 0) ≤ b → -2147483648 ≤ a + (1 : Int) ∧ a + (1 : Int) ≤ 2147483647 ∧ (jf fw_T (d + 2) 258 4 [(0, .inr (.inl 352)), (1, .inl d_), (2, .inl best), (3, .inl (a + (1 : Int)))] [] W Post)) ∧ (b < (fw_g W 366 0) → -2147483648 ≤ (14 : Int) * a ∧ (14 : Int) * a ≤ 2147483647 ∧ (-2147483648 ≤ ((14 : Int) * a) + b ∧ ((14 : Int) * a) + b ≤ 2147483647 ∧ (0 ≤ (((14 : Int) * a) + b) ∧ (((14 : Int) * a) + b) < 196 ∧ (-2147483648 ≤ (fw_g W 367 (((14 : Int) * a) + b)) → (fw_g W 367 (((14 : Int) * a) + b)) ≤ 2147483647 → (((fw_g W 367 (((14 : Int) * a) + b)) ≤ d_ → -2147483648 ≤ b + (1 : Int) ∧ b + (1 : Int) ≤ 2147483647 ∧ (jf fw_T (d + 2) 258 15 [(0, .inr (.inl 352)), (1, .inl d_), (2, .inl best), (3, .inl a), (4, .inl (b + (1 : Int)))] [] W Post)) ∧ (d_ < (fw_g W 367 (((14 : Int) * a) + b)) → ((best < 0 → -2147483648 ≤ b + (1 : Int) ∧ b + (1 : Int) ≤ 2147483647 ∧ (jf fw_T (d + 2) 258 15 [(0, .inr (.inl 352)), (1, .inl d_), (2, .inl (fw_g W 367 (((14 : Int) * a) + b))), (3, .inl a), (4, .inl (b + (1 : Int)))] [] W Post)) ∧ (0 ≤ best → ((best ≤ (fw_g W 367 (((14 : Int) * a) + b)) → -2147483648 ≤ b + (1 : Int) ∧ b + (1 : Int) ≤ 2147483647 ∧ (jf fw_T (d + 2) 258 15 [(0, .inr (.inl 352)), (1, .inl d_), (2, .inl best), (3, .inl a), (4, .inl (b + (1 : Int)))] [] W Post)) ∧ ((fw_g W 367 (((14 : Int) * a) + b)) < best → -2147483648 ≤ b + (1 : Int) ∧ b + (1 : Int) ≤ 2147483647 ∧ (jf fw_T (d + 2) 258 15 [(0, .inr (.inl 352)), (1, .inl d_), (2, .inl (fw_g W 367 (((14 : Int) * a) + b))), (3, .inl a), (4, .inl (b + (1 : Int)))] [] W Post)))))))))))))) :
    jf fw_T (d + 2) 258 15 [(0, .inr (.inl 352)), (1, .inl d_), (2, .inl best), (3, .inl a), (4, .inl b)] [] W Post := fw_ok (n := 26) (ss := [(4, [0, 1, 2, 3]), (15, [0, 1, 2, 3, 4])]) (hv := []) fr_258_ok fm_ok (ct_nextFar_ok d) hw_

theorem s_nextFar_4 {Post : Option fw_V → fw_W → Prop} {d : Nat} {W : fw_W} {d_ best a : Int}
    (hw_ : (True) ∧ ((((fw_g W 366 0) ≤ a → (-2147483648 ≤ best → best ≤ 2147483647 → Post (some (.inl best)) W)) ∧ (a < (fw_g W 366 0) → jf fw_T (d + 2) 258 15 [(0, .inr (.inl 352)), (1, .inl d_), (2, .inl best), (3, .inl a), (4, .inl (0 : Int))] [] W Post)))) :
    jf fw_T (d + 2) 258 4 [(0, .inr (.inl 352)), (1, .inl d_), (2, .inl best), (3, .inl a)] [] W Post := fw_ok (n := 7) (ss := [(4, [0, 1, 2, 3]), (15, [0, 1, 2, 3, 4])]) (hv := []) fr_258_ok fm_ok (ct_nextFar_ok d) hw_

theorem lm_nextFar_15 {Post : Option fw_V → fw_W → Prop} {d : Nat} {W : fw_W} {d_ : Int} (hpre : mt W ∧ 0 ≤ (fw_g W 366 0) ∧ (fw_g W 366 0) ≤ 14) (hP : ∀ (v : Int) , (-2147483648 ≤ v ∧ v ≤ 2147483647 ∧ (True)) → Post (some (.inl v)) W) (M4 : Int) (h4 : ∀ (best a : Int), 0 ≤ a → ((fw_g W 366 0) - a) < M4 → jf fw_T (d + 2) 258 4 [(0, .inr (.inl 352)), (1, .inl d_), (2, .inl best), (3, .inl a)] [] W Post) : ∀ (m : Nat) (best a b : Int), ((fw_g W 366 0) - b).toNat = m → 0 ≤ b ∧ 0 ≤ a ∧ a < (fw_g W 366 0) → ((fw_g W 366 0) - a) ≤ M4 → jf fw_T (d + 2) 258 15 [(0, .inr (.inl 352)), (1, .inl d_), (2, .inl best), (3, .inl a), (4, .inl b)] [] W Post := by
  intro m
  induction m using Nat.strongRecOn with
  | ind m ih =>
    intro best a b hm hi e4
    refine jf_rng (fun hrg => ?_)
    have hrg : -2147483648 ≤ d_ ∧ d_ ≤ 2147483647 ∧ -2147483648 ≤ best ∧ best ≤ 2147483647 ∧ -2147483648 ≤ a ∧ a ≤ 2147483647 ∧ -2147483648 ≤ b ∧ b ≤ 2147483647 ∧ True := hrg
    refine s_nextFar_15 ?_
    repeat' (first
      | (exact True.intro)
      | (exact hpre.1)
      | (refine And.intro ?_ ?_)
      | (refine (h4 _ _ ?_ (by omega)); (first | omega | trivial))
      | (refine (ih _ (by omega) _ _ _ rfl ?_ (by omega)); (first | omega | trivial))
      | (refine hP _ ?_; (refine ⟨by omega, by omega, ?_⟩; (first | trivial | omega)))
      | omega
      | (intro _))
theorem lm_nextFar_4 {Post : Option fw_V → fw_W → Prop} {d : Nat} {W : fw_W} {d_ : Int} (hpre : mt W ∧ 0 ≤ (fw_g W 366 0) ∧ (fw_g W 366 0) ≤ 14) (hP : ∀ (v : Int) , (-2147483648 ≤ v ∧ v ≤ 2147483647 ∧ (True)) → Post (some (.inl v)) W)  : ∀ (m : Nat) (best a : Int), ((fw_g W 366 0) - a).toNat = m → 0 ≤ a → jf fw_T (d + 2) 258 4 [(0, .inr (.inl 352)), (1, .inl d_), (2, .inl best), (3, .inl a)] [] W Post := by
  intro m
  induction m using Nat.strongRecOn with
  | ind m ih =>
    intro best a hm hi
    refine jf_rng (fun hrg => ?_)
    have hrg : -2147483648 ≤ d_ ∧ d_ ≤ 2147483647 ∧ -2147483648 ≤ best ∧ best ≤ 2147483647 ∧ -2147483648 ≤ a ∧ a ≤ 2147483647 ∧ True := hrg
    refine s_nextFar_4 ?_
    repeat' (first
      | (exact True.intro)
      | (exact hpre.1)
      | (refine And.intro ?_ ?_)
      | (refine (ih _ (by omega) _ _ rfl ?_); (first | omega | trivial))
      | (refine (lm_nextFar_15 (d_ := d_) hpre hP ((fw_g W 366 0) - a) (fun a0 a1 hi hl => ih _ (by omega) a0 a1 rfl hi) _ _ _ _ rfl ?_ (by omega)); (first | omega | trivial))
      | (refine hP _ ?_; (refine ⟨by omega, by omega, ?_⟩; (first | trivial | omega)))
      | omega
      | (intro _))
def x_nextFar : fw_X := fun as W Q => match as with
  | [.inr (.inl s_), .inl d_] => fw_if (Nat.beq s_ 352) ((mt W ∧ 0 ≤ (fw_g W 366 0) ∧ (fw_g W 366 0) ≤ 14) ∧ (∀ (v : Int), (-2147483648 ≤ v ∧ v ≤ 2147483647 ∧ (True)) → Q (some (.inl v)) W))
  | _ => False
theorem x_nextFar_ok (d : Nat) (as : List fw_V) (W : fw_W) (Q : Option fw_V → fw_W → Prop) (hx : x_nextFar as W Q) : jf fw_T (d + 2) 258 0 (fw_args 0 as) [] W Q := by
  unfold x_nextFar at hx
  split at hx
  · rename_i s_ d_
    obtain ⟨e_, hpre, hQ⟩ := fw_if_ok hx
    have e_ := Nat.eq_of_beq_eq_true e_
    subst e_
    have hP := hQ
    refine s_nextFar_0 ?_
    repeat' (first
      | (exact True.intro)
      | (exact hpre.1)
      | (refine And.intro ?_ ?_)
      | (refine (lm_nextFar_4 (d_ := d_) hpre hP _ _ _ rfl ?_); (first | omega | trivial))
      | (refine (lm_nextFar_15 (d_ := d_) hpre hP M4 h4 _ _ _ _ rfl ?_ (by omega)); (first | omega | trivial))
      | (refine hP _ ?_; (refine ⟨by omega, by omega, ?_⟩; (first | trivial | omega)))
      | omega
      | (intro _))
  · exact hx.elim

def fr_260 : fw_P := [(0, 0, 0, 0, 0), (1, 3, 2, 0, 0), (2, 0, 0, 0, 0), (3, 3, 3, 0, 0), (4, 1, 3, 0, 0), (5, 2, 0, 0, 0), (6, 64, 188, 0, 112), (9, 13, 96, 0, 0), (12, 0, 0, 0, -1), (13, 3, 4, 0, 0), (15, 0, 0, 0, 0), (16, 3, 5, 0, 0), (18, 1, 5, 0, 0), (20, 2, 0, 0, 0), (21, 64, 188, 0, 112), (24, 13, 79, 0, 0), (27, 1, 1, 0, 0), (28, 1, 5, 0, 0), (30, 40, 0, 0, 0), (31, 0, 0, 0, 1), (32, 36, 0, 0, 0), (33, 0, 0, 0, 1), (34, 11, 73, 0, 0), (37, 1, 4, 0, 0), (39, 22, 59, 0, 0), (42, 2, 0, 0, 0), (43, 50, 12, 25, 0), (46, 0, 0, 0, 14), (48, 1, 3, 0, 0), (49, 32, 0, 0, 0), (50, 1, 5, 0, 0), (52, 30, 0, 0, 0), (53, 52, 0, 0, 0), (54, 1, 4, 0, 0), (56, 13, 73, 0, 0), (59, 2, 0, 0, 0), (60, 50, 12, 25, 0), (63, 0, 0, 0, 14), (65, 1, 3, 0, 0), (66, 32, 0, 0, 0), (67, 1, 5, 0, 0), (69, 30, 0, 0, 0), (70, 52, 0, 0, 0), (71, 3, 4, 0, 0), (73, 5, 5, 0, 1), (76, 6, 18, 0, 0), (79, 1, 2, 0, 0), (80, 1, 4, 0, 0), (82, 2, 0, 0, 0), (83, 1, 3, 0, 0), (84, 64, 217, 1, 212), (87, 32, 0, 0, 0), (88, 30, 0, 0, 0), (89, 3, 2, 0, 0), (90, 5, 3, 0, 1), (93, 6, 4, 0, 0), (96, 1, 2, 0, 0), (97, 70, 0, 0, 0)]
theorem fr_260_ok : fw_mk 260 6 12 (some .int) fr_260 = true := by decide +kernel
def ct_shopsBy : List (Nat × fw_X) := [(188, x_many), (217, x_peopleOf)]
theorem ct_shopsBy_ok (d : Nat) : fw_cok fw_T (d + 1) ct_shopsBy := by
  intro q hq as W Q h
  simp only [ct_shopsBy, List.mem_cons, List.not_mem_nil, or_false] at hq
  rcases hq with rfl | rfl
  · exact jc_of (x_many_ok (d + 0) as W Q h)
  · exact jc_of (x_peopleOf_ok (d + 0) as W Q h)
theorem s_shopsBy_0 {Post : Option fw_V → fw_W → Prop} {d : Nat} {W : fw_W} {set : Int}
    (hw_ : jf fw_T (d + 2) 260 4 [(0, .inr (.inl 352)), (1, .inl set), (2, .inl (0 : Int)), (3, .inl (0 : Int))] [] W Post) :
    jf fw_T (d + 2) 260 0 [(0, .inr (.inl 352)), (1, .inl set)] [] W Post := fw_ok (n := 5) (ss := [(4, [0, 1, 2, 3]), (18, [0, 1, 2, 3, 4, 5])]) (hv := [87, 88]) fr_260_ok fm_ok (ct_shopsBy_ok d) hw_

theorem s_shopsBy_18 {Post : Option fw_V → fw_W → Prop} {d : Nat} {W : fw_W} {set sum h least k : Int}
    (hw_ : (True) ∧ ((((fw_g W 366 0) ≤ k → (0 ≤ h ∧ h < 14) ∧ (∀ v1 : Int, -2147483648 ≤ v1 → v1 ≤ 2147483647 → ∀ v2 : Int, -2147483648 ≤ v2 → v2 ≤ 2147483647 → -2147483648 ≤ h + (1 : Int) ∧ h + (1 : Int) ≤ 2147483647 ∧ (jf fw_T (d + 2) 260 4 [(0, .inr (.inl 352)), (1, .inl set), (2, .inl v2), (3, .inl (h + (1 : Int)))] [] W Post))) ∧ (k < (fw_g W 366 0) → (-2147483648 ≤ (fw_shr set k) → (fw_shr set k) ≤ 2147483647 → (-2147483648 ≤ (fw_and (fw_shr set k) (1 : Int)) → (fw_and (fw_shr set k) (1 : Int)) ≤ 2147483647 → ((¬ (fw_and (fw_shr set k) (1 : Int)) = (1 : Int) → -2147483648 ≤ k + (1 : Int) ∧ k + (1 : Int) ≤ 2147483647 ∧ (jf fw_T (d + 2) 260 18 [(0, .inr (.inl 352)), (1, .inl set), (2, .inl sum), (3, .inl h), (4, .inl least), (5, .inl (k + (1 : Int)))] [] W Post)) ∧ ((fw_and (fw_shr set k) (1 : Int)) = (1 : Int) → ((least < 0 → -2147483648 ≤ (14 : Int) * h ∧ (14 : Int) * h ≤ 2147483647 ∧ (-2147483648 ≤ ((14 : Int) * h) + k ∧ ((14 : Int) * h) + k ≤ 2147483647 ∧ (0 ≤ (((14 : Int) * h) + k) ∧ (((14 : Int) * h) + k) < 196 ∧ (-2147483648 ≤ (fw_g W 367 (((14 : Int) * h) + k)) → (fw_g W 367 (((14 : Int) * h) + k)) ≤ 2147483647 → -2147483648 ≤ k + (1 : Int) ∧ k + (1 : Int) ≤ 2147483647 ∧ (jf fw_T (d + 2) 260 18 [(0, .inr (.inl 352)), (1, .inl set), (2, .inl sum), (3, .inl h), (4, .inl (fw_g W 367 (((14 : Int) * h) + k))), (5, .inl (k + (1 : Int)))] [] W Post))))) ∧ (0 ≤ least → -2147483648 ≤ (14 : Int) * h ∧ (14 : Int) * h ≤ 2147483647 ∧ (-2147483648 ≤ ((14 : Int) * h) + k ∧ ((14 : Int) * h) + k ≤ 2147483647 ∧ (0 ≤ (((14 : Int) * h) + k) ∧ (((14 : Int) * h) + k) < 196 ∧ (-2147483648 ≤ (fw_g W 367 (((14 : Int) * h) + k)) → (fw_g W 367 (((14 : Int) * h) + k)) ≤ 2147483647 → ((least ≤ (fw_g W 367 (((14 : Int) * h) + k)) → -2147483648 ≤ k + (1 : Int) ∧ k + (1 : Int) ≤ 2147483647 ∧ (jf fw_T (d + 2) 260 18 [(0, .inr (.inl 352)), (1, .inl set), (2, .inl sum), (3, .inl h), (4, .inl least), (5, .inl (k + (1 : Int)))] [] W Post)) ∧ ((fw_g W 367 (((14 : Int) * h) + k)) < least → -2147483648 ≤ (14 : Int) * h ∧ (14 : Int) * h ≤ 2147483647 ∧ (-2147483648 ≤ ((14 : Int) * h) + k ∧ ((14 : Int) * h) + k ≤ 2147483647 ∧ (0 ≤ (((14 : Int) * h) + k) ∧ (((14 : Int) * h) + k) < 196 ∧ (-2147483648 ≤ (fw_g W 367 (((14 : Int) * h) + k)) → (fw_g W 367 (((14 : Int) * h) + k)) ≤ 2147483647 → -2147483648 ≤ k + (1 : Int) ∧ k + (1 : Int) ≤ 2147483647 ∧ (jf fw_T (d + 2) 260 18 [(0, .inr (.inl 352)), (1, .inl set), (2, .inl sum), (3, .inl h), (4, .inl (fw_g W 367 (((14 : Int) * h) + k))), (5, .inl (k + (1 : Int)))] [] W Post))))))))))))))))))) :
    jf fw_T (d + 2) 260 18 [(0, .inr (.inl 352)), (1, .inl set), (2, .inl sum), (3, .inl h), (4, .inl least), (5, .inl k)] [] W Post := fw_ok (n := 35) (ss := [(4, [0, 1, 2, 3]), (18, [0, 1, 2, 3, 4, 5])]) (hv := [87, 88]) fr_260_ok fm_ok (ct_shopsBy_ok d) hw_

theorem s_shopsBy_4 {Post : Option fw_V → fw_W → Prop} {d : Nat} {W : fw_W} {set sum h : Int}
    (hw_ : (True) ∧ ((((fw_g W 366 0) ≤ h → (-2147483648 ≤ sum → sum ≤ 2147483647 → Post (some (.inl sum)) W)) ∧ (h < (fw_g W 366 0) → jf fw_T (d + 2) 260 18 [(0, .inr (.inl 352)), (1, .inl set), (2, .inl sum), (3, .inl h), (4, .inl (-1 : Int)), (5, .inl (0 : Int))] [] W Post)))) :
    jf fw_T (d + 2) 260 4 [(0, .inr (.inl 352)), (1, .inl set), (2, .inl sum), (3, .inl h)] [] W Post := fw_ok (n := 9) (ss := [(4, [0, 1, 2, 3]), (18, [0, 1, 2, 3, 4, 5])]) (hv := [87, 88]) fr_260_ok fm_ok (ct_shopsBy_ok d) hw_

theorem lm_shopsBy_18 {Post : Option fw_V → fw_W → Prop} {d : Nat} {W : fw_W} {set : Int} (hpre : mt W ∧ 0 ≤ (fw_g W 366 0) ∧ (fw_g W 366 0) ≤ 14) (hP : ∀ (v : Int) , (-2147483648 ≤ v ∧ v ≤ 2147483647 ∧ (True)) → Post (some (.inl v)) W) (M4 : Int) (h4 : ∀ (sum h : Int), 0 ≤ h → ((fw_g W 366 0) - h) < M4 → jf fw_T (d + 2) 260 4 [(0, .inr (.inl 352)), (1, .inl set), (2, .inl sum), (3, .inl h)] [] W Post) : ∀ (m : Nat) (sum h least k : Int), ((fw_g W 366 0) - k).toNat = m → 0 ≤ k ∧ 0 ≤ h ∧ h < (fw_g W 366 0) → ((fw_g W 366 0) - h) ≤ M4 → jf fw_T (d + 2) 260 18 [(0, .inr (.inl 352)), (1, .inl set), (2, .inl sum), (3, .inl h), (4, .inl least), (5, .inl k)] [] W Post := by
  intro m
  induction m using Nat.strongRecOn with
  | ind m ih =>
    intro sum h least k hm hi e4
    refine jf_rng (fun hrg => ?_)
    have hrg : -2147483648 ≤ set ∧ set ≤ 2147483647 ∧ -2147483648 ≤ sum ∧ sum ≤ 2147483647 ∧ -2147483648 ≤ h ∧ h ≤ 2147483647 ∧ -2147483648 ≤ least ∧ least ≤ 2147483647 ∧ -2147483648 ≤ k ∧ k ≤ 2147483647 ∧ True := hrg
    refine s_shopsBy_18 ?_
    repeat' (first
      | (exact True.intro)
      | (exact hpre.1)
      | (refine And.intro ?_ ?_)
      | (refine (h4 _ _ ?_ (by omega)); (first | omega | trivial))
      | (refine (ih _ (by omega) _ _ _ _ rfl ?_ (by omega)); (first | omega | trivial))
      | (refine hP _ ?_; (refine ⟨by omega, by omega, ?_⟩; (first | trivial | omega)))
      | omega
      | (intro _))
theorem lm_shopsBy_4 {Post : Option fw_V → fw_W → Prop} {d : Nat} {W : fw_W} {set : Int} (hpre : mt W ∧ 0 ≤ (fw_g W 366 0) ∧ (fw_g W 366 0) ≤ 14) (hP : ∀ (v : Int) , (-2147483648 ≤ v ∧ v ≤ 2147483647 ∧ (True)) → Post (some (.inl v)) W)  : ∀ (m : Nat) (sum h : Int), ((fw_g W 366 0) - h).toNat = m → 0 ≤ h → jf fw_T (d + 2) 260 4 [(0, .inr (.inl 352)), (1, .inl set), (2, .inl sum), (3, .inl h)] [] W Post := by
  intro m
  induction m using Nat.strongRecOn with
  | ind m ih =>
    intro sum h hm hi
    refine jf_rng (fun hrg => ?_)
    have hrg : -2147483648 ≤ set ∧ set ≤ 2147483647 ∧ -2147483648 ≤ sum ∧ sum ≤ 2147483647 ∧ -2147483648 ≤ h ∧ h ≤ 2147483647 ∧ True := hrg
    refine s_shopsBy_4 ?_
    repeat' (first
      | (exact True.intro)
      | (exact hpre.1)
      | (refine And.intro ?_ ?_)
      | (refine (ih _ (by omega) _ _ rfl ?_); (first | omega | trivial))
      | (refine (lm_shopsBy_18 (set := set) hpre hP ((fw_g W 366 0) - h) (fun a0 a1 hi hl => ih _ (by omega) a0 a1 rfl hi) _ _ _ _ _ rfl ?_ (by omega)); (first | omega | trivial))
      | (refine hP _ ?_; (refine ⟨by omega, by omega, ?_⟩; (first | trivial | omega)))
      | omega
      | (intro _))
def x_shopsBy : fw_X := fun as W Q => match as with
  | [.inr (.inl s_), .inl set] => fw_if (Nat.beq s_ 352) ((mt W ∧ 0 ≤ (fw_g W 366 0) ∧ (fw_g W 366 0) ≤ 14) ∧ (∀ (v : Int), (-2147483648 ≤ v ∧ v ≤ 2147483647 ∧ (True)) → Q (some (.inl v)) W))
  | _ => False
theorem x_shopsBy_ok (d : Nat) (as : List fw_V) (W : fw_W) (Q : Option fw_V → fw_W → Prop) (hx : x_shopsBy as W Q) : jf fw_T (d + 2) 260 0 (fw_args 0 as) [] W Q := by
  unfold x_shopsBy at hx
  split at hx
  · rename_i s_ set
    obtain ⟨e_, hpre, hQ⟩ := fw_if_ok hx
    have e_ := Nat.eq_of_beq_eq_true e_
    subst e_
    have hP := hQ
    refine s_shopsBy_0 ?_
    repeat' (first
      | (exact True.intro)
      | (exact hpre.1)
      | (refine And.intro ?_ ?_)
      | (refine (lm_shopsBy_4 (set := set) hpre hP _ _ _ rfl ?_); (first | omega | trivial))
      | (refine (lm_shopsBy_18 (set := set) hpre hP M4 h4 _ _ _ _ _ rfl ?_ (by omega)); (first | omega | trivial))
      | (refine hP _ ?_; (refine ⟨by omega, by omega, ?_⟩; (first | trivial | omega)))
      | omega
      | (intro _))
  · exact hx.elim

def fr_262 : fw_P := [(0, 0, 0, 0, 0), (1, 3, 2, 0, 0), (2, 0, 0, 0, 0), (3, 3, 3, 0, 0), (4, 1, 3, 0, 0), (5, 2, 0, 0, 0), (6, 64, 188, 0, 112), (9, 13, 51, 0, 0), (12, 1, 2, 0, 0), (13, 1, 1, 0, 0), (14, 1, 3, 0, 0), (15, 40, 0, 0, 0), (16, 0, 0, 0, 1), (17, 36, 0, 0, 0), (18, 0, 0, 0, 1), (19, 11, 42, 0, 0), (22, 1, 3, 0, 0), (23, 20, 38, 0, 0), (26, 1, 1, 0, 0), (27, 2, 0, 0, 0), (28, 1, 3, 0, 0), (29, 64, 215, 1, 212), (32, 40, 0, 0, 0), (33, 0, 0, 0, 1), (34, 36, 0, 0, 0), (35, 21, 42, 0, 0), (38, 0, 0, 0, 1), (39, 6, 43, 0, 0), (42, 0, 0, 0, 0), (43, 30, 0, 0, 0), (44, 3, 2, 0, 0), (45, 5, 3, 0, 1), (48, 6, 4, 0, 0), (51, 1, 2, 0, 0), (52, 0, 0, 0, 1), (53, 11, 60, 0, 0), (56, 0, 0, 0, 1), (57, 6, 61, 0, 0), (60, 0, 0, 0, 0), (61, 71, 0, 0, 0)]
theorem fr_262_ok : fw_mk 262 4 12 (some .boolean) fr_262 = true := by decide +kernel
def ct_isWhole : List (Nat × fw_X) := [(215, x_hangsAt), (188, x_many)]
theorem ct_isWhole_ok (d : Nat) : fw_cok fw_T (d + 1) ct_isWhole := by
  intro q hq as W Q h
  simp only [ct_isWhole, List.mem_cons, List.not_mem_nil, or_false] at hq
  rcases hq with rfl | rfl
  · exact jc_of (x_hangsAt_ok (d + 0) as W Q h)
  · exact jc_of (x_many_ok (d + 0) as W Q h)
theorem s_isWhole_0 {Post : Option fw_V → fw_W → Prop} {d : Nat} {W : fw_W} {set : Int}
    (hw_ : jf fw_T (d + 2) 262 4 [(0, .inr (.inl 352)), (1, .inl set), (2, .inl (0 : Int)), (3, .inl (0 : Int))] [] W Post) :
    jf fw_T (d + 2) 262 0 [(0, .inr (.inl 352)), (1, .inl set)] [] W Post := fw_ok (n := 5) (ss := [(4, [0, 1, 2, 3])]) (hv := [43]) fr_262_ok fm_ok (ct_isWhole_ok d) hw_

theorem s_isWhole_4 {Post : Option fw_V → fw_W → Prop} {d : Nat} {W : fw_W} {set n h : Int}
    (hw_ : (True) ∧ ((((fw_g W 366 0) ≤ h → ((¬ n = (1 : Int) → 0 ≤ (0 : Int) ∧ (0 : Int) ≤ 1 ∧ Post (some (.inl (0 : Int))) W) ∧ (n = (1 : Int) → 0 ≤ (1 : Int) ∧ (1 : Int) ≤ 1 ∧ Post (some (.inl (1 : Int))) W))) ∧ (h < (fw_g W 366 0) → (-2147483648 ≤ (fw_shr set h) → (fw_shr set h) ≤ 2147483647 → (-2147483648 ≤ (fw_and (fw_shr set h) (1 : Int)) → (fw_and (fw_shr set h) (1 : Int)) ≤ 2147483647 → ((¬ (fw_and (fw_shr set h) (1 : Int)) = (1 : Int) → ∀ v1 : Int, -2147483648 ≤ v1 → v1 ≤ 2147483647 → -2147483648 ≤ h + (1 : Int) ∧ h + (1 : Int) ≤ 2147483647 ∧ (jf fw_T (d + 2) 262 4 [(0, .inr (.inl 352)), (1, .inl set), (2, .inl v1), (3, .inl (h + (1 : Int)))] [] W Post)) ∧ ((fw_and (fw_shr set h) (1 : Int)) = (1 : Int) → ((h = 0 → ∀ v2 : Int, -2147483648 ≤ v2 → v2 ≤ 2147483647 → -2147483648 ≤ h + (1 : Int) ∧ h + (1 : Int) ≤ 2147483647 ∧ (jf fw_T (d + 2) 262 4 [(0, .inr (.inl 352)), (1, .inl set), (2, .inl v2), (3, .inl (h + (1 : Int)))] [] W Post)) ∧ (¬ h = 0 → (0 ≤ h ∧ h < 14) ∧ ((-2147483648 ≤ (fw_shr set (fw_g W 366 (2 + 3 * h))) → (fw_shr set (fw_g W 366 (2 + 3 * h))) ≤ 2147483647 → (-2147483648 ≤ (fw_and (fw_shr set (fw_g W 366 (2 + 3 * h))) (1 : Int)) → (fw_and (fw_shr set (fw_g W 366 (2 + 3 * h))) (1 : Int)) ≤ 2147483647 → ((¬ (fw_and (fw_shr set (fw_g W 366 (2 + 3 * h))) (1 : Int)) = 0 → ∀ v3 : Int, -2147483648 ≤ v3 → v3 ≤ 2147483647 → -2147483648 ≤ h + (1 : Int) ∧ h + (1 : Int) ≤ 2147483647 ∧ (jf fw_T (d + 2) 262 4 [(0, .inr (.inl 352)), (1, .inl set), (2, .inl v3), (3, .inl (h + (1 : Int)))] [] W Post)) ∧ ((fw_and (fw_shr set (fw_g W 366 (2 + 3 * h))) (1 : Int)) = 0 → ∀ v4 : Int, -2147483648 ≤ v4 → v4 ≤ 2147483647 → -2147483648 ≤ h + (1 : Int) ∧ h + (1 : Int) ≤ 2147483647 ∧ (jf fw_T (d + 2) 262 4 [(0, .inr (.inl 352)), (1, .inl set), (2, .inl v4), (3, .inl (h + (1 : Int)))] [] W Post)))))))))))))))) :
    jf fw_T (d + 2) 262 4 [(0, .inr (.inl 352)), (1, .inl set), (2, .inl n), (3, .inl h)] [] W Post := fw_ok (n := 29) (ss := [(4, [0, 1, 2, 3])]) (hv := [43]) fr_262_ok fm_ok (ct_isWhole_ok d) hw_

theorem lm_isWhole_4 {Post : Option fw_V → fw_W → Prop} {d : Nat} {W : fw_W} {set : Int} (hpre : mt W ∧ 0 ≤ (fw_g W 366 0) ∧ (fw_g W 366 0) ≤ 14) (hP : ∀ (v : Int) , (0 ≤ v ∧ v ≤ 1 ∧ (True)) → Post (some (.inl v)) W)  : ∀ (m : Nat) (n h : Int), ((fw_g W 366 0) - h).toNat = m → 0 ≤ h → jf fw_T (d + 2) 262 4 [(0, .inr (.inl 352)), (1, .inl set), (2, .inl n), (3, .inl h)] [] W Post := by
  intro m
  induction m using Nat.strongRecOn with
  | ind m ih =>
    intro n h hm hi
    refine jf_rng (fun hrg => ?_)
    have hrg : -2147483648 ≤ set ∧ set ≤ 2147483647 ∧ -2147483648 ≤ n ∧ n ≤ 2147483647 ∧ -2147483648 ≤ h ∧ h ≤ 2147483647 ∧ True := hrg
    refine s_isWhole_4 ?_
    repeat' (first
      | (exact True.intro)
      | (exact hpre.1)
      | (refine And.intro ?_ ?_)
      | (refine (ih _ (by omega) _ _ rfl ?_); (first | omega | trivial))
      | (refine hP _ ?_; (refine ⟨by omega, by omega, ?_⟩; (first | trivial | omega)))
      | omega
      | (intro _))
def x_isWhole : fw_X := fun as W Q => match as with
  | [.inr (.inl s_), .inl set] => fw_if (Nat.beq s_ 352) ((mt W ∧ 0 ≤ (fw_g W 366 0) ∧ (fw_g W 366 0) ≤ 14) ∧ (∀ (v : Int), (0 ≤ v ∧ v ≤ 1 ∧ (True)) → Q (some (.inl v)) W))
  | _ => False
theorem x_isWhole_ok (d : Nat) (as : List fw_V) (W : fw_W) (Q : Option fw_V → fw_W → Prop) (hx : x_isWhole as W Q) : jf fw_T (d + 2) 262 0 (fw_args 0 as) [] W Q := by
  unfold x_isWhole at hx
  split at hx
  · rename_i s_ set
    obtain ⟨e_, hpre, hQ⟩ := fw_if_ok hx
    have e_ := Nat.eq_of_beq_eq_true e_
    subst e_
    have hP := hQ
    refine s_isWhole_0 ?_
    repeat' (first
      | (exact True.intro)
      | (exact hpre.1)
      | (refine And.intro ?_ ?_)
      | (refine (lm_isWhole_4 (set := set) hpre hP _ _ _ rfl ?_); (first | omega | trivial))
      | (refine hP _ ?_; (refine ⟨by omega, by omega, ?_⟩; (first | trivial | omega)))
      | omega
      | (intro _))
  · exact hx.elim

def fr_263 : fw_P := [(0, 0, 0, 0, 1), (1, 3, 2, 0, 0), (2, 1, 2, 0, 0), (3, 2, 0, 0, 0), (4, 64, 188, 0, 112), (7, 13, 82, 0, 0), (10, 1, 1, 0, 0), (11, 1, 2, 0, 0), (12, 40, 0, 0, 0), (13, 0, 0, 0, 1), (14, 36, 0, 0, 0), (15, 21, 21, 0, 0), (18, 6, 76, 0, 0), (21, 0, 0, 0, 1), (22, 3, 3, 0, 0), (23, 1, 3, 0, 0), (24, 1, 2, 0, 0), (25, 13, 76, 0, 0), (28, 1, 1, 0, 0), (29, 1, 3, 0, 0), (30, 40, 0, 0, 0), (31, 0, 0, 0, 1), (32, 36, 0, 0, 0), (33, 0, 0, 0, 1), (34, 11, 70, 0, 0), (37, 2, 0, 0, 0), (38, 1, 2, 0, 0), (39, 64, 215, 1, 212), (42, 2, 0, 0, 0), (43, 1, 3, 0, 0), (44, 64, 215, 1, 212), (47, 10, 68, 0, 0), (50, 2, 0, 0, 0), (51, 1, 2, 0, 0), (52, 64, 215, 1, 212), (55, 1, 3, 0, 0), (56, 10, 68, 0, 0), (59, 2, 0, 0, 0), (60, 1, 3, 0, 0), (61, 64, 215, 1, 212), (64, 1, 2, 0, 0), (65, 11, 70, 0, 0), (68, 0, 0, 0, 0), (69, 71, 0, 0, 0), (70, 5, 3, 0, 1), (73, 6, 23, 0, 0), (76, 5, 2, 0, 1), (79, 6, 2, 0, 0), (82, 0, 0, 0, 1), (83, 71, 0, 0, 0)]
theorem fr_263_ok : fw_mk 263 4 12 (some .boolean) fr_263 = true := by decide +kernel
def ct_areSingle : List (Nat × fw_X) := [(215, x_hangsAt), (188, x_many)]
theorem ct_areSingle_ok (d : Nat) : fw_cok fw_T (d + 1) ct_areSingle := by
  intro q hq as W Q h
  simp only [ct_areSingle, List.mem_cons, List.not_mem_nil, or_false] at hq
  rcases hq with rfl | rfl
  · exact jc_of (x_hangsAt_ok (d + 0) as W Q h)
  · exact jc_of (x_many_ok (d + 0) as W Q h)
theorem s_areSingle_0 {Post : Option fw_V → fw_W → Prop} {d : Nat} {W : fw_W} {set : Int}
    (hw_ : jf fw_T (d + 2) 263 2 [(0, .inr (.inl 352)), (1, .inl set), (2, .inl (1 : Int))] [] W Post) :
    jf fw_T (d + 2) 263 0 [(0, .inr (.inl 352)), (1, .inl set)] [] W Post := fw_ok (n := 3) (ss := [(2, [0, 1, 2]), (23, [0, 1, 2, 3])]) (hv := []) fr_263_ok fm_ok (ct_areSingle_ok d) hw_

theorem s_areSingle_23 {Post : Option fw_V → fw_W → Prop} {d : Nat} {W : fw_W} {set a b : Int}
    (hw_ : ((a ≤ b → -2147483648 ≤ a + (1 : Int) ∧ a + (1 : Int) ≤ 2147483647 ∧ (jf fw_T (d + 2) 263 2 [(0, .inr (.inl 352)), (1, .inl set), (2, .inl (a + (1 : Int)))] [] W Post)) ∧ (b < a → (-2147483648 ≤ (fw_shr set b) → (fw_shr set b) ≤ 2147483647 → (-2147483648 ≤ (fw_and (fw_shr set b) (1 : Int)) → (fw_and (fw_shr set b) (1 : Int)) ≤ 2147483647 → ((¬ (fw_and (fw_shr set b) (1 : Int)) = (1 : Int) → -2147483648 ≤ b + (1 : Int) ∧ b + (1 : Int) ≤ 2147483647 ∧ (jf fw_T (d + 2) 263 23 [(0, .inr (.inl 352)), (1, .inl set), (2, .inl a), (3, .inl (b + (1 : Int)))] [] W Post)) ∧ ((fw_and (fw_shr set b) (1 : Int)) = (1 : Int) → (0 ≤ a ∧ a < 14) ∧ ((0 ≤ b ∧ b < 14) ∧ ((((fw_g W 366 (2 + 3 * a)) = (fw_g W 366 (2 + 3 * b)) → 0 ≤ (0 : Int) ∧ (0 : Int) ≤ 1 ∧ Post (some (.inl (0 : Int))) W) ∧ (¬ (fw_g W 366 (2 + 3 * a)) = (fw_g W 366 (2 + 3 * b)) → (0 ≤ a ∧ a < 14) ∧ ((((fw_g W 366 (2 + 3 * a)) = b → 0 ≤ (0 : Int) ∧ (0 : Int) ≤ 1 ∧ Post (some (.inl (0 : Int))) W) ∧ (¬ (fw_g W 366 (2 + 3 * a)) = b → (0 ≤ b ∧ b < 14) ∧ (((¬ (fw_g W 366 (2 + 3 * b)) = a → -2147483648 ≤ b + (1 : Int) ∧ b + (1 : Int) ≤ 2147483647 ∧ (jf fw_T (d + 2) 263 23 [(0, .inr (.inl 352)), (1, .inl set), (2, .inl a), (3, .inl (b + (1 : Int)))] [] W Post)) ∧ ((fw_g W 366 (2 + 3 * b)) = a → 0 ≤ (0 : Int) ∧ (0 : Int) ≤ 1 ∧ Post (some (.inl (0 : Int))) W))))))))))))))))) :
    jf fw_T (d + 2) 263 23 [(0, .inr (.inl 352)), (1, .inl set), (2, .inl a), (3, .inl b)] [] W Post := fw_ok (n := 30) (ss := [(2, [0, 1, 2]), (23, [0, 1, 2, 3])]) (hv := []) fr_263_ok fm_ok (ct_areSingle_ok d) hw_

theorem s_areSingle_2 {Post : Option fw_V → fw_W → Prop} {d : Nat} {W : fw_W} {set a : Int}
    (hw_ : (True) ∧ ((((fw_g W 366 0) ≤ a → 0 ≤ (1 : Int) ∧ (1 : Int) ≤ 1 ∧ Post (some (.inl (1 : Int))) W) ∧ (a < (fw_g W 366 0) → (-2147483648 ≤ (fw_shr set a) → (fw_shr set a) ≤ 2147483647 → (-2147483648 ≤ (fw_and (fw_shr set a) (1 : Int)) → (fw_and (fw_shr set a) (1 : Int)) ≤ 2147483647 → ((¬ (fw_and (fw_shr set a) (1 : Int)) = 0 → jf fw_T (d + 2) 263 23 [(0, .inr (.inl 352)), (1, .inl set), (2, .inl a), (3, .inl (1 : Int))] [] W Post) ∧ ((fw_and (fw_shr set a) (1 : Int)) = 0 → -2147483648 ≤ a + (1 : Int) ∧ a + (1 : Int) ≤ 2147483647 ∧ (jf fw_T (d + 2) 263 2 [(0, .inr (.inl 352)), (1, .inl set), (2, .inl (a + (1 : Int)))] [] W Post))))))))) :
    jf fw_T (d + 2) 263 2 [(0, .inr (.inl 352)), (1, .inl set), (2, .inl a)] [] W Post := fw_ok (n := 14) (ss := [(2, [0, 1, 2]), (23, [0, 1, 2, 3])]) (hv := []) fr_263_ok fm_ok (ct_areSingle_ok d) hw_

theorem lm_areSingle_23 {Post : Option fw_V → fw_W → Prop} {d : Nat} {W : fw_W} {set : Int} (hpre : mt W ∧ 0 ≤ (fw_g W 366 0) ∧ (fw_g W 366 0) ≤ 14) (hP : ∀ (v : Int) , (0 ≤ v ∧ v ≤ 1 ∧ (True)) → Post (some (.inl v)) W) (M2 : Int) (h2 : ∀ (a : Int), 1 ≤ a → ((fw_g W 366 0) - a) < M2 → jf fw_T (d + 2) 263 2 [(0, .inr (.inl 352)), (1, .inl set), (2, .inl a)] [] W Post) : ∀ (m : Nat) (a b : Int), (a - b).toNat = m → 1 ≤ b ∧ 1 ≤ a ∧ a < (fw_g W 366 0) → ((fw_g W 366 0) - a) ≤ M2 → jf fw_T (d + 2) 263 23 [(0, .inr (.inl 352)), (1, .inl set), (2, .inl a), (3, .inl b)] [] W Post := by
  intro m
  induction m using Nat.strongRecOn with
  | ind m ih =>
    intro a b hm hi e2
    refine jf_rng (fun hrg => ?_)
    have hrg : -2147483648 ≤ set ∧ set ≤ 2147483647 ∧ -2147483648 ≤ a ∧ a ≤ 2147483647 ∧ -2147483648 ≤ b ∧ b ≤ 2147483647 ∧ True := hrg
    refine s_areSingle_23 ?_
    repeat' (first
      | (exact True.intro)
      | (exact hpre.1)
      | (refine And.intro ?_ ?_)
      | (refine (h2 _ ?_ (by omega)); (first | omega | trivial))
      | (refine (ih _ (by omega) _ _ rfl ?_ (by omega)); (first | omega | trivial))
      | (refine hP _ ?_; (refine ⟨by omega, by omega, ?_⟩; (first | trivial | omega)))
      | omega
      | (intro _))
theorem lm_areSingle_2 {Post : Option fw_V → fw_W → Prop} {d : Nat} {W : fw_W} {set : Int} (hpre : mt W ∧ 0 ≤ (fw_g W 366 0) ∧ (fw_g W 366 0) ≤ 14) (hP : ∀ (v : Int) , (0 ≤ v ∧ v ≤ 1 ∧ (True)) → Post (some (.inl v)) W)  : ∀ (m : Nat) (a : Int), ((fw_g W 366 0) - a).toNat = m → 1 ≤ a → jf fw_T (d + 2) 263 2 [(0, .inr (.inl 352)), (1, .inl set), (2, .inl a)] [] W Post := by
  intro m
  induction m using Nat.strongRecOn with
  | ind m ih =>
    intro a hm hi
    refine jf_rng (fun hrg => ?_)
    have hrg : -2147483648 ≤ set ∧ set ≤ 2147483647 ∧ -2147483648 ≤ a ∧ a ≤ 2147483647 ∧ True := hrg
    refine s_areSingle_2 ?_
    repeat' (first
      | (exact True.intro)
      | (exact hpre.1)
      | (refine And.intro ?_ ?_)
      | (refine (ih _ (by omega) _ rfl ?_); (first | omega | trivial))
      | (refine (lm_areSingle_23 (set := set) hpre hP ((fw_g W 366 0) - a) (fun a0 hi hl => ih _ (by omega) a0 rfl hi) _ _ _ rfl ?_ (by omega)); (first | omega | trivial))
      | (refine hP _ ?_; (refine ⟨by omega, by omega, ?_⟩; (first | trivial | omega)))
      | omega
      | (intro _))
def x_areSingle : fw_X := fun as W Q => match as with
  | [.inr (.inl s_), .inl set] => fw_if (Nat.beq s_ 352) ((mt W ∧ 0 ≤ (fw_g W 366 0) ∧ (fw_g W 366 0) ≤ 14) ∧ (∀ (v : Int), (0 ≤ v ∧ v ≤ 1 ∧ (True)) → Q (some (.inl v)) W))
  | _ => False
theorem x_areSingle_ok (d : Nat) (as : List fw_V) (W : fw_W) (Q : Option fw_V → fw_W → Prop) (hx : x_areSingle as W Q) : jf fw_T (d + 2) 263 0 (fw_args 0 as) [] W Q := by
  unfold x_areSingle at hx
  split at hx
  · rename_i s_ set
    obtain ⟨e_, hpre, hQ⟩ := fw_if_ok hx
    have e_ := Nat.eq_of_beq_eq_true e_
    subst e_
    have hP := hQ
    refine s_areSingle_0 ?_
    repeat' (first
      | (exact True.intro)
      | (exact hpre.1)
      | (refine And.intro ?_ ?_)
      | (refine (lm_areSingle_2 (set := set) hpre hP _ _ rfl ?_); (first | omega | trivial))
      | (refine (lm_areSingle_23 (set := set) hpre hP M2 h2 _ _ _ rfl ?_ (by omega)); (first | omega | trivial))
      | (refine hP _ ?_; (refine ⟨by omega, by omega, ?_⟩; (first | trivial | omega)))
      | omega
      | (intro _))
  · exact hx.elim

def fr_261 : fw_P := [(0, 1, 1, 0, 0), (1, 0, 0, 0, 0), (2, 0, 0, 0, 3), (3, 65, 214, 3, 300), (6, 21, 11, 0, 0), (9, 0, 0, 0, -1), (10, 70, 0, 0, 0), (11, 0, 0, 0, 0), (12, 3, 2, 0, 0), (13, 0, 0, 0, 0), (14, 3, 3, 0, 0), (15, 1, 3, 0, 0), (16, 2, 0, 0, 0), (17, 64, 250, 0, 112), (20, 13, 108, 0, 0), (23, 1, 1, 0, 0), (24, 21, 35, 0, 0), (27, 2, 0, 0, 0), (28, 1, 3, 0, 0), (29, 64, 254, 1, 312), (32, 6, 87, 0, 0), (35, 1, 1, 0, 0), (36, 0, 0, 0, 1), (37, 11, 55, 0, 0), (40, 2, 0, 0, 0), (41, 2, 0, 0, 0), (42, 64, 250, 0, 112), (45, 0, 0, 0, 1), (46, 31, 0, 0, 0), (47, 1, 3, 0, 0), (48, 31, 0, 0, 0), (49, 64, 254, 1, 312), (52, 6, 87, 0, 0), (55, 1, 1, 0, 0), (56, 0, 0, 0, 2), (57, 11, 68, 0, 0), (60, 2, 0, 0, 0), (61, 1, 3, 0, 0), (62, 64, 262, 1, 412), (65, 6, 87, 0, 0), (68, 1, 3, 0, 0), (69, 0, 0, 0, 1), (70, 36, 0, 0, 0), (71, 21, 86, 0, 0), (74, 2, 0, 0, 0), (75, 1, 3, 0, 0), (76, 64, 263, 1, 412), (79, 20, 86, 0, 0), (82, 0, 0, 0, 1), (83, 6, 87, 0, 0), (86, 0, 0, 0, 0), (87, 3, 4, 0, 0), (89, 1, 2, 0, 0), (90, 1, 4, 0, 0), (92, 20, 99, 0, 0), (95, 0, 0, 0, 1), (96, 6, 100, 0, 0), (99, 0, 0, 0, 0), (100, 30, 0, 0, 0), (101, 3, 2, 0, 0), (102, 5, 3, 0, 1), (105, 6, 15, 0, 0), (108, 1, 2, 0, 0), (109, 70, 0, 0, 0)]
theorem fr_261_ok : fw_mk 261 5 12 (some .int) fr_261 = true := by decide +kernel
def ct_counted : List (Nat × fw_X) := [(263, x_areSingle), (254, x_isApart), (214, x_isIn), (262, x_isWhole), (250, x_sets)]
theorem ct_counted_ok (d : Nat) : fw_cok fw_T (d + 2) ct_counted := by
  intro q hq as W Q h
  simp only [ct_counted, List.mem_cons, List.not_mem_nil, or_false] at hq
  rcases hq with rfl | rfl | rfl | rfl | rfl
  · exact jc_of (x_areSingle_ok (d + 0) as W Q h)
  · exact jc_of (x_isApart_ok (d + 0) as W Q h)
  · exact jc_of (x_isIn_ok (d + 1) as W Q h)
  · exact jc_of (x_isWhole_ok (d + 0) as W Q h)
  · exact jc_of (x_sets_ok (d + 0) as W Q h)
theorem s_counted_0 {Post : Option fw_V → fw_W → Prop} {d : Nat} {W : fw_W} {w : Int}
    (hw_ : (True) ∧ (∀ (r1 : Int), ((0 ≤ r1 ∧ r1 ≤ 1 ∧ ((r1 = 1 ∧ (0 : Int) ≤ w ∧ w ≤ (3 : Int)) ∨ (r1 = 0 ∧ (w < (0 : Int) ∨ (3 : Int) < w))))) → ((¬ r1 = 0 → jf fw_T (d + 3) 261 15 [(0, .inr (.inl 352)), (1, .inl w), (2, .inl (0 : Int)), (3, .inl (0 : Int))] [] W Post) ∧ (r1 = 0 → (-2147483648 ≤ (-1 : Int) → (-1 : Int) ≤ 2147483647 → Post (some (.inl (-1 : Int))) W))))) :
    jf fw_T (d + 3) 261 0 [(0, .inr (.inl 352)), (1, .inl w)] [] W Post := fw_ok (n := 10) (ss := [(15, [0, 1, 2, 3])]) (hv := [100]) fr_261_ok fm_ok (ct_counted_ok d) hw_

theorem s_counted_15 {Post : Option fw_V → fw_W → Prop} {d : Nat} {W : fw_W} {w n set : Int}
    (hw_ : (True) ∧ ((((fw_shl 1 (fw_g W 366 0)) ≤ set → (-2147483648 ≤ n → n ≤ 2147483647 → Post (some (.inl n)) W)) ∧ (set < (fw_shl 1 (fw_g W 366 0)) → ((¬ w = 0 → ((¬ w = (1 : Int) → ((¬ w = (2 : Int) → (-2147483648 ≤ (fw_and set (1 : Int)) → (fw_and set (1 : Int)) ≤ 2147483647 → ((¬ (fw_and set (1 : Int)) = 0 → (((0 : Int) = 0 → ∀ v1 : Int, -2147483648 ≤ v1 → v1 ≤ 2147483647 → -2147483648 ≤ set + (1 : Int) ∧ set + (1 : Int) ≤ 2147483647 ∧ (jf fw_T (d + 3) 261 15 [(0, .inr (.inl 352)), (1, .inl w), (2, .inl v1), (3, .inl (set + (1 : Int)))] [] W Post)) ∧ (¬ (0 : Int) = 0 → ∀ v2 : Int, -2147483648 ≤ v2 → v2 ≤ 2147483647 → -2147483648 ≤ set + (1 : Int) ∧ set + (1 : Int) ≤ 2147483647 ∧ (jf fw_T (d + 3) 261 15 [(0, .inr (.inl 352)), (1, .inl w), (2, .inl v2), (3, .inl (set + (1 : Int)))] [] W Post)))) ∧ ((fw_and set (1 : Int)) = 0 → (mt W ∧ 0 ≤ (fw_g W 366 0) ∧ (fw_g W 366 0) ≤ 14) ∧ (∀ (r3 : Int), ((0 ≤ r3 ∧ r3 ≤ 1 ∧ (True))) → ((r3 = 0 → (((0 : Int) = 0 → ∀ v4 : Int, -2147483648 ≤ v4 → v4 ≤ 2147483647 → -2147483648 ≤ set + (1 : Int) ∧ set + (1 : Int) ≤ 2147483647 ∧ (jf fw_T (d + 3) 261 15 [(0, .inr (.inl 352)), (1, .inl w), (2, .inl v4), (3, .inl (set + (1 : Int)))] [] W Post)) ∧ (¬ (0 : Int) = 0 → ∀ v5 : Int, -2147483648 ≤ v5 → v5 ≤ 2147483647 → -2147483648 ≤ set + (1 : Int) ∧ set + (1 : Int) ≤ 2147483647 ∧ (jf fw_T (d + 3) 261 15 [(0, .inr (.inl 352)), (1, .inl w), (2, .inl v5), (3, .inl (set + (1 : Int)))] [] W Post)))) ∧ (¬ r3 = 0 → (((1 : Int) = 0 → ∀ v6 : Int, -2147483648 ≤ v6 → v6 ≤ 2147483647 → -2147483648 ≤ set + (1 : Int) ∧ set + (1 : Int) ≤ 2147483647 ∧ (jf fw_T (d + 3) 261 15 [(0, .inr (.inl 352)), (1, .inl w), (2, .inl v6), (3, .inl (set + (1 : Int)))] [] W Post)) ∧ (¬ (1 : Int) = 0 → ∀ v7 : Int, -2147483648 ≤ v7 → v7 ≤ 2147483647 → -2147483648 ≤ set + (1 : Int) ∧ set + (1 : Int) ≤ 2147483647 ∧ (jf fw_T (d + 3) 261 15 [(0, .inr (.inl 352)), (1, .inl w), (2, .inl v7), (3, .inl (set + (1 : Int)))] [] W Post)))))))))) ∧ (w = (2 : Int) → (mt W ∧ 0 ≤ (fw_g W 366 0) ∧ (fw_g W 366 0) ≤ 14) ∧ (∀ (r8 : Int), ((0 ≤ r8 ∧ r8 ≤ 1 ∧ (True))) → ((r8 = 0 → ∀ v9 : Int, -2147483648 ≤ v9 → v9 ≤ 2147483647 → -2147483648 ≤ set + (1 : Int) ∧ set + (1 : Int) ≤ 2147483647 ∧ (jf fw_T (d + 3) 261 15 [(0, .inr (.inl 352)), (1, .inl w), (2, .inl v9), (3, .inl (set + (1 : Int)))] [] W Post)) ∧ (¬ r8 = 0 → ∀ v10 : Int, -2147483648 ≤ v10 → v10 ≤ 2147483647 → -2147483648 ≤ set + (1 : Int) ∧ set + (1 : Int) ≤ 2147483647 ∧ (jf fw_T (d + 3) 261 15 [(0, .inr (.inl 352)), (1, .inl w), (2, .inl v10), (3, .inl (set + (1 : Int)))] [] W Post))))))) ∧ (w = (1 : Int) → (True) ∧ (-2147483648 ≤ (fw_shl 1 (fw_g W 366 0)) - (1 : Int) ∧ (fw_shl 1 (fw_g W 366 0)) - (1 : Int) ≤ 2147483647 ∧ (-2147483648 ≤ ((fw_shl 1 (fw_g W 366 0)) - (1 : Int)) - set ∧ ((fw_shl 1 (fw_g W 366 0)) - (1 : Int)) - set ≤ 2147483647 ∧ ((mt W ∧ 0 ≤ (fw_g W 366 0) ∧ (fw_g W 366 0) ≤ 14) ∧ (∀ (r11 : Int), ((0 ≤ r11 ∧ r11 ≤ 1 ∧ (True))) → ((r11 = 0 → ∀ v12 : Int, -2147483648 ≤ v12 → v12 ≤ 2147483647 → -2147483648 ≤ set + (1 : Int) ∧ set + (1 : Int) ≤ 2147483647 ∧ (jf fw_T (d + 3) 261 15 [(0, .inr (.inl 352)), (1, .inl w), (2, .inl v12), (3, .inl (set + (1 : Int)))] [] W Post)) ∧ (¬ r11 = 0 → ∀ v13 : Int, -2147483648 ≤ v13 → v13 ≤ 2147483647 → -2147483648 ≤ set + (1 : Int) ∧ set + (1 : Int) ≤ 2147483647 ∧ (jf fw_T (d + 3) 261 15 [(0, .inr (.inl 352)), (1, .inl w), (2, .inl v13), (3, .inl (set + (1 : Int)))] [] W Post)))))))))) ∧ (w = 0 → (mt W ∧ 0 ≤ (fw_g W 366 0) ∧ (fw_g W 366 0) ≤ 14) ∧ (∀ (r14 : Int), ((0 ≤ r14 ∧ r14 ≤ 1 ∧ (True))) → ((r14 = 0 → ∀ v15 : Int, -2147483648 ≤ v15 → v15 ≤ 2147483647 → -2147483648 ≤ set + (1 : Int) ∧ set + (1 : Int) ≤ 2147483647 ∧ (jf fw_T (d + 3) 261 15 [(0, .inr (.inl 352)), (1, .inl w), (2, .inl v15), (3, .inl (set + (1 : Int)))] [] W Post)) ∧ (¬ r14 = 0 → ∀ v16 : Int, -2147483648 ≤ v16 → v16 ≤ 2147483647 → -2147483648 ≤ set + (1 : Int) ∧ set + (1 : Int) ≤ 2147483647 ∧ (jf fw_T (d + 3) 261 15 [(0, .inr (.inl 352)), (1, .inl w), (2, .inl v16), (3, .inl (set + (1 : Int)))] [] W Post)))))))))) :
    jf fw_T (d + 3) 261 15 [(0, .inr (.inl 352)), (1, .inl w), (2, .inl n), (3, .inl set)] [] W Post := fw_ok (n := 33) (ss := [(15, [0, 1, 2, 3])]) (hv := [100]) fr_261_ok fm_ok (ct_counted_ok d) hw_

theorem lm_counted_15 {Post : Option fw_V → fw_W → Prop} {d : Nat} {W : fw_W} {w : Int} (hpre : mt W ∧ 0 ≤ (fw_g W 366 0) ∧ (fw_g W 366 0) ≤ 14) (hP : ∀ (v : Int) , (-2147483648 ≤ v ∧ v ≤ 2147483647 ∧ (True)) → Post (some (.inl v)) W)  : ∀ (m : Nat) (n set : Int), ((fw_shl 1 (fw_g W 366 0)) - set).toNat = m → 0 ≤ set → jf fw_T (d + 3) 261 15 [(0, .inr (.inl 352)), (1, .inl w), (2, .inl n), (3, .inl set)] [] W Post := by
  intro m
  induction m using Nat.strongRecOn with
  | ind m ih =>
    intro n set hm hi
    refine jf_rng (fun hrg => ?_)
    have hrg : -2147483648 ≤ w ∧ w ≤ 2147483647 ∧ -2147483648 ≤ n ∧ n ≤ 2147483647 ∧ -2147483648 ≤ set ∧ set ≤ 2147483647 ∧ True := hrg
    refine s_counted_15 ?_
    have s1 := fw_shl1 hpre.2.1 hpre.2.2
    repeat' (first
      | (exact True.intro)
      | (exact hpre.1)
      | (refine And.intro ?_ ?_)
      | (refine (ih _ (by omega) _ _ rfl ?_); (first | omega | trivial))
      | (refine hP _ ?_; (refine ⟨by omega, by omega, ?_⟩; (first | trivial | omega)))
      | omega
      | (intro _))
def x_counted : fw_X := fun as W Q => match as with
  | [.inr (.inl s_), .inl w] => fw_if (Nat.beq s_ 352) ((mt W ∧ 0 ≤ (fw_g W 366 0) ∧ (fw_g W 366 0) ≤ 14) ∧ (∀ (v : Int), (-2147483648 ≤ v ∧ v ≤ 2147483647 ∧ (True)) → Q (some (.inl v)) W))
  | _ => False
theorem x_counted_ok (d : Nat) (as : List fw_V) (W : fw_W) (Q : Option fw_V → fw_W → Prop) (hx : x_counted as W Q) : jf fw_T (d + 3) 261 0 (fw_args 0 as) [] W Q := by
  unfold x_counted at hx
  split at hx
  · rename_i s_ w
    obtain ⟨e_, hpre, hQ⟩ := fw_if_ok hx
    have e_ := Nat.eq_of_beq_eq_true e_
    subst e_
    have hP := hQ
    refine s_counted_0 ?_
    have s1 := fw_shl1 hpre.2.1 hpre.2.2
    repeat' (first
      | (exact True.intro)
      | (exact hpre.1)
      | (refine And.intro ?_ ?_)
      | (refine (lm_counted_15 (w := w) hpre hP _ _ _ rfl ?_); (first | omega | trivial))
      | (refine hP _ ?_; (refine ⟨by omega, by omega, ?_⟩; (first | trivial | omega)))
      | omega
      | (intro _))
  · exact hx.elim

def fr_267 : fw_P := [(0, 2, 0, 0, 0), (1, 1, 1, 0, 0), (2, 64, 215, 1, 212), (5, 1, 2, 0, 0), (6, 11, 17, 0, 0), (9, 2, 0, 0, 0), (10, 1, 1, 0, 0), (11, 64, 216, 1, 212), (14, 6, 22, 0, 0), (17, 2, 0, 0, 0), (18, 1, 2, 0, 0), (19, 64, 216, 1, 212), (22, 70, 0, 0, 0)]
theorem fr_267_ok : fw_mk 267 3 12 (some .int) fr_267 = true := by decide +kernel
def ct_lengthOf : List (Nat × fw_X) := [(215, x_hangsAt), (216, x_streetOf)]
theorem ct_lengthOf_ok (d : Nat) : fw_cok fw_T (d + 1) ct_lengthOf := by
  intro q hq as W Q h
  simp only [ct_lengthOf, List.mem_cons, List.not_mem_nil, or_false] at hq
  rcases hq with rfl | rfl
  · exact jc_of (x_hangsAt_ok (d + 0) as W Q h)
  · exact jc_of (x_streetOf_ok (d + 0) as W Q h)
theorem s_lengthOf_0 {Post : Option fw_V → fw_W → Prop} {d : Nat} {W : fw_W} {a b : Int}
    (hw_ : (0 ≤ a ∧ a < 14) ∧ (((¬ (fw_g W 366 (2 + 3 * a)) = b → (0 ≤ b ∧ b < 14) ∧ ((-2147483648 ≤ (fw_g W 366 (3 + 3 * b)) → (fw_g W 366 (3 + 3 * b)) ≤ 2147483647 → Post (some (.inl (fw_g W 366 (3 + 3 * b)))) W))) ∧ ((fw_g W 366 (2 + 3 * a)) = b → (0 ≤ a ∧ a < 14) ∧ ((-2147483648 ≤ (fw_g W 366 (3 + 3 * a)) → (fw_g W 366 (3 + 3 * a)) ≤ 2147483647 → Post (some (.inl (fw_g W 366 (3 + 3 * a)))) W)))))) :
    jf fw_T (d + 2) 267 0 [(0, .inr (.inl 352)), (1, .inl a), (2, .inl b)] [] W Post := fw_ok (n := 11) (ss := []) (hv := []) fr_267_ok fm_ok (ct_lengthOf_ok d) hw_

def x_lengthOf : fw_X := fun as W Q => match as with
  | [.inr (.inl s_), .inl a, .inl b] => fw_if (Nat.beq s_ 352) ((0 ≤ a ∧ a < 14 ∧ 0 ≤ b ∧ b < 14) ∧ (∀ (v : Int), (-2147483648 ≤ v ∧ v ≤ 2147483647 ∧ (True)) → Q (some (.inl v)) W))
  | _ => False
theorem x_lengthOf_ok (d : Nat) (as : List fw_V) (W : fw_W) (Q : Option fw_V → fw_W → Prop) (hx : x_lengthOf as W Q) : jf fw_T (d + 2) 267 0 (fw_args 0 as) [] W Q := by
  unfold x_lengthOf at hx
  split at hx
  · rename_i s_ a b
    obtain ⟨e_, hpre, hQ⟩ := fw_if_ok hx
    have e_ := Nat.eq_of_beq_eq_true e_
    subst e_
    have hP := hQ
    refine s_lengthOf_0 ?_
    repeat' (first
      | (exact True.intro)
      | (exact hpre.1)
      | (refine And.intro ?_ ?_)
      | (refine hP _ ?_; (refine ⟨by omega, by omega, ?_⟩; (first | trivial | omega)))
      | omega
      | (intro _))
  · exact hx.elim

