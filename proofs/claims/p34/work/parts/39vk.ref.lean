/-! the reference, method by method -/
def fr_192 : fw_P := [(0, 1, 1, 0, 0), (1, 2, 0, 0, 0), (2, 50, 12, 3, 0), (5, 13, 21, 0, 0), (8, 2, 0, 0, 0), (9, 50, 12, 1, 0), (12, 1, 1, 0, 0), (13, 54, 0, 0, 0), (14, 0, 0, 0, 255), (17, 36, 0, 0, 0), (18, 6, 22, 0, 0), (21, 0, 0, 0, 0), (22, 70, 0, 0, 0)]
theorem fr_192_ok : fw_mk 192 2 12 (some .int) fr_192 = true := by decide +kernel
theorem s_sign_0 {Post : Option fw_V → fw_W → Prop} {d : Nat} {W : fw_W} {k : Int}
    (hw_ : (0 ≤ (fw_g W 352 3) → (fw_g W 352 3) ≤ 1200 → (((fw_g W 352 3) ≤ k → (-2147483648 ≤ (0 : Int) → (0 : Int) ≤ 2147483647 → Post (some (.inl (0 : Int))) W)) ∧ (k < (fw_g W 352 3) → 0 ≤ k ∧ k < 1200 ∧ (-128 ≤ (fw_g W 354 k) → (fw_g W 354 k) ≤ 127 → (-2147483648 ≤ (fw_and (fw_g W 354 k) (255 : Int)) → (fw_and (fw_g W 354 k) (255 : Int)) ≤ 2147483647 → (-2147483648 ≤ (fw_and (fw_g W 354 k) (255 : Int)) → (fw_and (fw_g W 354 k) (255 : Int)) ≤ 2147483647 → Post (some (.inl (fw_and (fw_g W 354 k) (255 : Int)))) W))))))) :
    jf fw_T (d + 1) 192 0 [(0, .inr (.inl 352)), (1, .inl k)] [] W Post := fw_ok (n := 13) (ss := []) (hv := []) fr_192_ok fm_ok (fw_c0 _ _) hw_

def x_sign : fw_X := fun as W Q => match as with
  | [.inr (.inl s_), .inl k] => fw_if (Nat.beq s_ 352) ((0 ≤ k ∧ (fw_g W 352 3) ≤ 1200) ∧ (∀ (v : Int), (-2147483648 ≤ v ∧ v ≤ 2147483647 ∧ (0 ≤ v ∧ v ≤ 255 ∧ (k < (fw_g W 352 3) → v = fw_and ((fw_g W 354 k)) 255) ∧ ((fw_g W 352 3) ≤ k → v = 0))) → Q (some (.inl v)) W))
  | _ => False
theorem x_sign_ok (d : Nat) (as : List fw_V) (W : fw_W) (Q : Option fw_V → fw_W → Prop) (hx : x_sign as W Q) : jf fw_T (d + 1) 192 0 (fw_args 0 as) [] W Q := by
  unfold x_sign at hx
  split at hx
  · rename_i s_ k
    obtain ⟨e_, hpre, hQ⟩ := fw_if_ok hx
    have e_ := Nat.eq_of_beq_eq_true e_
    subst e_
    have hP := hQ
    refine s_sign_0 ?_
    have ha := fw_and_b (fw_g W 354 k) (y := 255) (by omega) (by omega)
    repeat' (first
      | (exact True.intro)
      | (exact hpre.1)
      | (refine And.intro ?_ ?_)
      | (refine hP _ ?_; (refine ⟨by omega, by omega, ?_⟩; (exact ⟨by omega, by omega, fun z => by first | rfl | omega, fun z => by omega⟩)))
      | omega
      | (intro _))
  · exact hx.elim

def fr_193 : fw_P := [(0, 1, 0, 0, 0), (1, 0, 0, 0, 97), (3, 12, 16, 0, 0), (6, 1, 0, 0, 0), (7, 0, 0, 0, 122), (9, 14, 16, 0, 0), (12, 0, 0, 0, 1), (13, 6, 17, 0, 0), (16, 0, 0, 0, 0), (17, 71, 0, 0, 0)]
theorem fr_193_ok : fw_mk 193 1 12 (some .boolean) fr_193 = true := by decide +kernel
theorem s_isLetter_0 {Post : Option fw_V → fw_W → Prop} {d : Nat} {W : fw_W} {c : Int}
    (hw_ : ((c < (97 : Int) → 0 ≤ (0 : Int) ∧ (0 : Int) ≤ 1 ∧ Post (some (.inl (0 : Int))) W) ∧ ((97 : Int) ≤ c → (((122 : Int) < c → 0 ≤ (0 : Int) ∧ (0 : Int) ≤ 1 ∧ Post (some (.inl (0 : Int))) W) ∧ (c ≤ (122 : Int) → 0 ≤ (1 : Int) ∧ (1 : Int) ≤ 1 ∧ Post (some (.inl (1 : Int))) W))))) :
    jf fw_T (d + 1) 193 0 [(0, .inl c)] [] W Post := fw_ok (n := 10) (ss := []) (hv := []) fr_193_ok fm_ok (fw_c0 _ _) hw_

def x_isLetter : fw_X := fun as W Q => match as with
  | [.inl c] => (True) ∧ (∀ (v : Int), (0 ≤ v ∧ v ≤ 1 ∧ ((v = 1 ∧ 97 ≤ c) ∨ (v = 0 ∧ (c < 97 ∨ 122 < c)))) → Q (some (.inl v)) W)
  | _ => False
theorem x_isLetter_ok (d : Nat) (as : List fw_V) (W : fw_W) (Q : Option fw_V → fw_W → Prop) (hx : x_isLetter as W Q) : jf fw_T (d + 1) 193 0 (fw_args 0 as) [] W Q := by
  unfold x_isLetter at hx
  split at hx
  · rename_i c
    obtain ⟨hpre, hQ⟩ := hx
    have hP := hQ
    refine s_isLetter_0 ?_
    repeat' (first
      | (exact True.intro)
      | (exact hpre.1)
      | (refine And.intro ?_ ?_)
      | (refine hP _ ?_; (refine ⟨by omega, by omega, ?_⟩; (first | trivial | omega)))
      | omega
      | (intro _))
  · exact hx.elim

def fr_195 : fw_P := [(0, 1, 0, 0, 0), (1, 0, 0, 0, 48), (3, 12, 16, 0, 0), (6, 1, 0, 0, 0), (7, 0, 0, 0, 57), (9, 14, 16, 0, 0), (12, 0, 0, 0, 1), (13, 6, 17, 0, 0), (16, 0, 0, 0, 0), (17, 71, 0, 0, 0)]
theorem fr_195_ok : fw_mk 195 1 12 (some .boolean) fr_195 = true := by decide +kernel
theorem s_isDigit_0 {Post : Option fw_V → fw_W → Prop} {d : Nat} {W : fw_W} {c : Int}
    (hw_ : ((c < (48 : Int) → 0 ≤ (0 : Int) ∧ (0 : Int) ≤ 1 ∧ Post (some (.inl (0 : Int))) W) ∧ ((48 : Int) ≤ c → (((57 : Int) < c → 0 ≤ (0 : Int) ∧ (0 : Int) ≤ 1 ∧ Post (some (.inl (0 : Int))) W) ∧ (c ≤ (57 : Int) → 0 ≤ (1 : Int) ∧ (1 : Int) ≤ 1 ∧ Post (some (.inl (1 : Int))) W))))) :
    jf fw_T (d + 1) 195 0 [(0, .inl c)] [] W Post := fw_ok (n := 10) (ss := []) (hv := []) fr_195_ok fm_ok (fw_c0 _ _) hw_

def x_isDigit : fw_X := fun as W Q => match as with
  | [.inl c] => (True) ∧ (∀ (v : Int), (0 ≤ v ∧ v ≤ 1 ∧ ((v = 1 ∧ 48 ≤ c ∧ c ≤ 57) ∨ (v = 0 ∧ (c < 48 ∨ 57 < c)))) → Q (some (.inl v)) W)
  | _ => False
theorem x_isDigit_ok (d : Nat) (as : List fw_V) (W : fw_W) (Q : Option fw_V → fw_W → Prop) (hx : x_isDigit as W Q) : jf fw_T (d + 1) 195 0 (fw_args 0 as) [] W Q := by
  unfold x_isDigit at hx
  split at hx
  · rename_i c
    obtain ⟨hpre, hQ⟩ := hx
    have hP := hQ
    refine s_isDigit_0 ?_
    repeat' (first
      | (exact True.intro)
      | (exact hpre.1)
      | (refine And.intro ?_ ?_)
      | (refine hP _ ?_; (refine ⟨by omega, by omega, ?_⟩; (first | trivial | omega)))
      | omega
      | (intro _))
  · exact hx.elim

def fr_196 : fw_P := [(0, 2, 0, 0, 0), (1, 50, 12, 4, 0), (4, 21, 11, 0, 0), (7, 0, 0, 0, 1), (8, 6, 12, 0, 0), (11, 0, 0, 0, 0), (12, 71, 0, 0, 0)]
theorem fr_196_ok : fw_mk 196 1 12 (some .boolean) fr_196 = true := by decide +kernel
theorem s_isGood_0 {Post : Option fw_V → fw_W → Prop} {d : Nat} {W : fw_W}
    (hw_ : (-2147483648 ≤ (fw_g W 352 4) → (fw_g W 352 4) ≤ 2147483647 → ((¬ (fw_g W 352 4) = 0 → 0 ≤ (0 : Int) ∧ (0 : Int) ≤ 1 ∧ Post (some (.inl (0 : Int))) W) ∧ ((fw_g W 352 4) = 0 → 0 ≤ (1 : Int) ∧ (1 : Int) ≤ 1 ∧ Post (some (.inl (1 : Int))) W)))) :
    jf fw_T (d + 1) 196 0 [(0, .inr (.inl 352))] [] W Post := fw_ok (n := 7) (ss := []) (hv := []) fr_196_ok fm_ok (fw_c0 _ _) hw_

def x_isGood : fw_X := fun as W Q => match as with
  | [.inr (.inl s_)] => fw_if (Nat.beq s_ 352) ((True) ∧ (∀ (v : Int), (0 ≤ v ∧ v ≤ 1 ∧ ((v = 1 ∧ (fw_g W 352 4) = 0) ∨ (v = 0 ∧ ¬ (fw_g W 352 4) = 0))) → Q (some (.inl v)) W))
  | _ => False
theorem x_isGood_ok (d : Nat) (as : List fw_V) (W : fw_W) (Q : Option fw_V → fw_W → Prop) (hx : x_isGood as W Q) : jf fw_T (d + 1) 196 0 (fw_args 0 as) [] W Q := by
  unfold x_isGood at hx
  split at hx
  · rename_i s_
    obtain ⟨e_, hpre, hQ⟩ := fw_if_ok hx
    have e_ := Nat.eq_of_beq_eq_true e_
    subst e_
    have hP := hQ
    refine s_isGood_0 ?_
    repeat' (first
      | (exact True.intro)
      | (exact hpre.1)
      | (refine And.intro ?_ ?_)
      | (refine hP _ ?_; (refine ⟨by omega, by omega, ?_⟩; (first | trivial | omega)))
      | omega
      | (intro _))
  · exact hx.elim

def fr_201 : fw_P := [(0, 2, 0, 0, 0), (1, 50, 12, 4, 0), (4, 25, 8, 0, 0), (7, 72, 0, 0, 0), (8, 2, 0, 0, 0), (9, 1, 1, 0, 0), (10, 51, 12, 4, 0), (13, 2, 0, 0, 0), (14, 1, 2, 0, 0), (15, 51, 12, 5, 0), (18, 72, 0, 0, 0)]
theorem fr_201_ok : fw_mk 201 3 12 none fr_201 = true := by decide +kernel
theorem s_fails_0 {Post : Option fw_V → fw_W → Prop} {d : Nat} {W : fw_W} {kd pl : Int}
    (hw_ : (-2147483648 ≤ (fw_g W 352 4) → (fw_g W 352 4) ≤ 2147483647 → (((fw_g W 352 4) ≤ 0 → -2147483648 ≤ kd ∧ kd ≤ 2147483647 ∧ (-2147483648 ≤ pl ∧ pl ≤ 2147483647 ∧ (Post none (fw_up (fw_up W 352 4 kd) 352 5 pl)))) ∧ (0 < (fw_g W 352 4) → Post none W)))) :
    jf fw_T (d + 1) 201 0 [(0, .inr (.inl 352)), (1, .inl kd), (2, .inl pl)] [] W Post := fw_ok (n := 11) (ss := []) (hv := []) fr_201_ok fm_ok (fw_c0 _ _) hw_

def x_fails : fw_X := fun as W Q => match as with
  | [.inr (.inl s_), .inl kd, .inl pl] => fw_if (Nat.beq s_ 352) ((1 ≤ kd) ∧ (∀ (f : fw_W), ((0 < (fw_g W 352 4) ∧ (fw_g f 352 4) = (fw_g W 352 4)) ∨ ((fw_g W 352 4) ≤ 0 ∧ (fw_g f 352 4) = kd)) → Q none (fw_put [] 352 [4, 5] W f)))
  | _ => False
theorem x_fails_ok (d : Nat) (as : List fw_V) (W : fw_W) (Q : Option fw_V → fw_W → Prop) (hx : x_fails as W Q) : jf fw_T (d + 1) 201 0 (fw_args 0 as) [] W Q := by
  unfold x_fails at hx
  split at hx
  · rename_i s_ kd pl
    obtain ⟨e_, hpre, hQ⟩ := fw_if_ok hx
    have e_ := Nat.eq_of_beq_eq_true e_
    subst e_
    have hP : ∀ (W2 : fw_W), fw_sm [] 352 [4, 5] W W2 → _ → Q none W2 := fun W2 hs hr => fw_sm_use (Q := fun Z => Q none Z) hs (hQ W2 hr)
    refine jf_rng (fun hrg => ?_)
    have hrg : -2147483648 ≤ kd ∧ kd ≤ 2147483647 ∧ -2147483648 ≤ pl ∧ pl ≤ 2147483647 ∧ True := hrg
    refine s_fails_0 ?_
    repeat' (first
      | (exact True.intro)
      | (exact hpre.1)
      | (refine And.intro ?_ ?_)
      | (refine hP _ (by repeat (first | exact fw_sm_refl | exact fw_sm_put0 | refine fw_sm_arr ?_ rfl | refine fw_sm_up ?_ rfl | refine fw_sm_put ?_ rfl | refine fw_sm_cp ?_ rfl)) ?_; (first | omega | (right; refine ⟨by omega, ?_⟩; simp (disch := first | decide | omega) only [fg_same, fg_lit, fg_in, fg_fin, fg_out, fg_fout, fg_up, true_and, and_true, true_or, or_true, true_implies])))
      | omega
      | (intro _))
  · exact hx.elim

def fr_200 : fw_P := [(0, 2, 0, 0, 0), (1, 2, 0, 0, 0), (2, 50, 12, 8, 0), (5, 0, 0, 0, 1), (6, 11, 13, 0, 0), (9, 0, 0, 0, 1), (10, 6, 14, 0, 0), (13, 0, 0, 0, 2), (14, 2, 0, 0, 0), (15, 50, 12, 6, 0), (18, 64, 201, 2, 312), (21, 72, 0, 0, 0)]
theorem fr_200_ok : fw_mk 200 1 12 none fr_200 = true := by decide +kernel
def ct_misplaced : List (Nat × fw_X) := [(201, x_fails)]
theorem ct_misplaced_ok (d : Nat) : fw_cok fw_T (d + 1) ct_misplaced := by
  intro q hq as W Q h
  simp only [ct_misplaced, List.mem_cons, List.not_mem_nil, or_false] at hq
  rcases hq with rfl
  · exact jc_of (x_fails_ok (d + 0) as W Q h)
theorem s_misplaced_0 {Post : Option fw_V → fw_W → Prop} {d : Nat} {W : fw_W}
    (hw_ : (0 ≤ (fw_g W 352 8) → (fw_g W 352 8) ≤ 5 → ((¬ (fw_g W 352 8) = (1 : Int) → (0 ≤ (fw_g W 352 6) → (fw_g W 352 6) ≤ 1200 → (1 ≤ (2 : Int)) ∧ (∀ (f1 : fw_W), (((0 < (fw_g W 352 4) ∧ (fw_g f1 352 4) = (fw_g W 352 4)) ∨ ((fw_g W 352 4) ≤ 0 ∧ (fw_g f1 352 4) = (2 : Int)))) → Post none (fw_put [] 352 [4, 5] W f1)))) ∧ ((fw_g W 352 8) = (1 : Int) → (0 ≤ (fw_g W 352 6) → (fw_g W 352 6) ≤ 1200 → (1 ≤ (1 : Int)) ∧ (∀ (f2 : fw_W), (((0 < (fw_g W 352 4) ∧ (fw_g f2 352 4) = (fw_g W 352 4)) ∨ ((fw_g W 352 4) ≤ 0 ∧ (fw_g f2 352 4) = (1 : Int)))) → Post none (fw_put [] 352 [4, 5] W f2))))))) :
    jf fw_T (d + 2) 200 0 [(0, .inr (.inl 352))] [] W Post := fw_ok (n := 12) (ss := []) (hv := []) fr_200_ok fm_ok (ct_misplaced_ok d) hw_

def x_misplaced : fw_X := fun as W Q => match as with
  | [.inr (.inl s_)] => fw_if (Nat.beq s_ 352) ((True) ∧ (∀ (f : fw_W), (0 < (fw_g f 352 4)) → Q none (fw_put [] 352 [4, 5] W f)))
  | _ => False
theorem x_misplaced_ok (d : Nat) (as : List fw_V) (W : fw_W) (Q : Option fw_V → fw_W → Prop) (hx : x_misplaced as W Q) : jf fw_T (d + 2) 200 0 (fw_args 0 as) [] W Q := by
  unfold x_misplaced at hx
  split at hx
  · rename_i s_
    obtain ⟨e_, hpre, hQ⟩ := fw_if_ok hx
    have e_ := Nat.eq_of_beq_eq_true e_
    subst e_
    have hP : ∀ (W2 : fw_W), fw_sm [] 352 [4, 5] W W2 → _ → Q none W2 := fun W2 hs hr => fw_sm_use (Q := fun Z => Q none Z) hs (hQ W2 hr)
    refine s_misplaced_0 ?_
    repeat' (first
      | (exact True.intro)
      | (exact hpre.1)
      | (refine And.intro ?_ ?_)
      | (refine hP _ (by repeat (first | exact fw_sm_refl | exact fw_sm_put0 | refine fw_sm_arr ?_ rfl | refine fw_sm_up ?_ rfl | refine fw_sm_put ?_ rfl | refine fw_sm_cp ?_ rfl)) ?_; (first | omega | (simp (disch := first | decide | omega) only [fg_same, fg_lit, fg_in, fg_fin, fg_out, fg_fout, fg_up, true_and, and_true, true_or, or_true, true_implies]; omega)))
      | omega
      | (intro _))
  · exact hx.elim

