/-! the reader's town -/
theorem ta_0 {W : fw_W} {c : Nat} (h : fw_g W c 0 = 0) : ta W c := by
  unfold ta
  rw [h]
  exact ⟨by omega, by omega, fun z => absurd z (by omega), fun _ => 0, fun k k1 k2 => by omega⟩
theorem ta_p4 {W : fw_W} (h : ta W 4) : tr (fw_g W 4 0) (fun z => fw_g W 5 z) ∧ 0 ≤ fw_g W 4 0 ∧ fw_g W 4 0 ≤ 14 := ⟨h.2.2, h.1, h.2.1⟩
theorem ta_put4 {S F : List Nat} {W f : fw_W} (e : S.any (fun k => Nat.beq k 5) = true) (e2 : fw_inS S 0 F 4 0 = true) (h : 0 ≤ fw_g f 4 0 ∧ fw_g f 4 0 ≤ 14 ∧ tr (fw_g f 4 0) (fun z => fw_g f 5 z)) : ta (fw_put S 0 F W f) 4 := by
  have a : fw_g (fw_put S 0 F W f) 4 0 = fw_g f 4 0 := by
    unfold fw_g fw_put
    rw [show (0 : Int).toNat = 0 from rfl, e2]
  have b : (fun z => fw_g (fw_put S 0 F W f) (4 + 1) z) = fun z => fw_g f 5 z := funext (fun z => by
    unfold fw_g fw_put fw_inS
    rw [show 4 + 1 = 5 from rfl, e]
    rfl)
  unfold ta
  rw [a, b]
  exact h
/-- the reader's own cells change alone, its town is a town -/
def rk (W W2 : fw_W) : Prop := sc 12 1000 W W2 ∧ ta W2 4
theorem rk_put {F S : List Nat} {W W1 f : fw_W} (h : rk W W1) (e : sc_b 12 1000 S F = true) (e2 : sc_b 4 5 S F = true) : rk W (fw_put S 0 F W1 f) := ⟨sc_tr h.1 (sc_put e), ta_sc (sc_put e2) (by omega) (by omega) h.2⟩
theorem rk_up {W W1 : fw_W} {c : Nat} {i z : Int} (h : rk W W1) (e : c < 4 ∨ (5 < c ∧ c < 12)) : rk W (fw_up W1 c i z) := ⟨sc_tr h.1 (sc_up (by omega)), ta_sc (lo := 4) (hi := 5) (sc_up (by omega)) (by omega) (by omega) h.2⟩
theorem rk_seed {W W1 : fw_W} {z : Int} (h : rk W W1) : rk W (fw_up W1 4 1 z) := by
  have a : fw_g (fw_up W1 4 1 z) 4 0 = fw_g W1 4 0 := fg_lit rfl
  refine ⟨sc_tr h.1 (sc_up (by omega)), ?_⟩
  unfold ta
  rw [a]
  exact ⟨h.2.1, h.2.2.1, tr_congr h.2.2.2 (fun k k1 k2 => fg_up rfl)⟩
theorem rk_add {S F : List Nat} {W W1 f : fw_W} (h : rk W W1) (e : sc_b 12 1000 S F = true) (e1 : S.any (fun k => Nat.beq k 5) = true) (e2 : fw_inS S 0 F 4 0 = true) (t : 0 ≤ fw_g f 4 0 ∧ fw_g f 4 0 ≤ 14 ∧ tr (fw_g f 4 0) (fun z => fw_g f 5 z)) : rk W (fw_put S 0 F W1 f) := ⟨sc_tr h.1 (sc_put e), ta_put4 e1 e2 t⟩

def fv_reader : List (Nat × ai_C) := [(1, .inr (.inr (.inr (7, [.inl (0, 1200, true), .inl (0, 11, true), .inl (0, 1200, true), .inl (-2147483648, 2147483647, true), .inr (.inr ()), .inr (.inl [2]), .inl (0, 1200, true)])))), (2, .inl (.byte, 1200, -128, 127, true)), (3, .inr (.inr (.inr (5, [.inr (.inl [4]), .inr (.inl [8]), .inr (.inl [9]), .inl (0, 4, true), .inl (-2147483648, 2147483647, true), .inl (-2147483648, 2147483647, true), .inr (.inl [1]), .inr (.inl [10]), .inr (.inl [11]), .inl (0, 1, true)])))), (4, .inr (.inr (.inr (9, [.inl (0, 14, true), .inl (0, 999, true), .inr (.inl [5]), .inr (.inl [6]), .inr (.inl [7])])))), (5, .inl (.int, 14, -1, 13, true)), (6, .inl (.int, 14, 0, 99, true)), (7, .inl (.int, 14, 0, 99, true)), (8, .inl (.int, 4, 0, 13, true)), (9, .inl (.int, 4, 0, 13, true)), (10, .inr (.inl 14)), (11, .inr (.inl 4))]
def fg_reader_G : fw_G := []
theorem fv_reader_ok : fw_view fw_T fv_reader fg_reader_G := fw_vb_ok (by decide +kernel)
def fr_65 : fw_P := [(0, 2, 0, 0, 0), (1, 1, 1, 0, 0), (2, 51, 5, 4, 0), (5, 2, 0, 0, 0), (6, 2, 0, 0, 0), (7, 50, 5, 6, 0), (10, 50, 7, 2, 0), (13, 51, 5, 5, 0), (16, 0, 0, 0, 0), (17, 71, 0, 0, 0)]
theorem fr_65_ok : fw_mk 65 2 5 (some .boolean) fr_65 = true := by decide +kernel
theorem s_k_blame_0 {Post : Option fw_V → fw_W → Prop} {d : Nat} {W : fw_W} {fa : Int}
    (hw_ : -2147483648 ≤ fa ∧ fa ≤ 2147483647 ∧ ((0 ≤ (fw_g W 1 2) → (fw_g W 1 2) ≤ 1200 → -2147483648 ≤ (fw_g W 1 2) ∧ (fw_g W 1 2) ≤ 2147483647 ∧ (0 ≤ (0 : Int) ∧ (0 : Int) ≤ 1 ∧ Post (some (.inl (0 : Int))) (fw_up (fw_up W 3 4 fa) 3 5 (fw_g W 1 2)))))) :
    jf fw_T (d + 1) 65 0 [(0, .inr (.inl 3)), (1, .inl fa)] [] W Post := fw_ok (n := 11) (ss := []) (hv := []) fr_65_ok fv_reader_ok (fw_c0 _ _) hw_

def x_k_blame : fw_X := fun as W Q => match as with
  | [.inr (.inl s_), .inl fa] => fw_if (Nat.beq s_ 3) ((True) ∧ (∀ (v : Int) (f : fw_W), (0 ≤ v ∧ v ≤ 1 ∧ (True)) → Q (some (.inl v)) (fw_put [] 0 [3004, 3005] W f)))
  | _ => False
theorem x_k_blame_ok (d : Nat) (as : List fw_V) (W : fw_W) (Q : Option fw_V → fw_W → Prop) (hx : x_k_blame as W Q) : jf fw_T (d + 1) 65 0 (fw_args 0 as) [] W Q := by
  unfold x_k_blame at hx
  split at hx
  · rename_i s_ fa
    obtain ⟨e_, hpre, hQ⟩ := fw_if_ok hx
    have e_ := Nat.eq_of_beq_eq_true e_
    subst e_
    have hP : ∀ (v : Int) (W2 : fw_W), fw_sm [] 0 [3004, 3005] W W2 → _ → Q (some (.inl v)) W2 := fun v W2 hs hr => fw_sm_use (Q := fun Z => Q (some (.inl v)) Z) hs (hQ v W2 hr)
    refine jf_rng (fun hrg => ?_)
    have hrg : -2147483648 ≤ fa ∧ fa ≤ 2147483647 ∧ True := hrg
    refine s_k_blame_0 ?_
    repeat' (first
      | (exact True.intro)
      | (exact hpre.1)
      | (refine And.intro ?_ ?_)
      | (refine hP _ _ (by repeat (first | exact fw_sm_refl | exact fw_sm_put0 | refine fw_sm_arr ?_ rfl | refine fw_sm_up ?_ rfl | refine fw_sm_put ?_ rfl | refine fw_sm_cp ?_ rfl)) ?_; (refine ⟨by omega, by omega, ?_⟩; (first | trivial | omega)))
      | omega
      | (intro _))
  · exact hx.elim

def fr_64 : fw_P := [(0, 2, 0, 0, 0), (1, 2, 0, 0, 0), (2, 50, 5, 6, 0), (5, 50, 7, 1, 0), (8, 0, 0, 0, 1), (9, 11, 16, 0, 0), (12, 0, 0, 0, 1), (13, 6, 17, 0, 0), (16, 0, 0, 0, 2), (17, 64, 65, 1, 205), (20, 71, 0, 0, 0)]
theorem fr_64_ok : fw_mk 64 1 5 (some .boolean) fr_64 = true := by decide +kernel
def ct_k_misplaced : List (Nat × fw_X) := [(65, x_k_blame)]
theorem ct_k_misplaced_ok (d : Nat) : fw_cok fw_T (d + 1) ct_k_misplaced := by
  intro q hq as W Q h
  simp only [ct_k_misplaced, List.mem_cons, List.not_mem_nil, or_false] at hq
  rcases hq with rfl
  · exact jc_of (x_k_blame_ok (d + 0) as W Q h)
theorem s_k_misplaced_0 {Post : Option fw_V → fw_W → Prop} {d : Nat} {W : fw_W}
    (hw_ : (0 ≤ (fw_g W 1 1) → (fw_g W 1 1) ≤ 11 → ((¬ (fw_g W 1 1) = (1 : Int) → (True) ∧ (∀ (r1 : Int) (f2 : fw_W), ((0 ≤ r1 ∧ r1 ≤ 1 ∧ (True))) → 0 ≤ r1 ∧ r1 ≤ 1 ∧ Post (some (.inl r1)) (fw_put [] 0 [3004, 3005] W f2))) ∧ ((fw_g W 1 1) = (1 : Int) → (True) ∧ (∀ (r3 : Int) (f4 : fw_W), ((0 ≤ r3 ∧ r3 ≤ 1 ∧ (True))) → 0 ≤ r3 ∧ r3 ≤ 1 ∧ Post (some (.inl r3)) (fw_put [] 0 [3004, 3005] W f4)))))) :
    jf fw_T (d + 2) 64 0 [(0, .inr (.inl 3))] [] W Post := fw_ok (n := 11) (ss := []) (hv := []) fr_64_ok fv_reader_ok (ct_k_misplaced_ok d) hw_

def x_k_misplaced : fw_X := fun as W Q => match as with
  | [.inr (.inl s_)] => fw_if (Nat.beq s_ 3) ((True) ∧ (∀ (v : Int) (f : fw_W), (0 ≤ v ∧ v ≤ 1 ∧ (True)) → Q (some (.inl v)) (fw_put [] 0 [3004, 3005] W f)))
  | _ => False
theorem x_k_misplaced_ok (d : Nat) (as : List fw_V) (W : fw_W) (Q : Option fw_V → fw_W → Prop) (hx : x_k_misplaced as W Q) : jf fw_T (d + 2) 64 0 (fw_args 0 as) [] W Q := by
  unfold x_k_misplaced at hx
  split at hx
  · rename_i s_
    obtain ⟨e_, hpre, hQ⟩ := fw_if_ok hx
    have e_ := Nat.eq_of_beq_eq_true e_
    subst e_
    have hP : ∀ (v : Int) (W2 : fw_W), fw_sm [] 0 [3004, 3005] W W2 → _ → Q (some (.inl v)) W2 := fun v W2 hs hr => fw_sm_use (Q := fun Z => Q (some (.inl v)) Z) hs (hQ v W2 hr)
    refine s_k_misplaced_0 ?_
    repeat' (first
      | (exact True.intro)
      | (exact hpre.1)
      | (refine And.intro ?_ ?_)
      | (refine hP _ _ (by repeat (first | exact fw_sm_refl | exact fw_sm_put0 | refine fw_sm_arr ?_ rfl | refine fw_sm_up ?_ rfl | refine fw_sm_put ?_ rfl | refine fw_sm_cp ?_ rfl)) ?_; (refine ⟨by omega, by omega, ?_⟩; (first | trivial | omega)))
      | omega
      | (intro _))
  · exact hx.elim

def fr_66 : fw_P := [(0, 0, 0, 0, 0), (1, 3, 4, 0, 0), (3, 1, 4, 0, 0), (5, 1, 3, 0, 0), (6, 13, 34, 0, 0), (9, 1, 4, 0, 0), (11, 2, 2, 0, 0), (12, 57, 0, 0, 0), (13, 13, 34, 0, 0), (16, 2, 2, 0, 0), (17, 1, 4, 0, 0), (19, 85, 0, 0, 0), (20, 81, 0, 0, 0), (21, 90, 0, 0, 0), (22, 21, 28, 0, 0), (25, 1, 4, 0, 0), (27, 70, 0, 0, 0), (28, 5, 4, 0, 1), (31, 6, 3, 0, 0), (34, 0, 0, 0, -1), (35, 70, 0, 0, 0)]
theorem fr_66_ok : fw_mk 66 5 5 (some .int) fr_66 = true := by decide +kernel
theorem s_k_findH_0 {Post : Option fw_V → fw_W → Prop} {d : Nat} {W : fw_W} {co : Int}
    (hw_ : jf fw_T (d + 1) 66 3 [(0, .inr (.inr 1000)), (2, .inr (.inl 10)), (3, .inl co), (4, .inl (0 : Int))] [] W Post) :
    jf fw_T (d + 1) 66 0 [(0, .inr (.inr 1000)), (2, .inr (.inl 10)), (3, .inl co)] [] W Post := fw_ok (n := 3) (ss := [(3, [0, 2, 3, 4])]) (hv := []) fr_66_ok fv_reader_ok (fw_c0 _ _) hw_

theorem s_k_findH_3 {Post : Option fw_V → fw_W → Prop} {d : Nat} {W : fw_W} {co i : Int}
    (hw_ : ((co ≤ i → (-2147483648 ≤ (-1 : Int) → (-1 : Int) ≤ 2147483647 → Post (some (.inl (-1 : Int))) W)) ∧ (i < co → (((14 : Int) ≤ i → (-2147483648 ≤ (-1 : Int) → (-1 : Int) ≤ 2147483647 → Post (some (.inl (-1 : Int))) W)) ∧ (i < (14 : Int) → 0 ≤ i ∧ i < 14 ∧ ((∀ v1 : Int, -1 ≤ v1 → v1 ≤ 1 → ((¬ v1 = 0 → -2147483648 ≤ i + (1 : Int) ∧ i + (1 : Int) ≤ 2147483647 ∧ (jf fw_T (d + 1) 66 3 [(0, .inr (.inr 1000)), (2, .inr (.inl 10)), (3, .inl co), (4, .inl (i + (1 : Int)))] [] W Post)) ∧ (v1 = 0 → (-2147483648 ≤ i → i ≤ 2147483647 → Post (some (.inl i)) W)))))))))) :
    jf fw_T (d + 1) 66 3 [(0, .inr (.inr 1000)), (2, .inr (.inl 10)), (3, .inl co), (4, .inl i)] [] W Post := fw_ok (n := 16) (ss := [(3, [0, 2, 3, 4])]) (hv := []) fr_66_ok fv_reader_ok (fw_c0 _ _) hw_

theorem lm_k_findH_3 {Post : Option fw_V → fw_W → Prop} {d : Nat} {W : fw_W} {co : Int} (hpre : True) (hP : ∀ (v : Int) , (-2147483648 ≤ v ∧ v ≤ 2147483647 ∧ (v = -1 ∨ (0 ≤ v ∧ v < co))) → Post (some (.inl v)) W)  : ∀ (m : Nat) (i : Int), (co - i).toNat = m → 0 ≤ i → jf fw_T (d + 1) 66 3 [(0, .inr (.inr 1000)), (2, .inr (.inl 10)), (3, .inl co), (4, .inl i)] [] W Post := by
  intro m
  induction m using Nat.strongRecOn with
  | ind m ih =>
    intro i hm hi
    refine jf_rng (fun hrg => ?_)
    have hrg : -2147483648 ≤ co ∧ co ≤ 2147483647 ∧ -2147483648 ≤ i ∧ i ≤ 2147483647 ∧ True := hrg
    refine s_k_findH_3 ?_
    repeat' (first
      | (exact True.intro)
      | (exact hpre.1)
      | (refine And.intro ?_ ?_)
      | (refine (ih _ (by omega) _ rfl ?_); (first | omega | trivial))
      | (refine hP _ ?_; (refine ⟨by omega, by omega, ?_⟩; (omega)))
      | omega
      | (intro _))
def x_k_findH : fw_X := fun as W Q => match as with
  | [.inr (.inr l0_), .inr (.inl r1_), .inl co] => fw_if (Nat.beq l0_ 1000) (fw_if (Nat.beq r1_ 10) ((True) ∧ (∀ (v : Int), (-2147483648 ≤ v ∧ v ≤ 2147483647 ∧ (v = -1 ∨ (0 ≤ v ∧ v < co))) → Q (some (.inl v)) W)))
  | _ => False
theorem x_k_findH_ok (d : Nat) (as : List fw_V) (W : fw_W) (Q : Option fw_V → fw_W → Prop) (hx : x_k_findH as W Q) : jf fw_T (d + 1) 66 0 (fw_args 0 as) [] W Q := by
  unfold x_k_findH at hx
  split at hx
  · rename_i l0_ r1_ co
    obtain ⟨e0_, hx0⟩ := fw_if_ok hx
    have e0_ := Nat.eq_of_beq_eq_true e0_
    clear hx
    subst e0_
    obtain ⟨e1_, hx1⟩ := fw_if_ok hx0
    have e1_ := Nat.eq_of_beq_eq_true e1_
    clear hx0
    subst e1_
    obtain ⟨hpre, hQ⟩ := hx1
    have hP := hQ
    refine s_k_findH_0 ?_
    repeat' (first
      | (exact True.intro)
      | (exact hpre.1)
      | (refine And.intro ?_ ?_)
      | (refine (lm_k_findH_3 (co := co) hpre hP _ _ rfl ?_); (first | omega | trivial))
      | (refine hP _ ?_; (refine ⟨by omega, by omega, ?_⟩; (omega)))
      | omega
      | (intro _))
  · exact hx.elim

theorem s_k_findC_0 {Post : Option fw_V → fw_W → Prop} {d : Nat} {W : fw_W} {co : Int}
    (hw_ : jf fw_T (d + 1) 66 3 [(0, .inr (.inr 1000)), (2, .inr (.inl 11)), (3, .inl co), (4, .inl (0 : Int))] [] W Post) :
    jf fw_T (d + 1) 66 0 [(0, .inr (.inr 1000)), (2, .inr (.inl 11)), (3, .inl co)] [] W Post := fw_ok (n := 3) (ss := [(3, [0, 2, 3, 4])]) (hv := []) fr_66_ok fv_reader_ok (fw_c0 _ _) hw_

theorem s_k_findC_3 {Post : Option fw_V → fw_W → Prop} {d : Nat} {W : fw_W} {co i : Int}
    (hw_ : ((co ≤ i → (-2147483648 ≤ (-1 : Int) → (-1 : Int) ≤ 2147483647 → Post (some (.inl (-1 : Int))) W)) ∧ (i < co → (((4 : Int) ≤ i → (-2147483648 ≤ (-1 : Int) → (-1 : Int) ≤ 2147483647 → Post (some (.inl (-1 : Int))) W)) ∧ (i < (4 : Int) → 0 ≤ i ∧ i < 4 ∧ ((∀ v1 : Int, -1 ≤ v1 → v1 ≤ 1 → ((¬ v1 = 0 → -2147483648 ≤ i + (1 : Int) ∧ i + (1 : Int) ≤ 2147483647 ∧ (jf fw_T (d + 1) 66 3 [(0, .inr (.inr 1000)), (2, .inr (.inl 11)), (3, .inl co), (4, .inl (i + (1 : Int)))] [] W Post)) ∧ (v1 = 0 → (-2147483648 ≤ i → i ≤ 2147483647 → Post (some (.inl i)) W)))))))))) :
    jf fw_T (d + 1) 66 3 [(0, .inr (.inr 1000)), (2, .inr (.inl 11)), (3, .inl co), (4, .inl i)] [] W Post := fw_ok (n := 16) (ss := [(3, [0, 2, 3, 4])]) (hv := []) fr_66_ok fv_reader_ok (fw_c0 _ _) hw_

theorem lm_k_findC_3 {Post : Option fw_V → fw_W → Prop} {d : Nat} {W : fw_W} {co : Int} (hpre : True) (hP : ∀ (v : Int) , (-2147483648 ≤ v ∧ v ≤ 2147483647 ∧ (v = -1 ∨ (0 ≤ v ∧ v < co))) → Post (some (.inl v)) W)  : ∀ (m : Nat) (i : Int), (co - i).toNat = m → 0 ≤ i → jf fw_T (d + 1) 66 3 [(0, .inr (.inr 1000)), (2, .inr (.inl 11)), (3, .inl co), (4, .inl i)] [] W Post := by
  intro m
  induction m using Nat.strongRecOn with
  | ind m ih =>
    intro i hm hi
    refine jf_rng (fun hrg => ?_)
    have hrg : -2147483648 ≤ co ∧ co ≤ 2147483647 ∧ -2147483648 ≤ i ∧ i ≤ 2147483647 ∧ True := hrg
    refine s_k_findC_3 ?_
    repeat' (first
      | (exact True.intro)
      | (exact hpre.1)
      | (refine And.intro ?_ ?_)
      | (refine (ih _ (by omega) _ rfl ?_); (first | omega | trivial))
      | (refine hP _ ?_; (refine ⟨by omega, by omega, ?_⟩; (omega)))
      | omega
      | (intro _))
def x_k_findC : fw_X := fun as W Q => match as with
  | [.inr (.inr l0_), .inr (.inl r1_), .inl co] => fw_if (Nat.beq l0_ 1000) (fw_if (Nat.beq r1_ 11) ((True) ∧ (∀ (v : Int), (-2147483648 ≤ v ∧ v ≤ 2147483647 ∧ (v = -1 ∨ (0 ≤ v ∧ v < co))) → Q (some (.inl v)) W)))
  | _ => False
theorem x_k_findC_ok (d : Nat) (as : List fw_V) (W : fw_W) (Q : Option fw_V → fw_W → Prop) (hx : x_k_findC as W Q) : jf fw_T (d + 1) 66 0 (fw_args 0 as) [] W Q := by
  unfold x_k_findC at hx
  split at hx
  · rename_i l0_ r1_ co
    obtain ⟨e0_, hx0⟩ := fw_if_ok hx
    have e0_ := Nat.eq_of_beq_eq_true e0_
    clear hx
    subst e0_
    obtain ⟨e1_, hx1⟩ := fw_if_ok hx0
    have e1_ := Nat.eq_of_beq_eq_true e1_
    clear hx0
    subst e1_
    obtain ⟨hpre, hQ⟩ := hx1
    have hP := hQ
    refine s_k_findC_0 ?_
    repeat' (first
      | (exact True.intro)
      | (exact hpre.1)
      | (refine And.intro ?_ ?_)
      | (refine (lm_k_findC_3 (co := co) hpre hP _ _ rfl ?_); (first | omega | trivial))
      | (refine hP _ ?_; (refine ⟨by omega, by omega, ?_⟩; (omega)))
      | omega
      | (intro _))
  · exact hx.elim

def fr_63 : fw_P := [(0, 2, 0, 0, 0), (1, 50, 5, 6, 0), (4, 50, 7, 1, 0), (7, 0, 0, 0, 4), (8, 10, 16, 0, 0), (11, 2, 0, 0, 0), (12, 64, 64, 0, 105), (15, 71, 0, 0, 0), (16, 2, 0, 0, 0), (17, 50, 5, 6, 0), (20, 50, 7, 4, 0), (23, 2, 1, 0, 0), (24, 1, 2, 0, 0), (25, 65, 66, 3, 500), (28, 0, 0, 0, -1), (29, 10, 38, 0, 0), (32, 2, 0, 0, 0), (33, 0, 0, 0, 3), (34, 64, 65, 1, 205), (37, 71, 0, 0, 0), (38, 2, 0, 0, 0), (39, 50, 5, 6, 0), (42, 64, 96, 0, 107), (45, 0, 0, 0, 1), (46, 71, 0, 0, 0)]
theorem fr_63_ok : fw_mk 63 3 5 (some .boolean) fr_63 = true := by decide +kernel
def ct_k_isNewH : List (Nat × fw_X) := [(64, x_k_misplaced), (65, x_k_blame), (66, x_k_findH), (96, x_k_step)]
theorem ct_k_isNewH_ok (d : Nat) : fw_cok fw_T (d + 3) ct_k_isNewH := by
  intro q hq as W Q h
  simp only [ct_k_isNewH, List.mem_cons, List.not_mem_nil, or_false] at hq
  rcases hq with rfl | rfl | rfl | rfl
  · exact jc_of (x_k_misplaced_ok (d + 1) as W Q h)
  · exact jc_of (x_k_blame_ok (d + 2) as W Q h)
  · exact jc_of (x_k_findH_ok (d + 2) as W Q h)
  · exact jc_of (x_k_step_ok (d + 0) as W Q h)
theorem s_k_isNewH_0 {Post : Option fw_V → fw_W → Prop} {d : Nat} {W : fw_W} {co : Int}
    (hw_ : (0 ≤ (fw_g W 1 1) → (fw_g W 1 1) ≤ 11 → (((fw_g W 1 1) = (4 : Int) → (True) ∧ (∀ (r1 : Int), ((-2147483648 ≤ r1 ∧ r1 ≤ 2147483647 ∧ (r1 = -1 ∨ (0 ≤ r1 ∧ r1 < co)))) → ((r1 = (-1 : Int) → (True) ∧ (∀ (f2 : fw_W), ((True)) → 0 ≤ (1 : Int) ∧ (1 : Int) ≤ 1 ∧ Post (some (.inl (1 : Int))) (fw_put [] 0 [1001, 1002, 1003, 1006] W f2))) ∧ (¬ r1 = (-1 : Int) → (True) ∧ (∀ (r3 : Int) (f4 : fw_W), ((0 ≤ r3 ∧ r3 ≤ 1 ∧ (True))) → 0 ≤ r3 ∧ r3 ≤ 1 ∧ Post (some (.inl r3)) (fw_put [] 0 [3004, 3005] W f4)))))) ∧ (¬ (fw_g W 1 1) = (4 : Int) → (True) ∧ (∀ (r5 : Int) (f6 : fw_W), ((0 ≤ r5 ∧ r5 ≤ 1 ∧ (True))) → 0 ≤ r5 ∧ r5 ≤ 1 ∧ Post (some (.inl r5)) (fw_put [] 0 [3004, 3005] W f6)))))) :
    jf fw_T (d + 4) 63 0 [(0, .inr (.inl 3)), (1, .inr (.inl 10)), (2, .inl co)] [] W Post := fw_ok (n := 19) (ss := []) (hv := []) fr_63_ok fv_reader_ok (ct_k_isNewH_ok d) hw_

def x_k_isNewH : fw_X := fun as W Q => match as with
  | [.inr (.inl s_), .inr (.inl r0_), .inl co] => fw_if (Nat.beq s_ 3) (fw_if (Nat.beq r0_ 10) ((True) ∧ (∀ (v : Int) (f : fw_W), (0 ≤ v ∧ v ≤ 1 ∧ (True)) → Q (some (.inl v)) (fw_put [] 0 [1001, 1002, 1003, 1006, 3004, 3005] W f))))
  | _ => False
theorem x_k_isNewH_ok (d : Nat) (as : List fw_V) (W : fw_W) (Q : Option fw_V → fw_W → Prop) (hx : x_k_isNewH as W Q) : jf fw_T (d + 4) 63 0 (fw_args 0 as) [] W Q := by
  unfold x_k_isNewH at hx
  split at hx
  · rename_i s_ r0_ co
    obtain ⟨e0_, hx0⟩ := fw_if_ok hx
    have e0_ := Nat.eq_of_beq_eq_true e0_
    clear hx
    subst e0_
    obtain ⟨e1_, hx1⟩ := fw_if_ok hx0
    have e1_ := Nat.eq_of_beq_eq_true e1_
    clear hx0
    subst e1_
    obtain ⟨hpre, hQ⟩ := hx1
    have hP : ∀ (v : Int) (W2 : fw_W), fw_sm [] 0 [1001, 1002, 1003, 1006, 3004, 3005] W W2 → _ → Q (some (.inl v)) W2 := fun v W2 hs hr => fw_sm_use (Q := fun Z => Q (some (.inl v)) Z) hs (hQ v W2 hr)
    refine s_k_isNewH_0 ?_
    repeat' (first
      | (exact True.intro)
      | (exact hpre.1)
      | (refine And.intro ?_ ?_)
      | (refine hP _ _ (by repeat (first | exact fw_sm_refl | exact fw_sm_put0 | refine fw_sm_arr ?_ rfl | refine fw_sm_up ?_ rfl | refine fw_sm_put ?_ rfl | refine fw_sm_cp ?_ rfl)) ?_; (refine ⟨by omega, by omega, ?_⟩; (first | trivial | omega)))
      | omega
      | (intro _))
  · exact hx.elim

def ct_k_isNewC : List (Nat × fw_X) := [(64, x_k_misplaced), (65, x_k_blame), (66, x_k_findC), (96, x_k_step)]
theorem ct_k_isNewC_ok (d : Nat) : fw_cok fw_T (d + 3) ct_k_isNewC := by
  intro q hq as W Q h
  simp only [ct_k_isNewC, List.mem_cons, List.not_mem_nil, or_false] at hq
  rcases hq with rfl | rfl | rfl | rfl
  · exact jc_of (x_k_misplaced_ok (d + 1) as W Q h)
  · exact jc_of (x_k_blame_ok (d + 2) as W Q h)
  · exact jc_of (x_k_findC_ok (d + 2) as W Q h)
  · exact jc_of (x_k_step_ok (d + 0) as W Q h)
theorem s_k_isNewC_0 {Post : Option fw_V → fw_W → Prop} {d : Nat} {W : fw_W} {co : Int}
    (hw_ : (0 ≤ (fw_g W 1 1) → (fw_g W 1 1) ≤ 11 → (((fw_g W 1 1) = (4 : Int) → (True) ∧ (∀ (r1 : Int), ((-2147483648 ≤ r1 ∧ r1 ≤ 2147483647 ∧ (r1 = -1 ∨ (0 ≤ r1 ∧ r1 < co)))) → ((r1 = (-1 : Int) → (True) ∧ (∀ (f2 : fw_W), ((True)) → 0 ≤ (1 : Int) ∧ (1 : Int) ≤ 1 ∧ Post (some (.inl (1 : Int))) (fw_put [] 0 [1001, 1002, 1003, 1006] W f2))) ∧ (¬ r1 = (-1 : Int) → (True) ∧ (∀ (r3 : Int) (f4 : fw_W), ((0 ≤ r3 ∧ r3 ≤ 1 ∧ (True))) → 0 ≤ r3 ∧ r3 ≤ 1 ∧ Post (some (.inl r3)) (fw_put [] 0 [3004, 3005] W f4)))))) ∧ (¬ (fw_g W 1 1) = (4 : Int) → (True) ∧ (∀ (r5 : Int) (f6 : fw_W), ((0 ≤ r5 ∧ r5 ≤ 1 ∧ (True))) → 0 ≤ r5 ∧ r5 ≤ 1 ∧ Post (some (.inl r5)) (fw_put [] 0 [3004, 3005] W f6)))))) :
    jf fw_T (d + 4) 63 0 [(0, .inr (.inl 3)), (1, .inr (.inl 11)), (2, .inl co)] [] W Post := fw_ok (n := 19) (ss := []) (hv := []) fr_63_ok fv_reader_ok (ct_k_isNewC_ok d) hw_

def x_k_isNewC : fw_X := fun as W Q => match as with
  | [.inr (.inl s_), .inr (.inl r0_), .inl co] => fw_if (Nat.beq s_ 3) (fw_if (Nat.beq r0_ 11) ((True) ∧ (∀ (v : Int) (f : fw_W), (0 ≤ v ∧ v ≤ 1 ∧ (True)) → Q (some (.inl v)) (fw_put [] 0 [1001, 1002, 1003, 1006, 3004, 3005] W f))))
  | _ => False
theorem x_k_isNewC_ok (d : Nat) (as : List fw_V) (W : fw_W) (Q : Option fw_V → fw_W → Prop) (hx : x_k_isNewC as W Q) : jf fw_T (d + 4) 63 0 (fw_args 0 as) [] W Q := by
  unfold x_k_isNewC at hx
  split at hx
  · rename_i s_ r0_ co
    obtain ⟨e0_, hx0⟩ := fw_if_ok hx
    have e0_ := Nat.eq_of_beq_eq_true e0_
    clear hx
    subst e0_
    obtain ⟨e1_, hx1⟩ := fw_if_ok hx0
    have e1_ := Nat.eq_of_beq_eq_true e1_
    clear hx0
    subst e1_
    obtain ⟨hpre, hQ⟩ := hx1
    have hP : ∀ (v : Int) (W2 : fw_W), fw_sm [] 0 [1001, 1002, 1003, 1006, 3004, 3005] W W2 → _ → Q (some (.inl v)) W2 := fun v W2 hs hr => fw_sm_use (Q := fun Z => Q (some (.inl v)) Z) hs (hQ v W2 hr)
    refine s_k_isNewC_0 ?_
    repeat' (first
      | (exact True.intro)
      | (exact hpre.1)
      | (refine And.intro ?_ ?_)
      | (refine hP _ _ (by repeat (first | exact fw_sm_refl | exact fw_sm_put0 | refine fw_sm_arr ?_ rfl | refine fw_sm_up ?_ rfl | refine fw_sm_put ?_ rfl | refine fw_sm_cp ?_ rfl)) ?_; (refine ⟨by omega, by omega, ?_⟩; (first | trivial | omega)))
      | omega
      | (intro _))
  · exact hx.elim

def fr_67 : fw_P := [(0, 2, 0, 0, 0), (1, 50, 5, 6, 0), (4, 50, 7, 1, 0), (7, 1, 1, 0, 0), (8, 10, 16, 0, 0), (11, 2, 0, 0, 0), (12, 64, 64, 0, 105), (15, 71, 0, 0, 0), (16, 2, 0, 0, 0), (17, 50, 5, 6, 0), (20, 64, 96, 0, 107), (23, 0, 0, 0, 1), (24, 71, 0, 0, 0)]
theorem fr_67_ok : fw_mk 67 2 5 (some .boolean) fr_67 = true := by decide +kernel
def ct_k_takeToken : List (Nat × fw_X) := [(64, x_k_misplaced), (96, x_k_step)]
theorem ct_k_takeToken_ok (d : Nat) : fw_cok fw_T (d + 3) ct_k_takeToken := by
  intro q hq as W Q h
  simp only [ct_k_takeToken, List.mem_cons, List.not_mem_nil, or_false] at hq
  rcases hq with rfl | rfl
  · exact jc_of (x_k_misplaced_ok (d + 1) as W Q h)
  · exact jc_of (x_k_step_ok (d + 0) as W Q h)
theorem s_k_takeToken_0 {Post : Option fw_V → fw_W → Prop} {d : Nat} {W : fw_W} {ki : Int}
    (hw_ : (0 ≤ (fw_g W 1 1) → (fw_g W 1 1) ≤ 11 → (((fw_g W 1 1) = ki → (True) ∧ (∀ (f1 : fw_W), ((True)) → 0 ≤ (1 : Int) ∧ (1 : Int) ≤ 1 ∧ Post (some (.inl (1 : Int))) (fw_put [] 0 [1001, 1002, 1003, 1006] W f1))) ∧ (¬ (fw_g W 1 1) = ki → (True) ∧ (∀ (r2 : Int) (f3 : fw_W), ((0 ≤ r2 ∧ r2 ≤ 1 ∧ (True))) → 0 ≤ r2 ∧ r2 ≤ 1 ∧ Post (some (.inl r2)) (fw_put [] 0 [3004, 3005] W f3)))))) :
    jf fw_T (d + 4) 67 0 [(0, .inr (.inl 3)), (1, .inl ki)] [] W Post := fw_ok (n := 11) (ss := []) (hv := []) fr_67_ok fv_reader_ok (ct_k_takeToken_ok d) hw_

def x_k_takeToken : fw_X := fun as W Q => match as with
  | [.inr (.inl s_), .inl ki] => fw_if (Nat.beq s_ 3) ((True) ∧ (∀ (v : Int) (f : fw_W), (0 ≤ v ∧ v ≤ 1 ∧ (True)) → Q (some (.inl v)) (fw_put [] 0 [1001, 1002, 1003, 1006, 3004, 3005] W f)))
  | _ => False
theorem x_k_takeToken_ok (d : Nat) (as : List fw_V) (W : fw_W) (Q : Option fw_V → fw_W → Prop) (hx : x_k_takeToken as W Q) : jf fw_T (d + 4) 67 0 (fw_args 0 as) [] W Q := by
  unfold x_k_takeToken at hx
  split at hx
  · rename_i s_ ki
    obtain ⟨e_, hpre, hQ⟩ := fw_if_ok hx
    have e_ := Nat.eq_of_beq_eq_true e_
    subst e_
    have hP : ∀ (v : Int) (W2 : fw_W), fw_sm [] 0 [1001, 1002, 1003, 1006, 3004, 3005] W W2 → _ → Q (some (.inl v)) W2 := fun v W2 hs hr => fw_sm_use (Q := fun Z => Q (some (.inl v)) Z) hs (hQ v W2 hr)
    refine s_k_takeToken_0 ?_
    repeat' (first
      | (exact True.intro)
      | (exact hpre.1)
      | (refine And.intro ?_ ?_)
      | (refine hP _ _ (by repeat (first | exact fw_sm_refl | exact fw_sm_put0 | refine fw_sm_arr ?_ rfl | refine fw_sm_up ?_ rfl | refine fw_sm_put ?_ rfl | refine fw_sm_cp ?_ rfl)) ?_; (refine ⟨by omega, by omega, ?_⟩; (first | trivial | omega)))
      | omega
      | (intro _))
  · exact hx.elim

def fr_70 : fw_P := [(0, 2, 0, 0, 0), (1, 50, 5, 6, 0), (4, 50, 7, 1, 0), (7, 0, 0, 0, 3), (8, 10, 18, 0, 0), (11, 2, 0, 0, 0), (12, 64, 64, 0, 105), (15, 45, 0, 0, 0), (16, 0, 0, 0, -1), (17, 70, 0, 0, 0), (18, 2, 0, 0, 0), (19, 50, 5, 6, 0), (22, 50, 7, 3, 0), (25, 3, 3, 0, 0), (26, 1, 3, 0, 0), (27, 1, 1, 0, 0), (28, 12, 36, 0, 0), (31, 1, 3, 0, 0), (32, 1, 2, 0, 0), (33, 15, 44, 0, 0), (36, 2, 0, 0, 0), (37, 0, 0, 0, 4), (38, 64, 65, 1, 205), (41, 45, 0, 0, 0), (42, 0, 0, 0, -1), (43, 70, 0, 0, 0), (44, 2, 0, 0, 0), (45, 50, 5, 6, 0), (48, 64, 96, 0, 107), (51, 1, 3, 0, 0), (52, 70, 0, 0, 0)]
theorem fr_70_ok : fw_mk 70 4 5 (some .int) fr_70 = true := by decide +kernel
def ct_k_takeNumber : List (Nat × fw_X) := [(64, x_k_misplaced), (65, x_k_blame), (96, x_k_step)]
theorem ct_k_takeNumber_ok (d : Nat) : fw_cok fw_T (d + 3) ct_k_takeNumber := by
  intro q hq as W Q h
  simp only [ct_k_takeNumber, List.mem_cons, List.not_mem_nil, or_false] at hq
  rcases hq with rfl | rfl | rfl
  · exact jc_of (x_k_misplaced_ok (d + 1) as W Q h)
  · exact jc_of (x_k_blame_ok (d + 2) as W Q h)
  · exact jc_of (x_k_step_ok (d + 0) as W Q h)
theorem s_k_takeNumber_0 {Post : Option fw_V → fw_W → Prop} {d : Nat} {W : fw_W} {le mo : Int}
    (hw_ : (0 ≤ (fw_g W 1 1) → (fw_g W 1 1) ≤ 11 → (((fw_g W 1 1) = (3 : Int) → (-2147483648 ≤ (fw_g W 1 3) → (fw_g W 1 3) ≤ 2147483647 → (((fw_g W 1 3) < le → (True) ∧ (∀ (r1 : Int) (f2 : fw_W), ((0 ≤ r1 ∧ r1 ≤ 1 ∧ (True))) → (-2147483648 ≤ (-1 : Int) → (-1 : Int) ≤ 2147483647 → Post (some (.inl (-1 : Int))) (fw_put [] 0 [3004, 3005] W f2)))) ∧ (le ≤ (fw_g W 1 3) → (((fw_g W 1 3) ≤ mo → (True) ∧ (∀ (f3 : fw_W), ((True)) → (-2147483648 ≤ (fw_g W 1 3) → (fw_g W 1 3) ≤ 2147483647 → Post (some (.inl (fw_g W 1 3))) (fw_put [] 0 [1001, 1002, 1003, 1006] W f3)))) ∧ (mo < (fw_g W 1 3) → (True) ∧ (∀ (r4 : Int) (f5 : fw_W), ((0 ≤ r4 ∧ r4 ≤ 1 ∧ (True))) → (-2147483648 ≤ (-1 : Int) → (-1 : Int) ≤ 2147483647 → Post (some (.inl (-1 : Int))) (fw_put [] 0 [3004, 3005] W f5))))))))) ∧ (¬ (fw_g W 1 1) = (3 : Int) → (True) ∧ (∀ (r6 : Int) (f7 : fw_W), ((0 ≤ r6 ∧ r6 ≤ 1 ∧ (True))) → (-2147483648 ≤ (-1 : Int) → (-1 : Int) ≤ 2147483647 → Post (some (.inl (-1 : Int))) (fw_put [] 0 [3004, 3005] W f7))))))) :
    jf fw_T (d + 4) 70 0 [(0, .inr (.inl 3)), (1, .inl le), (2, .inl mo)] [] W Post := fw_ok (n := 22) (ss := []) (hv := []) fr_70_ok fv_reader_ok (ct_k_takeNumber_ok d) hw_

def x_k_takeNumber : fw_X := fun as W Q => match as with
  | [.inr (.inl s_), .inl le, .inl mo] => fw_if (Nat.beq s_ 3) ((True) ∧ (∀ (v : Int) (f : fw_W), (-2147483648 ≤ v ∧ v ≤ 2147483647 ∧ (v = -1 ∨ (le ≤ v ∧ v ≤ mo))) → Q (some (.inl v)) (fw_put [] 0 [1001, 1002, 1003, 1006, 3004, 3005] W f)))
  | _ => False
theorem x_k_takeNumber_ok (d : Nat) (as : List fw_V) (W : fw_W) (Q : Option fw_V → fw_W → Prop) (hx : x_k_takeNumber as W Q) : jf fw_T (d + 4) 70 0 (fw_args 0 as) [] W Q := by
  unfold x_k_takeNumber at hx
  split at hx
  · rename_i s_ le mo
    obtain ⟨e_, hpre, hQ⟩ := fw_if_ok hx
    have e_ := Nat.eq_of_beq_eq_true e_
    subst e_
    have hP : ∀ (v : Int) (W2 : fw_W), fw_sm [] 0 [1001, 1002, 1003, 1006, 3004, 3005] W W2 → _ → Q (some (.inl v)) W2 := fun v W2 hs hr => fw_sm_use (Q := fun Z => Q (some (.inl v)) Z) hs (hQ v W2 hr)
    refine s_k_takeNumber_0 ?_
    repeat' (first
      | (exact True.intro)
      | (exact hpre.1)
      | (refine And.intro ?_ ?_)
      | (refine hP _ _ (by repeat (first | exact fw_sm_refl | exact fw_sm_put0 | refine fw_sm_arr ?_ rfl | refine fw_sm_up ?_ rfl | refine fw_sm_put ?_ rfl | refine fw_sm_cp ?_ rfl)) ?_; (refine ⟨by omega, by omega, ?_⟩; (omega)))
      | omega
      | (intro _))
  · exact hx.elim

def fr_69 : fw_P := [(0, 2, 0, 0, 0), (1, 50, 5, 6, 0), (4, 50, 7, 1, 0), (7, 0, 0, 0, 4), (8, 10, 18, 0, 0), (11, 2, 0, 0, 0), (12, 64, 64, 0, 105), (15, 45, 0, 0, 0), (16, 0, 0, 0, -1), (17, 70, 0, 0, 0), (18, 2, 0, 0, 0), (19, 50, 5, 6, 0), (22, 50, 7, 4, 0), (25, 2, 0, 0, 0), (26, 50, 5, 7, 0), (29, 2, 0, 0, 0), (30, 50, 5, 0, 0), (33, 50, 9, 0, 0), (36, 65, 66, 3, 500), (39, 3, 1, 0, 0), (40, 1, 1, 0, 0), (41, 0, 0, 0, -1), (42, 11, 51, 0, 0), (45, 2, 0, 0, 0), (46, 0, 0, 0, 5), (47, 64, 65, 1, 205), (50, 45, 0, 0, 0), (51, 1, 1, 0, 0), (52, 70, 0, 0, 0)]
theorem fr_69_ok : fw_mk 69 2 5 (some .int) fr_69 = true := by decide +kernel
def ct_k_knownHouse : List (Nat × fw_X) := [(64, x_k_misplaced), (65, x_k_blame), (66, x_k_findH)]
theorem ct_k_knownHouse_ok (d : Nat) : fw_cok fw_T (d + 2) ct_k_knownHouse := by
  intro q hq as W Q h
  simp only [ct_k_knownHouse, List.mem_cons, List.not_mem_nil, or_false] at hq
  rcases hq with rfl | rfl | rfl
  · exact jc_of (x_k_misplaced_ok (d + 0) as W Q h)
  · exact jc_of (x_k_blame_ok (d + 1) as W Q h)
  · exact jc_of (x_k_findH_ok (d + 1) as W Q h)
theorem s_k_knownHouse_0 {Post : Option fw_V → fw_W → Prop} {d : Nat} {W : fw_W}
    (hw_ : (0 ≤ (fw_g W 1 1) → (fw_g W 1 1) ≤ 11 → (((fw_g W 1 1) = (4 : Int) → (0 ≤ (fw_g W 4 0) → (fw_g W 4 0) ≤ 14 → (True) ∧ (∀ (r1 : Int), ((-2147483648 ≤ r1 ∧ r1 ≤ 2147483647 ∧ (r1 = -1 ∨ (0 ≤ r1 ∧ r1 < (fw_g W 4 0))))) → ((¬ r1 = (-1 : Int) → (-2147483648 ≤ r1 → r1 ≤ 2147483647 → Post (some (.inl r1)) W)) ∧ (r1 = (-1 : Int) → (True) ∧ (∀ (r2 : Int) (f3 : fw_W), ((0 ≤ r2 ∧ r2 ≤ 1 ∧ (True))) → (-2147483648 ≤ r1 → r1 ≤ 2147483647 → Post (some (.inl r1)) (fw_put [] 0 [3004, 3005] W f3)))))))) ∧ (¬ (fw_g W 1 1) = (4 : Int) → (True) ∧ (∀ (r4 : Int) (f5 : fw_W), ((0 ≤ r4 ∧ r4 ≤ 1 ∧ (True))) → (-2147483648 ≤ (-1 : Int) → (-1 : Int) ≤ 2147483647 → Post (some (.inl (-1 : Int))) (fw_put [] 0 [3004, 3005] W f5))))))) :
    jf fw_T (d + 3) 69 0 [(0, .inr (.inl 3))] [] W Post := fw_ok (n := 25) (ss := []) (hv := []) fr_69_ok fv_reader_ok (ct_k_knownHouse_ok d) hw_

def x_k_knownHouse : fw_X := fun as W Q => match as with
  | [.inr (.inl s_)] => fw_if (Nat.beq s_ 3) ((True) ∧ (∀ (v : Int) (f : fw_W), (-2147483648 ≤ v ∧ v ≤ 2147483647 ∧ (v = -1 ∨ (0 ≤ v ∧ v < (fw_g W 4 0)))) → Q (some (.inl v)) (fw_put [] 0 [3004, 3005] W f)))
  | _ => False
theorem x_k_knownHouse_ok (d : Nat) (as : List fw_V) (W : fw_W) (Q : Option fw_V → fw_W → Prop) (hx : x_k_knownHouse as W Q) : jf fw_T (d + 3) 69 0 (fw_args 0 as) [] W Q := by
  unfold x_k_knownHouse at hx
  split at hx
  · rename_i s_
    obtain ⟨e_, hpre, hQ⟩ := fw_if_ok hx
    have e_ := Nat.eq_of_beq_eq_true e_
    subst e_
    have hP : ∀ (v : Int) (W2 : fw_W), fw_sm [] 0 [3004, 3005] W W2 → _ → Q (some (.inl v)) W2 := fun v W2 hs hr => fw_sm_use (Q := fun Z => Q (some (.inl v)) Z) hs (hQ v W2 hr)
    refine s_k_knownHouse_0 ?_
    repeat' (first
      | (exact True.intro)
      | (exact hpre.1)
      | (refine And.intro ?_ ?_)
      | (refine hP _ _ (by repeat (first | exact fw_sm_refl | exact fw_sm_put0 | refine fw_sm_arr ?_ rfl | refine fw_sm_up ?_ rfl | refine fw_sm_put ?_ rfl | refine fw_sm_cp ?_ rfl)) ?_; (refine ⟨by omega, by omega, ?_⟩; (omega)))
      | omega
      | (intro _))
  · exact hx.elim

def fr_68 : fw_P := [(0, 2, 0, 0, 0), (1, 64, 69, 0, 205), (4, 3, 1, 0, 0), (5, 1, 1, 0, 0), (6, 0, 0, 0, -1), (7, 10, 17, 0, 0), (10, 2, 0, 0, 0), (11, 50, 5, 6, 0), (14, 64, 96, 0, 107), (17, 1, 1, 0, 0), (18, 70, 0, 0, 0)]
theorem fr_68_ok : fw_mk 68 2 5 (some .int) fr_68 = true := by decide +kernel
def ct_k_takeHouse : List (Nat × fw_X) := [(69, x_k_knownHouse), (96, x_k_step)]
theorem ct_k_takeHouse_ok (d : Nat) : fw_cok fw_T (d + 3) ct_k_takeHouse := by
  intro q hq as W Q h
  simp only [ct_k_takeHouse, List.mem_cons, List.not_mem_nil, or_false] at hq
  rcases hq with rfl | rfl
  · exact jc_of (x_k_knownHouse_ok (d + 0) as W Q h)
  · exact jc_of (x_k_step_ok (d + 0) as W Q h)
theorem s_k_takeHouse_0 {Post : Option fw_V → fw_W → Prop} {d : Nat} {W : fw_W}
    (hw_ : (True) ∧ (∀ (r1 : Int) (f2 : fw_W), ((-2147483648 ≤ r1 ∧ r1 ≤ 2147483647 ∧ (r1 = -1 ∨ (0 ≤ r1 ∧ r1 < (fw_g W 4 0))))) → ((r1 = (-1 : Int) → (-2147483648 ≤ r1 → r1 ≤ 2147483647 → Post (some (.inl r1)) (fw_put [] 0 [3004, 3005] W f2))) ∧ (¬ r1 = (-1 : Int) → (True) ∧ (∀ (f3 : fw_W), ((True)) → (-2147483648 ≤ r1 → r1 ≤ 2147483647 → Post (some (.inl r1)) (fw_put [] 0 [1001, 1002, 1003, 1006] (fw_put [] 0 [3004, 3005] W f2) f3))))))) :
    jf fw_T (d + 4) 68 0 [(0, .inr (.inl 3))] [] W Post := fw_ok (n := 12) (ss := []) (hv := []) fr_68_ok fv_reader_ok (ct_k_takeHouse_ok d) hw_

def x_k_takeHouse : fw_X := fun as W Q => match as with
  | [.inr (.inl s_)] => fw_if (Nat.beq s_ 3) ((True) ∧ (∀ (v : Int) (f : fw_W), (-2147483648 ≤ v ∧ v ≤ 2147483647 ∧ (v = -1 ∨ (0 ≤ v ∧ v < (fw_g W 4 0)))) → Q (some (.inl v)) (fw_put [] 0 [1001, 1002, 1003, 1006, 3004, 3005] W f)))
  | _ => False
theorem x_k_takeHouse_ok (d : Nat) (as : List fw_V) (W : fw_W) (Q : Option fw_V → fw_W → Prop) (hx : x_k_takeHouse as W Q) : jf fw_T (d + 4) 68 0 (fw_args 0 as) [] W Q := by
  unfold x_k_takeHouse at hx
  split at hx
  · rename_i s_
    obtain ⟨e_, hpre, hQ⟩ := fw_if_ok hx
    have e_ := Nat.eq_of_beq_eq_true e_
    subst e_
    have hP : ∀ (v : Int) (W2 : fw_W), fw_sm [] 0 [1001, 1002, 1003, 1006, 3004, 3005] W W2 → _ → Q (some (.inl v)) W2 := fun v W2 hs hr => fw_sm_use (Q := fun Z => Q (some (.inl v)) Z) hs (hQ v W2 hr)
    refine s_k_takeHouse_0 ?_
    repeat' (first
      | (exact True.intro)
      | (exact hpre.1)
      | (refine And.intro ?_ ?_)
      | (refine hP _ _ (by repeat (first | exact fw_sm_refl | exact fw_sm_put0 | refine fw_sm_arr ?_ rfl | refine fw_sm_up ?_ rfl | refine fw_sm_put ?_ rfl | refine fw_sm_cp ?_ rfl)) ?_; (refine ⟨by omega, by omega, ?_⟩; (omega)))
      | omega
      | (intro _))
  · exact hx.elim

def fr_72 : fw_P := [(0, 2, 0, 0, 0), (1, 64, 69, 0, 205), (4, 3, 3, 0, 0), (5, 1, 3, 0, 0), (6, 0, 0, 0, -1), (7, 11, 12, 0, 0), (10, 0, 0, 0, -1), (11, 70, 0, 0, 0), (12, 1, 3, 0, 0), (13, 1, 2, 0, 0), (14, 10, 21, 0, 0), (17, 0, 0, 0, 1), (18, 6, 22, 0, 0), (21, 0, 0, 0, 0), (22, 3, 4, 0, 0), (24, 0, 0, 0, 0), (25, 3, 5, 0, 0), (27, 1, 5, 0, 0), (29, 2, 0, 0, 0), (30, 50, 5, 3, 0), (33, 13, 62, 0, 0), (36, 1, 4, 0, 0), (38, 20, 53, 0, 0), (41, 2, 1, 0, 0), (42, 1, 5, 0, 0), (44, 52, 0, 0, 0), (45, 1, 3, 0, 0), (46, 10, 53, 0, 0), (49, 0, 0, 0, 1), (50, 6, 54, 0, 0), (53, 0, 0, 0, 0), (54, 3, 4, 0, 0), (56, 5, 5, 0, 1), (59, 6, 27, 0, 0), (62, 1, 4, 0, 0), (64, 21, 75, 0, 0), (67, 2, 0, 0, 0), (68, 0, 0, 0, 3), (69, 64, 65, 1, 205), (72, 45, 0, 0, 0), (73, 0, 0, 0, -1), (74, 70, 0, 0, 0), (75, 2, 0, 0, 0), (76, 50, 5, 6, 0), (79, 64, 96, 0, 107), (82, 1, 3, 0, 0), (83, 70, 0, 0, 0)]
theorem fr_72_ok : fw_mk 72 6 5 (some .int) fr_72 = true := by decide +kernel
def ct_k_takeFree8 : List (Nat × fw_X) := [(69, x_k_knownHouse), (65, x_k_blame), (96, x_k_step)]
theorem ct_k_takeFree8_ok (d : Nat) : fw_cok fw_T (d + 3) ct_k_takeFree8 := by
  intro q hq as W Q h
  simp only [ct_k_takeFree8, List.mem_cons, List.not_mem_nil, or_false] at hq
  rcases hq with rfl | rfl | rfl
  · exact jc_of (x_k_knownHouse_ok (d + 0) as W Q h)
  · exact jc_of (x_k_blame_ok (d + 2) as W Q h)
  · exact jc_of (x_k_step_ok (d + 0) as W Q h)
theorem s_k_takeFree8_0 {Post : Option fw_V → fw_W → Prop} {d : Nat} {W : fw_W} {ba : Int}
    (hw_ : (True) ∧ (∀ (r1 : Int) (f2 : fw_W), ((-2147483648 ≤ r1 ∧ r1 ≤ 2147483647 ∧ (r1 = -1 ∨ (0 ≤ r1 ∧ r1 < (fw_g W 4 0))))) → ((¬ r1 = (-1 : Int) → ((r1 = ba → jf fw_T (d + 4) 72 27 [(0, .inr (.inl 3)), (1, .inr (.inl 8)), (3, .inl r1), (4, .inl (0 : Int)), (5, .inl (0 : Int))] [] (fw_put [] 0 [3004, 3005] W f2) Post) ∧ (¬ r1 = ba → jf fw_T (d + 4) 72 27 [(0, .inr (.inl 3)), (1, .inr (.inl 8)), (3, .inl r1), (4, .inl (1 : Int)), (5, .inl (0 : Int))] [] (fw_put [] 0 [3004, 3005] W f2) Post))) ∧ (r1 = (-1 : Int) → (-2147483648 ≤ (-1 : Int) → (-1 : Int) ≤ 2147483647 → Post (some (.inl (-1 : Int))) (fw_put [] 0 [3004, 3005] W f2)))))) :
    jf fw_T (d + 4) 72 0 [(0, .inr (.inl 3)), (1, .inr (.inl 8)), (2, .inl ba)] [] W Post := fw_ok (n := 15) (ss := [(27, [0, 1, 3, 4, 5])]) (hv := []) fr_72_ok fv_reader_ok (ct_k_takeFree8_ok d) hw_

theorem s_k_takeFree8_27 {Post : Option fw_V → fw_W → Prop} {d : Nat} {W : fw_W} {ho fr ca : Int} {f : fw_W}
    (hw_ : (0 ≤ (fw_g W 3 3) → (fw_g W 3 3) ≤ 4 → (((fw_g W 3 3) ≤ ca → ((¬ fr = 0 → (True) ∧ (∀ (f1 : fw_W), ((True)) → (-2147483648 ≤ ho → ho ≤ 2147483647 → Post (some (.inl ho)) (fw_put [] 0 [1001, 1002, 1003, 1006] (fw_put [] 0 [1001, 1002, 1003, 1006, 3004, 3005] W f) f1)))) ∧ (fr = 0 → (True) ∧ (∀ (r2 : Int) (f3 : fw_W), ((0 ≤ r2 ∧ r2 ≤ 1 ∧ (True))) → (-2147483648 ≤ (-1 : Int) → (-1 : Int) ≤ 2147483647 → Post (some (.inl (-1 : Int))) (fw_put [] 0 [3004, 3005] (fw_put [] 0 [1001, 1002, 1003, 1006, 3004, 3005] W f) f3)))))) ∧ (ca < (fw_g W 3 3) → ((fr = 0 → -2147483648 ≤ ca + (1 : Int) ∧ ca + (1 : Int) ≤ 2147483647 ∧ (jf fw_T (d + 4) 72 27 [(0, .inr (.inl 3)), (1, .inr (.inl 8)), (3, .inl ho), (4, .inl (0 : Int)), (5, .inl (ca + (1 : Int)))] [] (fw_put [] 0 [1001, 1002, 1003, 1006, 3004, 3005] W f) Post)) ∧ (¬ fr = 0 → 0 ≤ ca ∧ ca < 4 ∧ (0 ≤ (fw_g W 8 ca) → (fw_g W 8 ca) ≤ 13 → (((fw_g W 8 ca) = ho → -2147483648 ≤ ca + (1 : Int) ∧ ca + (1 : Int) ≤ 2147483647 ∧ (jf fw_T (d + 4) 72 27 [(0, .inr (.inl 3)), (1, .inr (.inl 8)), (3, .inl ho), (4, .inl (0 : Int)), (5, .inl (ca + (1 : Int)))] [] (fw_put [] 0 [1001, 1002, 1003, 1006, 3004, 3005] W f) Post)) ∧ (¬ (fw_g W 8 ca) = ho → -2147483648 ≤ ca + (1 : Int) ∧ ca + (1 : Int) ≤ 2147483647 ∧ (jf fw_T (d + 4) 72 27 [(0, .inr (.inl 3)), (1, .inr (.inl 8)), (3, .inl ho), (4, .inl (1 : Int)), (5, .inl (ca + (1 : Int)))] [] (fw_put [] 0 [1001, 1002, 1003, 1006, 3004, 3005] W f) Post)))))))))) :
    jf fw_T (d + 4) 72 27 [(0, .inr (.inl 3)), (1, .inr (.inl 8)), (3, .inl ho), (4, .inl fr), (5, .inl ca)] [] (fw_put [] 0 [1001, 1002, 1003, 1006, 3004, 3005] W f) Post := fw_ok (n := 17) (ss := [(27, [0, 1, 3, 4, 5])]) (hv := []) fr_72_ok fv_reader_ok (ct_k_takeFree8_ok d) hw_

theorem lm_k_takeFree8_27 {Post : Option fw_V → fw_W → Prop} {d : Nat} {W : fw_W} {ba : Int} (hpre : True) (hP : ∀ (v : Int) (W2 : fw_W), fw_sm [] 0 [1001, 1002, 1003, 1006, 3004, 3005] W W2 → (-2147483648 ≤ v ∧ v ≤ 2147483647 ∧ (v = -1 ∨ (0 ≤ v ∧ v < (fw_g W 4 0)))) → Post (some (.inl v)) W2)  : ∀ (m : Nat) (ho fr ca : Int) (f : fw_W), ((fw_g W 3 3) - ca).toNat = m → 0 ≤ ca ∧ 0 ≤ fr ∧ fr ≤ 1 ∧ 0 ≤ ho ∧ ho < fw_g W 4 0 → jf fw_T (d + 4) 72 27 [(0, .inr (.inl 3)), (1, .inr (.inl 8)), (3, .inl ho), (4, .inl fr), (5, .inl ca)] [] (fw_put [] 0 [1001, 1002, 1003, 1006, 3004, 3005] W f) Post := by
  intro m
  induction m using Nat.strongRecOn with
  | ind m ih =>
    intro ho fr ca f hm hi
    refine jf_rng (fun hrg => ?_)
    have hrg : -2147483648 ≤ ho ∧ ho ≤ 2147483647 ∧ -2147483648 ≤ fr ∧ fr ≤ 2147483647 ∧ -2147483648 ≤ ca ∧ ca ≤ 2147483647 ∧ True := hrg
    refine s_k_takeFree8_27 ?_
    repeat' (first
      | (exact True.intro)
      | (exact hpre.1)
      | (refine And.intro ?_ ?_)
      | (refine (ih _ (by omega) _ _ _ _ rfl ?_); (first | omega | trivial | (simp (config := { decide := true }) only [fg_in, fg_fin, fg_out, fg_fout, fg_up, fg_same, true_and, and_true] <;> omega)))
      | (refine jf_put (S := []) (o := 0) (F := [1001, 1002, 1003, 1006, 3004, 3005]) (W := W) (by repeat (first | exact fw_sm_refl | exact fw_sm_put0 | refine fw_sm_arr ?_ rfl | refine fw_sm_up ?_ rfl | refine fw_sm_put ?_ rfl | refine fw_sm_cp ?_ rfl)) (ih _ (by omega) _ _ _ _ rfl ?_); (first | omega | trivial | (simp (config := { decide := true }) only [fg_in, fg_fin, fg_out, fg_fout, fg_up, fg_same, true_and, and_true] <;> omega)))
      | (refine hP _ _ (by repeat (first | exact fw_sm_refl | exact fw_sm_put0 | refine fw_sm_arr ?_ rfl | refine fw_sm_up ?_ rfl | refine fw_sm_put ?_ rfl | refine fw_sm_cp ?_ rfl)) ?_; (refine ⟨by omega, by omega, ?_⟩; (omega)))
      | omega
      | (intro _))
def x_k_takeFree8 : fw_X := fun as W Q => match as with
  | [.inr (.inl s_), .inr (.inl r0_), .inl ba] => fw_if (Nat.beq s_ 3) (fw_if (Nat.beq r0_ 8) ((True) ∧ (∀ (v : Int) (f : fw_W), (-2147483648 ≤ v ∧ v ≤ 2147483647 ∧ (v = -1 ∨ (0 ≤ v ∧ v < (fw_g W 4 0)))) → Q (some (.inl v)) (fw_put [] 0 [1001, 1002, 1003, 1006, 3004, 3005] W f))))
  | _ => False
theorem x_k_takeFree8_ok (d : Nat) (as : List fw_V) (W : fw_W) (Q : Option fw_V → fw_W → Prop) (hx : x_k_takeFree8 as W Q) : jf fw_T (d + 4) 72 0 (fw_args 0 as) [] W Q := by
  unfold x_k_takeFree8 at hx
  split at hx
  · rename_i s_ r0_ ba
    obtain ⟨e0_, hx0⟩ := fw_if_ok hx
    have e0_ := Nat.eq_of_beq_eq_true e0_
    clear hx
    subst e0_
    obtain ⟨e1_, hx1⟩ := fw_if_ok hx0
    have e1_ := Nat.eq_of_beq_eq_true e1_
    clear hx0
    subst e1_
    obtain ⟨hpre, hQ⟩ := hx1
    have hP : ∀ (v : Int) (W2 : fw_W), fw_sm [] 0 [1001, 1002, 1003, 1006, 3004, 3005] W W2 → _ → Q (some (.inl v)) W2 := fun v W2 hs hr => fw_sm_use (Q := fun Z => Q (some (.inl v)) Z) hs (hQ v W2 hr)
    refine s_k_takeFree8_0 ?_
    repeat' (first
      | (exact True.intro)
      | (exact hpre.1)
      | (refine And.intro ?_ ?_)
      | (refine jf_put (S := []) (o := 0) (F := [1001, 1002, 1003, 1006, 3004, 3005]) (W := W) (by repeat (first | exact fw_sm_refl | exact fw_sm_put0 | refine fw_sm_arr ?_ rfl | refine fw_sm_up ?_ rfl | refine fw_sm_put ?_ rfl | refine fw_sm_cp ?_ rfl)) (lm_k_takeFree8_27 (ba := ba) hpre hP _ _ _ _ _ rfl ?_); (first | omega | trivial | (simp (config := { decide := true }) only [fg_in, fg_fin, fg_out, fg_fout, fg_up, fg_same, true_and, and_true] <;> omega)))
      | (refine hP _ _ (by repeat (first | exact fw_sm_refl | exact fw_sm_put0 | refine fw_sm_arr ?_ rfl | refine fw_sm_up ?_ rfl | refine fw_sm_put ?_ rfl | refine fw_sm_cp ?_ rfl)) ?_; (refine ⟨by omega, by omega, ?_⟩; (omega)))
      | omega
      | (intro _))
  · exact hx.elim

def ct_k_takeFree9 : List (Nat × fw_X) := [(69, x_k_knownHouse), (65, x_k_blame), (96, x_k_step)]
theorem ct_k_takeFree9_ok (d : Nat) : fw_cok fw_T (d + 3) ct_k_takeFree9 := by
  intro q hq as W Q h
  simp only [ct_k_takeFree9, List.mem_cons, List.not_mem_nil, or_false] at hq
  rcases hq with rfl | rfl | rfl
  · exact jc_of (x_k_knownHouse_ok (d + 0) as W Q h)
  · exact jc_of (x_k_blame_ok (d + 2) as W Q h)
  · exact jc_of (x_k_step_ok (d + 0) as W Q h)
theorem s_k_takeFree9_0 {Post : Option fw_V → fw_W → Prop} {d : Nat} {W : fw_W} {ba : Int}
    (hw_ : (True) ∧ (∀ (r1 : Int) (f2 : fw_W), ((-2147483648 ≤ r1 ∧ r1 ≤ 2147483647 ∧ (r1 = -1 ∨ (0 ≤ r1 ∧ r1 < (fw_g W 4 0))))) → ((¬ r1 = (-1 : Int) → ((r1 = ba → jf fw_T (d + 4) 72 27 [(0, .inr (.inl 3)), (1, .inr (.inl 9)), (3, .inl r1), (4, .inl (0 : Int)), (5, .inl (0 : Int))] [] (fw_put [] 0 [3004, 3005] W f2) Post) ∧ (¬ r1 = ba → jf fw_T (d + 4) 72 27 [(0, .inr (.inl 3)), (1, .inr (.inl 9)), (3, .inl r1), (4, .inl (1 : Int)), (5, .inl (0 : Int))] [] (fw_put [] 0 [3004, 3005] W f2) Post))) ∧ (r1 = (-1 : Int) → (-2147483648 ≤ (-1 : Int) → (-1 : Int) ≤ 2147483647 → Post (some (.inl (-1 : Int))) (fw_put [] 0 [3004, 3005] W f2)))))) :
    jf fw_T (d + 4) 72 0 [(0, .inr (.inl 3)), (1, .inr (.inl 9)), (2, .inl ba)] [] W Post := fw_ok (n := 15) (ss := [(27, [0, 1, 3, 4, 5])]) (hv := []) fr_72_ok fv_reader_ok (ct_k_takeFree9_ok d) hw_

theorem s_k_takeFree9_27 {Post : Option fw_V → fw_W → Prop} {d : Nat} {W : fw_W} {ho fr ca : Int} {f : fw_W}
    (hw_ : (0 ≤ (fw_g W 3 3) → (fw_g W 3 3) ≤ 4 → (((fw_g W 3 3) ≤ ca → ((¬ fr = 0 → (True) ∧ (∀ (f1 : fw_W), ((True)) → (-2147483648 ≤ ho → ho ≤ 2147483647 → Post (some (.inl ho)) (fw_put [] 0 [1001, 1002, 1003, 1006] (fw_put [] 0 [1001, 1002, 1003, 1006, 3004, 3005] W f) f1)))) ∧ (fr = 0 → (True) ∧ (∀ (r2 : Int) (f3 : fw_W), ((0 ≤ r2 ∧ r2 ≤ 1 ∧ (True))) → (-2147483648 ≤ (-1 : Int) → (-1 : Int) ≤ 2147483647 → Post (some (.inl (-1 : Int))) (fw_put [] 0 [3004, 3005] (fw_put [] 0 [1001, 1002, 1003, 1006, 3004, 3005] W f) f3)))))) ∧ (ca < (fw_g W 3 3) → ((fr = 0 → -2147483648 ≤ ca + (1 : Int) ∧ ca + (1 : Int) ≤ 2147483647 ∧ (jf fw_T (d + 4) 72 27 [(0, .inr (.inl 3)), (1, .inr (.inl 9)), (3, .inl ho), (4, .inl (0 : Int)), (5, .inl (ca + (1 : Int)))] [] (fw_put [] 0 [1001, 1002, 1003, 1006, 3004, 3005] W f) Post)) ∧ (¬ fr = 0 → 0 ≤ ca ∧ ca < 4 ∧ (0 ≤ (fw_g W 9 ca) → (fw_g W 9 ca) ≤ 13 → (((fw_g W 9 ca) = ho → -2147483648 ≤ ca + (1 : Int) ∧ ca + (1 : Int) ≤ 2147483647 ∧ (jf fw_T (d + 4) 72 27 [(0, .inr (.inl 3)), (1, .inr (.inl 9)), (3, .inl ho), (4, .inl (0 : Int)), (5, .inl (ca + (1 : Int)))] [] (fw_put [] 0 [1001, 1002, 1003, 1006, 3004, 3005] W f) Post)) ∧ (¬ (fw_g W 9 ca) = ho → -2147483648 ≤ ca + (1 : Int) ∧ ca + (1 : Int) ≤ 2147483647 ∧ (jf fw_T (d + 4) 72 27 [(0, .inr (.inl 3)), (1, .inr (.inl 9)), (3, .inl ho), (4, .inl (1 : Int)), (5, .inl (ca + (1 : Int)))] [] (fw_put [] 0 [1001, 1002, 1003, 1006, 3004, 3005] W f) Post)))))))))) :
    jf fw_T (d + 4) 72 27 [(0, .inr (.inl 3)), (1, .inr (.inl 9)), (3, .inl ho), (4, .inl fr), (5, .inl ca)] [] (fw_put [] 0 [1001, 1002, 1003, 1006, 3004, 3005] W f) Post := fw_ok (n := 17) (ss := [(27, [0, 1, 3, 4, 5])]) (hv := []) fr_72_ok fv_reader_ok (ct_k_takeFree9_ok d) hw_

theorem lm_k_takeFree9_27 {Post : Option fw_V → fw_W → Prop} {d : Nat} {W : fw_W} {ba : Int} (hpre : True) (hP : ∀ (v : Int) (W2 : fw_W), fw_sm [] 0 [1001, 1002, 1003, 1006, 3004, 3005] W W2 → (-2147483648 ≤ v ∧ v ≤ 2147483647 ∧ (v = -1 ∨ (0 ≤ v ∧ v < (fw_g W 4 0)))) → Post (some (.inl v)) W2)  : ∀ (m : Nat) (ho fr ca : Int) (f : fw_W), ((fw_g W 3 3) - ca).toNat = m → 0 ≤ ca ∧ 0 ≤ fr ∧ fr ≤ 1 ∧ 0 ≤ ho ∧ ho < fw_g W 4 0 → jf fw_T (d + 4) 72 27 [(0, .inr (.inl 3)), (1, .inr (.inl 9)), (3, .inl ho), (4, .inl fr), (5, .inl ca)] [] (fw_put [] 0 [1001, 1002, 1003, 1006, 3004, 3005] W f) Post := by
  intro m
  induction m using Nat.strongRecOn with
  | ind m ih =>
    intro ho fr ca f hm hi
    refine jf_rng (fun hrg => ?_)
    have hrg : -2147483648 ≤ ho ∧ ho ≤ 2147483647 ∧ -2147483648 ≤ fr ∧ fr ≤ 2147483647 ∧ -2147483648 ≤ ca ∧ ca ≤ 2147483647 ∧ True := hrg
    refine s_k_takeFree9_27 ?_
    repeat' (first
      | (exact True.intro)
      | (exact hpre.1)
      | (refine And.intro ?_ ?_)
      | (refine (ih _ (by omega) _ _ _ _ rfl ?_); (first | omega | trivial | (simp (config := { decide := true }) only [fg_in, fg_fin, fg_out, fg_fout, fg_up, fg_same, true_and, and_true] <;> omega)))
      | (refine jf_put (S := []) (o := 0) (F := [1001, 1002, 1003, 1006, 3004, 3005]) (W := W) (by repeat (first | exact fw_sm_refl | exact fw_sm_put0 | refine fw_sm_arr ?_ rfl | refine fw_sm_up ?_ rfl | refine fw_sm_put ?_ rfl | refine fw_sm_cp ?_ rfl)) (ih _ (by omega) _ _ _ _ rfl ?_); (first | omega | trivial | (simp (config := { decide := true }) only [fg_in, fg_fin, fg_out, fg_fout, fg_up, fg_same, true_and, and_true] <;> omega)))
      | (refine hP _ _ (by repeat (first | exact fw_sm_refl | exact fw_sm_put0 | refine fw_sm_arr ?_ rfl | refine fw_sm_up ?_ rfl | refine fw_sm_put ?_ rfl | refine fw_sm_cp ?_ rfl)) ?_; (refine ⟨by omega, by omega, ?_⟩; (omega)))
      | omega
      | (intro _))
def x_k_takeFree9 : fw_X := fun as W Q => match as with
  | [.inr (.inl s_), .inr (.inl r0_), .inl ba] => fw_if (Nat.beq s_ 3) (fw_if (Nat.beq r0_ 9) ((True) ∧ (∀ (v : Int) (f : fw_W), (-2147483648 ≤ v ∧ v ≤ 2147483647 ∧ (v = -1 ∨ (0 ≤ v ∧ v < (fw_g W 4 0)))) → Q (some (.inl v)) (fw_put [] 0 [1001, 1002, 1003, 1006, 3004, 3005] W f))))
  | _ => False
theorem x_k_takeFree9_ok (d : Nat) (as : List fw_V) (W : fw_W) (Q : Option fw_V → fw_W → Prop) (hx : x_k_takeFree9 as W Q) : jf fw_T (d + 4) 72 0 (fw_args 0 as) [] W Q := by
  unfold x_k_takeFree9 at hx
  split at hx
  · rename_i s_ r0_ ba
    obtain ⟨e0_, hx0⟩ := fw_if_ok hx
    have e0_ := Nat.eq_of_beq_eq_true e0_
    clear hx
    subst e0_
    obtain ⟨e1_, hx1⟩ := fw_if_ok hx0
    have e1_ := Nat.eq_of_beq_eq_true e1_
    clear hx0
    subst e1_
    obtain ⟨hpre, hQ⟩ := hx1
    have hP : ∀ (v : Int) (W2 : fw_W), fw_sm [] 0 [1001, 1002, 1003, 1006, 3004, 3005] W W2 → _ → Q (some (.inl v)) W2 := fun v W2 hs hr => fw_sm_use (Q := fun Z => Q (some (.inl v)) Z) hs (hQ v W2 hr)
    refine s_k_takeFree9_0 ?_
    repeat' (first
      | (exact True.intro)
      | (exact hpre.1)
      | (refine And.intro ?_ ?_)
      | (refine jf_put (S := []) (o := 0) (F := [1001, 1002, 1003, 1006, 3004, 3005]) (W := W) (by repeat (first | exact fw_sm_refl | exact fw_sm_put0 | refine fw_sm_arr ?_ rfl | refine fw_sm_up ?_ rfl | refine fw_sm_put ?_ rfl | refine fw_sm_cp ?_ rfl)) (lm_k_takeFree9_27 (ba := ba) hpre hP _ _ _ _ _ rfl ?_); (first | omega | trivial | (simp (config := { decide := true }) only [fg_in, fg_fin, fg_out, fg_fout, fg_up, fg_same, true_and, and_true] <;> omega)))
      | (refine hP _ _ (by repeat (first | exact fw_sm_refl | exact fw_sm_put0 | refine fw_sm_arr ?_ rfl | refine fw_sm_up ?_ rfl | refine fw_sm_put ?_ rfl | refine fw_sm_cp ?_ rfl)) ?_; (refine ⟨by omega, by omega, ?_⟩; (omega)))
      | omega
      | (intro _))
  · exact hx.elim

def x_k_takeFree : fw_X := fun as W Q => match as with
  | [.inr (.inl s_), .inr (.inl r_), .inl ba] => fw_if (Nat.beq s_ 3 && (Nat.beq r_ 8 || Nat.beq r_ 9)) ((True) ∧ (∀ (v : Int) (f : fw_W), (-2147483648 ≤ v ∧ v ≤ 2147483647 ∧ (v = -1 ∨ (0 ≤ v ∧ v < (fw_g W 4 0)))) → Q (some (.inl v)) (fw_put [] 0 [1001, 1002, 1003, 1006, 3004, 3005] W f)))
  | _ => False
theorem x_k_takeFree_ok (d : Nat) (as : List fw_V) (W : fw_W) (Q : Option fw_V → fw_W → Prop) (hx : x_k_takeFree as W Q) : jf fw_T (d + 4) 72 0 (fw_args 0 as) [] W Q := by
  unfold x_k_takeFree at hx
  split at hx
  · rename_i s_ r_ ba
    obtain ⟨e0, hy⟩ := fw_if_ok hx
    clear hx
    rw [Bool.and_eq_true, Bool.or_eq_true] at e0
    have e1 := Nat.eq_of_beq_eq_true e0.1
    subst e1
    rcases e0.2 with e | e
    · have e := Nat.eq_of_beq_eq_true e
      subst e
      exact x_k_takeFree8_ok d _ W Q hy
    · have e := Nat.eq_of_beq_eq_true e
      subst e
      exact x_k_takeFree9_ok d _ W Q hy
  · exact hx.elim
