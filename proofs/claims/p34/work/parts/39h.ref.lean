/-! the reference, method by method -/
def tw (g : Int → Int) : Prop := 0 ≤ g 0 ∧ g 0 ≤ 14 ∧ tr (g 0) (fun h => g (2 + 3 * h)) ∧ (∀ h, 1 ≤ h → h < g 0 → (1 ≤ g (3 + 3 * h) ∧ g (3 + 3 * h) ≤ 99)) ∧ 0 ≤ g 1 ∧ g 1 ≤ 999
theorem tw_c {g k : Int → Int} (t : tw g) (h : ∀ i, 0 ≤ i → i < 44 → k i = g i) : tw k := by
  obtain ⟨t1, t2, t3, t4, t5, t6⟩ := t
  have e0 := h 0 (by omega) (by omega)
  have e1 := h 1 (by omega) (by omega)
  refine ⟨by omega, by omega, ?_, fun x x1 x2 => ?_, by omega, by omega⟩
  · rw [e0]
    exact tr_congr t3 (fun x x1 x2 => h (2 + 3 * x) (by omega) (by omega))
  · rw [h (3 + 3 * x) (by omega) (by omega)]
    exact t4 x x1 (by omega)
theorem tw_z : tw (fun _ => 0) := ⟨Int.le_refl 0, by show (0 : Int) ≤ 14; omega, tr_zero _, fun x x1 x2 => absurd x2 (by show ¬ x < 0; omega), Int.le_refl 0, by show (0 : Int) ≤ 999; omega⟩
def mi (W : fw_W) : Prop := mt W ∧ (∀ s, 0 ≤ s → s ≤ 40 → tw (fun i => fw_g W 369 (44 * s + i))) ∧ (∀ s, 0 ≤ s → s ≤ 2 → tw (fun i => fw_g W 397 (44 * s + i))) ∧ 0 ≤ fw_g W 352 29 ∧ 0 ≤ fw_g W 352 30 ∧ fw_g W 352 29 + fw_g W 352 30 ≤ 40
def fr_189 : fw_P := [(0, 2, 0, 0, 0), (1, 50, 12, 24, 0), (4, 0, 0, 0, 2), (5, 0, 0, 0, 3), (6, 1, 1, 0, 0), (7, 32, 0, 0, 0), (8, 30, 0, 0, 0), (9, 1, 2, 0, 0), (10, 53, 0, 0, 0), (11, 2, 0, 0, 0), (12, 50, 12, 24, 0), (15, 0, 0, 0, 3), (16, 0, 0, 0, 3), (17, 1, 1, 0, 0), (18, 32, 0, 0, 0), (19, 30, 0, 0, 0), (20, 1, 3, 0, 0), (21, 53, 0, 0, 0), (22, 2, 0, 0, 0), (23, 50, 12, 24, 0), (26, 0, 0, 0, 4), (27, 0, 0, 0, 3), (28, 1, 1, 0, 0), (29, 32, 0, 0, 0), (30, 30, 0, 0, 0), (31, 1, 4, 0, 0), (33, 53, 0, 0, 0), (34, 72, 0, 0, 0)]
theorem fr_189_ok : fw_mk 189 5 12 none fr_189 = true := by decide +kernel
theorem s_lay_0 {Post : Option fw_V → fw_W → Prop} {d : Nat} {W : fw_W} {h hg len ppl : Int}
    (hw_ : -2147483648 ≤ (3 : Int) * h ∧ (3 : Int) * h ≤ 2147483647 ∧ (-2147483648 ≤ (2 : Int) + ((3 : Int) * h) ∧ (2 : Int) + ((3 : Int) * h) ≤ 2147483647 ∧ (0 ≤ ((2 : Int) + ((3 : Int) * h)) ∧ ((2 : Int) + ((3 : Int) * h)) < 44 ∧ -2147483648 ≤ hg ∧ hg ≤ 2147483647 ∧ (-2147483648 ≤ (3 : Int) * h ∧ (3 : Int) * h ≤ 2147483647 ∧ (-2147483648 ≤ (3 : Int) + ((3 : Int) * h) ∧ (3 : Int) + ((3 : Int) * h) ≤ 2147483647 ∧ (0 ≤ ((3 : Int) + ((3 : Int) * h)) ∧ ((3 : Int) + ((3 : Int) * h)) < 44 ∧ -2147483648 ≤ len ∧ len ≤ 2147483647 ∧ (-2147483648 ≤ (3 : Int) * h ∧ (3 : Int) * h ≤ 2147483647 ∧ (-2147483648 ≤ (4 : Int) + ((3 : Int) * h) ∧ (4 : Int) + ((3 : Int) * h) ≤ 2147483647 ∧ (0 ≤ ((4 : Int) + ((3 : Int) * h)) ∧ ((4 : Int) + ((3 : Int) * h)) < 44 ∧ -2147483648 ≤ ppl ∧ ppl ≤ 2147483647 ∧ (Post none (fw_up (fw_up (fw_up W 366 ((2 : Int) + ((3 : Int) * h)) hg) 366 ((3 : Int) + ((3 : Int) * h)) len) 366 ((4 : Int) + ((3 : Int) * h)) ppl))))))))))) :
    jf fw_T (d + 1) 189 0 [(0, .inr (.inl 352)), (1, .inl h), (2, .inl hg), (3, .inl len), (4, .inl ppl)] [] W Post := fw_ok (n := 29) (ss := []) (hv := []) fr_189_ok fm_ok (fw_c0 _ _) hw_

def x_lay : fw_X := fun as W Q => match as with
  | [.inr (.inl s_), .inl h, .inl hg, .inl len, .inl ppl] => fw_if (Nat.beq s_ 352) ((0 ≤ h ∧ h < 14) ∧ (∀ (f : fw_W), ((fw_g f 366 (2 + 3 * h)) = hg ∧ (fw_g f 366 (3 + 3 * h)) = len ∧ (fw_g f 366 (4 + 3 * h)) = ppl ∧ ∀ i, 0 ≤ i → i ≠ 2 + 3 * h → i ≠ 3 + 3 * h → i ≠ 4 + 3 * h → (fw_g f 366 i) = (fw_g W 366 i)) → Q none (fw_put [366] 352 [] W f)))
  | _ => False
theorem x_lay_ok (d : Nat) (as : List fw_V) (W : fw_W) (Q : Option fw_V → fw_W → Prop) (hx : x_lay as W Q) : jf fw_T (d + 1) 189 0 (fw_args 0 as) [] W Q := by
  unfold x_lay at hx
  split at hx
  · rename_i s_ h hg len ppl
    obtain ⟨e_, hpre, hQ⟩ := fw_if_ok hx
    have e_ := Nat.eq_of_beq_eq_true e_
    subst e_
    have hP : ∀ (W2 : fw_W), fw_sm [366] 352 [] W W2 → _ → Q none W2 := fun W2 hs hr => fw_sm_use (Q := fun Z => Q none Z) hs (hQ W2 hr)
    refine jf_rng (fun hrg => ?_)
    have hrg : -2147483648 ≤ h ∧ h ≤ 2147483647 ∧ -2147483648 ≤ hg ∧ hg ≤ 2147483647 ∧ -2147483648 ≤ len ∧ len ≤ 2147483647 ∧ -2147483648 ≤ ppl ∧ ppl ≤ 2147483647 ∧ True := hrg
    refine s_lay_0 ?_
    repeat' (first
      | (exact True.intro)
      | (exact hpre.1)
      | (refine And.intro ?_ ?_)
      | (refine hP _ (by repeat (first | exact fw_sm_refl | exact fw_sm_put0 | refine fw_sm_arr ?_ rfl | refine fw_sm_up ?_ rfl | refine fw_sm_put ?_ rfl | refine fw_sm_cp ?_ rfl)) ?_; (
        refine ⟨?_, ?_, ?_, fun i i1 i2 i3 i4 => ?_⟩
        · rw [fg_if (by omega) (by omega) (by omega) (by omega), if_neg (by omega), fg_if (by omega) (by omega) (by omega) (by omega), if_neg (by omega), fg_same (by omega) (by omega)]
        · rw [fg_if (by omega) (by omega) (by omega) (by omega), if_neg (by omega), fg_same (by omega) (by omega)]
        · rw [fg_same (by omega) (by omega)]
        · rw [fg_if (by omega) (by omega) (by omega) (by omega), if_neg (by omega), fg_if (by omega) (by omega) (by omega) (by omega), if_neg (by omega), fg_if (by omega) (by omega) (by omega) (by omega), if_neg (by omega)]))
      | omega
      | (intro _))
  · exact hx.elim

def fr_238 : fw_P := [(0, 2, 0, 0, 0), (1, 2, 0, 0, 0), (2, 64, 188, 0, 112), (5, 1, 1, 0, 0), (6, 1, 2, 0, 0), (7, 1, 3, 0, 0), (8, 64, 189, 4, 512), (11, 2, 0, 0, 0), (12, 50, 12, 24, 0), (15, 0, 0, 0, 0), (16, 44, 0, 0, 0), (17, 52, 0, 0, 0), (18, 0, 0, 0, 1), (19, 30, 0, 0, 0), (20, 53, 0, 0, 0), (21, 72, 0, 0, 0)]
theorem fr_238_ok : fw_mk 238 4 12 none fr_238 = true := by decide +kernel
def ct_grows : List (Nat × fw_X) := [(189, x_lay), (188, x_many)]
theorem ct_grows_ok (d : Nat) : fw_cok fw_T (d + 1) ct_grows := by
  intro q hq as W Q h
  simp only [ct_grows, List.mem_cons, List.not_mem_nil, or_false] at hq
  rcases hq with rfl | rfl
  · exact jc_of (x_lay_ok (d + 0) as W Q h)
  · exact jc_of (x_many_ok (d + 0) as W Q h)
theorem s_grows_0 {Post : Option fw_V → fw_W → Prop} {d : Nat} {W : fw_W} {hg len ppl : Int}
    (hw_ : (True) ∧ ((0 ≤ (fw_g W 366 0) ∧ (fw_g W 366 0) < 14) ∧ (∀ (f1 : fw_W), (((fw_g f1 366 (2 + 3 * (fw_g W 366 0))) = hg ∧ (fw_g f1 366 (3 + 3 * (fw_g W 366 0))) = len ∧ (fw_g f1 366 (4 + 3 * (fw_g W 366 0))) = ppl ∧ ∀ i, 0 ≤ i → i ≠ 2 + 3 * (fw_g W 366 0) → i ≠ 3 + 3 * (fw_g W 366 0) → i ≠ 4 + 3 * (fw_g W 366 0) → (fw_g f1 366 i) = (fw_g W 366 i))) → 0 ≤ (0 : Int) ∧ (0 : Int) < 44 ∧ (-2147483648 ≤ (fw_g f1 366 (0 : Int)) → (fw_g f1 366 (0 : Int)) ≤ 2147483647 → -2147483648 ≤ (fw_g f1 366 (0 : Int)) + (1 : Int) ∧ (fw_g f1 366 (0 : Int)) + (1 : Int) ≤ 2147483647 ∧ (0 ≤ (0 : Int) ∧ (0 : Int) < 44 ∧ -2147483648 ≤ ((fw_g f1 366 (0 : Int)) + (1 : Int)) ∧ ((fw_g f1 366 (0 : Int)) + (1 : Int)) ≤ 2147483647 ∧ (Post none (fw_up (fw_put [366] 352 [] W f1) 366 (0 : Int) ((fw_g f1 366 (0 : Int)) + (1 : Int))))))))) :
    jf fw_T (d + 2) 238 0 [(0, .inr (.inl 352)), (1, .inl hg), (2, .inl len), (3, .inl ppl)] [] W Post := fw_ok (n := 17) (ss := []) (hv := []) fr_238_ok fm_ok (ct_grows_ok d) hw_

def x_grows : fw_X := fun as W Q => match as with
  | [.inr (.inl s_), .inl hg, .inl len, .inl ppl] => fw_if (Nat.beq s_ 352) ((0 ≤ (fw_g W 366 0) ∧ (fw_g W 366 0) ≤ 13) ∧ (∀ (f : fw_W), ((fw_g f 366 0) = (fw_g W 366 0) + 1 ∧ (fw_g f 366 (2 + 3 * (fw_g W 366 0))) = hg ∧ (fw_g f 366 (3 + 3 * (fw_g W 366 0))) = len ∧ ∀ i, 0 ≤ i → i ≠ 0 → i ≠ 2 + 3 * (fw_g W 366 0) → i ≠ 3 + 3 * (fw_g W 366 0) → i ≠ 4 + 3 * (fw_g W 366 0) → (fw_g f 366 i) = (fw_g W 366 i)) → Q none (fw_put [366] 352 [] W f)))
  | _ => False
theorem x_grows_ok (d : Nat) (as : List fw_V) (W : fw_W) (Q : Option fw_V → fw_W → Prop) (hx : x_grows as W Q) : jf fw_T (d + 2) 238 0 (fw_args 0 as) [] W Q := by
  unfold x_grows at hx
  split at hx
  · rename_i s_ hg len ppl
    obtain ⟨e_, hpre, hQ⟩ := fw_if_ok hx
    have e_ := Nat.eq_of_beq_eq_true e_
    subst e_
    have hP : ∀ (W2 : fw_W), fw_sm [366] 352 [] W W2 → _ → Q none W2 := fun W2 hs hr => fw_sm_use (Q := fun Z => Q none Z) hs (hQ W2 hr)
    refine jf_rng (fun hrg => ?_)
    have hrg : -2147483648 ≤ hg ∧ hg ≤ 2147483647 ∧ -2147483648 ≤ len ∧ len ≤ 2147483647 ∧ -2147483648 ≤ ppl ∧ ppl ≤ 2147483647 ∧ True := hrg
    refine s_grows_0 ?_
    repeat' (first
      | (exact True.intro)
      | (exact hpre.1)
      | (refine And.intro ?_ ?_)
      | (refine hP _ (by repeat (first | exact fw_sm_refl | exact fw_sm_put0 | refine fw_sm_arr ?_ rfl | refine fw_sm_up ?_ rfl | refine fw_sm_put ?_ rfl | refine fw_sm_cp ?_ rfl)) ?_; (
        rename_i f1 hl _ _
        obtain ⟨l1, l2, l3, l4⟩ := hl
        have l5 := l4 0 (by omega) (by omega) (by omega) (by omega)
        refine ⟨?_, ?_, ?_, fun i i1 i2 i3 i4 i5 => ?_⟩
        · rw [fg_same (by omega) (by omega)]; omega
        · rw [fg_if (by omega) (by omega) (by omega) (by omega), if_neg (by omega), fg_in rfl]; exact l1
        · rw [fg_if (by omega) (by omega) (by omega) (by omega), if_neg (by omega), fg_in rfl]; exact l2
        · rw [fg_if (by omega) (by omega) (by omega) (by omega), if_neg (by omega), fg_in rfl]; exact l4 i i1 i3 i4 i5))
      | (rename_i f1 hl; have l5 := hl.2.2.2 0 (by omega) (by omega) (by omega) (by omega); omega)
      | (rename_i f1 hl _ _; have l5 := hl.2.2.2 0 (by omega) (by omega) (by omega) (by omega); omega)
      | omega
      | (intro _))
  · exact hx.elim

