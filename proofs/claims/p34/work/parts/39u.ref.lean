/-! the reference, method by method -/
theorem bg_pure {o : Nat} {W f : fw_W} : fw_put [] o [] W f = W := by
  funext c i
  unfold fw_put fw_inS fw_inF
  cases Nat.beq o 0 <;> simp
theorem jc_up {T : List ai_C} {n y : Nat} {as : List fw_V} {W : fw_W} {Q : Option fw_V → fw_W → Prop} (d : Nat) (h : jc T n y as W Q) : jc T (d + n) y as W Q := by
  induction d with
  | zero => rw [Nat.zero_add]; exact h
  | succ d ih =>
    rw [show d + 1 + n = d + n + 1 by omega]
    exact fun asc hh ht hg => jg_deep (ih asc hh ht hg)
def fr_281 : fw_P := [(0, 0, 0, 0, 1), (1, 3, 2, 0, 0), (2, 0, 0, 0, 1), (3, 3, 3, 0, 0), (4, 1, 3, 0, 0), (5, 1, 1, 0, 0), (6, 13, 51, 0, 0), (9, 2, 0, 0, 0), (10, 50, 12, 47, 0), (13, 1, 3, 0, 0), (14, 52, 0, 0, 0), (15, 2, 0, 0, 0), (16, 50, 12, 47, 0), (19, 1, 3, 0, 0), (20, 0, 0, 0, 1), (21, 31, 0, 0, 0), (22, 52, 0, 0, 0), (23, 11, 32, 0, 0), (26, 1, 2, 0, 0), (27, 0, 0, 0, 1), (28, 30, 0, 0, 0), (29, 6, 33, 0, 0), (32, 0, 0, 0, 1), (33, 3, 2, 0, 0), (34, 2, 0, 0, 0), (35, 43, 0, 0, 0), (36, 50, 12, 52, 0), (39, 1, 2, 0, 0), (40, 91, 0, 0, 0), (41, 87, 0, 0, 0), (42, 59, 12, 52, 0), (45, 5, 3, 0, 1), (48, 6, 4, 0, 0), (51, 72, 0, 0, 0)]
theorem fr_281_ok : fw_mk 281 4 12 none fr_281 = true := by decide +kernel
theorem s_takeTurns_0 {Post : Option fw_V → fw_W → Prop} {d : Nat} {W : fw_W} {nn : Int}
    (hw_ : jf fw_T (d + 1) 281 4 [(0, .inr (.inl 352)), (1, .inl nn), (2, .inl (1 : Int)), (3, .inl (1 : Int))] [] W Post) :
    jf fw_T (d + 1) 281 0 [(0, .inr (.inl 352)), (1, .inl nn)] [] W Post := fw_ok (n := 5) (ss := [(4, [0, 1, 2, 3])]) (hv := []) fr_281_ok fm_ok (fw_c0 _ _) hw_

theorem s_takeTurns_4 {Post : Option fw_V → fw_W → Prop} {d : Nat} {W : fw_W} {nn al k : Int}
    (hw_ : ((nn ≤ k → Post none W) ∧ (k < nn → 0 ≤ k ∧ k < 14 ∧ (-2147483648 ≤ (fw_g W 384 k) → (fw_g W 384 k) ≤ 2147483647 → -2147483648 ≤ k - (1 : Int) ∧ k - (1 : Int) ≤ 2147483647 ∧ (0 ≤ (k - (1 : Int)) ∧ (k - (1 : Int)) < 14 ∧ (-2147483648 ≤ (fw_g W 384 (k - (1 : Int))) → (fw_g W 384 (k - (1 : Int))) ≤ 2147483647 → ((¬ (fw_g W 384 k) = (fw_g W 384 (k - (1 : Int))) → -2147483648 ≤ k + (1 : Int) ∧ k + (1 : Int) ≤ 2147483647 ∧ (jf fw_T (d + 1) 281 4 [(0, .inr (.inl 352)), (1, .inl nn), (2, .inl (1 : Int)), (3, .inl (k + (1 : Int)))] [] W Post)) ∧ ((fw_g W 384 k) = (fw_g W 384 (k - (1 : Int))) → -2147483648 ≤ al + (1 : Int) ∧ al + (1 : Int) ≤ 2147483647 ∧ (-2147483648 ≤ k + (1 : Int) ∧ k + (1 : Int) ≤ 2147483647 ∧ (jf fw_T (d + 1) 281 4 [(0, .inr (.inl 352)), (1, .inl nn), (2, .inl (al + (1 : Int))), (3, .inl (k + (1 : Int)))] [] W Post)))))))))) :
    jf fw_T (d + 1) 281 4 [(0, .inr (.inl 352)), (1, .inl nn), (2, .inl al), (3, .inl k)] [] W Post := fw_ok (n := 29) (ss := [(4, [0, 1, 2, 3])]) (hv := []) fr_281_ok fm_ok (fw_c0 _ _) hw_

theorem lm_takeTurns_4 {Post : Option fw_V → fw_W → Prop} {d : Nat} {W : fw_W} {nn : Int} (hpre : 0 ≤ nn ∧ nn ≤ 14) (hP : (True) → Post none W)  : ∀ (m : Nat) (al k : Int), (nn - k).toNat = m → 1 ≤ k ∧ 1 ≤ al ∧ al ≤ k → jf fw_T (d + 1) 281 4 [(0, .inr (.inl 352)), (1, .inl nn), (2, .inl al), (3, .inl k)] [] W Post := by
  intro m
  induction m using Nat.strongRecOn with
  | ind m ih =>
    intro al k hm hi
    refine jf_rng (fun hrg => ?_)
    have hrg : -2147483648 ≤ nn ∧ nn ≤ 2147483647 ∧ -2147483648 ≤ al ∧ al ≤ 2147483647 ∧ -2147483648 ≤ k ∧ k ≤ 2147483647 ∧ True := hrg
    refine s_takeTurns_4 ?_
    repeat' (first
      | (exact True.intro)
      | (exact hpre.1)
      | (refine And.intro ?_ ?_)
      | (refine (ih _ (by omega) _ _ rfl ?_); (first | omega | trivial))
      | (refine hP ?_; (first | trivial | omega))
      | omega
      | (intro _))
def x_takeTurns : fw_X := fun as W Q => match as with
  | [.inr (.inl s_), .inl nn] => fw_if (Nat.beq s_ 352) ((0 ≤ nn ∧ nn ≤ 14) ∧ ((True) → Q none W))
  | _ => False
theorem x_takeTurns_ok (d : Nat) (as : List fw_V) (W : fw_W) (Q : Option fw_V → fw_W → Prop) (hx : x_takeTurns as W Q) : jf fw_T (d + 1) 281 0 (fw_args 0 as) [] W Q := by
  unfold x_takeTurns at hx
  split at hx
  · rename_i s_ nn
    obtain ⟨e_, hpre, hQ⟩ := fw_if_ok hx
    have e_ := Nat.eq_of_beq_eq_true e_
    subst e_
    have hP := hQ
    refine s_takeTurns_0 ?_
    repeat' (first
      | (exact True.intro)
      | (exact hpre.1)
      | (refine And.intro ?_ ?_)
      | (refine (lm_takeTurns_4 (nn := nn) hpre hP _ _ _ rfl ?_); (first | omega | trivial))
      | (refine hP ?_; (first | trivial | omega))
      | omega
      | (intro _))
  · exact hx.elim

