/-! the reference, method by method -/
/-! how many streets a house has -/
def dga (p : Int → Int) (k : Nat) (h : Int) : Nat := (List.range k).countP (fun q : Nat => decide ((q : Int) ≠ h ∧ (p h = (q : Int) ∨ p (q : Int) = h)))
theorem dga_s (p : Int → Int) (k h : Int) (hk : 0 ≤ k) : ((k ≠ h ∧ (p h = k ∨ p k = h)) → dga p (k + 1).toNat h = dga p k.toNat h + 1) ∧ (¬ (k ≠ h ∧ (p h = k ∨ p k = h)) → dga p (k + 1).toNat h = dga p k.toNat h) := by
  have e : (k + 1).toNat = k.toNat + 1 := by omega
  unfold dga
  rw [e, List.range_succ, List.countP_append, List.countP_singleton, Int.toNat_of_nonneg hk]
  constructor
  · intro c
    rw [if_pos (decide_eq_true c)]
  · intro c
    rw [if_neg (fun z => c (of_decide_eq_true z))]; rfl
def ct_streetsOf2 : List (Nat × fw_X) := [(219, x_areNext), (188, x_many)]
theorem ct_streetsOf2_ok (d : Nat) : fw_cok fw_T (d + 2) ct_streetsOf2 := by
  intro q hq as W Q h
  simp only [ct_streetsOf2, List.mem_cons, List.not_mem_nil, or_false] at hq
  rcases hq with rfl | rfl
  · exact jc_of (x_areNext_ok (d + 0) as W Q h)
  · exact jc_of (x_many_ok (d + 1) as W Q h)
theorem s_streetsOf2_0 {Post : Option fw_V → fw_W → Prop} {d : Nat} {W : fw_W} {h : Int}
    (hw_ : jf fw_T (d + 3) 218 4 [(0, .inr (.inl 352)), (1, .inl h), (2, .inl (0 : Int)), (3, .inl (0 : Int))] [] W Post) :
    jf fw_T (d + 3) 218 0 [(0, .inr (.inl 352)), (1, .inl h)] [] W Post := fw_ok (n := 5) (ss := [(4, [0, 1, 2, 3])]) (hv := []) fr_218_ok fm_ok (ct_streetsOf2_ok d) hw_

theorem s_streetsOf2_4 {Post : Option fw_V → fw_W → Prop} {d : Nat} {W : fw_W} {h n k : Int}
    (hw_ : (True) ∧ ((((fw_g W 366 0) ≤ k → (-2147483648 ≤ n → n ≤ 2147483647 → Post (some (.inl n)) W)) ∧ (k < (fw_g W 366 0) → ((k = h → -2147483648 ≤ n + (0 : Int) ∧ n + (0 : Int) ≤ 2147483647 ∧ (-2147483648 ≤ k + (1 : Int) ∧ k + (1 : Int) ≤ 2147483647 ∧ (jf fw_T (d + 3) 218 4 [(0, .inr (.inl 352)), (1, .inl h), (2, .inl (n + (0 : Int))), (3, .inl (k + (1 : Int)))] [] W Post))) ∧ (¬ k = h → (0 ≤ h ∧ h < 14 ∧ 0 ≤ k ∧ k < 14) ∧ (∀ (r1 : Int), ((0 ≤ r1 ∧ r1 ≤ 1 ∧ ((r1 = 1 ∧ ((fw_g W 366 (2 + 3 * h)) = k ∨ (fw_g W 366 (2 + 3 * k)) = h)) ∨ (r1 = 0 ∧ ¬ (fw_g W 366 (2 + 3 * h)) = k ∧ ¬ (fw_g W 366 (2 + 3 * k)) = h)))) → ((r1 = 0 → -2147483648 ≤ n + (0 : Int) ∧ n + (0 : Int) ≤ 2147483647 ∧ (-2147483648 ≤ k + (1 : Int) ∧ k + (1 : Int) ≤ 2147483647 ∧ (jf fw_T (d + 3) 218 4 [(0, .inr (.inl 352)), (1, .inl h), (2, .inl (n + (0 : Int))), (3, .inl (k + (1 : Int)))] [] W Post))) ∧ (¬ r1 = 0 → -2147483648 ≤ n + (1 : Int) ∧ n + (1 : Int) ≤ 2147483647 ∧ (-2147483648 ≤ k + (1 : Int) ∧ k + (1 : Int) ≤ 2147483647 ∧ (jf fw_T (d + 3) 218 4 [(0, .inr (.inl 352)), (1, .inl h), (2, .inl (n + (1 : Int))), (3, .inl (k + (1 : Int)))] [] W Post))))))))))) :
    jf fw_T (d + 3) 218 4 [(0, .inr (.inl 352)), (1, .inl h), (2, .inl n), (3, .inl k)] [] W Post := fw_ok (n := 20) (ss := [(4, [0, 1, 2, 3])]) (hv := []) fr_218_ok fm_ok (ct_streetsOf2_ok d) hw_

theorem lm_streetsOf2_4 {Post : Option fw_V → fw_W → Prop} {d : Nat} {W : fw_W} {h : Int} (hpre : mt W ∧ 0 ≤ (fw_g W 366 0) ∧ (fw_g W 366 0) ≤ 14 ∧ 0 ≤ h ∧ h < 14) (hP : ∀ (v : Int) , (-2147483648 ≤ v ∧ v ≤ 2147483647 ∧ (v = ((dga (fun z_ => (fw_g W 366 (2 + 3 * z_))) ((fw_g W 366 0)).toNat h : Nat) : Int))) → Post (some (.inl v)) W)  : ∀ (m : Nat) (n k : Int), ((fw_g W 366 0) - k).toNat = m → 0 ≤ k ∧ k ≤ (fw_g W 366 0) ∧ 0 ≤ n ∧ n ≤ k ∧ n = ((dga (fun z_ => (fw_g W 366 (2 + 3 * z_))) k.toNat h : Nat) : Int) → jf fw_T (d + 3) 218 4 [(0, .inr (.inl 352)), (1, .inl h), (2, .inl n), (3, .inl k)] [] W Post := by
  intro m
  induction m using Nat.strongRecOn with
  | ind m ih =>
    intro n k hm hi
    refine jf_rng (fun hrg => ?_)
    have hrg : -2147483648 ≤ h ∧ h ≤ 2147483647 ∧ -2147483648 ≤ n ∧ n ≤ 2147483647 ∧ -2147483648 ≤ k ∧ k ≤ 2147483647 ∧ True := hrg
    refine s_streetsOf2_4 ?_
    have ds := dga_s (fun z_ => (fw_g W 366 (2 + 3 * z_))) k h hi.1
    have ds1 : (¬ k = h ∧ ((fw_g W 366 (2 + 3 * h)) = k ∨ (fw_g W 366 (2 + 3 * k)) = h)) → dga (fun z_ => (fw_g W 366 (2 + 3 * z_))) (k + 1).toNat h = dga (fun z_ => (fw_g W 366 (2 + 3 * z_))) k.toNat h + 1 := ds.1
    have ds2 : ¬ (¬ k = h ∧ ((fw_g W 366 (2 + 3 * h)) = k ∨ (fw_g W 366 (2 + 3 * k)) = h)) → dga (fun z_ => (fw_g W 366 (2 + 3 * z_))) (k + 1).toNat h = dga (fun z_ => (fw_g W 366 (2 + 3 * z_))) k.toNat h := ds.2
    clear ds
    repeat' (first
      | (exact True.intro)
      | (exact hpre.1)
      | (refine And.intro ?_ ?_)
      | (refine (ih _ (by omega) _ _ rfl ?_); (
        refine ⟨by omega, by omega, by omega, by omega, ?_⟩
        first
          | (rw [ds1 (by omega)]; omega)
          | (rw [ds2 (by omega)]; omega)))
      | (refine hP _ ?_; (refine ⟨by omega, by omega, ?_⟩; (
        have kN : k = fw_g W 366 0 := by omega
        rw [← kN]; omega)))
      | omega
      | (intro _))
def x_streetsOf2 : fw_X := fun as W Q => match as with
  | [.inr (.inl s_), .inl h] => fw_if (Nat.beq s_ 352) ((mt W ∧ 0 ≤ (fw_g W 366 0) ∧ (fw_g W 366 0) ≤ 14 ∧ 0 ≤ h ∧ h < 14) ∧ (∀ (v : Int), (-2147483648 ≤ v ∧ v ≤ 2147483647 ∧ (v = ((dga (fun z_ => (fw_g W 366 (2 + 3 * z_))) ((fw_g W 366 0)).toNat h : Nat) : Int))) → Q (some (.inl v)) W))
  | _ => False
theorem x_streetsOf2_ok (d : Nat) (as : List fw_V) (W : fw_W) (Q : Option fw_V → fw_W → Prop) (hx : x_streetsOf2 as W Q) : jf fw_T (d + 3) 218 0 (fw_args 0 as) [] W Q := by
  unfold x_streetsOf2 at hx
  split at hx
  · rename_i s_ h
    obtain ⟨e_, hpre, hQ⟩ := fw_if_ok hx
    have e_ := Nat.eq_of_beq_eq_true e_
    subst e_
    have hP := hQ
    refine s_streetsOf2_0 ?_
    repeat' (first
      | (exact True.intro)
      | (exact hpre.1)
      | (refine And.intro ?_ ?_)
      | (refine (lm_streetsOf2_4 (h := h) hpre hP _ _ _ rfl ?_); (exact ⟨by omega, by omega, by omega, by omega, rfl⟩))
      | (refine hP _ ?_; (refine ⟨by omega, by omega, ?_⟩; (
        have kN : k = fw_g W 366 0 := by omega
        rw [← kN]; omega)))
      | omega
      | (intro _))
  · exact hx.elim

