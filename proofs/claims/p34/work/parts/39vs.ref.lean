/-! the reference, method by method -/
def fr_314 : fw_P := [(0, 1, 1, 0, 0), (1, 95, 11589667064463633663565733397178032839569933306531938432, 12, 0), (60, 2, 0, 0, 0), (61, 64, 188, 0, 112), (64, 70, 0, 0, 0), (65, 2, 0, 0, 0), (66, 2, 0, 0, 0), (67, 64, 250, 0, 112), (70, 0, 0, 0, 1), (71, 31, 0, 0, 0), (72, 64, 255, 1, 412), (75, 70, 0, 0, 0), (76, 2, 0, 0, 0), (77, 64, 234, 0, 312), (80, 70, 0, 0, 0), (81, 2, 0, 0, 0), (82, 50, 12, 12, 0), (85, 2, 0, 0, 0), (86, 50, 12, 22, 0), (89, 52, 0, 0, 0), (90, 70, 0, 0, 0), (91, 2, 0, 0, 0), (92, 50, 12, 29, 0), (95, 70, 0, 0, 0), (96, 2, 0, 0, 0), (97, 50, 12, 30, 0), (100, 70, 0, 0, 0), (101, 2, 0, 0, 0), (102, 50, 12, 65, 0), (105, 70, 0, 0, 0), (106, 2, 0, 0, 0), (107, 50, 12, 66, 0), (110, 70, 0, 0, 0), (111, 2, 0, 0, 0), (112, 50, 12, 2, 0), (115, 70, 0, 0, 0), (116, 2, 0, 0, 0), (117, 50, 12, 27, 0), (120, 70, 0, 0, 0), (121, 2, 0, 0, 0), (122, 50, 12, 24, 0), (125, 0, 0, 0, 1), (126, 52, 0, 0, 0), (127, 70, 0, 0, 0), (128, 0, 0, 0, -1), (129, 70, 0, 0, 0)]
theorem fr_314_ok : fw_mk 314 2 12 (some .int) fr_314 = true := by decide +kernel
def ct_about : List (Nat × fw_X) := [(188, x_many), (255, x_peopleIn), (250, x_sets), (234, x_streetsTogether)]
theorem ct_about_ok (d : Nat) : fw_cok fw_T (d + 2) ct_about := by
  intro q hq as W Q h
  simp only [ct_about, List.mem_cons, List.not_mem_nil, or_false] at hq
  rcases hq with rfl | rfl | rfl | rfl
  · exact jc_of (x_many_ok (d + 1) as W Q h)
  · exact jc_of (x_peopleIn_ok (d + 0) as W Q h)
  · exact jc_of (x_sets_ok (d + 0) as W Q h)
  · exact jc_of (x_streetsTogether_ok (d + 0) as W Q h)
theorem s_about_0 {Post : Option fw_V → fw_W → Prop} {d : Nat} {W : fw_W} {what : Int}
    (hw_ : (((-2147483648 ≤ (-1 : Int) → (-1 : Int) ≤ 2147483647 → Post (some (.inl (-1 : Int))) W)) ∧ (((True) ∧ ((-2147483648 ≤ (fw_g W 366 0) → (fw_g W 366 0) ≤ 2147483647 → Post (some (.inl (fw_g W 366 0))) W))) ∧ (((True) ∧ (-2147483648 ≤ (fw_shl 1 (fw_g W 366 0)) - (1 : Int) ∧ (fw_shl 1 (fw_g W 366 0)) - (1 : Int) ≤ 2147483647 ∧ ((mt W ∧ 0 ≤ (fw_g W 366 0) ∧ (fw_g W 366 0) ≤ 14) ∧ (∀ (r2 : Int), ((-2147483648 ≤ r2 ∧ r2 ≤ 2147483647 ∧ (True))) → (-2147483648 ≤ r2 → r2 ≤ 2147483647 → Post (some (.inl r2)) W))))) ∧ (((mt W ∧ 0 ≤ (fw_g W 366 0) ∧ (fw_g W 366 0) ≤ 14) ∧ (∀ (r1 : Int), ((-2147483648 ≤ r1 ∧ r1 ≤ 2147483647 ∧ (True))) → (-2147483648 ≤ r1 → r1 ≤ 2147483647 → Post (some (.inl r1)) W))) ∧ (((0 ≤ (fw_g W 352 22) → (fw_g W 352 22) ≤ 1 → 0 ≤ (fw_g W 352 22) ∧ (fw_g W 352 22) < 2 ∧ (0 ≤ (fw_g W 356 (fw_g W 352 22)) → (fw_g W 356 (fw_g W 352 22)) ≤ 4 → (-2147483648 ≤ (fw_g W 356 (fw_g W 352 22)) → (fw_g W 356 (fw_g W 352 22)) ≤ 2147483647 → Post (some (.inl (fw_g W 356 (fw_g W 352 22)))) W)))) ∧ (((0 ≤ (fw_g W 352 29) → (fw_g W 352 29) ≤ 40 → (-2147483648 ≤ (fw_g W 352 29) → (fw_g W 352 29) ≤ 2147483647 → Post (some (.inl (fw_g W 352 29))) W))) ∧ (((0 ≤ (fw_g W 352 30) → (fw_g W 352 30) ≤ 40 → (-2147483648 ≤ (fw_g W 352 30) → (fw_g W 352 30) ≤ 2147483647 → Post (some (.inl (fw_g W 352 30))) W))) ∧ (((0 ≤ (fw_g W 352 65) → (fw_g W 352 65) ≤ 40 → (-2147483648 ≤ (fw_g W 352 65) → (fw_g W 352 65) ≤ 2147483647 → Post (some (.inl (fw_g W 352 65))) W))) ∧ (((0 ≤ (fw_g W 352 66) → (fw_g W 352 66) ≤ 100000 → (-2147483648 ≤ (fw_g W 352 66) → (fw_g W 352 66) ≤ 2147483647 → Post (some (.inl (fw_g W 352 66))) W))) ∧ (((0 ≤ (fw_g W 352 2) → (fw_g W 352 2) ≤ 1200 → (-2147483648 ≤ (fw_g W 352 2) → (fw_g W 352 2) ≤ 2147483647 → Post (some (.inl (fw_g W 352 2))) W))) ∧ (((0 ≤ (fw_g W 352 27) → (fw_g W 352 27) ≤ 16 → (-2147483648 ≤ (fw_g W 352 27) → (fw_g W 352 27) ≤ 2147483647 → Post (some (.inl (fw_g W 352 27))) W))) ∧ ((0 ≤ (1 : Int) ∧ (1 : Int) < 44 ∧ (-2147483648 ≤ (fw_g W 366 (1 : Int)) → (fw_g W 366 (1 : Int)) ≤ 2147483647 → (-2147483648 ≤ (fw_g W 366 (1 : Int)) → (fw_g W 366 (1 : Int)) ≤ 2147483647 → Post (some (.inl (fw_g W 366 (1 : Int)))) W))) ∧ True))))))))))))) :
    jf fw_T (d + 3) 314 0 [(0, .inr (.inl 352)), (1, .inl what)] [] W Post := fw_ok (n := 10) (ss := []) (hv := []) fr_314_ok fm_ok (ct_about_ok d) hw_

def x_about : fw_X := fun as W Q => match as with
  | [.inr (.inl s_), .inl what] => fw_if (Nat.beq s_ 352) ((mt W ∧ 0 ≤ (fw_g W 366 0) ∧ (fw_g W 366 0) ≤ 14) ∧ (∀ (v : Int), (-2147483648 ≤ v ∧ v ≤ 2147483647 ∧ (True)) → Q (some (.inl v)) W))
  | _ => False
theorem x_about_ok (d : Nat) (as : List fw_V) (W : fw_W) (Q : Option fw_V → fw_W → Prop) (hx : x_about as W Q) : jf fw_T (d + 3) 314 0 (fw_args 0 as) [] W Q := by
  unfold x_about at hx
  split at hx
  · rename_i s_ what
    obtain ⟨e_, hpre, hQ⟩ := fw_if_ok hx
    have e_ := Nat.eq_of_beq_eq_true e_
    subst e_
    have hP := hQ
    refine s_about_0 ?_
    have s1 := fw_shl1 hpre.2.1 hpre.2.2
    repeat' (first
      | (exact True.intro)
      | (exact hpre.1)
      | (refine And.intro ?_ ?_)
      | (refine hP _ ?_; (refine ⟨by omega, by omega, ?_⟩; (first | trivial | omega)))
      | omega
      | (intro _))
  · exact hx.elim

