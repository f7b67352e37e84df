/-! the class, method by method -/
def fv_tell : List (Nat × ai_C) := [(223, .inr (.inr (.inr (8, [.inr (.inl [12]), .inr (.inl [224])])))), (12, .inr (.inr (.inr (9, [.inl (0, 14, true), .inl (0, 999, true), .inr (.inl [13]), .inr (.inl [14]), .inr (.inl [15])])))), (13, .inl (.int, 14, -1, 13, true)), (14, .inl (.int, 14, 0, 99, true)), (15, .inl (.int, 14, 0, 99, true))]
def fg_tell_G : fw_G := [(224, 14, 14, -2147483648, 2147483647)]
theorem fv_tell_ok : fw_view fw_T fv_tell fg_tell_G := fw_vb_ok (by decide +kernel)
def fr_106 : fw_P := [(0, 1, 1, 0, 0), (1, 3, 3, 0, 0), (2, 1, 3, 0, 0), (3, 25, 29, 0, 0), (6, 2, 0, 0, 0), (7, 1, 3, 0, 0), (8, 0, 0, 0, 1), (9, 31, 0, 0, 0), (10, 52, 0, 0, 0), (11, 1, 2, 0, 0), (12, 13, 29, 0, 0), (15, 2, 0, 0, 0), (16, 1, 3, 0, 0), (17, 2, 0, 0, 0), (18, 1, 3, 0, 0), (19, 0, 0, 0, 1), (20, 31, 0, 0, 0), (21, 52, 0, 0, 0), (22, 53, 0, 0, 0), (23, 5, 3, 0, -1), (26, 6, 2, 0, 0), (29, 2, 0, 0, 0), (30, 1, 3, 0, 0), (31, 1, 2, 0, 0), (32, 53, 0, 0, 0), (33, 72, 0, 0, 0)]
theorem fr_106_ok : fw_mk 106 4 8 none fr_106 = true := by decide +kernel
theorem s_k_insert_0 {Post : Option fw_V → fw_W → Prop} {d : Nat} {W : fw_W} {fi ne : Int}
    (hw_ : jf fw_T (d + 1) 106 2 [(0, .inr (.inr 224)), (2, .inl ne), (3, .inl fi)] [] W Post) :
    jf fw_T (d + 1) 106 0 [(0, .inr (.inr 224)), (1, .inl fi), (2, .inl ne)] [] W Post := fw_ok (n := 3) (ss := [(2, [0, 2, 3])]) (hv := []) fr_106_ok fv_tell_ok (fw_c0 _ _) hw_

theorem s_k_insert_2 {Post : Option fw_V → fw_W → Prop} {d : Nat} {W : fw_W} {ne at_ : Int}
    (hw_ : ((at_ ≤ 0 → 0 ≤ at_ ∧ at_ < 14 ∧ -2147483648 ≤ ne ∧ ne ≤ 2147483647 ∧ (Post none W)) ∧ (0 < at_ → -2147483648 ≤ at_ - (1 : Int) ∧ at_ - (1 : Int) ≤ 2147483647 ∧ (0 ≤ (at_ - (1 : Int)) ∧ (at_ - (1 : Int)) < 14 ∧ (∀ v1 : Int, -2147483648 ≤ v1 → v1 ≤ 2147483647 → ((ne ≤ v1 → 0 ≤ at_ ∧ at_ < 14 ∧ -2147483648 ≤ ne ∧ ne ≤ 2147483647 ∧ (Post none W)) ∧ (v1 < ne → -2147483648 ≤ at_ - (1 : Int) ∧ at_ - (1 : Int) ≤ 2147483647 ∧ (0 ≤ (at_ - (1 : Int)) ∧ (at_ - (1 : Int)) < 14 ∧ (∀ v2 : Int, -2147483648 ≤ v2 → v2 ≤ 2147483647 → 0 ≤ at_ ∧ at_ < 14 ∧ -2147483648 ≤ v2 ∧ v2 ≤ 2147483647 ∧ (-2147483648 ≤ at_ + (-1 : Int) ∧ at_ + (-1 : Int) ≤ 2147483647 ∧ (jf fw_T (d + 1) 106 2 [(0, .inr (.inr 224)), (2, .inl ne), (3, .inl (at_ + (-1 : Int)))] [] W Post))))))))))) :
    jf fw_T (d + 1) 106 2 [(0, .inr (.inr 224)), (2, .inl ne), (3, .inl at_)] [] W Post := fw_ok (n := 20) (ss := [(2, [0, 2, 3])]) (hv := []) fr_106_ok fv_tell_ok (fw_c0 _ _) hw_

theorem lm_k_insert_2 {Post : Option fw_V → fw_W → Prop} {d : Nat} {W : fw_W} {fi ne : Int} (hpre : 0 ≤ fi ∧ fi ≤ 13) (hP : (True) → Post none W)  : ∀ (m : Nat) (at_ : Int), (at_).toNat = m → 0 ≤ at_ ∧ at_ ≤ 13 → jf fw_T (d + 1) 106 2 [(0, .inr (.inr 224)), (2, .inl ne), (3, .inl at_)] [] W Post := by
  intro m
  induction m using Nat.strongRecOn with
  | ind m ih =>
    intro at_ hm hi
    refine jf_rng (fun hrg => ?_)
    have hrg : -2147483648 ≤ ne ∧ ne ≤ 2147483647 ∧ -2147483648 ≤ at_ ∧ at_ ≤ 2147483647 ∧ True := hrg
    refine s_k_insert_2 ?_
    repeat' (first
      | (exact True.intro)
      | (exact hpre.1)
      | (refine And.intro ?_ ?_)
      | (refine (ih _ (by omega) _ rfl ?_); (first | omega | trivial))
      | (refine hP ?_; (first | trivial | omega))
      | omega
      | (intro _))
def x_k_insert : fw_X := fun as W Q => match as with
  | [.inr (.inr l0_), .inl fi, .inl ne] => fw_if (Nat.beq l0_ 224) ((0 ≤ fi ∧ fi ≤ 13) ∧ ((True) → Q none W))
  | _ => False
theorem x_k_insert_ok (d : Nat) (as : List fw_V) (W : fw_W) (Q : Option fw_V → fw_W → Prop) (hx : x_k_insert as W Q) : jf fw_T (d + 1) 106 0 (fw_args 0 as) [] W Q := by
  unfold x_k_insert at hx
  split at hx
  · rename_i l0_ fi ne
    obtain ⟨e0_, hx0⟩ := fw_if_ok hx
    have e0_ := Nat.eq_of_beq_eq_true e0_
    clear hx
    subst e0_
    obtain ⟨hpre, hQ⟩ := hx0
    have hP := hQ
    refine jf_rng (fun hrg => ?_)
    have hrg : -2147483648 ≤ fi ∧ fi ≤ 2147483647 ∧ -2147483648 ≤ ne ∧ ne ≤ 2147483647 ∧ True := hrg
    refine s_k_insert_0 ?_
    repeat' (first
      | (exact True.intro)
      | (exact hpre.1)
      | (refine And.intro ?_ ?_)
      | (refine (lm_k_insert_2 (fi := fi) (ne := ne) hpre hP _ _ rfl ?_); (first | omega | trivial))
      | (refine hP ?_; (first | trivial | omega))
      | omega
      | (intro _))
  · exact hx.elim

def fr_105 : fw_P := [(0, 1, 4, 0, 0), (2, 0, 0, 0, 14), (4, 12, 9, 0, 0), (7, 0, 0, 0, 0), (8, 70, 0, 0, 0), (9, 2, 0, 0, 0), (10, 50, 8, 1, 0), (13, 1, 4, 0, 0), (15, 56, 0, 0, 0), (16, 4, 5, 0, 0), (18, 0, 0, 0, 0), (19, 3, 6, 0, 0), (21, 0, 0, 0, 0), (22, 3, 7, 0, 0), (24, 1, 7, 0, 0), (26, 2, 0, 0, 0), (27, 50, 8, 0, 0), (30, 50, 9, 0, 0), (33, 13, 102, 0, 0), (36, 2, 0, 0, 0), (37, 50, 8, 0, 0), (40, 1, 1, 0, 0), (41, 1, 7, 0, 0), (43, 64, 113, 2, 309), (46, 3, 8, 0, 0), (48, 1, 8, 0, 0), (50, 25, 96, 0, 0), (53, 1, 7, 0, 0), (55, 1, 2, 0, 0), (56, 10, 96, 0, 0), (59, 1, 3, 0, 0), (60, 20, 68, 0, 0), (63, 1, 8, 0, 0), (65, 6, 69, 0, 0), (68, 0, 0, 0, 1), (69, 3, 9, 0, 0), (71, 2, 5, 0, 0), (73, 1, 6, 0, 0), (75, 1, 9, 0, 0), (77, 2, 0, 0, 0), (78, 1, 7, 0, 0), (80, 1, 1, 0, 0), (81, 1, 3, 0, 0), (82, 1, 4, 0, 0), (84, 0, 0, 0, 1), (85, 30, 0, 0, 0), (86, 64, 105, 4, 1008), (89, 30, 0, 0, 0), (90, 65, 106, 3, 400), (93, 5, 6, 0, 1), (96, 5, 7, 0, 1), (99, 6, 24, 0, 0), (102, 0, 0, 0, 0), (103, 3, 7, 0, 0), (105, 0, 0, 0, 0), (106, 3, 8, 0, 0), (108, 1, 8, 0, 0), (110, 1, 6, 0, 0), (112, 13, 136, 0, 0), (115, 1, 7, 0, 0), (117, 1, 8, 0, 0), (119, 2, 5, 0, 0), (121, 1, 8, 0, 0), (123, 52, 0, 0, 0), (124, 30, 0, 0, 0), (125, 60, 0, 0, 0), (128, 3, 7, 0, 0), (130, 5, 8, 0, 1), (133, 6, 108, 0, 0), (136, 1, 7, 0, 0), (138, 70, 0, 0, 0)]
theorem fr_105_ok : fw_mk 105 10 8 (some .int) fr_105 = true := by decide +kernel
def ct_k_hours14 : List (Nat × fw_X) := [(106, x_k_insert), (113, x_k_streetBetween)]
theorem ct_k_hours14_ok (d : Nat) : fw_cok fw_T (d + 1) ct_k_hours14 := by
  intro q hq as W Q h
  simp only [ct_k_hours14, List.mem_cons, List.not_mem_nil, or_false] at hq
  rcases hq with rfl | rfl
  · exact jc_of (x_k_insert_ok (d + 0) as W Q h)
  · exact jc_of (x_k_streetBetween_ok (d + 0) as W Q h)
theorem s_k_hours14_0 {Post : Option fw_V → fw_W → Prop} {d : Nat} {W : fw_W} {h fr bl dp : Int}
    (hw_ : ((dp < (14 : Int) → 0 ≤ dp ∧ dp < 14 ∧ (jf fw_T (d + 2) 105 24 [(0, .inr (.inl 223)), (1, .inl h), (2, .inl fr), (3, .inl bl), (4, .inl dp), (5, .inr (.inr 224)), (6, .inl (0 : Int)), (7, .inl (0 : Int))] [] W Post)) ∧ ((14 : Int) ≤ dp → (-2147483648 ≤ (0 : Int) → (0 : Int) ≤ 2147483647 → Post (some (.inl (0 : Int))) W)))) :
    jf fw_T (d + 2) 105 0 [(0, .inr (.inl 223)), (1, .inl h), (2, .inl fr), (3, .inl bl), (4, .inl dp)] [] W Post := fw_ok (n := 13) (ss := [(24, [0, 1, 2, 3, 4, 5, 6, 7]), (108, [5, 6, 7, 8])]) (hv := [89, 124]) fr_105_ok fv_tell_ok (ct_k_hours14_ok d) hw_

theorem s_k_hours14_108 {Post : Option fw_V → fw_W → Prop} {d : Nat} {W : fw_W} {fil o st_ : Int}
    (hw_ : ((fil ≤ st_ → (-2147483648 ≤ o → o ≤ 2147483647 → Post (some (.inl o)) W)) ∧ (st_ < fil → 0 ≤ st_ ∧ st_ < 14 ∧ (∀ v1 : Int, -2147483648 ≤ v1 → v1 ≤ 2147483647 → ∀ v2 : Int, -2147483648 ≤ v2 → v2 ≤ 2147483647 → -2147483648 ≤ st_ + (1 : Int) ∧ st_ + (1 : Int) ≤ 2147483647 ∧ (jf fw_T (d + 2) 105 108 [(5, .inr (.inr 224)), (6, .inl fil), (7, .inl (max o v2)), (8, .inl (st_ + (1 : Int)))] [] W Post))))) :
    jf fw_T (d + 2) 105 108 [(5, .inr (.inr 224)), (6, .inl fil), (7, .inl o), (8, .inl st_)] [] W Post := fw_ok (n := 14) (ss := [(24, [0, 1, 2, 3, 4, 5, 6, 7]), (108, [5, 6, 7, 8])]) (hv := [89, 124]) fr_105_ok fv_tell_ok (ct_k_hours14_ok d) hw_

theorem s_k_hours14_24 {Post : Option fw_V → fw_W → Prop} {d : Nat} {W : fw_W} {h fr bl dp fil o : Int}
    (hw_ : (0 ≤ (fw_g W 12 0) → (fw_g W 12 0) ≤ 14 → (((fw_g W 12 0) ≤ o → jf fw_T (d + 2) 105 108 [(5, .inr (.inr 224)), (6, .inl fil), (7, .inl (0 : Int)), (8, .inl (0 : Int))] [] W Post) ∧ (o < (fw_g W 12 0) → (0 ≤ h ∧ h < 14 ∧ 0 ≤ o ∧ o < 14) ∧ (∀ (r1 : Int), ((-2147483648 ≤ r1 ∧ r1 ≤ 2147483647 ∧ (True))) → ((r1 ≤ 0 → -2147483648 ≤ o + (1 : Int) ∧ o + (1 : Int) ≤ 2147483647 ∧ (jf fw_T (d + 2) 105 24 [(0, .inr (.inl 223)), (1, .inl h), (2, .inl fr), (3, .inl bl), (4, .inl dp), (5, .inr (.inr 224)), (6, .inl fil), (7, .inl (o + (1 : Int)))] [] W Post)) ∧ (0 < r1 → ((o = fr → -2147483648 ≤ o + (1 : Int) ∧ o + (1 : Int) ≤ 2147483647 ∧ (jf fw_T (d + 2) 105 24 [(0, .inr (.inl 223)), (1, .inl h), (2, .inl fr), (3, .inl bl), (4, .inl dp), (5, .inr (.inr 224)), (6, .inl fil), (7, .inl (o + (1 : Int)))] [] W Post)) ∧ (¬ o = fr → ((bl = 0 → -2147483648 ≤ dp + (1 : Int) ∧ dp + (1 : Int) ≤ 2147483647 ∧ (jf fw_T (d + 2) 105 86 [(0, .inr (.inl 223)), (1, .inl h), (2, .inl fr), (3, .inl bl), (4, .inl dp), (5, .inr (.inr 224)), (6, .inl fil), (7, .inl o), (8, .inl r1), (9, .inl (1 : Int))] [.inl (dp + (1 : Int)), .inl bl, .inl h, .inl o, .inr (.inl 223), .inl (1 : Int), .inl fil, .inr (.inr 224)] W Post)) ∧ (¬ bl = 0 → -2147483648 ≤ dp + (1 : Int) ∧ dp + (1 : Int) ≤ 2147483647 ∧ (jf fw_T (d + 2) 105 86 [(0, .inr (.inl 223)), (1, .inl h), (2, .inl fr), (3, .inl bl), (4, .inl dp), (5, .inr (.inr 224)), (6, .inl fil), (7, .inl o), (8, .inl r1), (9, .inl r1)] [.inl (dp + (1 : Int)), .inl bl, .inl h, .inl o, .inr (.inl 223), .inl r1, .inl fil, .inr (.inr 224)] W Post)))))))))))) :
    jf fw_T (d + 2) 105 24 [(0, .inr (.inl 223)), (1, .inl h), (2, .inl fr), (3, .inl bl), (4, .inl dp), (5, .inr (.inr 224)), (6, .inl fil), (7, .inl o)] [] W Post := fw_ok (n := 33) (ss := [(24, [0, 1, 2, 3, 4, 5, 6, 7]), (108, [5, 6, 7, 8])]) (hv := [89, 124]) fr_105_ok fv_tell_ok (ct_k_hours14_ok d) hw_

theorem lm_k_hours14_108 {Post : Option fw_V → fw_W → Prop} {d : Nat} {W : fw_W} {h fr bl dp : Int} (hpre : 0 ≤ h ∧ h < 14 ∧ 0 ≤ (fw_g W 12 0) ∧ (fw_g W 12 0) ≤ 14 ∧ dp = 14) (hP : ∀ (v : Int) , (-2147483648 ≤ v ∧ v ≤ 2147483647 ∧ (True)) → Post (some (.inl v)) W)  : ∀ (m : Nat) (fil o st_ : Int), (fil - st_).toNat = m → 0 ≤ st_ ∧ fil ≤ 14 → jf fw_T (d + 2) 105 108 [(5, .inr (.inr 224)), (6, .inl fil), (7, .inl o), (8, .inl st_)] [] W Post := by
  intro m
  induction m using Nat.strongRecOn with
  | ind m ih =>
    intro fil o st_ hm hi
    refine jf_rng (fun hrg => ?_)
    have hrg : -2147483648 ≤ fil ∧ fil ≤ 2147483647 ∧ -2147483648 ≤ o ∧ o ≤ 2147483647 ∧ -2147483648 ≤ st_ ∧ st_ ≤ 2147483647 ∧ True := hrg
    refine s_k_hours14_108 ?_
    repeat' (first
      | (exact True.intro)
      | (exact hpre.1)
      | (refine And.intro ?_ ?_)
      | (refine (ih _ (by omega) _ _ _ rfl ?_); (first | omega | trivial))
      | (refine hP _ ?_; (refine ⟨by omega, by omega, ?_⟩; (first | trivial | omega)))
      | omega
      | (intro _))
theorem lm_k_hours14_24 {Post : Option fw_V → fw_W → Prop} {d : Nat} {W : fw_W} {h fr bl dp : Int} (hpre : 0 ≤ h ∧ h < 14 ∧ 0 ≤ (fw_g W 12 0) ∧ (fw_g W 12 0) ≤ 14 ∧ dp = 14) (hP : ∀ (v : Int) , (-2147483648 ≤ v ∧ v ≤ 2147483647 ∧ (True)) → Post (some (.inl v)) W)  : ∀ (m : Nat) (fil o : Int), ((fw_g W 12 0) - o).toNat = m → 0 ≤ o ∧ 0 ≤ fil ∧ fil ≤ o ∧ fil ≤ (fw_g W 12 0) ∧ dp < 14 → jf fw_T (d + 2) 105 24 [(0, .inr (.inl 223)), (1, .inl h), (2, .inl fr), (3, .inl bl), (4, .inl dp), (5, .inr (.inr 224)), (6, .inl fil), (7, .inl o)] [] W Post := by
  intro m
  induction m using Nat.strongRecOn with
  | ind m ih =>
    intro fil o hm hi
    refine jf_rng (fun hrg => ?_)
    have hrg : -2147483648 ≤ h ∧ h ≤ 2147483647 ∧ -2147483648 ≤ fr ∧ fr ≤ 2147483647 ∧ -2147483648 ≤ bl ∧ bl ≤ 2147483647 ∧ -2147483648 ≤ dp ∧ dp ≤ 2147483647 ∧ -2147483648 ≤ fil ∧ fil ≤ 2147483647 ∧ -2147483648 ≤ o ∧ o ≤ 2147483647 ∧ True := hrg
    refine s_k_hours14_24 ?_
    repeat' (first
      | (exact True.intro)
      | (exact hpre.1)
      | (refine And.intro ?_ ?_)
      | (refine (ih _ (by omega) _ _ rfl ?_); (first | omega | trivial))
      | (refine (lm_k_hours14_108 (h := h) (fr := fr) (bl := bl) (dp := dp) hpre hP _ _ _ _ rfl ?_); (first | omega | trivial))
      | (refine hP _ ?_; (refine ⟨by omega, by omega, ?_⟩; (first | trivial | omega)))
      | omega
      | (intro _))
def x_k_hours14 : fw_X := fun as W Q => match as with
  | [.inr (.inl s_), .inl h, .inl fr, .inl bl, .inl dp] => fw_if (Nat.beq s_ 223) ((0 ≤ h ∧ h < 14 ∧ 0 ≤ (fw_g W 12 0) ∧ (fw_g W 12 0) ≤ 14 ∧ dp = 14) ∧ (∀ (v : Int), (-2147483648 ≤ v ∧ v ≤ 2147483647 ∧ (True)) → Q (some (.inl v)) W))
  | _ => False
theorem x_k_hours14_ok (d : Nat) (as : List fw_V) (W : fw_W) (Q : Option fw_V → fw_W → Prop) (hx : x_k_hours14 as W Q) : jf fw_T (d + 2) 105 0 (fw_args 0 as) [] W Q := by
  unfold x_k_hours14 at hx
  split at hx
  · rename_i s_ h fr bl dp
    obtain ⟨e_, hpre, hQ⟩ := fw_if_ok hx
    have e_ := Nat.eq_of_beq_eq_true e_
    subst e_
    have hP := hQ
    refine s_k_hours14_0 ?_
    repeat' (first
      | (exact True.intro)
      | (exact hpre.1)
      | (refine And.intro ?_ ?_)
      | (refine (lm_k_hours14_24 (h := h) (fr := fr) (bl := bl) (dp := dp) hpre hP _ _ _ rfl ?_); (first | omega | trivial))
      | (refine (lm_k_hours14_108 (h := h) (fr := fr) (bl := bl) (dp := dp) hpre hP _ _ _ _ rfl ?_); (first | omega | trivial))
      | (refine hP _ ?_; (refine ⟨by omega, by omega, ?_⟩; (first | trivial | omega)))
      | omega
      | (intro _))
  · exact hx.elim

def ct_k_hours13 : List (Nat × fw_X) := [(106, x_k_insert), (113, x_k_streetBetween), (105, x_k_hours14)]
theorem ct_k_hours13_ok (d : Nat) : fw_cok fw_T (d + 2) ct_k_hours13 := by
  intro q hq as W Q h
  simp only [ct_k_hours13, List.mem_cons, List.not_mem_nil, or_false] at hq
  rcases hq with rfl | rfl | rfl
  · exact jc_of (x_k_insert_ok (d + 1) as W Q h)
  · exact jc_of (x_k_streetBetween_ok (d + 1) as W Q h)
  · exact jc_of (x_k_hours14_ok (d + 0) as W Q h)
theorem s_k_hours13_0 {Post : Option fw_V → fw_W → Prop} {d : Nat} {W : fw_W} {h fr bl dp : Int}
    (hw_ : ((dp < (14 : Int) → 0 ≤ dp ∧ dp < 14 ∧ (jf fw_T (d + 3) 105 24 [(0, .inr (.inl 223)), (1, .inl h), (2, .inl fr), (3, .inl bl), (4, .inl dp), (5, .inr (.inr 224)), (6, .inl (0 : Int)), (7, .inl (0 : Int))] [] W Post)) ∧ ((14 : Int) ≤ dp → (-2147483648 ≤ (0 : Int) → (0 : Int) ≤ 2147483647 → Post (some (.inl (0 : Int))) W)))) :
    jf fw_T (d + 3) 105 0 [(0, .inr (.inl 223)), (1, .inl h), (2, .inl fr), (3, .inl bl), (4, .inl dp)] [] W Post := fw_ok (n := 13) (ss := [(24, [0, 1, 2, 3, 4, 5, 6, 7]), (108, [5, 6, 7, 8])]) (hv := [89, 124]) fr_105_ok fv_tell_ok (ct_k_hours13_ok d) hw_

theorem s_k_hours13_108 {Post : Option fw_V → fw_W → Prop} {d : Nat} {W : fw_W} {fil o st_ : Int}
    (hw_ : ((fil ≤ st_ → (-2147483648 ≤ o → o ≤ 2147483647 → Post (some (.inl o)) W)) ∧ (st_ < fil → 0 ≤ st_ ∧ st_ < 14 ∧ (∀ v1 : Int, -2147483648 ≤ v1 → v1 ≤ 2147483647 → ∀ v2 : Int, -2147483648 ≤ v2 → v2 ≤ 2147483647 → -2147483648 ≤ st_ + (1 : Int) ∧ st_ + (1 : Int) ≤ 2147483647 ∧ (jf fw_T (d + 3) 105 108 [(5, .inr (.inr 224)), (6, .inl fil), (7, .inl (max o v2)), (8, .inl (st_ + (1 : Int)))] [] W Post))))) :
    jf fw_T (d + 3) 105 108 [(5, .inr (.inr 224)), (6, .inl fil), (7, .inl o), (8, .inl st_)] [] W Post := fw_ok (n := 14) (ss := [(24, [0, 1, 2, 3, 4, 5, 6, 7]), (108, [5, 6, 7, 8])]) (hv := [89, 124]) fr_105_ok fv_tell_ok (ct_k_hours13_ok d) hw_

theorem s_k_hours13_24 {Post : Option fw_V → fw_W → Prop} {d : Nat} {W : fw_W} {h fr bl dp fil o : Int}
    (hw_ : (0 ≤ (fw_g W 12 0) → (fw_g W 12 0) ≤ 14 → (((fw_g W 12 0) ≤ o → jf fw_T (d + 3) 105 108 [(5, .inr (.inr 224)), (6, .inl fil), (7, .inl (0 : Int)), (8, .inl (0 : Int))] [] W Post) ∧ (o < (fw_g W 12 0) → (0 ≤ h ∧ h < 14 ∧ 0 ≤ o ∧ o < 14) ∧ (∀ (r1 : Int), ((-2147483648 ≤ r1 ∧ r1 ≤ 2147483647 ∧ (True))) → ((r1 ≤ 0 → -2147483648 ≤ o + (1 : Int) ∧ o + (1 : Int) ≤ 2147483647 ∧ (jf fw_T (d + 3) 105 24 [(0, .inr (.inl 223)), (1, .inl h), (2, .inl fr), (3, .inl bl), (4, .inl dp), (5, .inr (.inr 224)), (6, .inl fil), (7, .inl (o + (1 : Int)))] [] W Post)) ∧ (0 < r1 → ((o = fr → -2147483648 ≤ o + (1 : Int) ∧ o + (1 : Int) ≤ 2147483647 ∧ (jf fw_T (d + 3) 105 24 [(0, .inr (.inl 223)), (1, .inl h), (2, .inl fr), (3, .inl bl), (4, .inl dp), (5, .inr (.inr 224)), (6, .inl fil), (7, .inl (o + (1 : Int)))] [] W Post)) ∧ (¬ o = fr → ((bl = 0 → -2147483648 ≤ dp + (1 : Int) ∧ dp + (1 : Int) ≤ 2147483647 ∧ ((0 ≤ o ∧ o < 14 ∧ 0 ≤ (fw_g W 12 0) ∧ (fw_g W 12 0) ≤ 14 ∧ (dp + (1 : Int)) = 14) ∧ (∀ (r2 : Int), ((-2147483648 ≤ r2 ∧ r2 ≤ 2147483647 ∧ (True))) → ∀ v3 : Int, -2147483648 ≤ v3 → v3 ≤ 2147483647 → (0 ≤ fil ∧ fil ≤ 13) ∧ (((True)) → -2147483648 ≤ fil + (1 : Int) ∧ fil + (1 : Int) ≤ 2147483647 ∧ (-2147483648 ≤ o + (1 : Int) ∧ o + (1 : Int) ≤ 2147483647 ∧ (jf fw_T (d + 3) 105 24 [(0, .inr (.inl 223)), (1, .inl h), (2, .inl fr), (3, .inl bl), (4, .inl dp), (5, .inr (.inr 224)), (6, .inl (fil + (1 : Int))), (7, .inl (o + (1 : Int)))] [] W Post)))))) ∧ (¬ bl = 0 → -2147483648 ≤ dp + (1 : Int) ∧ dp + (1 : Int) ≤ 2147483647 ∧ ((0 ≤ o ∧ o < 14 ∧ 0 ≤ (fw_g W 12 0) ∧ (fw_g W 12 0) ≤ 14 ∧ (dp + (1 : Int)) = 14) ∧ (∀ (r4 : Int), ((-2147483648 ≤ r4 ∧ r4 ≤ 2147483647 ∧ (True))) → ∀ v5 : Int, -2147483648 ≤ v5 → v5 ≤ 2147483647 → (0 ≤ fil ∧ fil ≤ 13) ∧ (((True)) → -2147483648 ≤ fil + (1 : Int) ∧ fil + (1 : Int) ≤ 2147483647 ∧ (-2147483648 ≤ o + (1 : Int) ∧ o + (1 : Int) ≤ 2147483647 ∧ (jf fw_T (d + 3) 105 24 [(0, .inr (.inl 223)), (1, .inl h), (2, .inl fr), (3, .inl bl), (4, .inl dp), (5, .inr (.inr 224)), (6, .inl (fil + (1 : Int))), (7, .inl (o + (1 : Int)))] [] W Post)))))))))))))))) :
    jf fw_T (d + 3) 105 24 [(0, .inr (.inl 223)), (1, .inl h), (2, .inl fr), (3, .inl bl), (4, .inl dp), (5, .inr (.inr 224)), (6, .inl fil), (7, .inl o)] [] W Post := fw_ok (n := 38) (ss := [(24, [0, 1, 2, 3, 4, 5, 6, 7]), (108, [5, 6, 7, 8])]) (hv := [89, 124]) fr_105_ok fv_tell_ok (ct_k_hours13_ok d) hw_

theorem lm_k_hours13_108 {Post : Option fw_V → fw_W → Prop} {d : Nat} {W : fw_W} {h fr bl dp : Int} (hpre : 0 ≤ h ∧ h < 14 ∧ 0 ≤ (fw_g W 12 0) ∧ (fw_g W 12 0) ≤ 14 ∧ dp = 13) (hP : ∀ (v : Int) , (-2147483648 ≤ v ∧ v ≤ 2147483647 ∧ (True)) → Post (some (.inl v)) W)  : ∀ (m : Nat) (fil o st_ : Int), (fil - st_).toNat = m → 0 ≤ st_ ∧ fil ≤ 14 → jf fw_T (d + 3) 105 108 [(5, .inr (.inr 224)), (6, .inl fil), (7, .inl o), (8, .inl st_)] [] W Post := by
  intro m
  induction m using Nat.strongRecOn with
  | ind m ih =>
    intro fil o st_ hm hi
    refine jf_rng (fun hrg => ?_)
    have hrg : -2147483648 ≤ fil ∧ fil ≤ 2147483647 ∧ -2147483648 ≤ o ∧ o ≤ 2147483647 ∧ -2147483648 ≤ st_ ∧ st_ ≤ 2147483647 ∧ True := hrg
    refine s_k_hours13_108 ?_
    repeat' (first
      | (exact True.intro)
      | (exact hpre.1)
      | (refine And.intro ?_ ?_)
      | (refine (ih _ (by omega) _ _ _ rfl ?_); (first | omega | trivial))
      | (refine hP _ ?_; (refine ⟨by omega, by omega, ?_⟩; (first | trivial | omega)))
      | omega
      | (intro _))
theorem lm_k_hours13_24 {Post : Option fw_V → fw_W → Prop} {d : Nat} {W : fw_W} {h fr bl dp : Int} (hpre : 0 ≤ h ∧ h < 14 ∧ 0 ≤ (fw_g W 12 0) ∧ (fw_g W 12 0) ≤ 14 ∧ dp = 13) (hP : ∀ (v : Int) , (-2147483648 ≤ v ∧ v ≤ 2147483647 ∧ (True)) → Post (some (.inl v)) W)  : ∀ (m : Nat) (fil o : Int), ((fw_g W 12 0) - o).toNat = m → 0 ≤ o ∧ 0 ≤ fil ∧ fil ≤ o ∧ fil ≤ (fw_g W 12 0) ∧ dp < 14 → jf fw_T (d + 3) 105 24 [(0, .inr (.inl 223)), (1, .inl h), (2, .inl fr), (3, .inl bl), (4, .inl dp), (5, .inr (.inr 224)), (6, .inl fil), (7, .inl o)] [] W Post := by
  intro m
  induction m using Nat.strongRecOn with
  | ind m ih =>
    intro fil o hm hi
    refine jf_rng (fun hrg => ?_)
    have hrg : -2147483648 ≤ h ∧ h ≤ 2147483647 ∧ -2147483648 ≤ fr ∧ fr ≤ 2147483647 ∧ -2147483648 ≤ bl ∧ bl ≤ 2147483647 ∧ -2147483648 ≤ dp ∧ dp ≤ 2147483647 ∧ -2147483648 ≤ fil ∧ fil ≤ 2147483647 ∧ -2147483648 ≤ o ∧ o ≤ 2147483647 ∧ True := hrg
    refine s_k_hours13_24 ?_
    repeat' (first
      | (exact True.intro)
      | (exact hpre.1)
      | (refine And.intro ?_ ?_)
      | (refine (ih _ (by omega) _ _ rfl ?_); (first | omega | trivial))
      | (refine (lm_k_hours13_108 (h := h) (fr := fr) (bl := bl) (dp := dp) hpre hP _ _ _ _ rfl ?_); (first | omega | trivial))
      | (refine hP _ ?_; (refine ⟨by omega, by omega, ?_⟩; (first | trivial | omega)))
      | omega
      | (intro _))
def x_k_hours13 : fw_X := fun as W Q => match as with
  | [.inr (.inl s_), .inl h, .inl fr, .inl bl, .inl dp] => fw_if (Nat.beq s_ 223) ((0 ≤ h ∧ h < 14 ∧ 0 ≤ (fw_g W 12 0) ∧ (fw_g W 12 0) ≤ 14 ∧ dp = 13) ∧ (∀ (v : Int), (-2147483648 ≤ v ∧ v ≤ 2147483647 ∧ (True)) → Q (some (.inl v)) W))
  | _ => False
theorem x_k_hours13_ok (d : Nat) (as : List fw_V) (W : fw_W) (Q : Option fw_V → fw_W → Prop) (hx : x_k_hours13 as W Q) : jf fw_T (d + 3) 105 0 (fw_args 0 as) [] W Q := by
  unfold x_k_hours13 at hx
  split at hx
  · rename_i s_ h fr bl dp
    obtain ⟨e_, hpre, hQ⟩ := fw_if_ok hx
    have e_ := Nat.eq_of_beq_eq_true e_
    subst e_
    have hP := hQ
    refine s_k_hours13_0 ?_
    repeat' (first
      | (exact True.intro)
      | (exact hpre.1)
      | (refine And.intro ?_ ?_)
      | (refine (lm_k_hours13_24 (h := h) (fr := fr) (bl := bl) (dp := dp) hpre hP _ _ _ rfl ?_); (first | omega | trivial))
      | (refine (lm_k_hours13_108 (h := h) (fr := fr) (bl := bl) (dp := dp) hpre hP _ _ _ _ rfl ?_); (first | omega | trivial))
      | (refine hP _ ?_; (refine ⟨by omega, by omega, ?_⟩; (first | trivial | omega)))
      | omega
      | (intro _))
  · exact hx.elim

def ct_k_hours12 : List (Nat × fw_X) := [(106, x_k_insert), (113, x_k_streetBetween), (105, x_k_hours13)]
theorem ct_k_hours12_ok (d : Nat) : fw_cok fw_T (d + 3) ct_k_hours12 := by
  intro q hq as W Q h
  simp only [ct_k_hours12, List.mem_cons, List.not_mem_nil, or_false] at hq
  rcases hq with rfl | rfl | rfl
  · exact jc_of (x_k_insert_ok (d + 2) as W Q h)
  · exact jc_of (x_k_streetBetween_ok (d + 2) as W Q h)
  · exact jc_of (x_k_hours13_ok (d + 0) as W Q h)
theorem s_k_hours12_0 {Post : Option fw_V → fw_W → Prop} {d : Nat} {W : fw_W} {h fr bl dp : Int}
    (hw_ : ((dp < (14 : Int) → 0 ≤ dp ∧ dp < 14 ∧ (jf fw_T (d + 4) 105 24 [(0, .inr (.inl 223)), (1, .inl h), (2, .inl fr), (3, .inl bl), (4, .inl dp), (5, .inr (.inr 224)), (6, .inl (0 : Int)), (7, .inl (0 : Int))] [] W Post)) ∧ ((14 : Int) ≤ dp → (-2147483648 ≤ (0 : Int) → (0 : Int) ≤ 2147483647 → Post (some (.inl (0 : Int))) W)))) :
    jf fw_T (d + 4) 105 0 [(0, .inr (.inl 223)), (1, .inl h), (2, .inl fr), (3, .inl bl), (4, .inl dp)] [] W Post := fw_ok (n := 13) (ss := [(24, [0, 1, 2, 3, 4, 5, 6, 7]), (108, [5, 6, 7, 8])]) (hv := [89, 124]) fr_105_ok fv_tell_ok (ct_k_hours12_ok d) hw_

theorem s_k_hours12_108 {Post : Option fw_V → fw_W → Prop} {d : Nat} {W : fw_W} {fil o st_ : Int}
    (hw_ : ((fil ≤ st_ → (-2147483648 ≤ o → o ≤ 2147483647 → Post (some (.inl o)) W)) ∧ (st_ < fil → 0 ≤ st_ ∧ st_ < 14 ∧ (∀ v1 : Int, -2147483648 ≤ v1 → v1 ≤ 2147483647 → ∀ v2 : Int, -2147483648 ≤ v2 → v2 ≤ 2147483647 → -2147483648 ≤ st_ + (1 : Int) ∧ st_ + (1 : Int) ≤ 2147483647 ∧ (jf fw_T (d + 4) 105 108 [(5, .inr (.inr 224)), (6, .inl fil), (7, .inl (max o v2)), (8, .inl (st_ + (1 : Int)))] [] W Post))))) :
    jf fw_T (d + 4) 105 108 [(5, .inr (.inr 224)), (6, .inl fil), (7, .inl o), (8, .inl st_)] [] W Post := fw_ok (n := 14) (ss := [(24, [0, 1, 2, 3, 4, 5, 6, 7]), (108, [5, 6, 7, 8])]) (hv := [89, 124]) fr_105_ok fv_tell_ok (ct_k_hours12_ok d) hw_

theorem s_k_hours12_24 {Post : Option fw_V → fw_W → Prop} {d : Nat} {W : fw_W} {h fr bl dp fil o : Int}
    (hw_ : (0 ≤ (fw_g W 12 0) → (fw_g W 12 0) ≤ 14 → (((fw_g W 12 0) ≤ o → jf fw_T (d + 4) 105 108 [(5, .inr (.inr 224)), (6, .inl fil), (7, .inl (0 : Int)), (8, .inl (0 : Int))] [] W Post) ∧ (o < (fw_g W 12 0) → (0 ≤ h ∧ h < 14 ∧ 0 ≤ o ∧ o < 14) ∧ (∀ (r1 : Int), ((-2147483648 ≤ r1 ∧ r1 ≤ 2147483647 ∧ (True))) → ((r1 ≤ 0 → -2147483648 ≤ o + (1 : Int) ∧ o + (1 : Int) ≤ 2147483647 ∧ (jf fw_T (d + 4) 105 24 [(0, .inr (.inl 223)), (1, .inl h), (2, .inl fr), (3, .inl bl), (4, .inl dp), (5, .inr (.inr 224)), (6, .inl fil), (7, .inl (o + (1 : Int)))] [] W Post)) ∧ (0 < r1 → ((o = fr → -2147483648 ≤ o + (1 : Int) ∧ o + (1 : Int) ≤ 2147483647 ∧ (jf fw_T (d + 4) 105 24 [(0, .inr (.inl 223)), (1, .inl h), (2, .inl fr), (3, .inl bl), (4, .inl dp), (5, .inr (.inr 224)), (6, .inl fil), (7, .inl (o + (1 : Int)))] [] W Post)) ∧ (¬ o = fr → ((bl = 0 → -2147483648 ≤ dp + (1 : Int) ∧ dp + (1 : Int) ≤ 2147483647 ∧ ((0 ≤ o ∧ o < 14 ∧ 0 ≤ (fw_g W 12 0) ∧ (fw_g W 12 0) ≤ 14 ∧ (dp + (1 : Int)) = 13) ∧ (∀ (r2 : Int), ((-2147483648 ≤ r2 ∧ r2 ≤ 2147483647 ∧ (True))) → ∀ v3 : Int, -2147483648 ≤ v3 → v3 ≤ 2147483647 → (0 ≤ fil ∧ fil ≤ 13) ∧ (((True)) → -2147483648 ≤ fil + (1 : Int) ∧ fil + (1 : Int) ≤ 2147483647 ∧ (-2147483648 ≤ o + (1 : Int) ∧ o + (1 : Int) ≤ 2147483647 ∧ (jf fw_T (d + 4) 105 24 [(0, .inr (.inl 223)), (1, .inl h), (2, .inl fr), (3, .inl bl), (4, .inl dp), (5, .inr (.inr 224)), (6, .inl (fil + (1 : Int))), (7, .inl (o + (1 : Int)))] [] W Post)))))) ∧ (¬ bl = 0 → -2147483648 ≤ dp + (1 : Int) ∧ dp + (1 : Int) ≤ 2147483647 ∧ ((0 ≤ o ∧ o < 14 ∧ 0 ≤ (fw_g W 12 0) ∧ (fw_g W 12 0) ≤ 14 ∧ (dp + (1 : Int)) = 13) ∧ (∀ (r4 : Int), ((-2147483648 ≤ r4 ∧ r4 ≤ 2147483647 ∧ (True))) → ∀ v5 : Int, -2147483648 ≤ v5 → v5 ≤ 2147483647 → (0 ≤ fil ∧ fil ≤ 13) ∧ (((True)) → -2147483648 ≤ fil + (1 : Int) ∧ fil + (1 : Int) ≤ 2147483647 ∧ (-2147483648 ≤ o + (1 : Int) ∧ o + (1 : Int) ≤ 2147483647 ∧ (jf fw_T (d + 4) 105 24 [(0, .inr (.inl 223)), (1, .inl h), (2, .inl fr), (3, .inl bl), (4, .inl dp), (5, .inr (.inr 224)), (6, .inl (fil + (1 : Int))), (7, .inl (o + (1 : Int)))] [] W Post)))))))))))))))) :
    jf fw_T (d + 4) 105 24 [(0, .inr (.inl 223)), (1, .inl h), (2, .inl fr), (3, .inl bl), (4, .inl dp), (5, .inr (.inr 224)), (6, .inl fil), (7, .inl o)] [] W Post := fw_ok (n := 38) (ss := [(24, [0, 1, 2, 3, 4, 5, 6, 7]), (108, [5, 6, 7, 8])]) (hv := [89, 124]) fr_105_ok fv_tell_ok (ct_k_hours12_ok d) hw_

theorem lm_k_hours12_108 {Post : Option fw_V → fw_W → Prop} {d : Nat} {W : fw_W} {h fr bl dp : Int} (hpre : 0 ≤ h ∧ h < 14 ∧ 0 ≤ (fw_g W 12 0) ∧ (fw_g W 12 0) ≤ 14 ∧ dp = 12) (hP : ∀ (v : Int) , (-2147483648 ≤ v ∧ v ≤ 2147483647 ∧ (True)) → Post (some (.inl v)) W)  : ∀ (m : Nat) (fil o st_ : Int), (fil - st_).toNat = m → 0 ≤ st_ ∧ fil ≤ 14 → jf fw_T (d + 4) 105 108 [(5, .inr (.inr 224)), (6, .inl fil), (7, .inl o), (8, .inl st_)] [] W Post := by
  intro m
  induction m using Nat.strongRecOn with
  | ind m ih =>
    intro fil o st_ hm hi
    refine jf_rng (fun hrg => ?_)
    have hrg : -2147483648 ≤ fil ∧ fil ≤ 2147483647 ∧ -2147483648 ≤ o ∧ o ≤ 2147483647 ∧ -2147483648 ≤ st_ ∧ st_ ≤ 2147483647 ∧ True := hrg
    refine s_k_hours12_108 ?_
    repeat' (first
      | (exact True.intro)
      | (exact hpre.1)
      | (refine And.intro ?_ ?_)
      | (refine (ih _ (by omega) _ _ _ rfl ?_); (first | omega | trivial))
      | (refine hP _ ?_; (refine ⟨by omega, by omega, ?_⟩; (first | trivial | omega)))
      | omega
      | (intro _))
theorem lm_k_hours12_24 {Post : Option fw_V → fw_W → Prop} {d : Nat} {W : fw_W} {h fr bl dp : Int} (hpre : 0 ≤ h ∧ h < 14 ∧ 0 ≤ (fw_g W 12 0) ∧ (fw_g W 12 0) ≤ 14 ∧ dp = 12) (hP : ∀ (v : Int) , (-2147483648 ≤ v ∧ v ≤ 2147483647 ∧ (True)) → Post (some (.inl v)) W)  : ∀ (m : Nat) (fil o : Int), ((fw_g W 12 0) - o).toNat = m → 0 ≤ o ∧ 0 ≤ fil ∧ fil ≤ o ∧ fil ≤ (fw_g W 12 0) ∧ dp < 14 → jf fw_T (d + 4) 105 24 [(0, .inr (.inl 223)), (1, .inl h), (2, .inl fr), (3, .inl bl), (4, .inl dp), (5, .inr (.inr 224)), (6, .inl fil), (7, .inl o)] [] W Post := by
  intro m
  induction m using Nat.strongRecOn with
  | ind m ih =>
    intro fil o hm hi
    refine jf_rng (fun hrg => ?_)
    have hrg : -2147483648 ≤ h ∧ h ≤ 2147483647 ∧ -2147483648 ≤ fr ∧ fr ≤ 2147483647 ∧ -2147483648 ≤ bl ∧ bl ≤ 2147483647 ∧ -2147483648 ≤ dp ∧ dp ≤ 2147483647 ∧ -2147483648 ≤ fil ∧ fil ≤ 2147483647 ∧ -2147483648 ≤ o ∧ o ≤ 2147483647 ∧ True := hrg
    refine s_k_hours12_24 ?_
    repeat' (first
      | (exact True.intro)
      | (exact hpre.1)
      | (refine And.intro ?_ ?_)
      | (refine (ih _ (by omega) _ _ rfl ?_); (first | omega | trivial))
      | (refine (lm_k_hours12_108 (h := h) (fr := fr) (bl := bl) (dp := dp) hpre hP _ _ _ _ rfl ?_); (first | omega | trivial))
      | (refine hP _ ?_; (refine ⟨by omega, by omega, ?_⟩; (first | trivial | omega)))
      | omega
      | (intro _))
def x_k_hours12 : fw_X := fun as W Q => match as with
  | [.inr (.inl s_), .inl h, .inl fr, .inl bl, .inl dp] => fw_if (Nat.beq s_ 223) ((0 ≤ h ∧ h < 14 ∧ 0 ≤ (fw_g W 12 0) ∧ (fw_g W 12 0) ≤ 14 ∧ dp = 12) ∧ (∀ (v : Int), (-2147483648 ≤ v ∧ v ≤ 2147483647 ∧ (True)) → Q (some (.inl v)) W))
  | _ => False
theorem x_k_hours12_ok (d : Nat) (as : List fw_V) (W : fw_W) (Q : Option fw_V → fw_W → Prop) (hx : x_k_hours12 as W Q) : jf fw_T (d + 4) 105 0 (fw_args 0 as) [] W Q := by
  unfold x_k_hours12 at hx
  split at hx
  · rename_i s_ h fr bl dp
    obtain ⟨e_, hpre, hQ⟩ := fw_if_ok hx
    have e_ := Nat.eq_of_beq_eq_true e_
    subst e_
    have hP := hQ
    refine s_k_hours12_0 ?_
    repeat' (first
      | (exact True.intro)
      | (exact hpre.1)
      | (refine And.intro ?_ ?_)
      | (refine (lm_k_hours12_24 (h := h) (fr := fr) (bl := bl) (dp := dp) hpre hP _ _ _ rfl ?_); (first | omega | trivial))
      | (refine (lm_k_hours12_108 (h := h) (fr := fr) (bl := bl) (dp := dp) hpre hP _ _ _ _ rfl ?_); (first | omega | trivial))
      | (refine hP _ ?_; (refine ⟨by omega, by omega, ?_⟩; (first | trivial | omega)))
      | omega
      | (intro _))
  · exact hx.elim

def ct_k_hours11 : List (Nat × fw_X) := [(106, x_k_insert), (113, x_k_streetBetween), (105, x_k_hours12)]
theorem ct_k_hours11_ok (d : Nat) : fw_cok fw_T (d + 4) ct_k_hours11 := by
  intro q hq as W Q h
  simp only [ct_k_hours11, List.mem_cons, List.not_mem_nil, or_false] at hq
  rcases hq with rfl | rfl | rfl
  · exact jc_of (x_k_insert_ok (d + 3) as W Q h)
  · exact jc_of (x_k_streetBetween_ok (d + 3) as W Q h)
  · exact jc_of (x_k_hours12_ok (d + 0) as W Q h)
theorem s_k_hours11_0 {Post : Option fw_V → fw_W → Prop} {d : Nat} {W : fw_W} {h fr bl dp : Int}
    (hw_ : ((dp < (14 : Int) → 0 ≤ dp ∧ dp < 14 ∧ (jf fw_T (d + 5) 105 24 [(0, .inr (.inl 223)), (1, .inl h), (2, .inl fr), (3, .inl bl), (4, .inl dp), (5, .inr (.inr 224)), (6, .inl (0 : Int)), (7, .inl (0 : Int))] [] W Post)) ∧ ((14 : Int) ≤ dp → (-2147483648 ≤ (0 : Int) → (0 : Int) ≤ 2147483647 → Post (some (.inl (0 : Int))) W)))) :
    jf fw_T (d + 5) 105 0 [(0, .inr (.inl 223)), (1, .inl h), (2, .inl fr), (3, .inl bl), (4, .inl dp)] [] W Post := fw_ok (n := 13) (ss := [(24, [0, 1, 2, 3, 4, 5, 6, 7]), (108, [5, 6, 7, 8])]) (hv := [89, 124]) fr_105_ok fv_tell_ok (ct_k_hours11_ok d) hw_

theorem s_k_hours11_108 {Post : Option fw_V → fw_W → Prop} {d : Nat} {W : fw_W} {fil o st_ : Int}
    (hw_ : ((fil ≤ st_ → (-2147483648 ≤ o → o ≤ 2147483647 → Post (some (.inl o)) W)) ∧ (st_ < fil → 0 ≤ st_ ∧ st_ < 14 ∧ (∀ v1 : Int, -2147483648 ≤ v1 → v1 ≤ 2147483647 → ∀ v2 : Int, -2147483648 ≤ v2 → v2 ≤ 2147483647 → -2147483648 ≤ st_ + (1 : Int) ∧ st_ + (1 : Int) ≤ 2147483647 ∧ (jf fw_T (d + 5) 105 108 [(5, .inr (.inr 224)), (6, .inl fil), (7, .inl (max o v2)), (8, .inl (st_ + (1 : Int)))] [] W Post))))) :
    jf fw_T (d + 5) 105 108 [(5, .inr (.inr 224)), (6, .inl fil), (7, .inl o), (8, .inl st_)] [] W Post := fw_ok (n := 14) (ss := [(24, [0, 1, 2, 3, 4, 5, 6, 7]), (108, [5, 6, 7, 8])]) (hv := [89, 124]) fr_105_ok fv_tell_ok (ct_k_hours11_ok d) hw_

theorem s_k_hours11_24 {Post : Option fw_V → fw_W → Prop} {d : Nat} {W : fw_W} {h fr bl dp fil o : Int}
    (hw_ : (0 ≤ (fw_g W 12 0) → (fw_g W 12 0) ≤ 14 → (((fw_g W 12 0) ≤ o → jf fw_T (d + 5) 105 108 [(5, .inr (.inr 224)), (6, .inl fil), (7, .inl (0 : Int)), (8, .inl (0 : Int))] [] W Post) ∧ (o < (fw_g W 12 0) → (0 ≤ h ∧ h < 14 ∧ 0 ≤ o ∧ o < 14) ∧ (∀ (r1 : Int), ((-2147483648 ≤ r1 ∧ r1 ≤ 2147483647 ∧ (True))) → ((r1 ≤ 0 → -2147483648 ≤ o + (1 : Int) ∧ o + (1 : Int) ≤ 2147483647 ∧ (jf fw_T (d + 5) 105 24 [(0, .inr (.inl 223)), (1, .inl h), (2, .inl fr), (3, .inl bl), (4, .inl dp), (5, .inr (.inr 224)), (6, .inl fil), (7, .inl (o + (1 : Int)))] [] W Post)) ∧ (0 < r1 → ((o = fr → -2147483648 ≤ o + (1 : Int) ∧ o + (1 : Int) ≤ 2147483647 ∧ (jf fw_T (d + 5) 105 24 [(0, .inr (.inl 223)), (1, .inl h), (2, .inl fr), (3, .inl bl), (4, .inl dp), (5, .inr (.inr 224)), (6, .inl fil), (7, .inl (o + (1 : Int)))] [] W Post)) ∧ (¬ o = fr → ((bl = 0 → -2147483648 ≤ dp + (1 : Int) ∧ dp + (1 : Int) ≤ 2147483647 ∧ ((0 ≤ o ∧ o < 14 ∧ 0 ≤ (fw_g W 12 0) ∧ (fw_g W 12 0) ≤ 14 ∧ (dp + (1 : Int)) = 12) ∧ (∀ (r2 : Int), ((-2147483648 ≤ r2 ∧ r2 ≤ 2147483647 ∧ (True))) → ∀ v3 : Int, -2147483648 ≤ v3 → v3 ≤ 2147483647 → (0 ≤ fil ∧ fil ≤ 13) ∧ (((True)) → -2147483648 ≤ fil + (1 : Int) ∧ fil + (1 : Int) ≤ 2147483647 ∧ (-2147483648 ≤ o + (1 : Int) ∧ o + (1 : Int) ≤ 2147483647 ∧ (jf fw_T (d + 5) 105 24 [(0, .inr (.inl 223)), (1, .inl h), (2, .inl fr), (3, .inl bl), (4, .inl dp), (5, .inr (.inr 224)), (6, .inl (fil + (1 : Int))), (7, .inl (o + (1 : Int)))] [] W Post)))))) ∧ (¬ bl = 0 → -2147483648 ≤ dp + (1 : Int) ∧ dp + (1 : Int) ≤ 2147483647 ∧ ((0 ≤ o ∧ o < 14 ∧ 0 ≤ (fw_g W 12 0) ∧ (fw_g W 12 0) ≤ 14 ∧ (dp + (1 : Int)) = 12) ∧ (∀ (r4 : Int), ((-2147483648 ≤ r4 ∧ r4 ≤ 2147483647 ∧ (True))) → ∀ v5 : Int, -2147483648 ≤ v5 → v5 ≤ 2147483647 → (0 ≤ fil ∧ fil ≤ 13) ∧ (((True)) → -2147483648 ≤ fil + (1 : Int) ∧ fil + (1 : Int) ≤ 2147483647 ∧ (-2147483648 ≤ o + (1 : Int) ∧ o + (1 : Int) ≤ 2147483647 ∧ (jf fw_T (d + 5) 105 24 [(0, .inr (.inl 223)), (1, .inl h), (2, .inl fr), (3, .inl bl), (4, .inl dp), (5, .inr (.inr 224)), (6, .inl (fil + (1 : Int))), (7, .inl (o + (1 : Int)))] [] W Post)))))))))))))))) :
    jf fw_T (d + 5) 105 24 [(0, .inr (.inl 223)), (1, .inl h), (2, .inl fr), (3, .inl bl), (4, .inl dp), (5, .inr (.inr 224)), (6, .inl fil), (7, .inl o)] [] W Post := fw_ok (n := 38) (ss := [(24, [0, 1, 2, 3, 4, 5, 6, 7]), (108, [5, 6, 7, 8])]) (hv := [89, 124]) fr_105_ok fv_tell_ok (ct_k_hours11_ok d) hw_

theorem lm_k_hours11_108 {Post : Option fw_V → fw_W → Prop} {d : Nat} {W : fw_W} {h fr bl dp : Int} (hpre : 0 ≤ h ∧ h < 14 ∧ 0 ≤ (fw_g W 12 0) ∧ (fw_g W 12 0) ≤ 14 ∧ dp = 11) (hP : ∀ (v : Int) , (-2147483648 ≤ v ∧ v ≤ 2147483647 ∧ (True)) → Post (some (.inl v)) W)  : ∀ (m : Nat) (fil o st_ : Int), (fil - st_).toNat = m → 0 ≤ st_ ∧ fil ≤ 14 → jf fw_T (d + 5) 105 108 [(5, .inr (.inr 224)), (6, .inl fil), (7, .inl o), (8, .inl st_)] [] W Post := by
  intro m
  induction m using Nat.strongRecOn with
  | ind m ih =>
    intro fil o st_ hm hi
    refine jf_rng (fun hrg => ?_)
    have hrg : -2147483648 ≤ fil ∧ fil ≤ 2147483647 ∧ -2147483648 ≤ o ∧ o ≤ 2147483647 ∧ -2147483648 ≤ st_ ∧ st_ ≤ 2147483647 ∧ True := hrg
    refine s_k_hours11_108 ?_
    repeat' (first
      | (exact True.intro)
      | (exact hpre.1)
      | (refine And.intro ?_ ?_)
      | (refine (ih _ (by omega) _ _ _ rfl ?_); (first | omega | trivial))
      | (refine hP _ ?_; (refine ⟨by omega, by omega, ?_⟩; (first | trivial | omega)))
      | omega
      | (intro _))
theorem lm_k_hours11_24 {Post : Option fw_V → fw_W → Prop} {d : Nat} {W : fw_W} {h fr bl dp : Int} (hpre : 0 ≤ h ∧ h < 14 ∧ 0 ≤ (fw_g W 12 0) ∧ (fw_g W 12 0) ≤ 14 ∧ dp = 11) (hP : ∀ (v : Int) , (-2147483648 ≤ v ∧ v ≤ 2147483647 ∧ (True)) → Post (some (.inl v)) W)  : ∀ (m : Nat) (fil o : Int), ((fw_g W 12 0) - o).toNat = m → 0 ≤ o ∧ 0 ≤ fil ∧ fil ≤ o ∧ fil ≤ (fw_g W 12 0) ∧ dp < 14 → jf fw_T (d + 5) 105 24 [(0, .inr (.inl 223)), (1, .inl h), (2, .inl fr), (3, .inl bl), (4, .inl dp), (5, .inr (.inr 224)), (6, .inl fil), (7, .inl o)] [] W Post := by
  intro m
  induction m using Nat.strongRecOn with
  | ind m ih =>
    intro fil o hm hi
    refine jf_rng (fun hrg => ?_)
    have hrg : -2147483648 ≤ h ∧ h ≤ 2147483647 ∧ -2147483648 ≤ fr ∧ fr ≤ 2147483647 ∧ -2147483648 ≤ bl ∧ bl ≤ 2147483647 ∧ -2147483648 ≤ dp ∧ dp ≤ 2147483647 ∧ -2147483648 ≤ fil ∧ fil ≤ 2147483647 ∧ -2147483648 ≤ o ∧ o ≤ 2147483647 ∧ True := hrg
    refine s_k_hours11_24 ?_
    repeat' (first
      | (exact True.intro)
      | (exact hpre.1)
      | (refine And.intro ?_ ?_)
      | (refine (ih _ (by omega) _ _ rfl ?_); (first | omega | trivial))
      | (refine (lm_k_hours11_108 (h := h) (fr := fr) (bl := bl) (dp := dp) hpre hP _ _ _ _ rfl ?_); (first | omega | trivial))
      | (refine hP _ ?_; (refine ⟨by omega, by omega, ?_⟩; (first | trivial | omega)))
      | omega
      | (intro _))
def x_k_hours11 : fw_X := fun as W Q => match as with
  | [.inr (.inl s_), .inl h, .inl fr, .inl bl, .inl dp] => fw_if (Nat.beq s_ 223) ((0 ≤ h ∧ h < 14 ∧ 0 ≤ (fw_g W 12 0) ∧ (fw_g W 12 0) ≤ 14 ∧ dp = 11) ∧ (∀ (v : Int), (-2147483648 ≤ v ∧ v ≤ 2147483647 ∧ (True)) → Q (some (.inl v)) W))
  | _ => False
theorem x_k_hours11_ok (d : Nat) (as : List fw_V) (W : fw_W) (Q : Option fw_V → fw_W → Prop) (hx : x_k_hours11 as W Q) : jf fw_T (d + 5) 105 0 (fw_args 0 as) [] W Q := by
  unfold x_k_hours11 at hx
  split at hx
  · rename_i s_ h fr bl dp
    obtain ⟨e_, hpre, hQ⟩ := fw_if_ok hx
    have e_ := Nat.eq_of_beq_eq_true e_
    subst e_
    have hP := hQ
    refine s_k_hours11_0 ?_
    repeat' (first
      | (exact True.intro)
      | (exact hpre.1)
      | (refine And.intro ?_ ?_)
      | (refine (lm_k_hours11_24 (h := h) (fr := fr) (bl := bl) (dp := dp) hpre hP _ _ _ rfl ?_); (first | omega | trivial))
      | (refine (lm_k_hours11_108 (h := h) (fr := fr) (bl := bl) (dp := dp) hpre hP _ _ _ _ rfl ?_); (first | omega | trivial))
      | (refine hP _ ?_; (refine ⟨by omega, by omega, ?_⟩; (first | trivial | omega)))
      | omega
      | (intro _))
  · exact hx.elim

def ct_k_hours10 : List (Nat × fw_X) := [(106, x_k_insert), (113, x_k_streetBetween), (105, x_k_hours11)]
theorem ct_k_hours10_ok (d : Nat) : fw_cok fw_T (d + 5) ct_k_hours10 := by
  intro q hq as W Q h
  simp only [ct_k_hours10, List.mem_cons, List.not_mem_nil, or_false] at hq
  rcases hq with rfl | rfl | rfl
  · exact jc_of (x_k_insert_ok (d + 4) as W Q h)
  · exact jc_of (x_k_streetBetween_ok (d + 4) as W Q h)
  · exact jc_of (x_k_hours11_ok (d + 0) as W Q h)
theorem s_k_hours10_0 {Post : Option fw_V → fw_W → Prop} {d : Nat} {W : fw_W} {h fr bl dp : Int}
    (hw_ : ((dp < (14 : Int) → 0 ≤ dp ∧ dp < 14 ∧ (jf fw_T (d + 6) 105 24 [(0, .inr (.inl 223)), (1, .inl h), (2, .inl fr), (3, .inl bl), (4, .inl dp), (5, .inr (.inr 224)), (6, .inl (0 : Int)), (7, .inl (0 : Int))] [] W Post)) ∧ ((14 : Int) ≤ dp → (-2147483648 ≤ (0 : Int) → (0 : Int) ≤ 2147483647 → Post (some (.inl (0 : Int))) W)))) :
    jf fw_T (d + 6) 105 0 [(0, .inr (.inl 223)), (1, .inl h), (2, .inl fr), (3, .inl bl), (4, .inl dp)] [] W Post := fw_ok (n := 13) (ss := [(24, [0, 1, 2, 3, 4, 5, 6, 7]), (108, [5, 6, 7, 8])]) (hv := [89, 124]) fr_105_ok fv_tell_ok (ct_k_hours10_ok d) hw_

theorem s_k_hours10_108 {Post : Option fw_V → fw_W → Prop} {d : Nat} {W : fw_W} {fil o st_ : Int}
    (hw_ : ((fil ≤ st_ → (-2147483648 ≤ o → o ≤ 2147483647 → Post (some (.inl o)) W)) ∧ (st_ < fil → 0 ≤ st_ ∧ st_ < 14 ∧ (∀ v1 : Int, -2147483648 ≤ v1 → v1 ≤ 2147483647 → ∀ v2 : Int, -2147483648 ≤ v2 → v2 ≤ 2147483647 → -2147483648 ≤ st_ + (1 : Int) ∧ st_ + (1 : Int) ≤ 2147483647 ∧ (jf fw_T (d + 6) 105 108 [(5, .inr (.inr 224)), (6, .inl fil), (7, .inl (max o v2)), (8, .inl (st_ + (1 : Int)))] [] W Post))))) :
    jf fw_T (d + 6) 105 108 [(5, .inr (.inr 224)), (6, .inl fil), (7, .inl o), (8, .inl st_)] [] W Post := fw_ok (n := 14) (ss := [(24, [0, 1, 2, 3, 4, 5, 6, 7]), (108, [5, 6, 7, 8])]) (hv := [89, 124]) fr_105_ok fv_tell_ok (ct_k_hours10_ok d) hw_

theorem s_k_hours10_24 {Post : Option fw_V → fw_W → Prop} {d : Nat} {W : fw_W} {h fr bl dp fil o : Int}
    (hw_ : (0 ≤ (fw_g W 12 0) → (fw_g W 12 0) ≤ 14 → (((fw_g W 12 0) ≤ o → jf fw_T (d + 6) 105 108 [(5, .inr (.inr 224)), (6, .inl fil), (7, .inl (0 : Int)), (8, .inl (0 : Int))] [] W Post) ∧ (o < (fw_g W 12 0) → (0 ≤ h ∧ h < 14 ∧ 0 ≤ o ∧ o < 14) ∧ (∀ (r1 : Int), ((-2147483648 ≤ r1 ∧ r1 ≤ 2147483647 ∧ (True))) → ((r1 ≤ 0 → -2147483648 ≤ o + (1 : Int) ∧ o + (1 : Int) ≤ 2147483647 ∧ (jf fw_T (d + 6) 105 24 [(0, .inr (.inl 223)), (1, .inl h), (2, .inl fr), (3, .inl bl), (4, .inl dp), (5, .inr (.inr 224)), (6, .inl fil), (7, .inl (o + (1 : Int)))] [] W Post)) ∧ (0 < r1 → ((o = fr → -2147483648 ≤ o + (1 : Int) ∧ o + (1 : Int) ≤ 2147483647 ∧ (jf fw_T (d + 6) 105 24 [(0, .inr (.inl 223)), (1, .inl h), (2, .inl fr), (3, .inl bl), (4, .inl dp), (5, .inr (.inr 224)), (6, .inl fil), (7, .inl (o + (1 : Int)))] [] W Post)) ∧ (¬ o = fr → ((bl = 0 → -2147483648 ≤ dp + (1 : Int) ∧ dp + (1 : Int) ≤ 2147483647 ∧ ((0 ≤ o ∧ o < 14 ∧ 0 ≤ (fw_g W 12 0) ∧ (fw_g W 12 0) ≤ 14 ∧ (dp + (1 : Int)) = 11) ∧ (∀ (r2 : Int), ((-2147483648 ≤ r2 ∧ r2 ≤ 2147483647 ∧ (True))) → ∀ v3 : Int, -2147483648 ≤ v3 → v3 ≤ 2147483647 → (0 ≤ fil ∧ fil ≤ 13) ∧ (((True)) → -2147483648 ≤ fil + (1 : Int) ∧ fil + (1 : Int) ≤ 2147483647 ∧ (-2147483648 ≤ o + (1 : Int) ∧ o + (1 : Int) ≤ 2147483647 ∧ (jf fw_T (d + 6) 105 24 [(0, .inr (.inl 223)), (1, .inl h), (2, .inl fr), (3, .inl bl), (4, .inl dp), (5, .inr (.inr 224)), (6, .inl (fil + (1 : Int))), (7, .inl (o + (1 : Int)))] [] W Post)))))) ∧ (¬ bl = 0 → -2147483648 ≤ dp + (1 : Int) ∧ dp + (1 : Int) ≤ 2147483647 ∧ ((0 ≤ o ∧ o < 14 ∧ 0 ≤ (fw_g W 12 0) ∧ (fw_g W 12 0) ≤ 14 ∧ (dp + (1 : Int)) = 11) ∧ (∀ (r4 : Int), ((-2147483648 ≤ r4 ∧ r4 ≤ 2147483647 ∧ (True))) → ∀ v5 : Int, -2147483648 ≤ v5 → v5 ≤ 2147483647 → (0 ≤ fil ∧ fil ≤ 13) ∧ (((True)) → -2147483648 ≤ fil + (1 : Int) ∧ fil + (1 : Int) ≤ 2147483647 ∧ (-2147483648 ≤ o + (1 : Int) ∧ o + (1 : Int) ≤ 2147483647 ∧ (jf fw_T (d + 6) 105 24 [(0, .inr (.inl 223)), (1, .inl h), (2, .inl fr), (3, .inl bl), (4, .inl dp), (5, .inr (.inr 224)), (6, .inl (fil + (1 : Int))), (7, .inl (o + (1 : Int)))] [] W Post)))))))))))))))) :
    jf fw_T (d + 6) 105 24 [(0, .inr (.inl 223)), (1, .inl h), (2, .inl fr), (3, .inl bl), (4, .inl dp), (5, .inr (.inr 224)), (6, .inl fil), (7, .inl o)] [] W Post := fw_ok (n := 38) (ss := [(24, [0, 1, 2, 3, 4, 5, 6, 7]), (108, [5, 6, 7, 8])]) (hv := [89, 124]) fr_105_ok fv_tell_ok (ct_k_hours10_ok d) hw_

theorem lm_k_hours10_108 {Post : Option fw_V → fw_W → Prop} {d : Nat} {W : fw_W} {h fr bl dp : Int} (hpre : 0 ≤ h ∧ h < 14 ∧ 0 ≤ (fw_g W 12 0) ∧ (fw_g W 12 0) ≤ 14 ∧ dp = 10) (hP : ∀ (v : Int) , (-2147483648 ≤ v ∧ v ≤ 2147483647 ∧ (True)) → Post (some (.inl v)) W)  : ∀ (m : Nat) (fil o st_ : Int), (fil - st_).toNat = m → 0 ≤ st_ ∧ fil ≤ 14 → jf fw_T (d + 6) 105 108 [(5, .inr (.inr 224)), (6, .inl fil), (7, .inl o), (8, .inl st_)] [] W Post := by
  intro m
  induction m using Nat.strongRecOn with
  | ind m ih =>
    intro fil o st_ hm hi
    refine jf_rng (fun hrg => ?_)
    have hrg : -2147483648 ≤ fil ∧ fil ≤ 2147483647 ∧ -2147483648 ≤ o ∧ o ≤ 2147483647 ∧ -2147483648 ≤ st_ ∧ st_ ≤ 2147483647 ∧ True := hrg
    refine s_k_hours10_108 ?_
    repeat' (first
      | (exact True.intro)
      | (exact hpre.1)
      | (refine And.intro ?_ ?_)
      | (refine (ih _ (by omega) _ _ _ rfl ?_); (first | omega | trivial))
      | (refine hP _ ?_; (refine ⟨by omega, by omega, ?_⟩; (first | trivial | omega)))
      | omega
      | (intro _))
theorem lm_k_hours10_24 {Post : Option fw_V → fw_W → Prop} {d : Nat} {W : fw_W} {h fr bl dp : Int} (hpre : 0 ≤ h ∧ h < 14 ∧ 0 ≤ (fw_g W 12 0) ∧ (fw_g W 12 0) ≤ 14 ∧ dp = 10) (hP : ∀ (v : Int) , (-2147483648 ≤ v ∧ v ≤ 2147483647 ∧ (True)) → Post (some (.inl v)) W)  : ∀ (m : Nat) (fil o : Int), ((fw_g W 12 0) - o).toNat = m → 0 ≤ o ∧ 0 ≤ fil ∧ fil ≤ o ∧ fil ≤ (fw_g W 12 0) ∧ dp < 14 → jf fw_T (d + 6) 105 24 [(0, .inr (.inl 223)), (1, .inl h), (2, .inl fr), (3, .inl bl), (4, .inl dp), (5, .inr (.inr 224)), (6, .inl fil), (7, .inl o)] [] W Post := by
  intro m
  induction m using Nat.strongRecOn with
  | ind m ih =>
    intro fil o hm hi
    refine jf_rng (fun hrg => ?_)
    have hrg : -2147483648 ≤ h ∧ h ≤ 2147483647 ∧ -2147483648 ≤ fr ∧ fr ≤ 2147483647 ∧ -2147483648 ≤ bl ∧ bl ≤ 2147483647 ∧ -2147483648 ≤ dp ∧ dp ≤ 2147483647 ∧ -2147483648 ≤ fil ∧ fil ≤ 2147483647 ∧ -2147483648 ≤ o ∧ o ≤ 2147483647 ∧ True := hrg
    refine s_k_hours10_24 ?_
    repeat' (first
      | (exact True.intro)
      | (exact hpre.1)
      | (refine And.intro ?_ ?_)
      | (refine (ih _ (by omega) _ _ rfl ?_); (first | omega | trivial))
      | (refine (lm_k_hours10_108 (h := h) (fr := fr) (bl := bl) (dp := dp) hpre hP _ _ _ _ rfl ?_); (first | omega | trivial))
      | (refine hP _ ?_; (refine ⟨by omega, by omega, ?_⟩; (first | trivial | omega)))
      | omega
      | (intro _))
def x_k_hours10 : fw_X := fun as W Q => match as with
  | [.inr (.inl s_), .inl h, .inl fr, .inl bl, .inl dp] => fw_if (Nat.beq s_ 223) ((0 ≤ h ∧ h < 14 ∧ 0 ≤ (fw_g W 12 0) ∧ (fw_g W 12 0) ≤ 14 ∧ dp = 10) ∧ (∀ (v : Int), (-2147483648 ≤ v ∧ v ≤ 2147483647 ∧ (True)) → Q (some (.inl v)) W))
  | _ => False
theorem x_k_hours10_ok (d : Nat) (as : List fw_V) (W : fw_W) (Q : Option fw_V → fw_W → Prop) (hx : x_k_hours10 as W Q) : jf fw_T (d + 6) 105 0 (fw_args 0 as) [] W Q := by
  unfold x_k_hours10 at hx
  split at hx
  · rename_i s_ h fr bl dp
    obtain ⟨e_, hpre, hQ⟩ := fw_if_ok hx
    have e_ := Nat.eq_of_beq_eq_true e_
    subst e_
    have hP := hQ
    refine s_k_hours10_0 ?_
    repeat' (first
      | (exact True.intro)
      | (exact hpre.1)
      | (refine And.intro ?_ ?_)
      | (refine (lm_k_hours10_24 (h := h) (fr := fr) (bl := bl) (dp := dp) hpre hP _ _ _ rfl ?_); (first | omega | trivial))
      | (refine (lm_k_hours10_108 (h := h) (fr := fr) (bl := bl) (dp := dp) hpre hP _ _ _ _ rfl ?_); (first | omega | trivial))
      | (refine hP _ ?_; (refine ⟨by omega, by omega, ?_⟩; (first | trivial | omega)))
      | omega
      | (intro _))
  · exact hx.elim

def ct_k_hours9 : List (Nat × fw_X) := [(106, x_k_insert), (113, x_k_streetBetween), (105, x_k_hours10)]
theorem ct_k_hours9_ok (d : Nat) : fw_cok fw_T (d + 6) ct_k_hours9 := by
  intro q hq as W Q h
  simp only [ct_k_hours9, List.mem_cons, List.not_mem_nil, or_false] at hq
  rcases hq with rfl | rfl | rfl
  · exact jc_of (x_k_insert_ok (d + 5) as W Q h)
  · exact jc_of (x_k_streetBetween_ok (d + 5) as W Q h)
  · exact jc_of (x_k_hours10_ok (d + 0) as W Q h)
theorem s_k_hours9_0 {Post : Option fw_V → fw_W → Prop} {d : Nat} {W : fw_W} {h fr bl dp : Int}
    (hw_ : ((dp < (14 : Int) → 0 ≤ dp ∧ dp < 14 ∧ (jf fw_T (d + 7) 105 24 [(0, .inr (.inl 223)), (1, .inl h), (2, .inl fr), (3, .inl bl), (4, .inl dp), (5, .inr (.inr 224)), (6, .inl (0 : Int)), (7, .inl (0 : Int))] [] W Post)) ∧ ((14 : Int) ≤ dp → (-2147483648 ≤ (0 : Int) → (0 : Int) ≤ 2147483647 → Post (some (.inl (0 : Int))) W)))) :
    jf fw_T (d + 7) 105 0 [(0, .inr (.inl 223)), (1, .inl h), (2, .inl fr), (3, .inl bl), (4, .inl dp)] [] W Post := fw_ok (n := 13) (ss := [(24, [0, 1, 2, 3, 4, 5, 6, 7]), (108, [5, 6, 7, 8])]) (hv := [89, 124]) fr_105_ok fv_tell_ok (ct_k_hours9_ok d) hw_

theorem s_k_hours9_108 {Post : Option fw_V → fw_W → Prop} {d : Nat} {W : fw_W} {fil o st_ : Int}
    (hw_ : ((fil ≤ st_ → (-2147483648 ≤ o → o ≤ 2147483647 → Post (some (.inl o)) W)) ∧ (st_ < fil → 0 ≤ st_ ∧ st_ < 14 ∧ (∀ v1 : Int, -2147483648 ≤ v1 → v1 ≤ 2147483647 → ∀ v2 : Int, -2147483648 ≤ v2 → v2 ≤ 2147483647 → -2147483648 ≤ st_ + (1 : Int) ∧ st_ + (1 : Int) ≤ 2147483647 ∧ (jf fw_T (d + 7) 105 108 [(5, .inr (.inr 224)), (6, .inl fil), (7, .inl (max o v2)), (8, .inl (st_ + (1 : Int)))] [] W Post))))) :
    jf fw_T (d + 7) 105 108 [(5, .inr (.inr 224)), (6, .inl fil), (7, .inl o), (8, .inl st_)] [] W Post := fw_ok (n := 14) (ss := [(24, [0, 1, 2, 3, 4, 5, 6, 7]), (108, [5, 6, 7, 8])]) (hv := [89, 124]) fr_105_ok fv_tell_ok (ct_k_hours9_ok d) hw_

theorem s_k_hours9_24 {Post : Option fw_V → fw_W → Prop} {d : Nat} {W : fw_W} {h fr bl dp fil o : Int}
    (hw_ : (0 ≤ (fw_g W 12 0) → (fw_g W 12 0) ≤ 14 → (((fw_g W 12 0) ≤ o → jf fw_T (d + 7) 105 108 [(5, .inr (.inr 224)), (6, .inl fil), (7, .inl (0 : Int)), (8, .inl (0 : Int))] [] W Post) ∧ (o < (fw_g W 12 0) → (0 ≤ h ∧ h < 14 ∧ 0 ≤ o ∧ o < 14) ∧ (∀ (r1 : Int), ((-2147483648 ≤ r1 ∧ r1 ≤ 2147483647 ∧ (True))) → ((r1 ≤ 0 → -2147483648 ≤ o + (1 : Int) ∧ o + (1 : Int) ≤ 2147483647 ∧ (jf fw_T (d + 7) 105 24 [(0, .inr (.inl 223)), (1, .inl h), (2, .inl fr), (3, .inl bl), (4, .inl dp), (5, .inr (.inr 224)), (6, .inl fil), (7, .inl (o + (1 : Int)))] [] W Post)) ∧ (0 < r1 → ((o = fr → -2147483648 ≤ o + (1 : Int) ∧ o + (1 : Int) ≤ 2147483647 ∧ (jf fw_T (d + 7) 105 24 [(0, .inr (.inl 223)), (1, .inl h), (2, .inl fr), (3, .inl bl), (4, .inl dp), (5, .inr (.inr 224)), (6, .inl fil), (7, .inl (o + (1 : Int)))] [] W Post)) ∧ (¬ o = fr → ((bl = 0 → -2147483648 ≤ dp + (1 : Int) ∧ dp + (1 : Int) ≤ 2147483647 ∧ ((0 ≤ o ∧ o < 14 ∧ 0 ≤ (fw_g W 12 0) ∧ (fw_g W 12 0) ≤ 14 ∧ (dp + (1 : Int)) = 10) ∧ (∀ (r2 : Int), ((-2147483648 ≤ r2 ∧ r2 ≤ 2147483647 ∧ (True))) → ∀ v3 : Int, -2147483648 ≤ v3 → v3 ≤ 2147483647 → (0 ≤ fil ∧ fil ≤ 13) ∧ (((True)) → -2147483648 ≤ fil + (1 : Int) ∧ fil + (1 : Int) ≤ 2147483647 ∧ (-2147483648 ≤ o + (1 : Int) ∧ o + (1 : Int) ≤ 2147483647 ∧ (jf fw_T (d + 7) 105 24 [(0, .inr (.inl 223)), (1, .inl h), (2, .inl fr), (3, .inl bl), (4, .inl dp), (5, .inr (.inr 224)), (6, .inl (fil + (1 : Int))), (7, .inl (o + (1 : Int)))] [] W Post)))))) ∧ (¬ bl = 0 → -2147483648 ≤ dp + (1 : Int) ∧ dp + (1 : Int) ≤ 2147483647 ∧ ((0 ≤ o ∧ o < 14 ∧ 0 ≤ (fw_g W 12 0) ∧ (fw_g W 12 0) ≤ 14 ∧ (dp + (1 : Int)) = 10) ∧ (∀ (r4 : Int), ((-2147483648 ≤ r4 ∧ r4 ≤ 2147483647 ∧ (True))) → ∀ v5 : Int, -2147483648 ≤ v5 → v5 ≤ 2147483647 → (0 ≤ fil ∧ fil ≤ 13) ∧ (((True)) → -2147483648 ≤ fil + (1 : Int) ∧ fil + (1 : Int) ≤ 2147483647 ∧ (-2147483648 ≤ o + (1 : Int) ∧ o + (1 : Int) ≤ 2147483647 ∧ (jf fw_T (d + 7) 105 24 [(0, .inr (.inl 223)), (1, .inl h), (2, .inl fr), (3, .inl bl), (4, .inl dp), (5, .inr (.inr 224)), (6, .inl (fil + (1 : Int))), (7, .inl (o + (1 : Int)))] [] W Post)))))))))))))))) :
    jf fw_T (d + 7) 105 24 [(0, .inr (.inl 223)), (1, .inl h), (2, .inl fr), (3, .inl bl), (4, .inl dp), (5, .inr (.inr 224)), (6, .inl fil), (7, .inl o)] [] W Post := fw_ok (n := 38) (ss := [(24, [0, 1, 2, 3, 4, 5, 6, 7]), (108, [5, 6, 7, 8])]) (hv := [89, 124]) fr_105_ok fv_tell_ok (ct_k_hours9_ok d) hw_

theorem lm_k_hours9_108 {Post : Option fw_V → fw_W → Prop} {d : Nat} {W : fw_W} {h fr bl dp : Int} (hpre : 0 ≤ h ∧ h < 14 ∧ 0 ≤ (fw_g W 12 0) ∧ (fw_g W 12 0) ≤ 14 ∧ dp = 9) (hP : ∀ (v : Int) , (-2147483648 ≤ v ∧ v ≤ 2147483647 ∧ (True)) → Post (some (.inl v)) W)  : ∀ (m : Nat) (fil o st_ : Int), (fil - st_).toNat = m → 0 ≤ st_ ∧ fil ≤ 14 → jf fw_T (d + 7) 105 108 [(5, .inr (.inr 224)), (6, .inl fil), (7, .inl o), (8, .inl st_)] [] W Post := by
  intro m
  induction m using Nat.strongRecOn with
  | ind m ih =>
    intro fil o st_ hm hi
    refine jf_rng (fun hrg => ?_)
    have hrg : -2147483648 ≤ fil ∧ fil ≤ 2147483647 ∧ -2147483648 ≤ o ∧ o ≤ 2147483647 ∧ -2147483648 ≤ st_ ∧ st_ ≤ 2147483647 ∧ True := hrg
    refine s_k_hours9_108 ?_
    repeat' (first
      | (exact True.intro)
      | (exact hpre.1)
      | (refine And.intro ?_ ?_)
      | (refine (ih _ (by omega) _ _ _ rfl ?_); (first | omega | trivial))
      | (refine hP _ ?_; (refine ⟨by omega, by omega, ?_⟩; (first | trivial | omega)))
      | omega
      | (intro _))
theorem lm_k_hours9_24 {Post : Option fw_V → fw_W → Prop} {d : Nat} {W : fw_W} {h fr bl dp : Int} (hpre : 0 ≤ h ∧ h < 14 ∧ 0 ≤ (fw_g W 12 0) ∧ (fw_g W 12 0) ≤ 14 ∧ dp = 9) (hP : ∀ (v : Int) , (-2147483648 ≤ v ∧ v ≤ 2147483647 ∧ (True)) → Post (some (.inl v)) W)  : ∀ (m : Nat) (fil o : Int), ((fw_g W 12 0) - o).toNat = m → 0 ≤ o ∧ 0 ≤ fil ∧ fil ≤ o ∧ fil ≤ (fw_g W 12 0) ∧ dp < 14 → jf fw_T (d + 7) 105 24 [(0, .inr (.inl 223)), (1, .inl h), (2, .inl fr), (3, .inl bl), (4, .inl dp), (5, .inr (.inr 224)), (6, .inl fil), (7, .inl o)] [] W Post := by
  intro m
  induction m using Nat.strongRecOn with
  | ind m ih =>
    intro fil o hm hi
    refine jf_rng (fun hrg => ?_)
    have hrg : -2147483648 ≤ h ∧ h ≤ 2147483647 ∧ -2147483648 ≤ fr ∧ fr ≤ 2147483647 ∧ -2147483648 ≤ bl ∧ bl ≤ 2147483647 ∧ -2147483648 ≤ dp ∧ dp ≤ 2147483647 ∧ -2147483648 ≤ fil ∧ fil ≤ 2147483647 ∧ -2147483648 ≤ o ∧ o ≤ 2147483647 ∧ True := hrg
    refine s_k_hours9_24 ?_
    repeat' (first
      | (exact True.intro)
      | (exact hpre.1)
      | (refine And.intro ?_ ?_)
      | (refine (ih _ (by omega) _ _ rfl ?_); (first | omega | trivial))
      | (refine (lm_k_hours9_108 (h := h) (fr := fr) (bl := bl) (dp := dp) hpre hP _ _ _ _ rfl ?_); (first | omega | trivial))
      | (refine hP _ ?_; (refine ⟨by omega, by omega, ?_⟩; (first | trivial | omega)))
      | omega
      | (intro _))
def x_k_hours9 : fw_X := fun as W Q => match as with
  | [.inr (.inl s_), .inl h, .inl fr, .inl bl, .inl dp] => fw_if (Nat.beq s_ 223) ((0 ≤ h ∧ h < 14 ∧ 0 ≤ (fw_g W 12 0) ∧ (fw_g W 12 0) ≤ 14 ∧ dp = 9) ∧ (∀ (v : Int), (-2147483648 ≤ v ∧ v ≤ 2147483647 ∧ (True)) → Q (some (.inl v)) W))
  | _ => False
theorem x_k_hours9_ok (d : Nat) (as : List fw_V) (W : fw_W) (Q : Option fw_V → fw_W → Prop) (hx : x_k_hours9 as W Q) : jf fw_T (d + 7) 105 0 (fw_args 0 as) [] W Q := by
  unfold x_k_hours9 at hx
  split at hx
  · rename_i s_ h fr bl dp
    obtain ⟨e_, hpre, hQ⟩ := fw_if_ok hx
    have e_ := Nat.eq_of_beq_eq_true e_
    subst e_
    have hP := hQ
    refine s_k_hours9_0 ?_
    repeat' (first
      | (exact True.intro)
      | (exact hpre.1)
      | (refine And.intro ?_ ?_)
      | (refine (lm_k_hours9_24 (h := h) (fr := fr) (bl := bl) (dp := dp) hpre hP _ _ _ rfl ?_); (first | omega | trivial))
      | (refine (lm_k_hours9_108 (h := h) (fr := fr) (bl := bl) (dp := dp) hpre hP _ _ _ _ rfl ?_); (first | omega | trivial))
      | (refine hP _ ?_; (refine ⟨by omega, by omega, ?_⟩; (first | trivial | omega)))
      | omega
      | (intro _))
  · exact hx.elim

def ct_k_hours8 : List (Nat × fw_X) := [(106, x_k_insert), (113, x_k_streetBetween), (105, x_k_hours9)]
theorem ct_k_hours8_ok (d : Nat) : fw_cok fw_T (d + 7) ct_k_hours8 := by
  intro q hq as W Q h
  simp only [ct_k_hours8, List.mem_cons, List.not_mem_nil, or_false] at hq
  rcases hq with rfl | rfl | rfl
  · exact jc_of (x_k_insert_ok (d + 6) as W Q h)
  · exact jc_of (x_k_streetBetween_ok (d + 6) as W Q h)
  · exact jc_of (x_k_hours9_ok (d + 0) as W Q h)
theorem s_k_hours8_0 {Post : Option fw_V → fw_W → Prop} {d : Nat} {W : fw_W} {h fr bl dp : Int}
    (hw_ : ((dp < (14 : Int) → 0 ≤ dp ∧ dp < 14 ∧ (jf fw_T (d + 8) 105 24 [(0, .inr (.inl 223)), (1, .inl h), (2, .inl fr), (3, .inl bl), (4, .inl dp), (5, .inr (.inr 224)), (6, .inl (0 : Int)), (7, .inl (0 : Int))] [] W Post)) ∧ ((14 : Int) ≤ dp → (-2147483648 ≤ (0 : Int) → (0 : Int) ≤ 2147483647 → Post (some (.inl (0 : Int))) W)))) :
    jf fw_T (d + 8) 105 0 [(0, .inr (.inl 223)), (1, .inl h), (2, .inl fr), (3, .inl bl), (4, .inl dp)] [] W Post := fw_ok (n := 13) (ss := [(24, [0, 1, 2, 3, 4, 5, 6, 7]), (108, [5, 6, 7, 8])]) (hv := [89, 124]) fr_105_ok fv_tell_ok (ct_k_hours8_ok d) hw_

theorem s_k_hours8_108 {Post : Option fw_V → fw_W → Prop} {d : Nat} {W : fw_W} {fil o st_ : Int}
    (hw_ : ((fil ≤ st_ → (-2147483648 ≤ o → o ≤ 2147483647 → Post (some (.inl o)) W)) ∧ (st_ < fil → 0 ≤ st_ ∧ st_ < 14 ∧ (∀ v1 : Int, -2147483648 ≤ v1 → v1 ≤ 2147483647 → ∀ v2 : Int, -2147483648 ≤ v2 → v2 ≤ 2147483647 → -2147483648 ≤ st_ + (1 : Int) ∧ st_ + (1 : Int) ≤ 2147483647 ∧ (jf fw_T (d + 8) 105 108 [(5, .inr (.inr 224)), (6, .inl fil), (7, .inl (max o v2)), (8, .inl (st_ + (1 : Int)))] [] W Post))))) :
    jf fw_T (d + 8) 105 108 [(5, .inr (.inr 224)), (6, .inl fil), (7, .inl o), (8, .inl st_)] [] W Post := fw_ok (n := 14) (ss := [(24, [0, 1, 2, 3, 4, 5, 6, 7]), (108, [5, 6, 7, 8])]) (hv := [89, 124]) fr_105_ok fv_tell_ok (ct_k_hours8_ok d) hw_

theorem s_k_hours8_24 {Post : Option fw_V → fw_W → Prop} {d : Nat} {W : fw_W} {h fr bl dp fil o : Int}
    (hw_ : (0 ≤ (fw_g W 12 0) → (fw_g W 12 0) ≤ 14 → (((fw_g W 12 0) ≤ o → jf fw_T (d + 8) 105 108 [(5, .inr (.inr 224)), (6, .inl fil), (7, .inl (0 : Int)), (8, .inl (0 : Int))] [] W Post) ∧ (o < (fw_g W 12 0) → (0 ≤ h ∧ h < 14 ∧ 0 ≤ o ∧ o < 14) ∧ (∀ (r1 : Int), ((-2147483648 ≤ r1 ∧ r1 ≤ 2147483647 ∧ (True))) → ((r1 ≤ 0 → -2147483648 ≤ o + (1 : Int) ∧ o + (1 : Int) ≤ 2147483647 ∧ (jf fw_T (d + 8) 105 24 [(0, .inr (.inl 223)), (1, .inl h), (2, .inl fr), (3, .inl bl), (4, .inl dp), (5, .inr (.inr 224)), (6, .inl fil), (7, .inl (o + (1 : Int)))] [] W Post)) ∧ (0 < r1 → ((o = fr → -2147483648 ≤ o + (1 : Int) ∧ o + (1 : Int) ≤ 2147483647 ∧ (jf fw_T (d + 8) 105 24 [(0, .inr (.inl 223)), (1, .inl h), (2, .inl fr), (3, .inl bl), (4, .inl dp), (5, .inr (.inr 224)), (6, .inl fil), (7, .inl (o + (1 : Int)))] [] W Post)) ∧ (¬ o = fr → ((bl = 0 → -2147483648 ≤ dp + (1 : Int) ∧ dp + (1 : Int) ≤ 2147483647 ∧ ((0 ≤ o ∧ o < 14 ∧ 0 ≤ (fw_g W 12 0) ∧ (fw_g W 12 0) ≤ 14 ∧ (dp + (1 : Int)) = 9) ∧ (∀ (r2 : Int), ((-2147483648 ≤ r2 ∧ r2 ≤ 2147483647 ∧ (True))) → ∀ v3 : Int, -2147483648 ≤ v3 → v3 ≤ 2147483647 → (0 ≤ fil ∧ fil ≤ 13) ∧ (((True)) → -2147483648 ≤ fil + (1 : Int) ∧ fil + (1 : Int) ≤ 2147483647 ∧ (-2147483648 ≤ o + (1 : Int) ∧ o + (1 : Int) ≤ 2147483647 ∧ (jf fw_T (d + 8) 105 24 [(0, .inr (.inl 223)), (1, .inl h), (2, .inl fr), (3, .inl bl), (4, .inl dp), (5, .inr (.inr 224)), (6, .inl (fil + (1 : Int))), (7, .inl (o + (1 : Int)))] [] W Post)))))) ∧ (¬ bl = 0 → -2147483648 ≤ dp + (1 : Int) ∧ dp + (1 : Int) ≤ 2147483647 ∧ ((0 ≤ o ∧ o < 14 ∧ 0 ≤ (fw_g W 12 0) ∧ (fw_g W 12 0) ≤ 14 ∧ (dp + (1 : Int)) = 9) ∧ (∀ (r4 : Int), ((-2147483648 ≤ r4 ∧ r4 ≤ 2147483647 ∧ (True))) → ∀ v5 : Int, -2147483648 ≤ v5 → v5 ≤ 2147483647 → (0 ≤ fil ∧ fil ≤ 13) ∧ (((True)) → -2147483648 ≤ fil + (1 : Int) ∧ fil + (1 : Int) ≤ 2147483647 ∧ (-2147483648 ≤ o + (1 : Int) ∧ o + (1 : Int) ≤ 2147483647 ∧ (jf fw_T (d + 8) 105 24 [(0, .inr (.inl 223)), (1, .inl h), (2, .inl fr), (3, .inl bl), (4, .inl dp), (5, .inr (.inr 224)), (6, .inl (fil + (1 : Int))), (7, .inl (o + (1 : Int)))] [] W Post)))))))))))))))) :
    jf fw_T (d + 8) 105 24 [(0, .inr (.inl 223)), (1, .inl h), (2, .inl fr), (3, .inl bl), (4, .inl dp), (5, .inr (.inr 224)), (6, .inl fil), (7, .inl o)] [] W Post := fw_ok (n := 38) (ss := [(24, [0, 1, 2, 3, 4, 5, 6, 7]), (108, [5, 6, 7, 8])]) (hv := [89, 124]) fr_105_ok fv_tell_ok (ct_k_hours8_ok d) hw_

theorem lm_k_hours8_108 {Post : Option fw_V → fw_W → Prop} {d : Nat} {W : fw_W} {h fr bl dp : Int} (hpre : 0 ≤ h ∧ h < 14 ∧ 0 ≤ (fw_g W 12 0) ∧ (fw_g W 12 0) ≤ 14 ∧ dp = 8) (hP : ∀ (v : Int) , (-2147483648 ≤ v ∧ v ≤ 2147483647 ∧ (True)) → Post (some (.inl v)) W)  : ∀ (m : Nat) (fil o st_ : Int), (fil - st_).toNat = m → 0 ≤ st_ ∧ fil ≤ 14 → jf fw_T (d + 8) 105 108 [(5, .inr (.inr 224)), (6, .inl fil), (7, .inl o), (8, .inl st_)] [] W Post := by
  intro m
  induction m using Nat.strongRecOn with
  | ind m ih =>
    intro fil o st_ hm hi
    refine jf_rng (fun hrg => ?_)
    have hrg : -2147483648 ≤ fil ∧ fil ≤ 2147483647 ∧ -2147483648 ≤ o ∧ o ≤ 2147483647 ∧ -2147483648 ≤ st_ ∧ st_ ≤ 2147483647 ∧ True := hrg
    refine s_k_hours8_108 ?_
    repeat' (first
      | (exact True.intro)
      | (exact hpre.1)
      | (refine And.intro ?_ ?_)
      | (refine (ih _ (by omega) _ _ _ rfl ?_); (first | omega | trivial))
      | (refine hP _ ?_; (refine ⟨by omega, by omega, ?_⟩; (first | trivial | omega)))
      | omega
      | (intro _))
theorem lm_k_hours8_24 {Post : Option fw_V → fw_W → Prop} {d : Nat} {W : fw_W} {h fr bl dp : Int} (hpre : 0 ≤ h ∧ h < 14 ∧ 0 ≤ (fw_g W 12 0) ∧ (fw_g W 12 0) ≤ 14 ∧ dp = 8) (hP : ∀ (v : Int) , (-2147483648 ≤ v ∧ v ≤ 2147483647 ∧ (True)) → Post (some (.inl v)) W)  : ∀ (m : Nat) (fil o : Int), ((fw_g W 12 0) - o).toNat = m → 0 ≤ o ∧ 0 ≤ fil ∧ fil ≤ o ∧ fil ≤ (fw_g W 12 0) ∧ dp < 14 → jf fw_T (d + 8) 105 24 [(0, .inr (.inl 223)), (1, .inl h), (2, .inl fr), (3, .inl bl), (4, .inl dp), (5, .inr (.inr 224)), (6, .inl fil), (7, .inl o)] [] W Post := by
  intro m
  induction m using Nat.strongRecOn with
  | ind m ih =>
    intro fil o hm hi
    refine jf_rng (fun hrg => ?_)
    have hrg : -2147483648 ≤ h ∧ h ≤ 2147483647 ∧ -2147483648 ≤ fr ∧ fr ≤ 2147483647 ∧ -2147483648 ≤ bl ∧ bl ≤ 2147483647 ∧ -2147483648 ≤ dp ∧ dp ≤ 2147483647 ∧ -2147483648 ≤ fil ∧ fil ≤ 2147483647 ∧ -2147483648 ≤ o ∧ o ≤ 2147483647 ∧ True := hrg
    refine s_k_hours8_24 ?_
    repeat' (first
      | (exact True.intro)
      | (exact hpre.1)
      | (refine And.intro ?_ ?_)
      | (refine (ih _ (by omega) _ _ rfl ?_); (first | omega | trivial))
      | (refine (lm_k_hours8_108 (h := h) (fr := fr) (bl := bl) (dp := dp) hpre hP _ _ _ _ rfl ?_); (first | omega | trivial))
      | (refine hP _ ?_; (refine ⟨by omega, by omega, ?_⟩; (first | trivial | omega)))
      | omega
      | (intro _))
def x_k_hours8 : fw_X := fun as W Q => match as with
  | [.inr (.inl s_), .inl h, .inl fr, .inl bl, .inl dp] => fw_if (Nat.beq s_ 223) ((0 ≤ h ∧ h < 14 ∧ 0 ≤ (fw_g W 12 0) ∧ (fw_g W 12 0) ≤ 14 ∧ dp = 8) ∧ (∀ (v : Int), (-2147483648 ≤ v ∧ v ≤ 2147483647 ∧ (True)) → Q (some (.inl v)) W))
  | _ => False
theorem x_k_hours8_ok (d : Nat) (as : List fw_V) (W : fw_W) (Q : Option fw_V → fw_W → Prop) (hx : x_k_hours8 as W Q) : jf fw_T (d + 8) 105 0 (fw_args 0 as) [] W Q := by
  unfold x_k_hours8 at hx
  split at hx
  · rename_i s_ h fr bl dp
    obtain ⟨e_, hpre, hQ⟩ := fw_if_ok hx
    have e_ := Nat.eq_of_beq_eq_true e_
    subst e_
    have hP := hQ
    refine s_k_hours8_0 ?_
    repeat' (first
      | (exact True.intro)
      | (exact hpre.1)
      | (refine And.intro ?_ ?_)
      | (refine (lm_k_hours8_24 (h := h) (fr := fr) (bl := bl) (dp := dp) hpre hP _ _ _ rfl ?_); (first | omega | trivial))
      | (refine (lm_k_hours8_108 (h := h) (fr := fr) (bl := bl) (dp := dp) hpre hP _ _ _ _ rfl ?_); (first | omega | trivial))
      | (refine hP _ ?_; (refine ⟨by omega, by omega, ?_⟩; (first | trivial | omega)))
      | omega
      | (intro _))
  · exact hx.elim

def ct_k_hours7 : List (Nat × fw_X) := [(106, x_k_insert), (113, x_k_streetBetween), (105, x_k_hours8)]
theorem ct_k_hours7_ok (d : Nat) : fw_cok fw_T (d + 8) ct_k_hours7 := by
  intro q hq as W Q h
  simp only [ct_k_hours7, List.mem_cons, List.not_mem_nil, or_false] at hq
  rcases hq with rfl | rfl | rfl
  · exact jc_of (x_k_insert_ok (d + 7) as W Q h)
  · exact jc_of (x_k_streetBetween_ok (d + 7) as W Q h)
  · exact jc_of (x_k_hours8_ok (d + 0) as W Q h)
theorem s_k_hours7_0 {Post : Option fw_V → fw_W → Prop} {d : Nat} {W : fw_W} {h fr bl dp : Int}
    (hw_ : ((dp < (14 : Int) → 0 ≤ dp ∧ dp < 14 ∧ (jf fw_T (d + 9) 105 24 [(0, .inr (.inl 223)), (1, .inl h), (2, .inl fr), (3, .inl bl), (4, .inl dp), (5, .inr (.inr 224)), (6, .inl (0 : Int)), (7, .inl (0 : Int))] [] W Post)) ∧ ((14 : Int) ≤ dp → (-2147483648 ≤ (0 : Int) → (0 : Int) ≤ 2147483647 → Post (some (.inl (0 : Int))) W)))) :
    jf fw_T (d + 9) 105 0 [(0, .inr (.inl 223)), (1, .inl h), (2, .inl fr), (3, .inl bl), (4, .inl dp)] [] W Post := fw_ok (n := 13) (ss := [(24, [0, 1, 2, 3, 4, 5, 6, 7]), (108, [5, 6, 7, 8])]) (hv := [89, 124]) fr_105_ok fv_tell_ok (ct_k_hours7_ok d) hw_

theorem s_k_hours7_108 {Post : Option fw_V → fw_W → Prop} {d : Nat} {W : fw_W} {fil o st_ : Int}
    (hw_ : ((fil ≤ st_ → (-2147483648 ≤ o → o ≤ 2147483647 → Post (some (.inl o)) W)) ∧ (st_ < fil → 0 ≤ st_ ∧ st_ < 14 ∧ (∀ v1 : Int, -2147483648 ≤ v1 → v1 ≤ 2147483647 → ∀ v2 : Int, -2147483648 ≤ v2 → v2 ≤ 2147483647 → -2147483648 ≤ st_ + (1 : Int) ∧ st_ + (1 : Int) ≤ 2147483647 ∧ (jf fw_T (d + 9) 105 108 [(5, .inr (.inr 224)), (6, .inl fil), (7, .inl (max o v2)), (8, .inl (st_ + (1 : Int)))] [] W Post))))) :
    jf fw_T (d + 9) 105 108 [(5, .inr (.inr 224)), (6, .inl fil), (7, .inl o), (8, .inl st_)] [] W Post := fw_ok (n := 14) (ss := [(24, [0, 1, 2, 3, 4, 5, 6, 7]), (108, [5, 6, 7, 8])]) (hv := [89, 124]) fr_105_ok fv_tell_ok (ct_k_hours7_ok d) hw_

theorem s_k_hours7_24 {Post : Option fw_V → fw_W → Prop} {d : Nat} {W : fw_W} {h fr bl dp fil o : Int}
    (hw_ : (0 ≤ (fw_g W 12 0) → (fw_g W 12 0) ≤ 14 → (((fw_g W 12 0) ≤ o → jf fw_T (d + 9) 105 108 [(5, .inr (.inr 224)), (6, .inl fil), (7, .inl (0 : Int)), (8, .inl (0 : Int))] [] W Post) ∧ (o < (fw_g W 12 0) → (0 ≤ h ∧ h < 14 ∧ 0 ≤ o ∧ o < 14) ∧ (∀ (r1 : Int), ((-2147483648 ≤ r1 ∧ r1 ≤ 2147483647 ∧ (True))) → ((r1 ≤ 0 → -2147483648 ≤ o + (1 : Int) ∧ o + (1 : Int) ≤ 2147483647 ∧ (jf fw_T (d + 9) 105 24 [(0, .inr (.inl 223)), (1, .inl h), (2, .inl fr), (3, .inl bl), (4, .inl dp), (5, .inr (.inr 224)), (6, .inl fil), (7, .inl (o + (1 : Int)))] [] W Post)) ∧ (0 < r1 → ((o = fr → -2147483648 ≤ o + (1 : Int) ∧ o + (1 : Int) ≤ 2147483647 ∧ (jf fw_T (d + 9) 105 24 [(0, .inr (.inl 223)), (1, .inl h), (2, .inl fr), (3, .inl bl), (4, .inl dp), (5, .inr (.inr 224)), (6, .inl fil), (7, .inl (o + (1 : Int)))] [] W Post)) ∧ (¬ o = fr → ((bl = 0 → -2147483648 ≤ dp + (1 : Int) ∧ dp + (1 : Int) ≤ 2147483647 ∧ ((0 ≤ o ∧ o < 14 ∧ 0 ≤ (fw_g W 12 0) ∧ (fw_g W 12 0) ≤ 14 ∧ (dp + (1 : Int)) = 8) ∧ (∀ (r2 : Int), ((-2147483648 ≤ r2 ∧ r2 ≤ 2147483647 ∧ (True))) → ∀ v3 : Int, -2147483648 ≤ v3 → v3 ≤ 2147483647 → (0 ≤ fil ∧ fil ≤ 13) ∧ (((True)) → -2147483648 ≤ fil + (1 : Int) ∧ fil + (1 : Int) ≤ 2147483647 ∧ (-2147483648 ≤ o + (1 : Int) ∧ o + (1 : Int) ≤ 2147483647 ∧ (jf fw_T (d + 9) 105 24 [(0, .inr (.inl 223)), (1, .inl h), (2, .inl fr), (3, .inl bl), (4, .inl dp), (5, .inr (.inr 224)), (6, .inl (fil + (1 : Int))), (7, .inl (o + (1 : Int)))] [] W Post)))))) ∧ (¬ bl = 0 → -2147483648 ≤ dp + (1 : Int) ∧ dp + (1 : Int) ≤ 2147483647 ∧ ((0 ≤ o ∧ o < 14 ∧ 0 ≤ (fw_g W 12 0) ∧ (fw_g W 12 0) ≤ 14 ∧ (dp + (1 : Int)) = 8) ∧ (∀ (r4 : Int), ((-2147483648 ≤ r4 ∧ r4 ≤ 2147483647 ∧ (True))) → ∀ v5 : Int, -2147483648 ≤ v5 → v5 ≤ 2147483647 → (0 ≤ fil ∧ fil ≤ 13) ∧ (((True)) → -2147483648 ≤ fil + (1 : Int) ∧ fil + (1 : Int) ≤ 2147483647 ∧ (-2147483648 ≤ o + (1 : Int) ∧ o + (1 : Int) ≤ 2147483647 ∧ (jf fw_T (d + 9) 105 24 [(0, .inr (.inl 223)), (1, .inl h), (2, .inl fr), (3, .inl bl), (4, .inl dp), (5, .inr (.inr 224)), (6, .inl (fil + (1 : Int))), (7, .inl (o + (1 : Int)))] [] W Post)))))))))))))))) :
    jf fw_T (d + 9) 105 24 [(0, .inr (.inl 223)), (1, .inl h), (2, .inl fr), (3, .inl bl), (4, .inl dp), (5, .inr (.inr 224)), (6, .inl fil), (7, .inl o)] [] W Post := fw_ok (n := 38) (ss := [(24, [0, 1, 2, 3, 4, 5, 6, 7]), (108, [5, 6, 7, 8])]) (hv := [89, 124]) fr_105_ok fv_tell_ok (ct_k_hours7_ok d) hw_

theorem lm_k_hours7_108 {Post : Option fw_V → fw_W → Prop} {d : Nat} {W : fw_W} {h fr bl dp : Int} (hpre : 0 ≤ h ∧ h < 14 ∧ 0 ≤ (fw_g W 12 0) ∧ (fw_g W 12 0) ≤ 14 ∧ dp = 7) (hP : ∀ (v : Int) , (-2147483648 ≤ v ∧ v ≤ 2147483647 ∧ (True)) → Post (some (.inl v)) W)  : ∀ (m : Nat) (fil o st_ : Int), (fil - st_).toNat = m → 0 ≤ st_ ∧ fil ≤ 14 → jf fw_T (d + 9) 105 108 [(5, .inr (.inr 224)), (6, .inl fil), (7, .inl o), (8, .inl st_)] [] W Post := by
  intro m
  induction m using Nat.strongRecOn with
  | ind m ih =>
    intro fil o st_ hm hi
    refine jf_rng (fun hrg => ?_)
    have hrg : -2147483648 ≤ fil ∧ fil ≤ 2147483647 ∧ -2147483648 ≤ o ∧ o ≤ 2147483647 ∧ -2147483648 ≤ st_ ∧ st_ ≤ 2147483647 ∧ True := hrg
    refine s_k_hours7_108 ?_
    repeat' (first
      | (exact True.intro)
      | (exact hpre.1)
      | (refine And.intro ?_ ?_)
      | (refine (ih _ (by omega) _ _ _ rfl ?_); (first | omega | trivial))
      | (refine hP _ ?_; (refine ⟨by omega, by omega, ?_⟩; (first | trivial | omega)))
      | omega
      | (intro _))
theorem lm_k_hours7_24 {Post : Option fw_V → fw_W → Prop} {d : Nat} {W : fw_W} {h fr bl dp : Int} (hpre : 0 ≤ h ∧ h < 14 ∧ 0 ≤ (fw_g W 12 0) ∧ (fw_g W 12 0) ≤ 14 ∧ dp = 7) (hP : ∀ (v : Int) , (-2147483648 ≤ v ∧ v ≤ 2147483647 ∧ (True)) → Post (some (.inl v)) W)  : ∀ (m : Nat) (fil o : Int), ((fw_g W 12 0) - o).toNat = m → 0 ≤ o ∧ 0 ≤ fil ∧ fil ≤ o ∧ fil ≤ (fw_g W 12 0) ∧ dp < 14 → jf fw_T (d + 9) 105 24 [(0, .inr (.inl 223)), (1, .inl h), (2, .inl fr), (3, .inl bl), (4, .inl dp), (5, .inr (.inr 224)), (6, .inl fil), (7, .inl o)] [] W Post := by
  intro m
  induction m using Nat.strongRecOn with
  | ind m ih =>
    intro fil o hm hi
    refine jf_rng (fun hrg => ?_)
    have hrg : -2147483648 ≤ h ∧ h ≤ 2147483647 ∧ -2147483648 ≤ fr ∧ fr ≤ 2147483647 ∧ -2147483648 ≤ bl ∧ bl ≤ 2147483647 ∧ -2147483648 ≤ dp ∧ dp ≤ 2147483647 ∧ -2147483648 ≤ fil ∧ fil ≤ 2147483647 ∧ -2147483648 ≤ o ∧ o ≤ 2147483647 ∧ True := hrg
    refine s_k_hours7_24 ?_
    repeat' (first
      | (exact True.intro)
      | (exact hpre.1)
      | (refine And.intro ?_ ?_)
      | (refine (ih _ (by omega) _ _ rfl ?_); (first | omega | trivial))
      | (refine (lm_k_hours7_108 (h := h) (fr := fr) (bl := bl) (dp := dp) hpre hP _ _ _ _ rfl ?_); (first | omega | trivial))
      | (refine hP _ ?_; (refine ⟨by omega, by omega, ?_⟩; (first | trivial | omega)))
      | omega
      | (intro _))
def x_k_hours7 : fw_X := fun as W Q => match as with
  | [.inr (.inl s_), .inl h, .inl fr, .inl bl, .inl dp] => fw_if (Nat.beq s_ 223) ((0 ≤ h ∧ h < 14 ∧ 0 ≤ (fw_g W 12 0) ∧ (fw_g W 12 0) ≤ 14 ∧ dp = 7) ∧ (∀ (v : Int), (-2147483648 ≤ v ∧ v ≤ 2147483647 ∧ (True)) → Q (some (.inl v)) W))
  | _ => False
theorem x_k_hours7_ok (d : Nat) (as : List fw_V) (W : fw_W) (Q : Option fw_V → fw_W → Prop) (hx : x_k_hours7 as W Q) : jf fw_T (d + 9) 105 0 (fw_args 0 as) [] W Q := by
  unfold x_k_hours7 at hx
  split at hx
  · rename_i s_ h fr bl dp
    obtain ⟨e_, hpre, hQ⟩ := fw_if_ok hx
    have e_ := Nat.eq_of_beq_eq_true e_
    subst e_
    have hP := hQ
    refine s_k_hours7_0 ?_
    repeat' (first
      | (exact True.intro)
      | (exact hpre.1)
      | (refine And.intro ?_ ?_)
      | (refine (lm_k_hours7_24 (h := h) (fr := fr) (bl := bl) (dp := dp) hpre hP _ _ _ rfl ?_); (first | omega | trivial))
      | (refine (lm_k_hours7_108 (h := h) (fr := fr) (bl := bl) (dp := dp) hpre hP _ _ _ _ rfl ?_); (first | omega | trivial))
      | (refine hP _ ?_; (refine ⟨by omega, by omega, ?_⟩; (first | trivial | omega)))
      | omega
      | (intro _))
  · exact hx.elim

def ct_k_hours6 : List (Nat × fw_X) := [(106, x_k_insert), (113, x_k_streetBetween), (105, x_k_hours7)]
theorem ct_k_hours6_ok (d : Nat) : fw_cok fw_T (d + 9) ct_k_hours6 := by
  intro q hq as W Q h
  simp only [ct_k_hours6, List.mem_cons, List.not_mem_nil, or_false] at hq
  rcases hq with rfl | rfl | rfl
  · exact jc_of (x_k_insert_ok (d + 8) as W Q h)
  · exact jc_of (x_k_streetBetween_ok (d + 8) as W Q h)
  · exact jc_of (x_k_hours7_ok (d + 0) as W Q h)
theorem s_k_hours6_0 {Post : Option fw_V → fw_W → Prop} {d : Nat} {W : fw_W} {h fr bl dp : Int}
    (hw_ : ((dp < (14 : Int) → 0 ≤ dp ∧ dp < 14 ∧ (jf fw_T (d + 10) 105 24 [(0, .inr (.inl 223)), (1, .inl h), (2, .inl fr), (3, .inl bl), (4, .inl dp), (5, .inr (.inr 224)), (6, .inl (0 : Int)), (7, .inl (0 : Int))] [] W Post)) ∧ ((14 : Int) ≤ dp → (-2147483648 ≤ (0 : Int) → (0 : Int) ≤ 2147483647 → Post (some (.inl (0 : Int))) W)))) :
    jf fw_T (d + 10) 105 0 [(0, .inr (.inl 223)), (1, .inl h), (2, .inl fr), (3, .inl bl), (4, .inl dp)] [] W Post := fw_ok (n := 13) (ss := [(24, [0, 1, 2, 3, 4, 5, 6, 7]), (108, [5, 6, 7, 8])]) (hv := [89, 124]) fr_105_ok fv_tell_ok (ct_k_hours6_ok d) hw_

theorem s_k_hours6_108 {Post : Option fw_V → fw_W → Prop} {d : Nat} {W : fw_W} {fil o st_ : Int}
    (hw_ : ((fil ≤ st_ → (-2147483648 ≤ o → o ≤ 2147483647 → Post (some (.inl o)) W)) ∧ (st_ < fil → 0 ≤ st_ ∧ st_ < 14 ∧ (∀ v1 : Int, -2147483648 ≤ v1 → v1 ≤ 2147483647 → ∀ v2 : Int, -2147483648 ≤ v2 → v2 ≤ 2147483647 → -2147483648 ≤ st_ + (1 : Int) ∧ st_ + (1 : Int) ≤ 2147483647 ∧ (jf fw_T (d + 10) 105 108 [(5, .inr (.inr 224)), (6, .inl fil), (7, .inl (max o v2)), (8, .inl (st_ + (1 : Int)))] [] W Post))))) :
    jf fw_T (d + 10) 105 108 [(5, .inr (.inr 224)), (6, .inl fil), (7, .inl o), (8, .inl st_)] [] W Post := fw_ok (n := 14) (ss := [(24, [0, 1, 2, 3, 4, 5, 6, 7]), (108, [5, 6, 7, 8])]) (hv := [89, 124]) fr_105_ok fv_tell_ok (ct_k_hours6_ok d) hw_

theorem s_k_hours6_24 {Post : Option fw_V → fw_W → Prop} {d : Nat} {W : fw_W} {h fr bl dp fil o : Int}
    (hw_ : (0 ≤ (fw_g W 12 0) → (fw_g W 12 0) ≤ 14 → (((fw_g W 12 0) ≤ o → jf fw_T (d + 10) 105 108 [(5, .inr (.inr 224)), (6, .inl fil), (7, .inl (0 : Int)), (8, .inl (0 : Int))] [] W Post) ∧ (o < (fw_g W 12 0) → (0 ≤ h ∧ h < 14 ∧ 0 ≤ o ∧ o < 14) ∧ (∀ (r1 : Int), ((-2147483648 ≤ r1 ∧ r1 ≤ 2147483647 ∧ (True))) → ((r1 ≤ 0 → -2147483648 ≤ o + (1 : Int) ∧ o + (1 : Int) ≤ 2147483647 ∧ (jf fw_T (d + 10) 105 24 [(0, .inr (.inl 223)), (1, .inl h), (2, .inl fr), (3, .inl bl), (4, .inl dp), (5, .inr (.inr 224)), (6, .inl fil), (7, .inl (o + (1 : Int)))] [] W Post)) ∧ (0 < r1 → ((o = fr → -2147483648 ≤ o + (1 : Int) ∧ o + (1 : Int) ≤ 2147483647 ∧ (jf fw_T (d + 10) 105 24 [(0, .inr (.inl 223)), (1, .inl h), (2, .inl fr), (3, .inl bl), (4, .inl dp), (5, .inr (.inr 224)), (6, .inl fil), (7, .inl (o + (1 : Int)))] [] W Post)) ∧ (¬ o = fr → ((bl = 0 → -2147483648 ≤ dp + (1 : Int) ∧ dp + (1 : Int) ≤ 2147483647 ∧ ((0 ≤ o ∧ o < 14 ∧ 0 ≤ (fw_g W 12 0) ∧ (fw_g W 12 0) ≤ 14 ∧ (dp + (1 : Int)) = 7) ∧ (∀ (r2 : Int), ((-2147483648 ≤ r2 ∧ r2 ≤ 2147483647 ∧ (True))) → ∀ v3 : Int, -2147483648 ≤ v3 → v3 ≤ 2147483647 → (0 ≤ fil ∧ fil ≤ 13) ∧ (((True)) → -2147483648 ≤ fil + (1 : Int) ∧ fil + (1 : Int) ≤ 2147483647 ∧ (-2147483648 ≤ o + (1 : Int) ∧ o + (1 : Int) ≤ 2147483647 ∧ (jf fw_T (d + 10) 105 24 [(0, .inr (.inl 223)), (1, .inl h), (2, .inl fr), (3, .inl bl), (4, .inl dp), (5, .inr (.inr 224)), (6, .inl (fil + (1 : Int))), (7, .inl (o + (1 : Int)))] [] W Post)))))) ∧ (¬ bl = 0 → -2147483648 ≤ dp + (1 : Int) ∧ dp + (1 : Int) ≤ 2147483647 ∧ ((0 ≤ o ∧ o < 14 ∧ 0 ≤ (fw_g W 12 0) ∧ (fw_g W 12 0) ≤ 14 ∧ (dp + (1 : Int)) = 7) ∧ (∀ (r4 : Int), ((-2147483648 ≤ r4 ∧ r4 ≤ 2147483647 ∧ (True))) → ∀ v5 : Int, -2147483648 ≤ v5 → v5 ≤ 2147483647 → (0 ≤ fil ∧ fil ≤ 13) ∧ (((True)) → -2147483648 ≤ fil + (1 : Int) ∧ fil + (1 : Int) ≤ 2147483647 ∧ (-2147483648 ≤ o + (1 : Int) ∧ o + (1 : Int) ≤ 2147483647 ∧ (jf fw_T (d + 10) 105 24 [(0, .inr (.inl 223)), (1, .inl h), (2, .inl fr), (3, .inl bl), (4, .inl dp), (5, .inr (.inr 224)), (6, .inl (fil + (1 : Int))), (7, .inl (o + (1 : Int)))] [] W Post)))))))))))))))) :
    jf fw_T (d + 10) 105 24 [(0, .inr (.inl 223)), (1, .inl h), (2, .inl fr), (3, .inl bl), (4, .inl dp), (5, .inr (.inr 224)), (6, .inl fil), (7, .inl o)] [] W Post := fw_ok (n := 38) (ss := [(24, [0, 1, 2, 3, 4, 5, 6, 7]), (108, [5, 6, 7, 8])]) (hv := [89, 124]) fr_105_ok fv_tell_ok (ct_k_hours6_ok d) hw_

theorem lm_k_hours6_108 {Post : Option fw_V → fw_W → Prop} {d : Nat} {W : fw_W} {h fr bl dp : Int} (hpre : 0 ≤ h ∧ h < 14 ∧ 0 ≤ (fw_g W 12 0) ∧ (fw_g W 12 0) ≤ 14 ∧ dp = 6) (hP : ∀ (v : Int) , (-2147483648 ≤ v ∧ v ≤ 2147483647 ∧ (True)) → Post (some (.inl v)) W)  : ∀ (m : Nat) (fil o st_ : Int), (fil - st_).toNat = m → 0 ≤ st_ ∧ fil ≤ 14 → jf fw_T (d + 10) 105 108 [(5, .inr (.inr 224)), (6, .inl fil), (7, .inl o), (8, .inl st_)] [] W Post := by
  intro m
  induction m using Nat.strongRecOn with
  | ind m ih =>
    intro fil o st_ hm hi
    refine jf_rng (fun hrg => ?_)
    have hrg : -2147483648 ≤ fil ∧ fil ≤ 2147483647 ∧ -2147483648 ≤ o ∧ o ≤ 2147483647 ∧ -2147483648 ≤ st_ ∧ st_ ≤ 2147483647 ∧ True := hrg
    refine s_k_hours6_108 ?_
    repeat' (first
      | (exact True.intro)
      | (exact hpre.1)
      | (refine And.intro ?_ ?_)
      | (refine (ih _ (by omega) _ _ _ rfl ?_); (first | omega | trivial))
      | (refine hP _ ?_; (refine ⟨by omega, by omega, ?_⟩; (first | trivial | omega)))
      | omega
      | (intro _))
theorem lm_k_hours6_24 {Post : Option fw_V → fw_W → Prop} {d : Nat} {W : fw_W} {h fr bl dp : Int} (hpre : 0 ≤ h ∧ h < 14 ∧ 0 ≤ (fw_g W 12 0) ∧ (fw_g W 12 0) ≤ 14 ∧ dp = 6) (hP : ∀ (v : Int) , (-2147483648 ≤ v ∧ v ≤ 2147483647 ∧ (True)) → Post (some (.inl v)) W)  : ∀ (m : Nat) (fil o : Int), ((fw_g W 12 0) - o).toNat = m → 0 ≤ o ∧ 0 ≤ fil ∧ fil ≤ o ∧ fil ≤ (fw_g W 12 0) ∧ dp < 14 → jf fw_T (d + 10) 105 24 [(0, .inr (.inl 223)), (1, .inl h), (2, .inl fr), (3, .inl bl), (4, .inl dp), (5, .inr (.inr 224)), (6, .inl fil), (7, .inl o)] [] W Post := by
  intro m
  induction m using Nat.strongRecOn with
  | ind m ih =>
    intro fil o hm hi
    refine jf_rng (fun hrg => ?_)
    have hrg : -2147483648 ≤ h ∧ h ≤ 2147483647 ∧ -2147483648 ≤ fr ∧ fr ≤ 2147483647 ∧ -2147483648 ≤ bl ∧ bl ≤ 2147483647 ∧ -2147483648 ≤ dp ∧ dp ≤ 2147483647 ∧ -2147483648 ≤ fil ∧ fil ≤ 2147483647 ∧ -2147483648 ≤ o ∧ o ≤ 2147483647 ∧ True := hrg
    refine s_k_hours6_24 ?_
    repeat' (first
      | (exact True.intro)
      | (exact hpre.1)
      | (refine And.intro ?_ ?_)
      | (refine (ih _ (by omega) _ _ rfl ?_); (first | omega | trivial))
      | (refine (lm_k_hours6_108 (h := h) (fr := fr) (bl := bl) (dp := dp) hpre hP _ _ _ _ rfl ?_); (first | omega | trivial))
      | (refine hP _ ?_; (refine ⟨by omega, by omega, ?_⟩; (first | trivial | omega)))
      | omega
      | (intro _))
def x_k_hours6 : fw_X := fun as W Q => match as with
  | [.inr (.inl s_), .inl h, .inl fr, .inl bl, .inl dp] => fw_if (Nat.beq s_ 223) ((0 ≤ h ∧ h < 14 ∧ 0 ≤ (fw_g W 12 0) ∧ (fw_g W 12 0) ≤ 14 ∧ dp = 6) ∧ (∀ (v : Int), (-2147483648 ≤ v ∧ v ≤ 2147483647 ∧ (True)) → Q (some (.inl v)) W))
  | _ => False
theorem x_k_hours6_ok (d : Nat) (as : List fw_V) (W : fw_W) (Q : Option fw_V → fw_W → Prop) (hx : x_k_hours6 as W Q) : jf fw_T (d + 10) 105 0 (fw_args 0 as) [] W Q := by
  unfold x_k_hours6 at hx
  split at hx
  · rename_i s_ h fr bl dp
    obtain ⟨e_, hpre, hQ⟩ := fw_if_ok hx
    have e_ := Nat.eq_of_beq_eq_true e_
    subst e_
    have hP := hQ
    refine s_k_hours6_0 ?_
    repeat' (first
      | (exact True.intro)
      | (exact hpre.1)
      | (refine And.intro ?_ ?_)
      | (refine (lm_k_hours6_24 (h := h) (fr := fr) (bl := bl) (dp := dp) hpre hP _ _ _ rfl ?_); (first | omega | trivial))
      | (refine (lm_k_hours6_108 (h := h) (fr := fr) (bl := bl) (dp := dp) hpre hP _ _ _ _ rfl ?_); (first | omega | trivial))
      | (refine hP _ ?_; (refine ⟨by omega, by omega, ?_⟩; (first | trivial | omega)))
      | omega
      | (intro _))
  · exact hx.elim

def ct_k_hours5 : List (Nat × fw_X) := [(106, x_k_insert), (113, x_k_streetBetween), (105, x_k_hours6)]
theorem ct_k_hours5_ok (d : Nat) : fw_cok fw_T (d + 10) ct_k_hours5 := by
  intro q hq as W Q h
  simp only [ct_k_hours5, List.mem_cons, List.not_mem_nil, or_false] at hq
  rcases hq with rfl | rfl | rfl
  · exact jc_of (x_k_insert_ok (d + 9) as W Q h)
  · exact jc_of (x_k_streetBetween_ok (d + 9) as W Q h)
  · exact jc_of (x_k_hours6_ok (d + 0) as W Q h)
theorem s_k_hours5_0 {Post : Option fw_V → fw_W → Prop} {d : Nat} {W : fw_W} {h fr bl dp : Int}
    (hw_ : ((dp < (14 : Int) → 0 ≤ dp ∧ dp < 14 ∧ (jf fw_T (d + 11) 105 24 [(0, .inr (.inl 223)), (1, .inl h), (2, .inl fr), (3, .inl bl), (4, .inl dp), (5, .inr (.inr 224)), (6, .inl (0 : Int)), (7, .inl (0 : Int))] [] W Post)) ∧ ((14 : Int) ≤ dp → (-2147483648 ≤ (0 : Int) → (0 : Int) ≤ 2147483647 → Post (some (.inl (0 : Int))) W)))) :
    jf fw_T (d + 11) 105 0 [(0, .inr (.inl 223)), (1, .inl h), (2, .inl fr), (3, .inl bl), (4, .inl dp)] [] W Post := fw_ok (n := 13) (ss := [(24, [0, 1, 2, 3, 4, 5, 6, 7]), (108, [5, 6, 7, 8])]) (hv := [89, 124]) fr_105_ok fv_tell_ok (ct_k_hours5_ok d) hw_

theorem s_k_hours5_108 {Post : Option fw_V → fw_W → Prop} {d : Nat} {W : fw_W} {fil o st_ : Int}
    (hw_ : ((fil ≤ st_ → (-2147483648 ≤ o → o ≤ 2147483647 → Post (some (.inl o)) W)) ∧ (st_ < fil → 0 ≤ st_ ∧ st_ < 14 ∧ (∀ v1 : Int, -2147483648 ≤ v1 → v1 ≤ 2147483647 → ∀ v2 : Int, -2147483648 ≤ v2 → v2 ≤ 2147483647 → -2147483648 ≤ st_ + (1 : Int) ∧ st_ + (1 : Int) ≤ 2147483647 ∧ (jf fw_T (d + 11) 105 108 [(5, .inr (.inr 224)), (6, .inl fil), (7, .inl (max o v2)), (8, .inl (st_ + (1 : Int)))] [] W Post))))) :
    jf fw_T (d + 11) 105 108 [(5, .inr (.inr 224)), (6, .inl fil), (7, .inl o), (8, .inl st_)] [] W Post := fw_ok (n := 14) (ss := [(24, [0, 1, 2, 3, 4, 5, 6, 7]), (108, [5, 6, 7, 8])]) (hv := [89, 124]) fr_105_ok fv_tell_ok (ct_k_hours5_ok d) hw_

theorem s_k_hours5_24 {Post : Option fw_V → fw_W → Prop} {d : Nat} {W : fw_W} {h fr bl dp fil o : Int}
    (hw_ : (0 ≤ (fw_g W 12 0) → (fw_g W 12 0) ≤ 14 → (((fw_g W 12 0) ≤ o → jf fw_T (d + 11) 105 108 [(5, .inr (.inr 224)), (6, .inl fil), (7, .inl (0 : Int)), (8, .inl (0 : Int))] [] W Post) ∧ (o < (fw_g W 12 0) → (0 ≤ h ∧ h < 14 ∧ 0 ≤ o ∧ o < 14) ∧ (∀ (r1 : Int), ((-2147483648 ≤ r1 ∧ r1 ≤ 2147483647 ∧ (True))) → ((r1 ≤ 0 → -2147483648 ≤ o + (1 : Int) ∧ o + (1 : Int) ≤ 2147483647 ∧ (jf fw_T (d + 11) 105 24 [(0, .inr (.inl 223)), (1, .inl h), (2, .inl fr), (3, .inl bl), (4, .inl dp), (5, .inr (.inr 224)), (6, .inl fil), (7, .inl (o + (1 : Int)))] [] W Post)) ∧ (0 < r1 → ((o = fr → -2147483648 ≤ o + (1 : Int) ∧ o + (1 : Int) ≤ 2147483647 ∧ (jf fw_T (d + 11) 105 24 [(0, .inr (.inl 223)), (1, .inl h), (2, .inl fr), (3, .inl bl), (4, .inl dp), (5, .inr (.inr 224)), (6, .inl fil), (7, .inl (o + (1 : Int)))] [] W Post)) ∧ (¬ o = fr → ((bl = 0 → -2147483648 ≤ dp + (1 : Int) ∧ dp + (1 : Int) ≤ 2147483647 ∧ ((0 ≤ o ∧ o < 14 ∧ 0 ≤ (fw_g W 12 0) ∧ (fw_g W 12 0) ≤ 14 ∧ (dp + (1 : Int)) = 6) ∧ (∀ (r2 : Int), ((-2147483648 ≤ r2 ∧ r2 ≤ 2147483647 ∧ (True))) → ∀ v3 : Int, -2147483648 ≤ v3 → v3 ≤ 2147483647 → (0 ≤ fil ∧ fil ≤ 13) ∧ (((True)) → -2147483648 ≤ fil + (1 : Int) ∧ fil + (1 : Int) ≤ 2147483647 ∧ (-2147483648 ≤ o + (1 : Int) ∧ o + (1 : Int) ≤ 2147483647 ∧ (jf fw_T (d + 11) 105 24 [(0, .inr (.inl 223)), (1, .inl h), (2, .inl fr), (3, .inl bl), (4, .inl dp), (5, .inr (.inr 224)), (6, .inl (fil + (1 : Int))), (7, .inl (o + (1 : Int)))] [] W Post)))))) ∧ (¬ bl = 0 → -2147483648 ≤ dp + (1 : Int) ∧ dp + (1 : Int) ≤ 2147483647 ∧ ((0 ≤ o ∧ o < 14 ∧ 0 ≤ (fw_g W 12 0) ∧ (fw_g W 12 0) ≤ 14 ∧ (dp + (1 : Int)) = 6) ∧ (∀ (r4 : Int), ((-2147483648 ≤ r4 ∧ r4 ≤ 2147483647 ∧ (True))) → ∀ v5 : Int, -2147483648 ≤ v5 → v5 ≤ 2147483647 → (0 ≤ fil ∧ fil ≤ 13) ∧ (((True)) → -2147483648 ≤ fil + (1 : Int) ∧ fil + (1 : Int) ≤ 2147483647 ∧ (-2147483648 ≤ o + (1 : Int) ∧ o + (1 : Int) ≤ 2147483647 ∧ (jf fw_T (d + 11) 105 24 [(0, .inr (.inl 223)), (1, .inl h), (2, .inl fr), (3, .inl bl), (4, .inl dp), (5, .inr (.inr 224)), (6, .inl (fil + (1 : Int))), (7, .inl (o + (1 : Int)))] [] W Post)))))))))))))))) :
    jf fw_T (d + 11) 105 24 [(0, .inr (.inl 223)), (1, .inl h), (2, .inl fr), (3, .inl bl), (4, .inl dp), (5, .inr (.inr 224)), (6, .inl fil), (7, .inl o)] [] W Post := fw_ok (n := 38) (ss := [(24, [0, 1, 2, 3, 4, 5, 6, 7]), (108, [5, 6, 7, 8])]) (hv := [89, 124]) fr_105_ok fv_tell_ok (ct_k_hours5_ok d) hw_

theorem lm_k_hours5_108 {Post : Option fw_V → fw_W → Prop} {d : Nat} {W : fw_W} {h fr bl dp : Int} (hpre : 0 ≤ h ∧ h < 14 ∧ 0 ≤ (fw_g W 12 0) ∧ (fw_g W 12 0) ≤ 14 ∧ dp = 5) (hP : ∀ (v : Int) , (-2147483648 ≤ v ∧ v ≤ 2147483647 ∧ (True)) → Post (some (.inl v)) W)  : ∀ (m : Nat) (fil o st_ : Int), (fil - st_).toNat = m → 0 ≤ st_ ∧ fil ≤ 14 → jf fw_T (d + 11) 105 108 [(5, .inr (.inr 224)), (6, .inl fil), (7, .inl o), (8, .inl st_)] [] W Post := by
  intro m
  induction m using Nat.strongRecOn with
  | ind m ih =>
    intro fil o st_ hm hi
    refine jf_rng (fun hrg => ?_)
    have hrg : -2147483648 ≤ fil ∧ fil ≤ 2147483647 ∧ -2147483648 ≤ o ∧ o ≤ 2147483647 ∧ -2147483648 ≤ st_ ∧ st_ ≤ 2147483647 ∧ True := hrg
    refine s_k_hours5_108 ?_
    repeat' (first
      | (exact True.intro)
      | (exact hpre.1)
      | (refine And.intro ?_ ?_)
      | (refine (ih _ (by omega) _ _ _ rfl ?_); (first | omega | trivial))
      | (refine hP _ ?_; (refine ⟨by omega, by omega, ?_⟩; (first | trivial | omega)))
      | omega
      | (intro _))
theorem lm_k_hours5_24 {Post : Option fw_V → fw_W → Prop} {d : Nat} {W : fw_W} {h fr bl dp : Int} (hpre : 0 ≤ h ∧ h < 14 ∧ 0 ≤ (fw_g W 12 0) ∧ (fw_g W 12 0) ≤ 14 ∧ dp = 5) (hP : ∀ (v : Int) , (-2147483648 ≤ v ∧ v ≤ 2147483647 ∧ (True)) → Post (some (.inl v)) W)  : ∀ (m : Nat) (fil o : Int), ((fw_g W 12 0) - o).toNat = m → 0 ≤ o ∧ 0 ≤ fil ∧ fil ≤ o ∧ fil ≤ (fw_g W 12 0) ∧ dp < 14 → jf fw_T (d + 11) 105 24 [(0, .inr (.inl 223)), (1, .inl h), (2, .inl fr), (3, .inl bl), (4, .inl dp), (5, .inr (.inr 224)), (6, .inl fil), (7, .inl o)] [] W Post := by
  intro m
  induction m using Nat.strongRecOn with
  | ind m ih =>
    intro fil o hm hi
    refine jf_rng (fun hrg => ?_)
    have hrg : -2147483648 ≤ h ∧ h ≤ 2147483647 ∧ -2147483648 ≤ fr ∧ fr ≤ 2147483647 ∧ -2147483648 ≤ bl ∧ bl ≤ 2147483647 ∧ -2147483648 ≤ dp ∧ dp ≤ 2147483647 ∧ -2147483648 ≤ fil ∧ fil ≤ 2147483647 ∧ -2147483648 ≤ o ∧ o ≤ 2147483647 ∧ True := hrg
    refine s_k_hours5_24 ?_
    repeat' (first
      | (exact True.intro)
      | (exact hpre.1)
      | (refine And.intro ?_ ?_)
      | (refine (ih _ (by omega) _ _ rfl ?_); (first | omega | trivial))
      | (refine (lm_k_hours5_108 (h := h) (fr := fr) (bl := bl) (dp := dp) hpre hP _ _ _ _ rfl ?_); (first | omega | trivial))
      | (refine hP _ ?_; (refine ⟨by omega, by omega, ?_⟩; (first | trivial | omega)))
      | omega
      | (intro _))
def x_k_hours5 : fw_X := fun as W Q => match as with
  | [.inr (.inl s_), .inl h, .inl fr, .inl bl, .inl dp] => fw_if (Nat.beq s_ 223) ((0 ≤ h ∧ h < 14 ∧ 0 ≤ (fw_g W 12 0) ∧ (fw_g W 12 0) ≤ 14 ∧ dp = 5) ∧ (∀ (v : Int), (-2147483648 ≤ v ∧ v ≤ 2147483647 ∧ (True)) → Q (some (.inl v)) W))
  | _ => False
theorem x_k_hours5_ok (d : Nat) (as : List fw_V) (W : fw_W) (Q : Option fw_V → fw_W → Prop) (hx : x_k_hours5 as W Q) : jf fw_T (d + 11) 105 0 (fw_args 0 as) [] W Q := by
  unfold x_k_hours5 at hx
  split at hx
  · rename_i s_ h fr bl dp
    obtain ⟨e_, hpre, hQ⟩ := fw_if_ok hx
    have e_ := Nat.eq_of_beq_eq_true e_
    subst e_
    have hP := hQ
    refine s_k_hours5_0 ?_
    repeat' (first
      | (exact True.intro)
      | (exact hpre.1)
      | (refine And.intro ?_ ?_)
      | (refine (lm_k_hours5_24 (h := h) (fr := fr) (bl := bl) (dp := dp) hpre hP _ _ _ rfl ?_); (first | omega | trivial))
      | (refine (lm_k_hours5_108 (h := h) (fr := fr) (bl := bl) (dp := dp) hpre hP _ _ _ _ rfl ?_); (first | omega | trivial))
      | (refine hP _ ?_; (refine ⟨by omega, by omega, ?_⟩; (first | trivial | omega)))
      | omega
      | (intro _))
  · exact hx.elim

def ct_k_hours4 : List (Nat × fw_X) := [(106, x_k_insert), (113, x_k_streetBetween), (105, x_k_hours5)]
theorem ct_k_hours4_ok (d : Nat) : fw_cok fw_T (d + 11) ct_k_hours4 := by
  intro q hq as W Q h
  simp only [ct_k_hours4, List.mem_cons, List.not_mem_nil, or_false] at hq
  rcases hq with rfl | rfl | rfl
  · exact jc_of (x_k_insert_ok (d + 10) as W Q h)
  · exact jc_of (x_k_streetBetween_ok (d + 10) as W Q h)
  · exact jc_of (x_k_hours5_ok (d + 0) as W Q h)
theorem s_k_hours4_0 {Post : Option fw_V → fw_W → Prop} {d : Nat} {W : fw_W} {h fr bl dp : Int}
    (hw_ : ((dp < (14 : Int) → 0 ≤ dp ∧ dp < 14 ∧ (jf fw_T (d + 12) 105 24 [(0, .inr (.inl 223)), (1, .inl h), (2, .inl fr), (3, .inl bl), (4, .inl dp), (5, .inr (.inr 224)), (6, .inl (0 : Int)), (7, .inl (0 : Int))] [] W Post)) ∧ ((14 : Int) ≤ dp → (-2147483648 ≤ (0 : Int) → (0 : Int) ≤ 2147483647 → Post (some (.inl (0 : Int))) W)))) :
    jf fw_T (d + 12) 105 0 [(0, .inr (.inl 223)), (1, .inl h), (2, .inl fr), (3, .inl bl), (4, .inl dp)] [] W Post := fw_ok (n := 13) (ss := [(24, [0, 1, 2, 3, 4, 5, 6, 7]), (108, [5, 6, 7, 8])]) (hv := [89, 124]) fr_105_ok fv_tell_ok (ct_k_hours4_ok d) hw_

theorem s_k_hours4_108 {Post : Option fw_V → fw_W → Prop} {d : Nat} {W : fw_W} {fil o st_ : Int}
    (hw_ : ((fil ≤ st_ → (-2147483648 ≤ o → o ≤ 2147483647 → Post (some (.inl o)) W)) ∧ (st_ < fil → 0 ≤ st_ ∧ st_ < 14 ∧ (∀ v1 : Int, -2147483648 ≤ v1 → v1 ≤ 2147483647 → ∀ v2 : Int, -2147483648 ≤ v2 → v2 ≤ 2147483647 → -2147483648 ≤ st_ + (1 : Int) ∧ st_ + (1 : Int) ≤ 2147483647 ∧ (jf fw_T (d + 12) 105 108 [(5, .inr (.inr 224)), (6, .inl fil), (7, .inl (max o v2)), (8, .inl (st_ + (1 : Int)))] [] W Post))))) :
    jf fw_T (d + 12) 105 108 [(5, .inr (.inr 224)), (6, .inl fil), (7, .inl o), (8, .inl st_)] [] W Post := fw_ok (n := 14) (ss := [(24, [0, 1, 2, 3, 4, 5, 6, 7]), (108, [5, 6, 7, 8])]) (hv := [89, 124]) fr_105_ok fv_tell_ok (ct_k_hours4_ok d) hw_

theorem s_k_hours4_24 {Post : Option fw_V → fw_W → Prop} {d : Nat} {W : fw_W} {h fr bl dp fil o : Int}
    (hw_ : (0 ≤ (fw_g W 12 0) → (fw_g W 12 0) ≤ 14 → (((fw_g W 12 0) ≤ o → jf fw_T (d + 12) 105 108 [(5, .inr (.inr 224)), (6, .inl fil), (7, .inl (0 : Int)), (8, .inl (0 : Int))] [] W Post) ∧ (o < (fw_g W 12 0) → (0 ≤ h ∧ h < 14 ∧ 0 ≤ o ∧ o < 14) ∧ (∀ (r1 : Int), ((-2147483648 ≤ r1 ∧ r1 ≤ 2147483647 ∧ (True))) → ((r1 ≤ 0 → -2147483648 ≤ o + (1 : Int) ∧ o + (1 : Int) ≤ 2147483647 ∧ (jf fw_T (d + 12) 105 24 [(0, .inr (.inl 223)), (1, .inl h), (2, .inl fr), (3, .inl bl), (4, .inl dp), (5, .inr (.inr 224)), (6, .inl fil), (7, .inl (o + (1 : Int)))] [] W Post)) ∧ (0 < r1 → ((o = fr → -2147483648 ≤ o + (1 : Int) ∧ o + (1 : Int) ≤ 2147483647 ∧ (jf fw_T (d + 12) 105 24 [(0, .inr (.inl 223)), (1, .inl h), (2, .inl fr), (3, .inl bl), (4, .inl dp), (5, .inr (.inr 224)), (6, .inl fil), (7, .inl (o + (1 : Int)))] [] W Post)) ∧ (¬ o = fr → ((bl = 0 → -2147483648 ≤ dp + (1 : Int) ∧ dp + (1 : Int) ≤ 2147483647 ∧ ((0 ≤ o ∧ o < 14 ∧ 0 ≤ (fw_g W 12 0) ∧ (fw_g W 12 0) ≤ 14 ∧ (dp + (1 : Int)) = 5) ∧ (∀ (r2 : Int), ((-2147483648 ≤ r2 ∧ r2 ≤ 2147483647 ∧ (True))) → ∀ v3 : Int, -2147483648 ≤ v3 → v3 ≤ 2147483647 → (0 ≤ fil ∧ fil ≤ 13) ∧ (((True)) → -2147483648 ≤ fil + (1 : Int) ∧ fil + (1 : Int) ≤ 2147483647 ∧ (-2147483648 ≤ o + (1 : Int) ∧ o + (1 : Int) ≤ 2147483647 ∧ (jf fw_T (d + 12) 105 24 [(0, .inr (.inl 223)), (1, .inl h), (2, .inl fr), (3, .inl bl), (4, .inl dp), (5, .inr (.inr 224)), (6, .inl (fil + (1 : Int))), (7, .inl (o + (1 : Int)))] [] W Post)))))) ∧ (¬ bl = 0 → -2147483648 ≤ dp + (1 : Int) ∧ dp + (1 : Int) ≤ 2147483647 ∧ ((0 ≤ o ∧ o < 14 ∧ 0 ≤ (fw_g W 12 0) ∧ (fw_g W 12 0) ≤ 14 ∧ (dp + (1 : Int)) = 5) ∧ (∀ (r4 : Int), ((-2147483648 ≤ r4 ∧ r4 ≤ 2147483647 ∧ (True))) → ∀ v5 : Int, -2147483648 ≤ v5 → v5 ≤ 2147483647 → (0 ≤ fil ∧ fil ≤ 13) ∧ (((True)) → -2147483648 ≤ fil + (1 : Int) ∧ fil + (1 : Int) ≤ 2147483647 ∧ (-2147483648 ≤ o + (1 : Int) ∧ o + (1 : Int) ≤ 2147483647 ∧ (jf fw_T (d + 12) 105 24 [(0, .inr (.inl 223)), (1, .inl h), (2, .inl fr), (3, .inl bl), (4, .inl dp), (5, .inr (.inr 224)), (6, .inl (fil + (1 : Int))), (7, .inl (o + (1 : Int)))] [] W Post)))))))))))))))) :
    jf fw_T (d + 12) 105 24 [(0, .inr (.inl 223)), (1, .inl h), (2, .inl fr), (3, .inl bl), (4, .inl dp), (5, .inr (.inr 224)), (6, .inl fil), (7, .inl o)] [] W Post := fw_ok (n := 38) (ss := [(24, [0, 1, 2, 3, 4, 5, 6, 7]), (108, [5, 6, 7, 8])]) (hv := [89, 124]) fr_105_ok fv_tell_ok (ct_k_hours4_ok d) hw_

theorem lm_k_hours4_108 {Post : Option fw_V → fw_W → Prop} {d : Nat} {W : fw_W} {h fr bl dp : Int} (hpre : 0 ≤ h ∧ h < 14 ∧ 0 ≤ (fw_g W 12 0) ∧ (fw_g W 12 0) ≤ 14 ∧ dp = 4) (hP : ∀ (v : Int) , (-2147483648 ≤ v ∧ v ≤ 2147483647 ∧ (True)) → Post (some (.inl v)) W)  : ∀ (m : Nat) (fil o st_ : Int), (fil - st_).toNat = m → 0 ≤ st_ ∧ fil ≤ 14 → jf fw_T (d + 12) 105 108 [(5, .inr (.inr 224)), (6, .inl fil), (7, .inl o), (8, .inl st_)] [] W Post := by
  intro m
  induction m using Nat.strongRecOn with
  | ind m ih =>
    intro fil o st_ hm hi
    refine jf_rng (fun hrg => ?_)
    have hrg : -2147483648 ≤ fil ∧ fil ≤ 2147483647 ∧ -2147483648 ≤ o ∧ o ≤ 2147483647 ∧ -2147483648 ≤ st_ ∧ st_ ≤ 2147483647 ∧ True := hrg
    refine s_k_hours4_108 ?_
    repeat' (first
      | (exact True.intro)
      | (exact hpre.1)
      | (refine And.intro ?_ ?_)
      | (refine (ih _ (by omega) _ _ _ rfl ?_); (first | omega | trivial))
      | (refine hP _ ?_; (refine ⟨by omega, by omega, ?_⟩; (first | trivial | omega)))
      | omega
      | (intro _))
theorem lm_k_hours4_24 {Post : Option fw_V → fw_W → Prop} {d : Nat} {W : fw_W} {h fr bl dp : Int} (hpre : 0 ≤ h ∧ h < 14 ∧ 0 ≤ (fw_g W 12 0) ∧ (fw_g W 12 0) ≤ 14 ∧ dp = 4) (hP : ∀ (v : Int) , (-2147483648 ≤ v ∧ v ≤ 2147483647 ∧ (True)) → Post (some (.inl v)) W)  : ∀ (m : Nat) (fil o : Int), ((fw_g W 12 0) - o).toNat = m → 0 ≤ o ∧ 0 ≤ fil ∧ fil ≤ o ∧ fil ≤ (fw_g W 12 0) ∧ dp < 14 → jf fw_T (d + 12) 105 24 [(0, .inr (.inl 223)), (1, .inl h), (2, .inl fr), (3, .inl bl), (4, .inl dp), (5, .inr (.inr 224)), (6, .inl fil), (7, .inl o)] [] W Post := by
  intro m
  induction m using Nat.strongRecOn with
  | ind m ih =>
    intro fil o hm hi
    refine jf_rng (fun hrg => ?_)
    have hrg : -2147483648 ≤ h ∧ h ≤ 2147483647 ∧ -2147483648 ≤ fr ∧ fr ≤ 2147483647 ∧ -2147483648 ≤ bl ∧ bl ≤ 2147483647 ∧ -2147483648 ≤ dp ∧ dp ≤ 2147483647 ∧ -2147483648 ≤ fil ∧ fil ≤ 2147483647 ∧ -2147483648 ≤ o ∧ o ≤ 2147483647 ∧ True := hrg
    refine s_k_hours4_24 ?_
    repeat' (first
      | (exact True.intro)
      | (exact hpre.1)
      | (refine And.intro ?_ ?_)
      | (refine (ih _ (by omega) _ _ rfl ?_); (first | omega | trivial))
      | (refine (lm_k_hours4_108 (h := h) (fr := fr) (bl := bl) (dp := dp) hpre hP _ _ _ _ rfl ?_); (first | omega | trivial))
      | (refine hP _ ?_; (refine ⟨by omega, by omega, ?_⟩; (first | trivial | omega)))
      | omega
      | (intro _))
def x_k_hours4 : fw_X := fun as W Q => match as with
  | [.inr (.inl s_), .inl h, .inl fr, .inl bl, .inl dp] => fw_if (Nat.beq s_ 223) ((0 ≤ h ∧ h < 14 ∧ 0 ≤ (fw_g W 12 0) ∧ (fw_g W 12 0) ≤ 14 ∧ dp = 4) ∧ (∀ (v : Int), (-2147483648 ≤ v ∧ v ≤ 2147483647 ∧ (True)) → Q (some (.inl v)) W))
  | _ => False
theorem x_k_hours4_ok (d : Nat) (as : List fw_V) (W : fw_W) (Q : Option fw_V → fw_W → Prop) (hx : x_k_hours4 as W Q) : jf fw_T (d + 12) 105 0 (fw_args 0 as) [] W Q := by
  unfold x_k_hours4 at hx
  split at hx
  · rename_i s_ h fr bl dp
    obtain ⟨e_, hpre, hQ⟩ := fw_if_ok hx
    have e_ := Nat.eq_of_beq_eq_true e_
    subst e_
    have hP := hQ
    refine s_k_hours4_0 ?_
    repeat' (first
      | (exact True.intro)
      | (exact hpre.1)
      | (refine And.intro ?_ ?_)
      | (refine (lm_k_hours4_24 (h := h) (fr := fr) (bl := bl) (dp := dp) hpre hP _ _ _ rfl ?_); (first | omega | trivial))
      | (refine (lm_k_hours4_108 (h := h) (fr := fr) (bl := bl) (dp := dp) hpre hP _ _ _ _ rfl ?_); (first | omega | trivial))
      | (refine hP _ ?_; (refine ⟨by omega, by omega, ?_⟩; (first | trivial | omega)))
      | omega
      | (intro _))
  · exact hx.elim

def ct_k_hours3 : List (Nat × fw_X) := [(106, x_k_insert), (113, x_k_streetBetween), (105, x_k_hours4)]
theorem ct_k_hours3_ok (d : Nat) : fw_cok fw_T (d + 12) ct_k_hours3 := by
  intro q hq as W Q h
  simp only [ct_k_hours3, List.mem_cons, List.not_mem_nil, or_false] at hq
  rcases hq with rfl | rfl | rfl
  · exact jc_of (x_k_insert_ok (d + 11) as W Q h)
  · exact jc_of (x_k_streetBetween_ok (d + 11) as W Q h)
  · exact jc_of (x_k_hours4_ok (d + 0) as W Q h)
theorem s_k_hours3_0 {Post : Option fw_V → fw_W → Prop} {d : Nat} {W : fw_W} {h fr bl dp : Int}
    (hw_ : ((dp < (14 : Int) → 0 ≤ dp ∧ dp < 14 ∧ (jf fw_T (d + 13) 105 24 [(0, .inr (.inl 223)), (1, .inl h), (2, .inl fr), (3, .inl bl), (4, .inl dp), (5, .inr (.inr 224)), (6, .inl (0 : Int)), (7, .inl (0 : Int))] [] W Post)) ∧ ((14 : Int) ≤ dp → (-2147483648 ≤ (0 : Int) → (0 : Int) ≤ 2147483647 → Post (some (.inl (0 : Int))) W)))) :
    jf fw_T (d + 13) 105 0 [(0, .inr (.inl 223)), (1, .inl h), (2, .inl fr), (3, .inl bl), (4, .inl dp)] [] W Post := fw_ok (n := 13) (ss := [(24, [0, 1, 2, 3, 4, 5, 6, 7]), (108, [5, 6, 7, 8])]) (hv := [89, 124]) fr_105_ok fv_tell_ok (ct_k_hours3_ok d) hw_

theorem s_k_hours3_108 {Post : Option fw_V → fw_W → Prop} {d : Nat} {W : fw_W} {fil o st_ : Int}
    (hw_ : ((fil ≤ st_ → (-2147483648 ≤ o → o ≤ 2147483647 → Post (some (.inl o)) W)) ∧ (st_ < fil → 0 ≤ st_ ∧ st_ < 14 ∧ (∀ v1 : Int, -2147483648 ≤ v1 → v1 ≤ 2147483647 → ∀ v2 : Int, -2147483648 ≤ v2 → v2 ≤ 2147483647 → -2147483648 ≤ st_ + (1 : Int) ∧ st_ + (1 : Int) ≤ 2147483647 ∧ (jf fw_T (d + 13) 105 108 [(5, .inr (.inr 224)), (6, .inl fil), (7, .inl (max o v2)), (8, .inl (st_ + (1 : Int)))] [] W Post))))) :
    jf fw_T (d + 13) 105 108 [(5, .inr (.inr 224)), (6, .inl fil), (7, .inl o), (8, .inl st_)] [] W Post := fw_ok (n := 14) (ss := [(24, [0, 1, 2, 3, 4, 5, 6, 7]), (108, [5, 6, 7, 8])]) (hv := [89, 124]) fr_105_ok fv_tell_ok (ct_k_hours3_ok d) hw_

theorem s_k_hours3_24 {Post : Option fw_V → fw_W → Prop} {d : Nat} {W : fw_W} {h fr bl dp fil o : Int}
    (hw_ : (0 ≤ (fw_g W 12 0) → (fw_g W 12 0) ≤ 14 → (((fw_g W 12 0) ≤ o → jf fw_T (d + 13) 105 108 [(5, .inr (.inr 224)), (6, .inl fil), (7, .inl (0 : Int)), (8, .inl (0 : Int))] [] W Post) ∧ (o < (fw_g W 12 0) → (0 ≤ h ∧ h < 14 ∧ 0 ≤ o ∧ o < 14) ∧ (∀ (r1 : Int), ((-2147483648 ≤ r1 ∧ r1 ≤ 2147483647 ∧ (True))) → ((r1 ≤ 0 → -2147483648 ≤ o + (1 : Int) ∧ o + (1 : Int) ≤ 2147483647 ∧ (jf fw_T (d + 13) 105 24 [(0, .inr (.inl 223)), (1, .inl h), (2, .inl fr), (3, .inl bl), (4, .inl dp), (5, .inr (.inr 224)), (6, .inl fil), (7, .inl (o + (1 : Int)))] [] W Post)) ∧ (0 < r1 → ((o = fr → -2147483648 ≤ o + (1 : Int) ∧ o + (1 : Int) ≤ 2147483647 ∧ (jf fw_T (d + 13) 105 24 [(0, .inr (.inl 223)), (1, .inl h), (2, .inl fr), (3, .inl bl), (4, .inl dp), (5, .inr (.inr 224)), (6, .inl fil), (7, .inl (o + (1 : Int)))] [] W Post)) ∧ (¬ o = fr → ((bl = 0 → -2147483648 ≤ dp + (1 : Int) ∧ dp + (1 : Int) ≤ 2147483647 ∧ ((0 ≤ o ∧ o < 14 ∧ 0 ≤ (fw_g W 12 0) ∧ (fw_g W 12 0) ≤ 14 ∧ (dp + (1 : Int)) = 4) ∧ (∀ (r2 : Int), ((-2147483648 ≤ r2 ∧ r2 ≤ 2147483647 ∧ (True))) → ∀ v3 : Int, -2147483648 ≤ v3 → v3 ≤ 2147483647 → (0 ≤ fil ∧ fil ≤ 13) ∧ (((True)) → -2147483648 ≤ fil + (1 : Int) ∧ fil + (1 : Int) ≤ 2147483647 ∧ (-2147483648 ≤ o + (1 : Int) ∧ o + (1 : Int) ≤ 2147483647 ∧ (jf fw_T (d + 13) 105 24 [(0, .inr (.inl 223)), (1, .inl h), (2, .inl fr), (3, .inl bl), (4, .inl dp), (5, .inr (.inr 224)), (6, .inl (fil + (1 : Int))), (7, .inl (o + (1 : Int)))] [] W Post)))))) ∧ (¬ bl = 0 → -2147483648 ≤ dp + (1 : Int) ∧ dp + (1 : Int) ≤ 2147483647 ∧ ((0 ≤ o ∧ o < 14 ∧ 0 ≤ (fw_g W 12 0) ∧ (fw_g W 12 0) ≤ 14 ∧ (dp + (1 : Int)) = 4) ∧ (∀ (r4 : Int), ((-2147483648 ≤ r4 ∧ r4 ≤ 2147483647 ∧ (True))) → ∀ v5 : Int, -2147483648 ≤ v5 → v5 ≤ 2147483647 → (0 ≤ fil ∧ fil ≤ 13) ∧ (((True)) → -2147483648 ≤ fil + (1 : Int) ∧ fil + (1 : Int) ≤ 2147483647 ∧ (-2147483648 ≤ o + (1 : Int) ∧ o + (1 : Int) ≤ 2147483647 ∧ (jf fw_T (d + 13) 105 24 [(0, .inr (.inl 223)), (1, .inl h), (2, .inl fr), (3, .inl bl), (4, .inl dp), (5, .inr (.inr 224)), (6, .inl (fil + (1 : Int))), (7, .inl (o + (1 : Int)))] [] W Post)))))))))))))))) :
    jf fw_T (d + 13) 105 24 [(0, .inr (.inl 223)), (1, .inl h), (2, .inl fr), (3, .inl bl), (4, .inl dp), (5, .inr (.inr 224)), (6, .inl fil), (7, .inl o)] [] W Post := fw_ok (n := 38) (ss := [(24, [0, 1, 2, 3, 4, 5, 6, 7]), (108, [5, 6, 7, 8])]) (hv := [89, 124]) fr_105_ok fv_tell_ok (ct_k_hours3_ok d) hw_

theorem lm_k_hours3_108 {Post : Option fw_V → fw_W → Prop} {d : Nat} {W : fw_W} {h fr bl dp : Int} (hpre : 0 ≤ h ∧ h < 14 ∧ 0 ≤ (fw_g W 12 0) ∧ (fw_g W 12 0) ≤ 14 ∧ dp = 3) (hP : ∀ (v : Int) , (-2147483648 ≤ v ∧ v ≤ 2147483647 ∧ (True)) → Post (some (.inl v)) W)  : ∀ (m : Nat) (fil o st_ : Int), (fil - st_).toNat = m → 0 ≤ st_ ∧ fil ≤ 14 → jf fw_T (d + 13) 105 108 [(5, .inr (.inr 224)), (6, .inl fil), (7, .inl o), (8, .inl st_)] [] W Post := by
  intro m
  induction m using Nat.strongRecOn with
  | ind m ih =>
    intro fil o st_ hm hi
    refine jf_rng (fun hrg => ?_)
    have hrg : -2147483648 ≤ fil ∧ fil ≤ 2147483647 ∧ -2147483648 ≤ o ∧ o ≤ 2147483647 ∧ -2147483648 ≤ st_ ∧ st_ ≤ 2147483647 ∧ True := hrg
    refine s_k_hours3_108 ?_
    repeat' (first
      | (exact True.intro)
      | (exact hpre.1)
      | (refine And.intro ?_ ?_)
      | (refine (ih _ (by omega) _ _ _ rfl ?_); (first | omega | trivial))
      | (refine hP _ ?_; (refine ⟨by omega, by omega, ?_⟩; (first | trivial | omega)))
      | omega
      | (intro _))
theorem lm_k_hours3_24 {Post : Option fw_V → fw_W → Prop} {d : Nat} {W : fw_W} {h fr bl dp : Int} (hpre : 0 ≤ h ∧ h < 14 ∧ 0 ≤ (fw_g W 12 0) ∧ (fw_g W 12 0) ≤ 14 ∧ dp = 3) (hP : ∀ (v : Int) , (-2147483648 ≤ v ∧ v ≤ 2147483647 ∧ (True)) → Post (some (.inl v)) W)  : ∀ (m : Nat) (fil o : Int), ((fw_g W 12 0) - o).toNat = m → 0 ≤ o ∧ 0 ≤ fil ∧ fil ≤ o ∧ fil ≤ (fw_g W 12 0) ∧ dp < 14 → jf fw_T (d + 13) 105 24 [(0, .inr (.inl 223)), (1, .inl h), (2, .inl fr), (3, .inl bl), (4, .inl dp), (5, .inr (.inr 224)), (6, .inl fil), (7, .inl o)] [] W Post := by
  intro m
  induction m using Nat.strongRecOn with
  | ind m ih =>
    intro fil o hm hi
    refine jf_rng (fun hrg => ?_)
    have hrg : -2147483648 ≤ h ∧ h ≤ 2147483647 ∧ -2147483648 ≤ fr ∧ fr ≤ 2147483647 ∧ -2147483648 ≤ bl ∧ bl ≤ 2147483647 ∧ -2147483648 ≤ dp ∧ dp ≤ 2147483647 ∧ -2147483648 ≤ fil ∧ fil ≤ 2147483647 ∧ -2147483648 ≤ o ∧ o ≤ 2147483647 ∧ True := hrg
    refine s_k_hours3_24 ?_
    repeat' (first
      | (exact True.intro)
      | (exact hpre.1)
      | (refine And.intro ?_ ?_)
      | (refine (ih _ (by omega) _ _ rfl ?_); (first | omega | trivial))
      | (refine (lm_k_hours3_108 (h := h) (fr := fr) (bl := bl) (dp := dp) hpre hP _ _ _ _ rfl ?_); (first | omega | trivial))
      | (refine hP _ ?_; (refine ⟨by omega, by omega, ?_⟩; (first | trivial | omega)))
      | omega
      | (intro _))
def x_k_hours3 : fw_X := fun as W Q => match as with
  | [.inr (.inl s_), .inl h, .inl fr, .inl bl, .inl dp] => fw_if (Nat.beq s_ 223) ((0 ≤ h ∧ h < 14 ∧ 0 ≤ (fw_g W 12 0) ∧ (fw_g W 12 0) ≤ 14 ∧ dp = 3) ∧ (∀ (v : Int), (-2147483648 ≤ v ∧ v ≤ 2147483647 ∧ (True)) → Q (some (.inl v)) W))
  | _ => False
theorem x_k_hours3_ok (d : Nat) (as : List fw_V) (W : fw_W) (Q : Option fw_V → fw_W → Prop) (hx : x_k_hours3 as W Q) : jf fw_T (d + 13) 105 0 (fw_args 0 as) [] W Q := by
  unfold x_k_hours3 at hx
  split at hx
  · rename_i s_ h fr bl dp
    obtain ⟨e_, hpre, hQ⟩ := fw_if_ok hx
    have e_ := Nat.eq_of_beq_eq_true e_
    subst e_
    have hP := hQ
    refine s_k_hours3_0 ?_
    repeat' (first
      | (exact True.intro)
      | (exact hpre.1)
      | (refine And.intro ?_ ?_)
      | (refine (lm_k_hours3_24 (h := h) (fr := fr) (bl := bl) (dp := dp) hpre hP _ _ _ rfl ?_); (first | omega | trivial))
      | (refine (lm_k_hours3_108 (h := h) (fr := fr) (bl := bl) (dp := dp) hpre hP _ _ _ _ rfl ?_); (first | omega | trivial))
      | (refine hP _ ?_; (refine ⟨by omega, by omega, ?_⟩; (first | trivial | omega)))
      | omega
      | (intro _))
  · exact hx.elim

def ct_k_hours2 : List (Nat × fw_X) := [(106, x_k_insert), (113, x_k_streetBetween), (105, x_k_hours3)]
theorem ct_k_hours2_ok (d : Nat) : fw_cok fw_T (d + 13) ct_k_hours2 := by
  intro q hq as W Q h
  simp only [ct_k_hours2, List.mem_cons, List.not_mem_nil, or_false] at hq
  rcases hq with rfl | rfl | rfl
  · exact jc_of (x_k_insert_ok (d + 12) as W Q h)
  · exact jc_of (x_k_streetBetween_ok (d + 12) as W Q h)
  · exact jc_of (x_k_hours3_ok (d + 0) as W Q h)
theorem s_k_hours2_0 {Post : Option fw_V → fw_W → Prop} {d : Nat} {W : fw_W} {h fr bl dp : Int}
    (hw_ : ((dp < (14 : Int) → 0 ≤ dp ∧ dp < 14 ∧ (jf fw_T (d + 14) 105 24 [(0, .inr (.inl 223)), (1, .inl h), (2, .inl fr), (3, .inl bl), (4, .inl dp), (5, .inr (.inr 224)), (6, .inl (0 : Int)), (7, .inl (0 : Int))] [] W Post)) ∧ ((14 : Int) ≤ dp → (-2147483648 ≤ (0 : Int) → (0 : Int) ≤ 2147483647 → Post (some (.inl (0 : Int))) W)))) :
    jf fw_T (d + 14) 105 0 [(0, .inr (.inl 223)), (1, .inl h), (2, .inl fr), (3, .inl bl), (4, .inl dp)] [] W Post := fw_ok (n := 13) (ss := [(24, [0, 1, 2, 3, 4, 5, 6, 7]), (108, [5, 6, 7, 8])]) (hv := [89, 124]) fr_105_ok fv_tell_ok (ct_k_hours2_ok d) hw_

theorem s_k_hours2_108 {Post : Option fw_V → fw_W → Prop} {d : Nat} {W : fw_W} {fil o st_ : Int}
    (hw_ : ((fil ≤ st_ → (-2147483648 ≤ o → o ≤ 2147483647 → Post (some (.inl o)) W)) ∧ (st_ < fil → 0 ≤ st_ ∧ st_ < 14 ∧ (∀ v1 : Int, -2147483648 ≤ v1 → v1 ≤ 2147483647 → ∀ v2 : Int, -2147483648 ≤ v2 → v2 ≤ 2147483647 → -2147483648 ≤ st_ + (1 : Int) ∧ st_ + (1 : Int) ≤ 2147483647 ∧ (jf fw_T (d + 14) 105 108 [(5, .inr (.inr 224)), (6, .inl fil), (7, .inl (max o v2)), (8, .inl (st_ + (1 : Int)))] [] W Post))))) :
    jf fw_T (d + 14) 105 108 [(5, .inr (.inr 224)), (6, .inl fil), (7, .inl o), (8, .inl st_)] [] W Post := fw_ok (n := 14) (ss := [(24, [0, 1, 2, 3, 4, 5, 6, 7]), (108, [5, 6, 7, 8])]) (hv := [89, 124]) fr_105_ok fv_tell_ok (ct_k_hours2_ok d) hw_

theorem s_k_hours2_24 {Post : Option fw_V → fw_W → Prop} {d : Nat} {W : fw_W} {h fr bl dp fil o : Int}
    (hw_ : (0 ≤ (fw_g W 12 0) → (fw_g W 12 0) ≤ 14 → (((fw_g W 12 0) ≤ o → jf fw_T (d + 14) 105 108 [(5, .inr (.inr 224)), (6, .inl fil), (7, .inl (0 : Int)), (8, .inl (0 : Int))] [] W Post) ∧ (o < (fw_g W 12 0) → (0 ≤ h ∧ h < 14 ∧ 0 ≤ o ∧ o < 14) ∧ (∀ (r1 : Int), ((-2147483648 ≤ r1 ∧ r1 ≤ 2147483647 ∧ (True))) → ((r1 ≤ 0 → -2147483648 ≤ o + (1 : Int) ∧ o + (1 : Int) ≤ 2147483647 ∧ (jf fw_T (d + 14) 105 24 [(0, .inr (.inl 223)), (1, .inl h), (2, .inl fr), (3, .inl bl), (4, .inl dp), (5, .inr (.inr 224)), (6, .inl fil), (7, .inl (o + (1 : Int)))] [] W Post)) ∧ (0 < r1 → ((o = fr → -2147483648 ≤ o + (1 : Int) ∧ o + (1 : Int) ≤ 2147483647 ∧ (jf fw_T (d + 14) 105 24 [(0, .inr (.inl 223)), (1, .inl h), (2, .inl fr), (3, .inl bl), (4, .inl dp), (5, .inr (.inr 224)), (6, .inl fil), (7, .inl (o + (1 : Int)))] [] W Post)) ∧ (¬ o = fr → ((bl = 0 → -2147483648 ≤ dp + (1 : Int) ∧ dp + (1 : Int) ≤ 2147483647 ∧ ((0 ≤ o ∧ o < 14 ∧ 0 ≤ (fw_g W 12 0) ∧ (fw_g W 12 0) ≤ 14 ∧ (dp + (1 : Int)) = 3) ∧ (∀ (r2 : Int), ((-2147483648 ≤ r2 ∧ r2 ≤ 2147483647 ∧ (True))) → ∀ v3 : Int, -2147483648 ≤ v3 → v3 ≤ 2147483647 → (0 ≤ fil ∧ fil ≤ 13) ∧ (((True)) → -2147483648 ≤ fil + (1 : Int) ∧ fil + (1 : Int) ≤ 2147483647 ∧ (-2147483648 ≤ o + (1 : Int) ∧ o + (1 : Int) ≤ 2147483647 ∧ (jf fw_T (d + 14) 105 24 [(0, .inr (.inl 223)), (1, .inl h), (2, .inl fr), (3, .inl bl), (4, .inl dp), (5, .inr (.inr 224)), (6, .inl (fil + (1 : Int))), (7, .inl (o + (1 : Int)))] [] W Post)))))) ∧ (¬ bl = 0 → -2147483648 ≤ dp + (1 : Int) ∧ dp + (1 : Int) ≤ 2147483647 ∧ ((0 ≤ o ∧ o < 14 ∧ 0 ≤ (fw_g W 12 0) ∧ (fw_g W 12 0) ≤ 14 ∧ (dp + (1 : Int)) = 3) ∧ (∀ (r4 : Int), ((-2147483648 ≤ r4 ∧ r4 ≤ 2147483647 ∧ (True))) → ∀ v5 : Int, -2147483648 ≤ v5 → v5 ≤ 2147483647 → (0 ≤ fil ∧ fil ≤ 13) ∧ (((True)) → -2147483648 ≤ fil + (1 : Int) ∧ fil + (1 : Int) ≤ 2147483647 ∧ (-2147483648 ≤ o + (1 : Int) ∧ o + (1 : Int) ≤ 2147483647 ∧ (jf fw_T (d + 14) 105 24 [(0, .inr (.inl 223)), (1, .inl h), (2, .inl fr), (3, .inl bl), (4, .inl dp), (5, .inr (.inr 224)), (6, .inl (fil + (1 : Int))), (7, .inl (o + (1 : Int)))] [] W Post)))))))))))))))) :
    jf fw_T (d + 14) 105 24 [(0, .inr (.inl 223)), (1, .inl h), (2, .inl fr), (3, .inl bl), (4, .inl dp), (5, .inr (.inr 224)), (6, .inl fil), (7, .inl o)] [] W Post := fw_ok (n := 38) (ss := [(24, [0, 1, 2, 3, 4, 5, 6, 7]), (108, [5, 6, 7, 8])]) (hv := [89, 124]) fr_105_ok fv_tell_ok (ct_k_hours2_ok d) hw_

theorem lm_k_hours2_108 {Post : Option fw_V → fw_W → Prop} {d : Nat} {W : fw_W} {h fr bl dp : Int} (hpre : 0 ≤ h ∧ h < 14 ∧ 0 ≤ (fw_g W 12 0) ∧ (fw_g W 12 0) ≤ 14 ∧ dp = 2) (hP : ∀ (v : Int) , (-2147483648 ≤ v ∧ v ≤ 2147483647 ∧ (True)) → Post (some (.inl v)) W)  : ∀ (m : Nat) (fil o st_ : Int), (fil - st_).toNat = m → 0 ≤ st_ ∧ fil ≤ 14 → jf fw_T (d + 14) 105 108 [(5, .inr (.inr 224)), (6, .inl fil), (7, .inl o), (8, .inl st_)] [] W Post := by
  intro m
  induction m using Nat.strongRecOn with
  | ind m ih =>
    intro fil o st_ hm hi
    refine jf_rng (fun hrg => ?_)
    have hrg : -2147483648 ≤ fil ∧ fil ≤ 2147483647 ∧ -2147483648 ≤ o ∧ o ≤ 2147483647 ∧ -2147483648 ≤ st_ ∧ st_ ≤ 2147483647 ∧ True := hrg
    refine s_k_hours2_108 ?_
    repeat' (first
      | (exact True.intro)
      | (exact hpre.1)
      | (refine And.intro ?_ ?_)
      | (refine (ih _ (by omega) _ _ _ rfl ?_); (first | omega | trivial))
      | (refine hP _ ?_; (refine ⟨by omega, by omega, ?_⟩; (first | trivial | omega)))
      | omega
      | (intro _))
theorem lm_k_hours2_24 {Post : Option fw_V → fw_W → Prop} {d : Nat} {W : fw_W} {h fr bl dp : Int} (hpre : 0 ≤ h ∧ h < 14 ∧ 0 ≤ (fw_g W 12 0) ∧ (fw_g W 12 0) ≤ 14 ∧ dp = 2) (hP : ∀ (v : Int) , (-2147483648 ≤ v ∧ v ≤ 2147483647 ∧ (True)) → Post (some (.inl v)) W)  : ∀ (m : Nat) (fil o : Int), ((fw_g W 12 0) - o).toNat = m → 0 ≤ o ∧ 0 ≤ fil ∧ fil ≤ o ∧ fil ≤ (fw_g W 12 0) ∧ dp < 14 → jf fw_T (d + 14) 105 24 [(0, .inr (.inl 223)), (1, .inl h), (2, .inl fr), (3, .inl bl), (4, .inl dp), (5, .inr (.inr 224)), (6, .inl fil), (7, .inl o)] [] W Post := by
  intro m
  induction m using Nat.strongRecOn with
  | ind m ih =>
    intro fil o hm hi
    refine jf_rng (fun hrg => ?_)
    have hrg : -2147483648 ≤ h ∧ h ≤ 2147483647 ∧ -2147483648 ≤ fr ∧ fr ≤ 2147483647 ∧ -2147483648 ≤ bl ∧ bl ≤ 2147483647 ∧ -2147483648 ≤ dp ∧ dp ≤ 2147483647 ∧ -2147483648 ≤ fil ∧ fil ≤ 2147483647 ∧ -2147483648 ≤ o ∧ o ≤ 2147483647 ∧ True := hrg
    refine s_k_hours2_24 ?_
    repeat' (first
      | (exact True.intro)
      | (exact hpre.1)
      | (refine And.intro ?_ ?_)
      | (refine (ih _ (by omega) _ _ rfl ?_); (first | omega | trivial))
      | (refine (lm_k_hours2_108 (h := h) (fr := fr) (bl := bl) (dp := dp) hpre hP _ _ _ _ rfl ?_); (first | omega | trivial))
      | (refine hP _ ?_; (refine ⟨by omega, by omega, ?_⟩; (first | trivial | omega)))
      | omega
      | (intro _))
def x_k_hours2 : fw_X := fun as W Q => match as with
  | [.inr (.inl s_), .inl h, .inl fr, .inl bl, .inl dp] => fw_if (Nat.beq s_ 223) ((0 ≤ h ∧ h < 14 ∧ 0 ≤ (fw_g W 12 0) ∧ (fw_g W 12 0) ≤ 14 ∧ dp = 2) ∧ (∀ (v : Int), (-2147483648 ≤ v ∧ v ≤ 2147483647 ∧ (True)) → Q (some (.inl v)) W))
  | _ => False
theorem x_k_hours2_ok (d : Nat) (as : List fw_V) (W : fw_W) (Q : Option fw_V → fw_W → Prop) (hx : x_k_hours2 as W Q) : jf fw_T (d + 14) 105 0 (fw_args 0 as) [] W Q := by
  unfold x_k_hours2 at hx
  split at hx
  · rename_i s_ h fr bl dp
    obtain ⟨e_, hpre, hQ⟩ := fw_if_ok hx
    have e_ := Nat.eq_of_beq_eq_true e_
    subst e_
    have hP := hQ
    refine s_k_hours2_0 ?_
    repeat' (first
      | (exact True.intro)
      | (exact hpre.1)
      | (refine And.intro ?_ ?_)
      | (refine (lm_k_hours2_24 (h := h) (fr := fr) (bl := bl) (dp := dp) hpre hP _ _ _ rfl ?_); (first | omega | trivial))
      | (refine (lm_k_hours2_108 (h := h) (fr := fr) (bl := bl) (dp := dp) hpre hP _ _ _ _ rfl ?_); (first | omega | trivial))
      | (refine hP _ ?_; (refine ⟨by omega, by omega, ?_⟩; (first | trivial | omega)))
      | omega
      | (intro _))
  · exact hx.elim

def ct_k_hours1 : List (Nat × fw_X) := [(106, x_k_insert), (113, x_k_streetBetween), (105, x_k_hours2)]
theorem ct_k_hours1_ok (d : Nat) : fw_cok fw_T (d + 14) ct_k_hours1 := by
  intro q hq as W Q h
  simp only [ct_k_hours1, List.mem_cons, List.not_mem_nil, or_false] at hq
  rcases hq with rfl | rfl | rfl
  · exact jc_of (x_k_insert_ok (d + 13) as W Q h)
  · exact jc_of (x_k_streetBetween_ok (d + 13) as W Q h)
  · exact jc_of (x_k_hours2_ok (d + 0) as W Q h)
theorem s_k_hours1_0 {Post : Option fw_V → fw_W → Prop} {d : Nat} {W : fw_W} {h fr bl dp : Int}
    (hw_ : ((dp < (14 : Int) → 0 ≤ dp ∧ dp < 14 ∧ (jf fw_T (d + 15) 105 24 [(0, .inr (.inl 223)), (1, .inl h), (2, .inl fr), (3, .inl bl), (4, .inl dp), (5, .inr (.inr 224)), (6, .inl (0 : Int)), (7, .inl (0 : Int))] [] W Post)) ∧ ((14 : Int) ≤ dp → (-2147483648 ≤ (0 : Int) → (0 : Int) ≤ 2147483647 → Post (some (.inl (0 : Int))) W)))) :
    jf fw_T (d + 15) 105 0 [(0, .inr (.inl 223)), (1, .inl h), (2, .inl fr), (3, .inl bl), (4, .inl dp)] [] W Post := fw_ok (n := 13) (ss := [(24, [0, 1, 2, 3, 4, 5, 6, 7]), (108, [5, 6, 7, 8])]) (hv := [89, 124]) fr_105_ok fv_tell_ok (ct_k_hours1_ok d) hw_

theorem s_k_hours1_108 {Post : Option fw_V → fw_W → Prop} {d : Nat} {W : fw_W} {fil o st_ : Int}
    (hw_ : ((fil ≤ st_ → (-2147483648 ≤ o → o ≤ 2147483647 → Post (some (.inl o)) W)) ∧ (st_ < fil → 0 ≤ st_ ∧ st_ < 14 ∧ (∀ v1 : Int, -2147483648 ≤ v1 → v1 ≤ 2147483647 → ∀ v2 : Int, -2147483648 ≤ v2 → v2 ≤ 2147483647 → -2147483648 ≤ st_ + (1 : Int) ∧ st_ + (1 : Int) ≤ 2147483647 ∧ (jf fw_T (d + 15) 105 108 [(5, .inr (.inr 224)), (6, .inl fil), (7, .inl (max o v2)), (8, .inl (st_ + (1 : Int)))] [] W Post))))) :
    jf fw_T (d + 15) 105 108 [(5, .inr (.inr 224)), (6, .inl fil), (7, .inl o), (8, .inl st_)] [] W Post := fw_ok (n := 14) (ss := [(24, [0, 1, 2, 3, 4, 5, 6, 7]), (108, [5, 6, 7, 8])]) (hv := [89, 124]) fr_105_ok fv_tell_ok (ct_k_hours1_ok d) hw_

theorem s_k_hours1_24 {Post : Option fw_V → fw_W → Prop} {d : Nat} {W : fw_W} {h fr bl dp fil o : Int}
    (hw_ : (0 ≤ (fw_g W 12 0) → (fw_g W 12 0) ≤ 14 → (((fw_g W 12 0) ≤ o → jf fw_T (d + 15) 105 108 [(5, .inr (.inr 224)), (6, .inl fil), (7, .inl (0 : Int)), (8, .inl (0 : Int))] [] W Post) ∧ (o < (fw_g W 12 0) → (0 ≤ h ∧ h < 14 ∧ 0 ≤ o ∧ o < 14) ∧ (∀ (r1 : Int), ((-2147483648 ≤ r1 ∧ r1 ≤ 2147483647 ∧ (True))) → ((r1 ≤ 0 → -2147483648 ≤ o + (1 : Int) ∧ o + (1 : Int) ≤ 2147483647 ∧ (jf fw_T (d + 15) 105 24 [(0, .inr (.inl 223)), (1, .inl h), (2, .inl fr), (3, .inl bl), (4, .inl dp), (5, .inr (.inr 224)), (6, .inl fil), (7, .inl (o + (1 : Int)))] [] W Post)) ∧ (0 < r1 → ((o = fr → -2147483648 ≤ o + (1 : Int) ∧ o + (1 : Int) ≤ 2147483647 ∧ (jf fw_T (d + 15) 105 24 [(0, .inr (.inl 223)), (1, .inl h), (2, .inl fr), (3, .inl bl), (4, .inl dp), (5, .inr (.inr 224)), (6, .inl fil), (7, .inl (o + (1 : Int)))] [] W Post)) ∧ (¬ o = fr → ((bl = 0 → -2147483648 ≤ dp + (1 : Int) ∧ dp + (1 : Int) ≤ 2147483647 ∧ ((0 ≤ o ∧ o < 14 ∧ 0 ≤ (fw_g W 12 0) ∧ (fw_g W 12 0) ≤ 14 ∧ (dp + (1 : Int)) = 2) ∧ (∀ (r2 : Int), ((-2147483648 ≤ r2 ∧ r2 ≤ 2147483647 ∧ (True))) → ∀ v3 : Int, -2147483648 ≤ v3 → v3 ≤ 2147483647 → (0 ≤ fil ∧ fil ≤ 13) ∧ (((True)) → -2147483648 ≤ fil + (1 : Int) ∧ fil + (1 : Int) ≤ 2147483647 ∧ (-2147483648 ≤ o + (1 : Int) ∧ o + (1 : Int) ≤ 2147483647 ∧ (jf fw_T (d + 15) 105 24 [(0, .inr (.inl 223)), (1, .inl h), (2, .inl fr), (3, .inl bl), (4, .inl dp), (5, .inr (.inr 224)), (6, .inl (fil + (1 : Int))), (7, .inl (o + (1 : Int)))] [] W Post)))))) ∧ (¬ bl = 0 → -2147483648 ≤ dp + (1 : Int) ∧ dp + (1 : Int) ≤ 2147483647 ∧ ((0 ≤ o ∧ o < 14 ∧ 0 ≤ (fw_g W 12 0) ∧ (fw_g W 12 0) ≤ 14 ∧ (dp + (1 : Int)) = 2) ∧ (∀ (r4 : Int), ((-2147483648 ≤ r4 ∧ r4 ≤ 2147483647 ∧ (True))) → ∀ v5 : Int, -2147483648 ≤ v5 → v5 ≤ 2147483647 → (0 ≤ fil ∧ fil ≤ 13) ∧ (((True)) → -2147483648 ≤ fil + (1 : Int) ∧ fil + (1 : Int) ≤ 2147483647 ∧ (-2147483648 ≤ o + (1 : Int) ∧ o + (1 : Int) ≤ 2147483647 ∧ (jf fw_T (d + 15) 105 24 [(0, .inr (.inl 223)), (1, .inl h), (2, .inl fr), (3, .inl bl), (4, .inl dp), (5, .inr (.inr 224)), (6, .inl (fil + (1 : Int))), (7, .inl (o + (1 : Int)))] [] W Post)))))))))))))))) :
    jf fw_T (d + 15) 105 24 [(0, .inr (.inl 223)), (1, .inl h), (2, .inl fr), (3, .inl bl), (4, .inl dp), (5, .inr (.inr 224)), (6, .inl fil), (7, .inl o)] [] W Post := fw_ok (n := 38) (ss := [(24, [0, 1, 2, 3, 4, 5, 6, 7]), (108, [5, 6, 7, 8])]) (hv := [89, 124]) fr_105_ok fv_tell_ok (ct_k_hours1_ok d) hw_

theorem lm_k_hours1_108 {Post : Option fw_V → fw_W → Prop} {d : Nat} {W : fw_W} {h fr bl dp : Int} (hpre : 0 ≤ h ∧ h < 14 ∧ 0 ≤ (fw_g W 12 0) ∧ (fw_g W 12 0) ≤ 14 ∧ dp = 1) (hP : ∀ (v : Int) , (-2147483648 ≤ v ∧ v ≤ 2147483647 ∧ (True)) → Post (some (.inl v)) W)  : ∀ (m : Nat) (fil o st_ : Int), (fil - st_).toNat = m → 0 ≤ st_ ∧ fil ≤ 14 → jf fw_T (d + 15) 105 108 [(5, .inr (.inr 224)), (6, .inl fil), (7, .inl o), (8, .inl st_)] [] W Post := by
  intro m
  induction m using Nat.strongRecOn with
  | ind m ih =>
    intro fil o st_ hm hi
    refine jf_rng (fun hrg => ?_)
    have hrg : -2147483648 ≤ fil ∧ fil ≤ 2147483647 ∧ -2147483648 ≤ o ∧ o ≤ 2147483647 ∧ -2147483648 ≤ st_ ∧ st_ ≤ 2147483647 ∧ True := hrg
    refine s_k_hours1_108 ?_
    repeat' (first
      | (exact True.intro)
      | (exact hpre.1)
      | (refine And.intro ?_ ?_)
      | (refine (ih _ (by omega) _ _ _ rfl ?_); (first | omega | trivial))
      | (refine hP _ ?_; (refine ⟨by omega, by omega, ?_⟩; (first | trivial | omega)))
      | omega
      | (intro _))
theorem lm_k_hours1_24 {Post : Option fw_V → fw_W → Prop} {d : Nat} {W : fw_W} {h fr bl dp : Int} (hpre : 0 ≤ h ∧ h < 14 ∧ 0 ≤ (fw_g W 12 0) ∧ (fw_g W 12 0) ≤ 14 ∧ dp = 1) (hP : ∀ (v : Int) , (-2147483648 ≤ v ∧ v ≤ 2147483647 ∧ (True)) → Post (some (.inl v)) W)  : ∀ (m : Nat) (fil o : Int), ((fw_g W 12 0) - o).toNat = m → 0 ≤ o ∧ 0 ≤ fil ∧ fil ≤ o ∧ fil ≤ (fw_g W 12 0) ∧ dp < 14 → jf fw_T (d + 15) 105 24 [(0, .inr (.inl 223)), (1, .inl h), (2, .inl fr), (3, .inl bl), (4, .inl dp), (5, .inr (.inr 224)), (6, .inl fil), (7, .inl o)] [] W Post := by
  intro m
  induction m using Nat.strongRecOn with
  | ind m ih =>
    intro fil o hm hi
    refine jf_rng (fun hrg => ?_)
    have hrg : -2147483648 ≤ h ∧ h ≤ 2147483647 ∧ -2147483648 ≤ fr ∧ fr ≤ 2147483647 ∧ -2147483648 ≤ bl ∧ bl ≤ 2147483647 ∧ -2147483648 ≤ dp ∧ dp ≤ 2147483647 ∧ -2147483648 ≤ fil ∧ fil ≤ 2147483647 ∧ -2147483648 ≤ o ∧ o ≤ 2147483647 ∧ True := hrg
    refine s_k_hours1_24 ?_
    repeat' (first
      | (exact True.intro)
      | (exact hpre.1)
      | (refine And.intro ?_ ?_)
      | (refine (ih _ (by omega) _ _ rfl ?_); (first | omega | trivial))
      | (refine (lm_k_hours1_108 (h := h) (fr := fr) (bl := bl) (dp := dp) hpre hP _ _ _ _ rfl ?_); (first | omega | trivial))
      | (refine hP _ ?_; (refine ⟨by omega, by omega, ?_⟩; (first | trivial | omega)))
      | omega
      | (intro _))
def x_k_hours1 : fw_X := fun as W Q => match as with
  | [.inr (.inl s_), .inl h, .inl fr, .inl bl, .inl dp] => fw_if (Nat.beq s_ 223) ((0 ≤ h ∧ h < 14 ∧ 0 ≤ (fw_g W 12 0) ∧ (fw_g W 12 0) ≤ 14 ∧ dp = 1) ∧ (∀ (v : Int), (-2147483648 ≤ v ∧ v ≤ 2147483647 ∧ (True)) → Q (some (.inl v)) W))
  | _ => False
theorem x_k_hours1_ok (d : Nat) (as : List fw_V) (W : fw_W) (Q : Option fw_V → fw_W → Prop) (hx : x_k_hours1 as W Q) : jf fw_T (d + 15) 105 0 (fw_args 0 as) [] W Q := by
  unfold x_k_hours1 at hx
  split at hx
  · rename_i s_ h fr bl dp
    obtain ⟨e_, hpre, hQ⟩ := fw_if_ok hx
    have e_ := Nat.eq_of_beq_eq_true e_
    subst e_
    have hP := hQ
    refine s_k_hours1_0 ?_
    repeat' (first
      | (exact True.intro)
      | (exact hpre.1)
      | (refine And.intro ?_ ?_)
      | (refine (lm_k_hours1_24 (h := h) (fr := fr) (bl := bl) (dp := dp) hpre hP _ _ _ rfl ?_); (first | omega | trivial))
      | (refine (lm_k_hours1_108 (h := h) (fr := fr) (bl := bl) (dp := dp) hpre hP _ _ _ _ rfl ?_); (first | omega | trivial))
      | (refine hP _ ?_; (refine ⟨by omega, by omega, ?_⟩; (first | trivial | omega)))
      | omega
      | (intro _))
  · exact hx.elim

def ct_k_hours0 : List (Nat × fw_X) := [(106, x_k_insert), (113, x_k_streetBetween), (105, x_k_hours1)]
theorem ct_k_hours0_ok (d : Nat) : fw_cok fw_T (d + 15) ct_k_hours0 := by
  intro q hq as W Q h
  simp only [ct_k_hours0, List.mem_cons, List.not_mem_nil, or_false] at hq
  rcases hq with rfl | rfl | rfl
  · exact jc_of (x_k_insert_ok (d + 14) as W Q h)
  · exact jc_of (x_k_streetBetween_ok (d + 14) as W Q h)
  · exact jc_of (x_k_hours1_ok (d + 0) as W Q h)
theorem s_k_hours0_0 {Post : Option fw_V → fw_W → Prop} {d : Nat} {W : fw_W} {h fr bl dp : Int}
    (hw_ : ((dp < (14 : Int) → 0 ≤ dp ∧ dp < 14 ∧ (jf fw_T (d + 16) 105 24 [(0, .inr (.inl 223)), (1, .inl h), (2, .inl fr), (3, .inl bl), (4, .inl dp), (5, .inr (.inr 224)), (6, .inl (0 : Int)), (7, .inl (0 : Int))] [] W Post)) ∧ ((14 : Int) ≤ dp → (-2147483648 ≤ (0 : Int) → (0 : Int) ≤ 2147483647 → Post (some (.inl (0 : Int))) W)))) :
    jf fw_T (d + 16) 105 0 [(0, .inr (.inl 223)), (1, .inl h), (2, .inl fr), (3, .inl bl), (4, .inl dp)] [] W Post := fw_ok (n := 13) (ss := [(24, [0, 1, 2, 3, 4, 5, 6, 7]), (108, [5, 6, 7, 8])]) (hv := [89, 124]) fr_105_ok fv_tell_ok (ct_k_hours0_ok d) hw_

theorem s_k_hours0_108 {Post : Option fw_V → fw_W → Prop} {d : Nat} {W : fw_W} {fil o st_ : Int}
    (hw_ : ((fil ≤ st_ → (-2147483648 ≤ o → o ≤ 2147483647 → Post (some (.inl o)) W)) ∧ (st_ < fil → 0 ≤ st_ ∧ st_ < 14 ∧ (∀ v1 : Int, -2147483648 ≤ v1 → v1 ≤ 2147483647 → ∀ v2 : Int, -2147483648 ≤ v2 → v2 ≤ 2147483647 → -2147483648 ≤ st_ + (1 : Int) ∧ st_ + (1 : Int) ≤ 2147483647 ∧ (jf fw_T (d + 16) 105 108 [(5, .inr (.inr 224)), (6, .inl fil), (7, .inl (max o v2)), (8, .inl (st_ + (1 : Int)))] [] W Post))))) :
    jf fw_T (d + 16) 105 108 [(5, .inr (.inr 224)), (6, .inl fil), (7, .inl o), (8, .inl st_)] [] W Post := fw_ok (n := 14) (ss := [(24, [0, 1, 2, 3, 4, 5, 6, 7]), (108, [5, 6, 7, 8])]) (hv := [89, 124]) fr_105_ok fv_tell_ok (ct_k_hours0_ok d) hw_

theorem s_k_hours0_24 {Post : Option fw_V → fw_W → Prop} {d : Nat} {W : fw_W} {h fr bl dp fil o : Int}
    (hw_ : (0 ≤ (fw_g W 12 0) → (fw_g W 12 0) ≤ 14 → (((fw_g W 12 0) ≤ o → jf fw_T (d + 16) 105 108 [(5, .inr (.inr 224)), (6, .inl fil), (7, .inl (0 : Int)), (8, .inl (0 : Int))] [] W Post) ∧ (o < (fw_g W 12 0) → (0 ≤ h ∧ h < 14 ∧ 0 ≤ o ∧ o < 14) ∧ (∀ (r1 : Int), ((-2147483648 ≤ r1 ∧ r1 ≤ 2147483647 ∧ (True))) → ((r1 ≤ 0 → -2147483648 ≤ o + (1 : Int) ∧ o + (1 : Int) ≤ 2147483647 ∧ (jf fw_T (d + 16) 105 24 [(0, .inr (.inl 223)), (1, .inl h), (2, .inl fr), (3, .inl bl), (4, .inl dp), (5, .inr (.inr 224)), (6, .inl fil), (7, .inl (o + (1 : Int)))] [] W Post)) ∧ (0 < r1 → ((o = fr → -2147483648 ≤ o + (1 : Int) ∧ o + (1 : Int) ≤ 2147483647 ∧ (jf fw_T (d + 16) 105 24 [(0, .inr (.inl 223)), (1, .inl h), (2, .inl fr), (3, .inl bl), (4, .inl dp), (5, .inr (.inr 224)), (6, .inl fil), (7, .inl (o + (1 : Int)))] [] W Post)) ∧ (¬ o = fr → ((bl = 0 → -2147483648 ≤ dp + (1 : Int) ∧ dp + (1 : Int) ≤ 2147483647 ∧ ((0 ≤ o ∧ o < 14 ∧ 0 ≤ (fw_g W 12 0) ∧ (fw_g W 12 0) ≤ 14 ∧ (dp + (1 : Int)) = 1) ∧ (∀ (r2 : Int), ((-2147483648 ≤ r2 ∧ r2 ≤ 2147483647 ∧ (True))) → ∀ v3 : Int, -2147483648 ≤ v3 → v3 ≤ 2147483647 → (0 ≤ fil ∧ fil ≤ 13) ∧ (((True)) → -2147483648 ≤ fil + (1 : Int) ∧ fil + (1 : Int) ≤ 2147483647 ∧ (-2147483648 ≤ o + (1 : Int) ∧ o + (1 : Int) ≤ 2147483647 ∧ (jf fw_T (d + 16) 105 24 [(0, .inr (.inl 223)), (1, .inl h), (2, .inl fr), (3, .inl bl), (4, .inl dp), (5, .inr (.inr 224)), (6, .inl (fil + (1 : Int))), (7, .inl (o + (1 : Int)))] [] W Post)))))) ∧ (¬ bl = 0 → -2147483648 ≤ dp + (1 : Int) ∧ dp + (1 : Int) ≤ 2147483647 ∧ ((0 ≤ o ∧ o < 14 ∧ 0 ≤ (fw_g W 12 0) ∧ (fw_g W 12 0) ≤ 14 ∧ (dp + (1 : Int)) = 1) ∧ (∀ (r4 : Int), ((-2147483648 ≤ r4 ∧ r4 ≤ 2147483647 ∧ (True))) → ∀ v5 : Int, -2147483648 ≤ v5 → v5 ≤ 2147483647 → (0 ≤ fil ∧ fil ≤ 13) ∧ (((True)) → -2147483648 ≤ fil + (1 : Int) ∧ fil + (1 : Int) ≤ 2147483647 ∧ (-2147483648 ≤ o + (1 : Int) ∧ o + (1 : Int) ≤ 2147483647 ∧ (jf fw_T (d + 16) 105 24 [(0, .inr (.inl 223)), (1, .inl h), (2, .inl fr), (3, .inl bl), (4, .inl dp), (5, .inr (.inr 224)), (6, .inl (fil + (1 : Int))), (7, .inl (o + (1 : Int)))] [] W Post)))))))))))))))) :
    jf fw_T (d + 16) 105 24 [(0, .inr (.inl 223)), (1, .inl h), (2, .inl fr), (3, .inl bl), (4, .inl dp), (5, .inr (.inr 224)), (6, .inl fil), (7, .inl o)] [] W Post := fw_ok (n := 38) (ss := [(24, [0, 1, 2, 3, 4, 5, 6, 7]), (108, [5, 6, 7, 8])]) (hv := [89, 124]) fr_105_ok fv_tell_ok (ct_k_hours0_ok d) hw_

theorem lm_k_hours0_108 {Post : Option fw_V → fw_W → Prop} {d : Nat} {W : fw_W} {h fr bl dp : Int} (hpre : 0 ≤ h ∧ h < 14 ∧ 0 ≤ (fw_g W 12 0) ∧ (fw_g W 12 0) ≤ 14 ∧ dp = 0) (hP : ∀ (v : Int) , (-2147483648 ≤ v ∧ v ≤ 2147483647 ∧ (True)) → Post (some (.inl v)) W)  : ∀ (m : Nat) (fil o st_ : Int), (fil - st_).toNat = m → 0 ≤ st_ ∧ fil ≤ 14 → jf fw_T (d + 16) 105 108 [(5, .inr (.inr 224)), (6, .inl fil), (7, .inl o), (8, .inl st_)] [] W Post := by
  intro m
  induction m using Nat.strongRecOn with
  | ind m ih =>
    intro fil o st_ hm hi
    refine jf_rng (fun hrg => ?_)
    have hrg : -2147483648 ≤ fil ∧ fil ≤ 2147483647 ∧ -2147483648 ≤ o ∧ o ≤ 2147483647 ∧ -2147483648 ≤ st_ ∧ st_ ≤ 2147483647 ∧ True := hrg
    refine s_k_hours0_108 ?_
    repeat' (first
      | (exact True.intro)
      | (exact hpre.1)
      | (refine And.intro ?_ ?_)
      | (refine (ih _ (by omega) _ _ _ rfl ?_); (first | omega | trivial))
      | (refine hP _ ?_; (refine ⟨by omega, by omega, ?_⟩; (first | trivial | omega)))
      | omega
      | (intro _))
theorem lm_k_hours0_24 {Post : Option fw_V → fw_W → Prop} {d : Nat} {W : fw_W} {h fr bl dp : Int} (hpre : 0 ≤ h ∧ h < 14 ∧ 0 ≤ (fw_g W 12 0) ∧ (fw_g W 12 0) ≤ 14 ∧ dp = 0) (hP : ∀ (v : Int) , (-2147483648 ≤ v ∧ v ≤ 2147483647 ∧ (True)) → Post (some (.inl v)) W)  : ∀ (m : Nat) (fil o : Int), ((fw_g W 12 0) - o).toNat = m → 0 ≤ o ∧ 0 ≤ fil ∧ fil ≤ o ∧ fil ≤ (fw_g W 12 0) ∧ dp < 14 → jf fw_T (d + 16) 105 24 [(0, .inr (.inl 223)), (1, .inl h), (2, .inl fr), (3, .inl bl), (4, .inl dp), (5, .inr (.inr 224)), (6, .inl fil), (7, .inl o)] [] W Post := by
  intro m
  induction m using Nat.strongRecOn with
  | ind m ih =>
    intro fil o hm hi
    refine jf_rng (fun hrg => ?_)
    have hrg : -2147483648 ≤ h ∧ h ≤ 2147483647 ∧ -2147483648 ≤ fr ∧ fr ≤ 2147483647 ∧ -2147483648 ≤ bl ∧ bl ≤ 2147483647 ∧ -2147483648 ≤ dp ∧ dp ≤ 2147483647 ∧ -2147483648 ≤ fil ∧ fil ≤ 2147483647 ∧ -2147483648 ≤ o ∧ o ≤ 2147483647 ∧ True := hrg
    refine s_k_hours0_24 ?_
    repeat' (first
      | (exact True.intro)
      | (exact hpre.1)
      | (refine And.intro ?_ ?_)
      | (refine (ih _ (by omega) _ _ rfl ?_); (first | omega | trivial))
      | (refine (lm_k_hours0_108 (h := h) (fr := fr) (bl := bl) (dp := dp) hpre hP _ _ _ _ rfl ?_); (first | omega | trivial))
      | (refine hP _ ?_; (refine ⟨by omega, by omega, ?_⟩; (first | trivial | omega)))
      | omega
      | (intro _))
def x_k_hours0 : fw_X := fun as W Q => match as with
  | [.inr (.inl s_), .inl h, .inl fr, .inl bl, .inl dp] => fw_if (Nat.beq s_ 223) ((0 ≤ h ∧ h < 14 ∧ 0 ≤ (fw_g W 12 0) ∧ (fw_g W 12 0) ≤ 14 ∧ dp = 0) ∧ (∀ (v : Int), (-2147483648 ≤ v ∧ v ≤ 2147483647 ∧ (True)) → Q (some (.inl v)) W))
  | _ => False
theorem x_k_hours0_ok (d : Nat) (as : List fw_V) (W : fw_W) (Q : Option fw_V → fw_W → Prop) (hx : x_k_hours0 as W Q) : jf fw_T (d + 16) 105 0 (fw_args 0 as) [] W Q := by
  unfold x_k_hours0 at hx
  split at hx
  · rename_i s_ h fr bl dp
    obtain ⟨e_, hpre, hQ⟩ := fw_if_ok hx
    have e_ := Nat.eq_of_beq_eq_true e_
    subst e_
    have hP := hQ
    refine s_k_hours0_0 ?_
    repeat' (first
      | (exact True.intro)
      | (exact hpre.1)
      | (refine And.intro ?_ ?_)
      | (refine (lm_k_hours0_24 (h := h) (fr := fr) (bl := bl) (dp := dp) hpre hP _ _ _ rfl ?_); (first | omega | trivial))
      | (refine (lm_k_hours0_108 (h := h) (fr := fr) (bl := bl) (dp := dp) hpre hP _ _ _ _ rfl ?_); (first | omega | trivial))
      | (refine hP _ ?_; (refine ⟨by omega, by omega, ?_⟩; (first | trivial | omega)))
      | omega
      | (intro _))
  · exact hx.elim

def fr_104 : fw_P := [(0, 2, 0, 0, 0), (1, 1, 1, 0, 0), (2, 0, 0, 0, -1), (3, 1, 2, 0, 0), (4, 0, 0, 0, 0), (5, 64, 105, 4, 1008), (8, 70, 0, 0, 0)]
theorem fr_104_ok : fw_mk 104 3 8 (some .int) fr_104 = true := by decide +kernel
def ct_k_hoursFrom : List (Nat × fw_X) := [(105, x_k_hours0)]
theorem ct_k_hoursFrom_ok (d : Nat) : fw_cok fw_T (d + 16) ct_k_hoursFrom := by
  intro q hq as W Q h
  simp only [ct_k_hoursFrom, List.mem_cons, List.not_mem_nil, or_false] at hq
  rcases hq with rfl
  · exact jc_of (x_k_hours0_ok (d + 0) as W Q h)
theorem s_k_hoursFrom_0 {Post : Option fw_V → fw_W → Prop} {d : Nat} {W : fw_W} {h bl : Int}
    (hw_ : (0 ≤ h ∧ h < 14 ∧ 0 ≤ (fw_g W 12 0) ∧ (fw_g W 12 0) ≤ 14 ∧ (0 : Int) = 0) ∧ (∀ (r1 : Int), ((-2147483648 ≤ r1 ∧ r1 ≤ 2147483647 ∧ (True))) → (-2147483648 ≤ r1 → r1 ≤ 2147483647 → Post (some (.inl r1)) W))) :
    jf fw_T (d + 17) 104 0 [(0, .inr (.inl 223)), (1, .inl h), (2, .inl bl)] [] W Post := fw_ok (n := 8) (ss := []) (hv := []) fr_104_ok fv_tell_ok (ct_k_hoursFrom_ok d) hw_

def x_k_hoursFrom : fw_X := fun as W Q => match as with
  | [.inr (.inl s_), .inl h, .inl bl] => fw_if (Nat.beq s_ 223) ((0 ≤ h ∧ h < 14 ∧ 0 ≤ (fw_g W 12 0) ∧ (fw_g W 12 0) ≤ 14) ∧ (∀ (v : Int), (-2147483648 ≤ v ∧ v ≤ 2147483647 ∧ (True)) → Q (some (.inl v)) W))
  | _ => False
theorem x_k_hoursFrom_ok (d : Nat) (as : List fw_V) (W : fw_W) (Q : Option fw_V → fw_W → Prop) (hx : x_k_hoursFrom as W Q) : jf fw_T (d + 17) 104 0 (fw_args 0 as) [] W Q := by
  unfold x_k_hoursFrom at hx
  split at hx
  · rename_i s_ h bl
    obtain ⟨e_, hpre, hQ⟩ := fw_if_ok hx
    have e_ := Nat.eq_of_beq_eq_true e_
    subst e_
    have hP := hQ
    refine s_k_hoursFrom_0 ?_
    repeat' (first
      | (exact True.intro)
      | (exact hpre.1)
      | (refine And.intro ?_ ?_)
      | (refine hP _ ?_; (refine ⟨by omega, by omega, ?_⟩; (first | trivial | omega)))
      | omega
      | (intro _))
  · exact hx.elim

def fr_169 : fw_P := [(0, 2, 0, 0, 0), (1, 50, 11, 2, 0), (4, 1, 1, 0, 0), (5, 64, 111, 1, 209), (8, 20, 23, 0, 0), (11, 2, 0, 0, 0), (12, 50, 11, 6, 0), (15, 1, 1, 0, 0), (16, 0, 0, 0, 0), (17, 64, 104, 2, 308), (20, 6, 24, 0, 0), (23, 0, 0, 0, -1), (24, 70, 0, 0, 0)]
theorem fr_169_ok : fw_mk 169 2 11 (some .int) fr_169 = true := by decide +kernel
def ct_k_news : List (Nat × fw_X) := [(111, x_k_has), (104, x_k_hoursFrom)]
theorem ct_k_news_ok (d : Nat) : fw_cok fw_T (d + 17) ct_k_news := by
  intro q hq as W Q h
  simp only [ct_k_news, List.mem_cons, List.not_mem_nil, or_false] at hq
  rcases hq with rfl | rfl
  · exact jc_of (x_k_has_ok (d + 16) as W Q h)
  · exact jc_of (x_k_hoursFrom_ok (d + 0) as W Q h)
theorem s_k_news_0 {Post : Option fw_V → fw_W → Prop} {d : Nat} {W : fw_W} {h : Int}
    (hw_ : (True) ∧ (∀ (r1 : Int), ((0 ≤ r1 ∧ r1 ≤ 1 ∧ ((r1 = 1 ∧ 0 ≤ h ∧ h < (fw_g W 12 0)) ∨ (r1 = 0 ∧ (h < 0 ∨ (fw_g W 12 0) ≤ h))))) → ((r1 = 0 → (-2147483648 ≤ (-1 : Int) → (-1 : Int) ≤ 2147483647 → Post (some (.inl (-1 : Int))) W)) ∧ (¬ r1 = 0 → (0 ≤ h ∧ h < 14 ∧ 0 ≤ (fw_g W 12 0) ∧ (fw_g W 12 0) ≤ 14) ∧ (∀ (r2 : Int), ((-2147483648 ≤ r2 ∧ r2 ≤ 2147483647 ∧ (True))) → (-2147483648 ≤ r2 → r2 ≤ 2147483647 → Post (some (.inl r2)) W)))))) :
    jf fw_T (d + 18) 169 0 [(0, .inr (.inl 0)), (1, .inl h)] [] W Post := fw_ok (n := 13) (ss := []) (hv := []) fr_169_ok fv_owt_ok (ct_k_news_ok d) hw_

def x_k_news : fw_X := fun as W Q => match as with
  | [.inr (.inl s_), .inl h] => fw_if (Nat.beq s_ 0) ((0 ≤ (fw_g W 12 0) ∧ (fw_g W 12 0) ≤ 14) ∧ (∀ (v : Int), (-2147483648 ≤ v ∧ v ≤ 2147483647 ∧ (True)) → Q (some (.inl v)) W))
  | _ => False
theorem x_k_news_ok (d : Nat) (as : List fw_V) (W : fw_W) (Q : Option fw_V → fw_W → Prop) (hx : x_k_news as W Q) : jf fw_T (d + 18) 169 0 (fw_args 0 as) [] W Q := by
  unfold x_k_news at hx
  split at hx
  · rename_i s_ h
    obtain ⟨e_, hpre, hQ⟩ := fw_if_ok hx
    have e_ := Nat.eq_of_beq_eq_true e_
    subst e_
    have hP := hQ
    refine s_k_news_0 ?_
    repeat' (first
      | (exact True.intro)
      | (exact hpre.1)
      | (refine And.intro ?_ ?_)
      | (refine hP _ ?_; (refine ⟨by omega, by omega, ?_⟩; (first | trivial | omega)))
      | omega
      | (intro _))
  · exact hx.elim

def fr_170 : fw_P := [(0, 2, 0, 0, 0), (1, 50, 11, 2, 0), (4, 1, 1, 0, 0), (5, 64, 111, 1, 209), (8, 20, 23, 0, 0), (11, 2, 0, 0, 0), (12, 50, 11, 6, 0), (15, 1, 1, 0, 0), (16, 0, 0, 0, 1), (17, 64, 104, 2, 308), (20, 6, 24, 0, 0), (23, 0, 0, 0, -1), (24, 70, 0, 0, 0)]
theorem fr_170_ok : fw_mk 170 2 11 (some .int) fr_170 = true := by decide +kernel
def ct_k_tidings : List (Nat × fw_X) := [(111, x_k_has), (104, x_k_hoursFrom)]
theorem ct_k_tidings_ok (d : Nat) : fw_cok fw_T (d + 17) ct_k_tidings := by
  intro q hq as W Q h
  simp only [ct_k_tidings, List.mem_cons, List.not_mem_nil, or_false] at hq
  rcases hq with rfl | rfl
  · exact jc_of (x_k_has_ok (d + 16) as W Q h)
  · exact jc_of (x_k_hoursFrom_ok (d + 0) as W Q h)
theorem s_k_tidings_0 {Post : Option fw_V → fw_W → Prop} {d : Nat} {W : fw_W} {h : Int}
    (hw_ : (True) ∧ (∀ (r1 : Int), ((0 ≤ r1 ∧ r1 ≤ 1 ∧ ((r1 = 1 ∧ 0 ≤ h ∧ h < (fw_g W 12 0)) ∨ (r1 = 0 ∧ (h < 0 ∨ (fw_g W 12 0) ≤ h))))) → ((r1 = 0 → (-2147483648 ≤ (-1 : Int) → (-1 : Int) ≤ 2147483647 → Post (some (.inl (-1 : Int))) W)) ∧ (¬ r1 = 0 → (0 ≤ h ∧ h < 14 ∧ 0 ≤ (fw_g W 12 0) ∧ (fw_g W 12 0) ≤ 14) ∧ (∀ (r2 : Int), ((-2147483648 ≤ r2 ∧ r2 ≤ 2147483647 ∧ (True))) → (-2147483648 ≤ r2 → r2 ≤ 2147483647 → Post (some (.inl r2)) W)))))) :
    jf fw_T (d + 18) 170 0 [(0, .inr (.inl 0)), (1, .inl h)] [] W Post := fw_ok (n := 13) (ss := []) (hv := []) fr_170_ok fv_owt_ok (ct_k_tidings_ok d) hw_

def x_k_tidings : fw_X := fun as W Q => match as with
  | [.inr (.inl s_), .inl h] => fw_if (Nat.beq s_ 0) ((0 ≤ (fw_g W 12 0) ∧ (fw_g W 12 0) ≤ 14) ∧ (∀ (v : Int), (-2147483648 ≤ v ∧ v ≤ 2147483647 ∧ (True)) → Q (some (.inl v)) W))
  | _ => False
theorem x_k_tidings_ok (d : Nat) (as : List fw_V) (W : fw_W) (Q : Option fw_V → fw_W → Prop) (hx : x_k_tidings as W Q) : jf fw_T (d + 18) 170 0 (fw_args 0 as) [] W Q := by
  unfold x_k_tidings at hx
  split at hx
  · rename_i s_ h
    obtain ⟨e_, hpre, hQ⟩ := fw_if_ok hx
    have e_ := Nat.eq_of_beq_eq_true e_
    subst e_
    have hP := hQ
    refine s_k_tidings_0 ?_
    repeat' (first
      | (exact True.intro)
      | (exact hpre.1)
      | (refine And.intro ?_ ?_)
      | (refine hP _ ?_; (refine ⟨by omega, by omega, ?_⟩; (first | trivial | omega)))
      | omega
      | (intro _))
  · exact hx.elim

def fr_171 : fw_P := [(0, 0, 0, 0, -1), (1, 3, 1, 0, 0), (2, 0, 0, 0, 0), (3, 3, 2, 0, 0), (4, 0, 0, 0, 0), (5, 3, 3, 0, 0), (6, 1, 3, 0, 0), (7, 2, 0, 0, 0), (8, 50, 11, 2, 0), (11, 50, 9, 0, 0), (14, 13, 50, 0, 0), (17, 2, 0, 0, 0), (18, 50, 11, 6, 0), (21, 1, 3, 0, 0), (22, 0, 0, 0, 0), (23, 64, 104, 2, 308), (26, 3, 4, 0, 0), (28, 1, 1, 0, 0), (29, 0, 0, 0, -1), (30, 10, 39, 0, 0), (33, 1, 4, 0, 0), (35, 1, 2, 0, 0), (36, 13, 44, 0, 0), (39, 1, 3, 0, 0), (40, 3, 1, 0, 0), (41, 1, 4, 0, 0), (43, 3, 2, 0, 0), (44, 5, 3, 0, 1), (47, 6, 6, 0, 0), (50, 1, 1, 0, 0), (51, 70, 0, 0, 0)]
theorem fr_171_ok : fw_mk 171 5 11 (some .int) fr_171 = true := by decide +kernel
def ct_k_bestNews : List (Nat × fw_X) := [(104, x_k_hoursFrom)]
theorem ct_k_bestNews_ok (d : Nat) : fw_cok fw_T (d + 17) ct_k_bestNews := by
  intro q hq as W Q h
  simp only [ct_k_bestNews, List.mem_cons, List.not_mem_nil, or_false] at hq
  rcases hq with rfl
  · exact jc_of (x_k_hoursFrom_ok (d + 0) as W Q h)
theorem s_k_bestNews_0 {Post : Option fw_V → fw_W → Prop} {d : Nat} {W : fw_W}
    (hw_ : jf fw_T (d + 18) 171 6 [(0, .inr (.inl 0)), (1, .inl (-1 : Int)), (2, .inl (0 : Int)), (3, .inl (0 : Int))] [] W Post) :
    jf fw_T (d + 18) 171 0 [(0, .inr (.inl 0))] [] W Post := fw_ok (n := 7) (ss := [(6, [0, 1, 2, 3])]) (hv := []) fr_171_ok fv_owt_ok (ct_k_bestNews_ok d) hw_

theorem s_k_bestNews_6 {Post : Option fw_V → fw_W → Prop} {d : Nat} {W : fw_W} {be fe h : Int}
    (hw_ : (0 ≤ (fw_g W 12 0) → (fw_g W 12 0) ≤ 14 → (((fw_g W 12 0) ≤ h → (-2147483648 ≤ be → be ≤ 2147483647 → Post (some (.inl be)) W)) ∧ (h < (fw_g W 12 0) → (0 ≤ h ∧ h < 14 ∧ 0 ≤ (fw_g W 12 0) ∧ (fw_g W 12 0) ≤ 14) ∧ (∀ (r1 : Int), ((-2147483648 ≤ r1 ∧ r1 ≤ 2147483647 ∧ (True))) → ((be = (-1 : Int) → -2147483648 ≤ h + (1 : Int) ∧ h + (1 : Int) ≤ 2147483647 ∧ (jf fw_T (d + 18) 171 6 [(0, .inr (.inl 0)), (1, .inl h), (2, .inl r1), (3, .inl (h + (1 : Int)))] [] W Post)) ∧ (¬ be = (-1 : Int) → ((fe ≤ r1 → -2147483648 ≤ h + (1 : Int) ∧ h + (1 : Int) ≤ 2147483647 ∧ (jf fw_T (d + 18) 171 6 [(0, .inr (.inl 0)), (1, .inl be), (2, .inl fe), (3, .inl (h + (1 : Int)))] [] W Post)) ∧ (r1 < fe → -2147483648 ≤ h + (1 : Int) ∧ h + (1 : Int) ≤ 2147483647 ∧ (jf fw_T (d + 18) 171 6 [(0, .inr (.inl 0)), (1, .inl h), (2, .inl r1), (3, .inl (h + (1 : Int)))] [] W Post)))))))))) :
    jf fw_T (d + 18) 171 6 [(0, .inr (.inl 0)), (1, .inl be), (2, .inl fe), (3, .inl h)] [] W Post := fw_ok (n := 24) (ss := [(6, [0, 1, 2, 3])]) (hv := []) fr_171_ok fv_owt_ok (ct_k_bestNews_ok d) hw_

theorem lm_k_bestNews_6 {Post : Option fw_V → fw_W → Prop} {d : Nat} {W : fw_W} (hpre : 0 ≤ (fw_g W 12 0) ∧ (fw_g W 12 0) ≤ 14) (hP : ∀ (v : Int) , (-2147483648 ≤ v ∧ v ≤ 2147483647 ∧ (True)) → Post (some (.inl v)) W)  : ∀ (m : Nat) (be fe h : Int), ((fw_g W 12 0) - h).toNat = m → 0 ≤ h → jf fw_T (d + 18) 171 6 [(0, .inr (.inl 0)), (1, .inl be), (2, .inl fe), (3, .inl h)] [] W Post := by
  intro m
  induction m using Nat.strongRecOn with
  | ind m ih =>
    intro be fe h hm hi
    refine jf_rng (fun hrg => ?_)
    have hrg : -2147483648 ≤ be ∧ be ≤ 2147483647 ∧ -2147483648 ≤ fe ∧ fe ≤ 2147483647 ∧ -2147483648 ≤ h ∧ h ≤ 2147483647 ∧ True := hrg
    refine s_k_bestNews_6 ?_
    repeat' (first
      | (exact True.intro)
      | (exact hpre.1)
      | (refine And.intro ?_ ?_)
      | (refine (ih _ (by omega) _ _ _ rfl ?_); (first | omega | trivial))
      | (refine hP _ ?_; (refine ⟨by omega, by omega, ?_⟩; (first | trivial | omega)))
      | omega
      | (intro _))
def x_k_bestNews : fw_X := fun as W Q => match as with
  | [.inr (.inl s_)] => fw_if (Nat.beq s_ 0) ((0 ≤ (fw_g W 12 0) ∧ (fw_g W 12 0) ≤ 14) ∧ (∀ (v : Int), (-2147483648 ≤ v ∧ v ≤ 2147483647 ∧ (True)) → Q (some (.inl v)) W))
  | _ => False
theorem x_k_bestNews_ok (d : Nat) (as : List fw_V) (W : fw_W) (Q : Option fw_V → fw_W → Prop) (hx : x_k_bestNews as W Q) : jf fw_T (d + 18) 171 0 (fw_args 0 as) [] W Q := by
  unfold x_k_bestNews at hx
  split at hx
  · rename_i s_
    obtain ⟨e_, hpre, hQ⟩ := fw_if_ok hx
    have e_ := Nat.eq_of_beq_eq_true e_
    subst e_
    have hP := hQ
    refine s_k_bestNews_0 ?_
    repeat' (first
      | (exact True.intro)
      | (exact hpre.1)
      | (refine And.intro ?_ ?_)
      | (refine (lm_k_bestNews_6 hpre hP _ _ _ _ rfl ?_); (first | omega | trivial))
      | (refine hP _ ?_; (refine ⟨by omega, by omega, ?_⟩; (first | trivial | omega)))
      | omega
      | (intro _))
  · exact hx.elim

