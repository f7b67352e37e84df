/-! the class, method by method -/
def fv_marksp : List (Nat × ai_C) := [(268, .inr (.inr (.inr (4, [.inr (.inl [269]), .inr (.inl [270]), .inr (.inl [271]), .inr (.inl [272]), .inr (.inl [276]), .inr (.inl [296]), .inr (.inl [323])])))), (269, .inl (.int, 14, 0, 15, true)), (270, .inl (.int, 14, -2147483648, 2147483647, true)), (271, .inl (.int, 14, -2147483648, 2147483647, true)), (12, .inr (.inr (.inr (9, [.inl (0, 14, true), .inl (0, 999, true), .inr (.inl [13]), .inr (.inl [14]), .inr (.inl [15])])))), (13, .inl (.int, 14, -1, 13, true)), (14, .inl (.int, 14, 0, 99, true)), (15, .inl (.int, 14, 0, 99, true)), (339, .inl (.int, 14, -2147483648, 2147483647, true))]
def fg_marksp_G : fw_G := []
theorem fv_marksp_ok : fw_view fw_T fv_marksp fg_marksp_G := fw_vb_ok (by decide +kernel)
def fr_112 : fw_P := [(0, 1, 1, 0, 0), (1, 21, 8, 0, 0), (4, 0, 0, 0, 0), (5, 6, 9, 0, 0), (8, 0, 0, 0, 1), (9, 3, 2, 0, 0), (10, 0, 0, 0, 1), (11, 3, 3, 0, 0), (12, 1, 3, 0, 0), (13, 2, 0, 0, 0), (14, 50, 9, 0, 0), (17, 13, 39, 0, 0), (20, 2, 0, 0, 0), (21, 50, 9, 2, 0), (24, 1, 3, 0, 0), (25, 52, 0, 0, 0), (26, 1, 1, 0, 0), (27, 11, 33, 0, 0), (30, 5, 2, 0, 1), (33, 5, 3, 0, 1), (36, 6, 12, 0, 0), (39, 1, 2, 0, 0), (40, 70, 0, 0, 0)]
theorem fr_112_ok : fw_mk 112 4 9 (some .int) fr_112 = true := by decide +kernel
theorem s_k_streetsAt_0 {Post : Option fw_V → fw_W → Prop} {d : Nat} {W : fw_W} {h : Int}
    (hw_ : ((¬ h = 0 → jf fw_T (d + 1) 112 12 [(0, .inr (.inl 12)), (1, .inl h), (2, .inl (1 : Int)), (3, .inl (1 : Int))] [] W Post) ∧ (h = 0 → jf fw_T (d + 1) 112 12 [(0, .inr (.inl 12)), (1, .inl h), (2, .inl (0 : Int)), (3, .inl (1 : Int))] [] W Post))) :
    jf fw_T (d + 1) 112 0 [(0, .inr (.inl 12)), (1, .inl h)] [] W Post := fw_ok (n := 8) (ss := [(12, [0, 1, 2, 3])]) (hv := [30]) fr_112_ok fv_townp_ok (fw_c0 _ _) hw_

theorem s_k_streetsAt_12 {Post : Option fw_V → fw_W → Prop} {d : Nat} {W : fw_W} {h st_ o : Int}
    (hw_ : (0 ≤ (fw_g W 12 0) → (fw_g W 12 0) ≤ 14 → (((fw_g W 12 0) ≤ o → (-2147483648 ≤ st_ → st_ ≤ 2147483647 → Post (some (.inl st_)) W)) ∧ (o < (fw_g W 12 0) → 0 ≤ o ∧ o < 14 ∧ (-1 ≤ (fw_g W 13 o) → (fw_g W 13 o) ≤ 13 → ((¬ (fw_g W 13 o) = h → -2147483648 ≤ o + (1 : Int) ∧ o + (1 : Int) ≤ 2147483647 ∧ (jf fw_T (d + 1) 112 12 [(0, .inr (.inl 12)), (1, .inl h), (2, .inl st_), (3, .inl (o + (1 : Int)))] [] W Post)) ∧ ((fw_g W 13 o) = h → ∀ v1 : Int, -2147483648 ≤ v1 → v1 ≤ 2147483647 → -2147483648 ≤ o + (1 : Int) ∧ o + (1 : Int) ≤ 2147483647 ∧ (jf fw_T (d + 1) 112 12 [(0, .inr (.inl 12)), (1, .inl h), (2, .inl v1), (3, .inl (o + (1 : Int)))] [] W Post)))))))) :
    jf fw_T (d + 1) 112 12 [(0, .inr (.inl 12)), (1, .inl h), (2, .inl st_), (3, .inl o)] [] W Post := fw_ok (n := 14) (ss := [(12, [0, 1, 2, 3])]) (hv := [30]) fr_112_ok fv_townp_ok (fw_c0 _ _) hw_

theorem lm_k_streetsAt_12 {Post : Option fw_V → fw_W → Prop} {d : Nat} {W : fw_W} {h : Int} (hpre : 0 ≤ (fw_g W 12 0) ∧ (fw_g W 12 0) ≤ 14) (hP : ∀ (v : Int) , (-2147483648 ≤ v ∧ v ≤ 2147483647 ∧ (True)) → Post (some (.inl v)) W)  : ∀ (m : Nat) (st_ o : Int), ((fw_g W 12 0) - o).toNat = m → 1 ≤ o → jf fw_T (d + 1) 112 12 [(0, .inr (.inl 12)), (1, .inl h), (2, .inl st_), (3, .inl o)] [] W Post := by
  intro m
  induction m using Nat.strongRecOn with
  | ind m ih =>
    intro st_ o hm hi
    refine jf_rng (fun hrg => ?_)
    have hrg : -2147483648 ≤ h ∧ h ≤ 2147483647 ∧ -2147483648 ≤ st_ ∧ st_ ≤ 2147483647 ∧ -2147483648 ≤ o ∧ o ≤ 2147483647 ∧ True := hrg
    refine s_k_streetsAt_12 ?_
    repeat' (first
      | (exact True.intro)
      | (exact hpre.1)
      | (refine And.intro ?_ ?_)
      | (refine (ih _ (by omega) _ _ rfl ?_); (first | omega | trivial))
      | (refine hP _ ?_; (refine ⟨by omega, by omega, ?_⟩; (first | trivial | omega)))
      | omega
      | (intro _))
def x_k_streetsAt : fw_X := fun as W Q => match as with
  | [.inr (.inl s_), .inl h] => fw_if (Nat.beq s_ 12) ((0 ≤ (fw_g W 12 0) ∧ (fw_g W 12 0) ≤ 14) ∧ (∀ (v : Int), (-2147483648 ≤ v ∧ v ≤ 2147483647 ∧ (True)) → Q (some (.inl v)) W))
  | _ => False
theorem x_k_streetsAt_ok (d : Nat) (as : List fw_V) (W : fw_W) (Q : Option fw_V → fw_W → Prop) (hx : x_k_streetsAt as W Q) : jf fw_T (d + 1) 112 0 (fw_args 0 as) [] W Q := by
  unfold x_k_streetsAt at hx
  split at hx
  · rename_i s_ h
    obtain ⟨e_, hpre, hQ⟩ := fw_if_ok hx
    have e_ := Nat.eq_of_beq_eq_true e_
    subst e_
    have hP := hQ
    refine s_k_streetsAt_0 ?_
    repeat' (first
      | (exact True.intro)
      | (exact hpre.1)
      | (refine And.intro ?_ ?_)
      | (refine (lm_k_streetsAt_12 (h := h) hpre hP _ _ _ rfl ?_); (first | omega | trivial))
      | (refine hP _ ?_; (refine ⟨by omega, by omega, ?_⟩; (first | trivial | omega)))
      | omega
      | (intro _))
  · exact hx.elim

def fr_113 : fw_P := [(0, 2, 0, 0, 0), (1, 50, 9, 2, 0), (4, 1, 1, 0, 0), (5, 52, 0, 0, 0), (6, 1, 2, 0, 0), (7, 11, 17, 0, 0), (10, 2, 0, 0, 0), (11, 50, 9, 3, 0), (14, 1, 1, 0, 0), (15, 52, 0, 0, 0), (16, 70, 0, 0, 0), (17, 2, 0, 0, 0), (18, 50, 9, 2, 0), (21, 1, 2, 0, 0), (22, 52, 0, 0, 0), (23, 1, 1, 0, 0), (24, 11, 36, 0, 0), (27, 2, 0, 0, 0), (28, 50, 9, 3, 0), (31, 1, 2, 0, 0), (32, 52, 0, 0, 0), (33, 6, 37, 0, 0), (36, 0, 0, 0, 0), (37, 70, 0, 0, 0)]
theorem fr_113_ok : fw_mk 113 3 9 (some .int) fr_113 = true := by decide +kernel
theorem s_k_streetBetween_0 {Post : Option fw_V → fw_W → Prop} {d : Nat} {W : fw_W} {a b : Int}
    (hw_ : 0 ≤ a ∧ a < 14 ∧ (-1 ≤ (fw_g W 13 a) → (fw_g W 13 a) ≤ 13 → ((¬ (fw_g W 13 a) = b → 0 ≤ b ∧ b < 14 ∧ (-1 ≤ (fw_g W 13 b) → (fw_g W 13 b) ≤ 13 → ((¬ (fw_g W 13 b) = a → (-2147483648 ≤ (0 : Int) → (0 : Int) ≤ 2147483647 → Post (some (.inl (0 : Int))) W)) ∧ ((fw_g W 13 b) = a → 0 ≤ b ∧ b < 14 ∧ (0 ≤ (fw_g W 14 b) → (fw_g W 14 b) ≤ 99 → (-2147483648 ≤ (fw_g W 14 b) → (fw_g W 14 b) ≤ 2147483647 → Post (some (.inl (fw_g W 14 b))) W)))))) ∧ ((fw_g W 13 a) = b → 0 ≤ a ∧ a < 14 ∧ (0 ≤ (fw_g W 14 a) → (fw_g W 14 a) ≤ 99 → (-2147483648 ≤ (fw_g W 14 a) → (fw_g W 14 a) ≤ 2147483647 → Post (some (.inl (fw_g W 14 a))) W)))))) :
    jf fw_T (d + 1) 113 0 [(0, .inr (.inl 12)), (1, .inl a), (2, .inl b)] [] W Post := fw_ok (n := 19) (ss := []) (hv := []) fr_113_ok fv_townp_ok (fw_c0 _ _) hw_

def x_k_streetBetween : fw_X := fun as W Q => match as with
  | [.inr (.inl s_), .inl a, .inl b] => fw_if (Nat.beq s_ 12) ((0 ≤ a ∧ a < 14 ∧ 0 ≤ b ∧ b < 14) ∧ (∀ (v : Int), (-2147483648 ≤ v ∧ v ≤ 2147483647 ∧ (True)) → Q (some (.inl v)) W))
  | _ => False
theorem x_k_streetBetween_ok (d : Nat) (as : List fw_V) (W : fw_W) (Q : Option fw_V → fw_W → Prop) (hx : x_k_streetBetween as W Q) : jf fw_T (d + 1) 113 0 (fw_args 0 as) [] W Q := by
  unfold x_k_streetBetween at hx
  split at hx
  · rename_i s_ a b
    obtain ⟨e_, hpre, hQ⟩ := fw_if_ok hx
    have e_ := Nat.eq_of_beq_eq_true e_
    subst e_
    have hP := hQ
    refine s_k_streetBetween_0 ?_
    repeat' (first
      | (exact True.intro)
      | (exact hpre.1)
      | (refine And.intro ?_ ?_)
      | (refine hP _ ?_; (refine ⟨by omega, by omega, ?_⟩; (first | trivial | omega)))
      | omega
      | (intro _))
  · exact hx.elim

def fr_47 : fw_P := [(0, 0, 0, 0, 0), (1, 3, 2, 0, 0), (2, 1, 2, 0, 0), (3, 1, 1, 0, 0), (4, 13, 25, 0, 0), (7, 2, 0, 0, 0), (8, 50, 4, 1, 0), (11, 1, 2, 0, 0), (12, 52, 0, 0, 0), (13, 0, 0, 0, 1), (14, 11, 19, 0, 0), (17, 1, 2, 0, 0), (18, 70, 0, 0, 0), (19, 5, 2, 0, 1), (22, 6, 2, 0, 0), (25, 0, 0, 0, 0), (26, 70, 0, 0, 0)]
theorem fr_47_ok : fw_mk 47 3 4 (some .int) fr_47 = true := by decide +kernel
theorem s_k_firstEnd_0 {Post : Option fw_V → fw_W → Prop} {d : Nat} {W : fw_W} {co : Int}
    (hw_ : jf fw_T (d + 1) 47 2 [(0, .inr (.inl 268)), (1, .inl co), (2, .inl (0 : Int))] [] W Post) :
    jf fw_T (d + 1) 47 0 [(0, .inr (.inl 268)), (1, .inl co)] [] W Post := fw_ok (n := 3) (ss := [(2, [0, 1, 2])]) (hv := []) fr_47_ok fv_marksp_ok (fw_c0 _ _) hw_

theorem s_k_firstEnd_2 {Post : Option fw_V → fw_W → Prop} {d : Nat} {W : fw_W} {co h : Int}
    (hw_ : ((co ≤ h → (-2147483648 ≤ (0 : Int) → (0 : Int) ≤ 2147483647 → Post (some (.inl (0 : Int))) W)) ∧ (h < co → 0 ≤ h ∧ h < 14 ∧ (-2147483648 ≤ (fw_g W 270 h) → (fw_g W 270 h) ≤ 2147483647 → ((¬ (fw_g W 270 h) = (1 : Int) → -2147483648 ≤ h + (1 : Int) ∧ h + (1 : Int) ≤ 2147483647 ∧ (jf fw_T (d + 1) 47 2 [(0, .inr (.inl 268)), (1, .inl co), (2, .inl (h + (1 : Int)))] [] W Post)) ∧ ((fw_g W 270 h) = (1 : Int) → (-2147483648 ≤ h → h ≤ 2147483647 → Post (some (.inl h)) W))))))) :
    jf fw_T (d + 1) 47 2 [(0, .inr (.inl 268)), (1, .inl co), (2, .inl h)] [] W Post := fw_ok (n := 12) (ss := [(2, [0, 1, 2])]) (hv := []) fr_47_ok fv_marksp_ok (fw_c0 _ _) hw_

theorem lm_k_firstEnd_2 {Post : Option fw_V → fw_W → Prop} {d : Nat} {W : fw_W} {co : Int} (hpre : 0 ≤ co ∧ co ≤ 14) (hP : ∀ (v : Int) , (-2147483648 ≤ v ∧ v ≤ 2147483647 ∧ (0 ≤ v ∧ v < 14)) → Post (some (.inl v)) W)  : ∀ (m : Nat) (h : Int), (co - h).toNat = m → 0 ≤ h → jf fw_T (d + 1) 47 2 [(0, .inr (.inl 268)), (1, .inl co), (2, .inl h)] [] W Post := by
  intro m
  induction m using Nat.strongRecOn with
  | ind m ih =>
    intro h hm hi
    refine jf_rng (fun hrg => ?_)
    have hrg : -2147483648 ≤ co ∧ co ≤ 2147483647 ∧ -2147483648 ≤ h ∧ h ≤ 2147483647 ∧ True := hrg
    refine s_k_firstEnd_2 ?_
    repeat' (first
      | (exact True.intro)
      | (exact hpre.1)
      | (refine And.intro ?_ ?_)
      | (refine (ih _ (by omega) _ rfl ?_); (first | omega | trivial))
      | (refine hP _ ?_; (refine ⟨by omega, by omega, ?_⟩; (omega)))
      | omega
      | (intro _))
def x_k_firstEnd : fw_X := fun as W Q => match as with
  | [.inr (.inl s_), .inl co] => fw_if (Nat.beq s_ 268) ((0 ≤ co ∧ co ≤ 14) ∧ (∀ (v : Int), (-2147483648 ≤ v ∧ v ≤ 2147483647 ∧ (0 ≤ v ∧ v < 14)) → Q (some (.inl v)) W))
  | _ => False
theorem x_k_firstEnd_ok (d : Nat) (as : List fw_V) (W : fw_W) (Q : Option fw_V → fw_W → Prop) (hx : x_k_firstEnd as W Q) : jf fw_T (d + 1) 47 0 (fw_args 0 as) [] W Q := by
  unfold x_k_firstEnd at hx
  split at hx
  · rename_i s_ co
    obtain ⟨e_, hpre, hQ⟩ := fw_if_ok hx
    have e_ := Nat.eq_of_beq_eq_true e_
    subst e_
    have hP := hQ
    refine s_k_firstEnd_0 ?_
    repeat' (first
      | (exact True.intro)
      | (exact hpre.1)
      | (refine And.intro ?_ ?_)
      | (refine (lm_k_firstEnd_2 (co := co) hpre hP _ _ rfl ?_); (first | omega | trivial))
      | (refine hP _ ?_; (refine ⟨by omega, by omega, ?_⟩; (omega)))
      | omega
      | (intro _))
  · exact hx.elim

def fr_51 : fw_P := [(0, 0, 0, 0, 0), (1, 3, 3, 0, 0), (2, 1, 3, 0, 0), (3, 2, 1, 0, 0), (4, 50, 9, 0, 0), (7, 13, 36, 0, 0), (10, 2, 0, 0, 0), (11, 50, 4, 1, 0), (14, 1, 3, 0, 0), (15, 52, 0, 0, 0), (16, 25, 30, 0, 0), (19, 2, 1, 0, 0), (20, 1, 2, 0, 0), (21, 1, 3, 0, 0), (22, 64, 113, 2, 309), (25, 25, 30, 0, 0), (28, 1, 3, 0, 0), (29, 70, 0, 0, 0), (30, 5, 3, 0, 1), (33, 6, 2, 0, 0), (36, 0, 0, 0, 0), (37, 70, 0, 0, 0)]
theorem fr_51_ok : fw_mk 51 4 4 (some .int) fr_51 = true := by decide +kernel
def ct_k_lastNeighbour : List (Nat × fw_X) := [(113, x_k_streetBetween)]
theorem ct_k_lastNeighbour_ok (d : Nat) : fw_cok fw_T (d + 1) ct_k_lastNeighbour := by
  intro q hq as W Q h
  simp only [ct_k_lastNeighbour, List.mem_cons, List.not_mem_nil, or_false] at hq
  rcases hq with rfl
  · exact jc_of (x_k_streetBetween_ok (d + 0) as W Q h)
theorem s_k_lastNeighbour_0 {Post : Option fw_V → fw_W → Prop} {d : Nat} {W : fw_W} {h : Int}
    (hw_ : jf fw_T (d + 2) 51 2 [(0, .inr (.inl 268)), (1, .inr (.inl 12)), (2, .inl h), (3, .inl (0 : Int))] [] W Post) :
    jf fw_T (d + 2) 51 0 [(0, .inr (.inl 268)), (1, .inr (.inl 12)), (2, .inl h)] [] W Post := fw_ok (n := 3) (ss := [(2, [0, 1, 2, 3])]) (hv := []) fr_51_ok fv_marksp_ok (ct_k_lastNeighbour_ok d) hw_

theorem s_k_lastNeighbour_2 {Post : Option fw_V → fw_W → Prop} {d : Nat} {W : fw_W} {h o : Int}
    (hw_ : (0 ≤ (fw_g W 12 0) → (fw_g W 12 0) ≤ 14 → (((fw_g W 12 0) ≤ o → (-2147483648 ≤ (0 : Int) → (0 : Int) ≤ 2147483647 → Post (some (.inl (0 : Int))) W)) ∧ (o < (fw_g W 12 0) → 0 ≤ o ∧ o < 14 ∧ (-2147483648 ≤ (fw_g W 270 o) → (fw_g W 270 o) ≤ 2147483647 → (((fw_g W 270 o) ≤ 0 → -2147483648 ≤ o + (1 : Int) ∧ o + (1 : Int) ≤ 2147483647 ∧ (jf fw_T (d + 2) 51 2 [(0, .inr (.inl 268)), (1, .inr (.inl 12)), (2, .inl h), (3, .inl (o + (1 : Int)))] [] W Post)) ∧ (0 < (fw_g W 270 o) → (0 ≤ h ∧ h < 14 ∧ 0 ≤ o ∧ o < 14) ∧ (∀ (r1 : Int), ((-2147483648 ≤ r1 ∧ r1 ≤ 2147483647 ∧ (True))) → ((r1 ≤ 0 → -2147483648 ≤ o + (1 : Int) ∧ o + (1 : Int) ≤ 2147483647 ∧ (jf fw_T (d + 2) 51 2 [(0, .inr (.inl 268)), (1, .inr (.inl 12)), (2, .inl h), (3, .inl (o + (1 : Int)))] [] W Post)) ∧ (0 < r1 → (-2147483648 ≤ o → o ≤ 2147483647 → Post (some (.inl o)) W))))))))))) :
    jf fw_T (d + 2) 51 2 [(0, .inr (.inl 268)), (1, .inr (.inl 12)), (2, .inl h), (3, .inl o)] [] W Post := fw_ok (n := 17) (ss := [(2, [0, 1, 2, 3])]) (hv := []) fr_51_ok fv_marksp_ok (ct_k_lastNeighbour_ok d) hw_

theorem lm_k_lastNeighbour_2 {Post : Option fw_V → fw_W → Prop} {d : Nat} {W : fw_W} {h : Int} (hpre : 0 ≤ h ∧ h < 14 ∧ 0 ≤ (fw_g W 12 0) ∧ (fw_g W 12 0) ≤ 14) (hP : ∀ (v : Int) , (-2147483648 ≤ v ∧ v ≤ 2147483647 ∧ (0 ≤ v ∧ v < 14)) → Post (some (.inl v)) W)  : ∀ (m : Nat) (o : Int), ((fw_g W 12 0) - o).toNat = m → 0 ≤ o → jf fw_T (d + 2) 51 2 [(0, .inr (.inl 268)), (1, .inr (.inl 12)), (2, .inl h), (3, .inl o)] [] W Post := by
  intro m
  induction m using Nat.strongRecOn with
  | ind m ih =>
    intro o hm hi
    refine jf_rng (fun hrg => ?_)
    have hrg : -2147483648 ≤ h ∧ h ≤ 2147483647 ∧ -2147483648 ≤ o ∧ o ≤ 2147483647 ∧ True := hrg
    refine s_k_lastNeighbour_2 ?_
    repeat' (first
      | (exact True.intro)
      | (exact hpre.1)
      | (refine And.intro ?_ ?_)
      | (refine (ih _ (by omega) _ rfl ?_); (first | omega | trivial))
      | (refine hP _ ?_; (refine ⟨by omega, by omega, ?_⟩; (omega)))
      | omega
      | (intro _))
def x_k_lastNeighbour : fw_X := fun as W Q => match as with
  | [.inr (.inl s_), .inr (.inl r0_), .inl h] => fw_if (Nat.beq s_ 268) (fw_if (Nat.beq r0_ 12) ((0 ≤ h ∧ h < 14 ∧ 0 ≤ (fw_g W 12 0) ∧ (fw_g W 12 0) ≤ 14) ∧ (∀ (v : Int), (-2147483648 ≤ v ∧ v ≤ 2147483647 ∧ (0 ≤ v ∧ v < 14)) → Q (some (.inl v)) W)))
  | _ => False
theorem x_k_lastNeighbour_ok (d : Nat) (as : List fw_V) (W : fw_W) (Q : Option fw_V → fw_W → Prop) (hx : x_k_lastNeighbour as W Q) : jf fw_T (d + 2) 51 0 (fw_args 0 as) [] W Q := by
  unfold x_k_lastNeighbour at hx
  split at hx
  · rename_i s_ r0_ h
    obtain ⟨e0_, hx0⟩ := fw_if_ok hx
    have e0_ := Nat.eq_of_beq_eq_true e0_
    clear hx
    subst e0_
    obtain ⟨e1_, hx1⟩ := fw_if_ok hx0
    have e1_ := Nat.eq_of_beq_eq_true e1_
    clear hx0
    subst e1_
    obtain ⟨hpre, hQ⟩ := hx1
    have hP := hQ
    refine s_k_lastNeighbour_0 ?_
    repeat' (first
      | (exact True.intro)
      | (exact hpre.1)
      | (refine And.intro ?_ ?_)
      | (refine (lm_k_lastNeighbour_2 (h := h) hpre hP _ _ rfl ?_); (first | omega | trivial))
      | (refine hP _ ?_; (refine ⟨by omega, by omega, ?_⟩; (omega)))
      | omega
      | (intro _))
  · exact hx.elim

def fr_50 : fw_P := [(0, 0, 0, 0, 0), (1, 3, 3, 0, 0), (2, 1, 3, 0, 0), (3, 2, 1, 0, 0), (4, 50, 9, 0, 0), (7, 13, 27, 0, 0), (10, 2, 0, 0, 0), (11, 50, 4, 1, 0), (14, 1, 3, 0, 0), (15, 2, 1, 0, 0), (16, 1, 3, 0, 0), (17, 64, 112, 1, 409), (20, 53, 0, 0, 0), (21, 5, 3, 0, 1), (24, 6, 2, 0, 0), (27, 0, 0, 0, 0), (28, 3, 3, 0, 0), (29, 2, 1, 0, 0), (30, 50, 9, 0, 0), (33, 3, 4, 0, 0), (35, 1, 4, 0, 0), (37, 0, 0, 0, 2), (38, 15, 93, 0, 0), (41, 2, 0, 0, 0), (42, 2, 1, 0, 0), (43, 50, 9, 0, 0), (46, 64, 47, 1, 304), (49, 3, 5, 0, 0), (51, 2, 0, 0, 0), (52, 2, 1, 0, 0), (53, 1, 5, 0, 0), (55, 64, 51, 2, 404), (58, 3, 6, 0, 0), (60, 2, 0, 0, 0), (61, 50, 4, 1, 0), (64, 1, 5, 0, 0), (66, 0, 0, 0, 0), (67, 53, 0, 0, 0), (68, 2, 0, 0, 0), (69, 50, 4, 1, 0), (72, 1, 6, 0, 0), (74, 44, 0, 0, 0), (75, 52, 0, 0, 0), (76, 0, 0, 0, 1), (77, 31, 0, 0, 0), (78, 53, 0, 0, 0), (79, 2, 2, 0, 0), (80, 1, 3, 0, 0), (81, 1, 6, 0, 0), (83, 53, 0, 0, 0), (84, 5, 3, 0, 1), (87, 5, 4, 0, -1), (90, 6, 35, 0, 0), (93, 1, 3, 0, 0), (94, 70, 0, 0, 0)]
theorem fr_50_ok : fw_mk 50 7 4 (some .int) fr_50 = true := by decide +kernel
def ct_k_tell : List (Nat × fw_X) := [(47, x_k_firstEnd), (51, x_k_lastNeighbour), (112, x_k_streetsAt)]
theorem ct_k_tell_ok (d : Nat) : fw_cok fw_T (d + 2) ct_k_tell := by
  intro q hq as W Q h
  simp only [ct_k_tell, List.mem_cons, List.not_mem_nil, or_false] at hq
  rcases hq with rfl | rfl | rfl
  · exact jc_of (x_k_firstEnd_ok (d + 1) as W Q h)
  · exact jc_of (x_k_lastNeighbour_ok (d + 0) as W Q h)
  · exact jc_of (x_k_streetsAt_ok (d + 1) as W Q h)
theorem s_k_tell_0 {Post : Option fw_V → fw_W → Prop} {d : Nat} {W : fw_W}
    (hw_ : jf fw_T (d + 3) 50 2 [(0, .inr (.inl 268)), (1, .inr (.inl 12)), (2, .inr (.inl 339)), (3, .inl (0 : Int))] [] W Post) :
    jf fw_T (d + 3) 50 0 [(0, .inr (.inl 268)), (1, .inr (.inl 12)), (2, .inr (.inl 339))] [] W Post := fw_ok (n := 3) (ss := [(2, [0, 1, 2, 3]), (35, [0, 1, 2, 3, 4])]) (hv := [77]) fr_50_ok fv_marksp_ok (ct_k_tell_ok d) hw_

theorem s_k_tell_35 {Post : Option fw_V → fw_W → Prop} {d : Nat} {W : fw_W} {fil left : Int} {f : fw_W}
    (hw_ : ((left ≤ (2 : Int) → (-2147483648 ≤ fil → fil ≤ 2147483647 → Post (some (.inl fil)) (fw_put [270, 339] 0 [] W f))) ∧ ((2 : Int) < left → (0 ≤ (fw_g W 12 0) → (fw_g W 12 0) ≤ 14 → (0 ≤ (fw_g W 12 0) ∧ (fw_g W 12 0) ≤ 14) ∧ (∀ (r1 : Int), ((-2147483648 ≤ r1 ∧ r1 ≤ 2147483647 ∧ (0 ≤ r1 ∧ r1 < 14))) → (0 ≤ r1 ∧ r1 < 14 ∧ 0 ≤ (fw_g W 12 0) ∧ (fw_g W 12 0) ≤ 14) ∧ (∀ (r2 : Int), ((-2147483648 ≤ r2 ∧ r2 ≤ 2147483647 ∧ (0 ≤ r2 ∧ r2 < 14))) → 0 ≤ r1 ∧ r1 < 14 ∧ -2147483648 ≤ (0 : Int) ∧ (0 : Int) ≤ 2147483647 ∧ (0 ≤ r2 ∧ r2 < 14 ∧ (-2147483648 ≤ (fw_g (fw_up (fw_put [270, 339] 0 [] W f) 270 r1 (0 : Int)) 270 r2) → (fw_g (fw_up (fw_put [270, 339] 0 [] W f) 270 r1 (0 : Int)) 270 r2) ≤ 2147483647 → ∀ v3 : Int, -2147483648 ≤ v3 → v3 ≤ 2147483647 → 0 ≤ r2 ∧ r2 < 14 ∧ -2147483648 ≤ v3 ∧ v3 ≤ 2147483647 ∧ (0 ≤ fil ∧ fil < 14 ∧ -2147483648 ≤ r2 ∧ r2 ≤ 2147483647 ∧ (-2147483648 ≤ fil + (1 : Int) ∧ fil + (1 : Int) ≤ 2147483647 ∧ (-2147483648 ≤ left + (-1 : Int) ∧ left + (-1 : Int) ≤ 2147483647 ∧ (jf fw_T (d + 3) 50 35 [(0, .inr (.inl 268)), (1, .inr (.inl 12)), (2, .inr (.inl 339)), (3, .inl (fil + (1 : Int))), (4, .inl (left + (-1 : Int)))] [] (fw_up (fw_up (fw_up (fw_put [270, 339] 0 [] W f) 270 r1 (0 : Int)) 270 r2 v3) 339 fil r2) Post)))))))))))) :
    jf fw_T (d + 3) 50 35 [(0, .inr (.inl 268)), (1, .inr (.inl 12)), (2, .inr (.inl 339)), (3, .inl fil), (4, .inl left)] [] (fw_put [270, 339] 0 [] W f) Post := fw_ok (n := 34) (ss := [(2, [0, 1, 2, 3]), (35, [0, 1, 2, 3, 4])]) (hv := [77]) fr_50_ok fv_marksp_ok (ct_k_tell_ok d) hw_

theorem s_k_tell_2 {Post : Option fw_V → fw_W → Prop} {d : Nat} {W : fw_W} {fil : Int} {f : fw_W}
    (hw_ : (0 ≤ (fw_g W 12 0) → (fw_g W 12 0) ≤ 14 → (((fw_g W 12 0) ≤ fil → (0 ≤ (fw_g W 12 0) → (fw_g W 12 0) ≤ 14 → jf fw_T (d + 3) 50 35 [(0, .inr (.inl 268)), (1, .inr (.inl 12)), (2, .inr (.inl 339)), (3, .inl (0 : Int)), (4, .inl (fw_g W 12 0))] [] (fw_put [270, 339] 0 [] W f) Post)) ∧ (fil < (fw_g W 12 0) → (0 ≤ (fw_g W 12 0) ∧ (fw_g W 12 0) ≤ 14) ∧ (∀ (r1 : Int), ((-2147483648 ≤ r1 ∧ r1 ≤ 2147483647 ∧ (True))) → 0 ≤ fil ∧ fil < 14 ∧ -2147483648 ≤ r1 ∧ r1 ≤ 2147483647 ∧ (-2147483648 ≤ fil + (1 : Int) ∧ fil + (1 : Int) ≤ 2147483647 ∧ (jf fw_T (d + 3) 50 2 [(0, .inr (.inl 268)), (1, .inr (.inl 12)), (2, .inr (.inl 339)), (3, .inl (fil + (1 : Int)))] [] (fw_up (fw_put [270, 339] 0 [] W f) 270 fil r1) Post))))))) :
    jf fw_T (d + 3) 50 2 [(0, .inr (.inl 268)), (1, .inr (.inl 12)), (2, .inr (.inl 339)), (3, .inl fil)] [] (fw_put [270, 339] 0 [] W f) Post := fw_ok (n := 14) (ss := [(2, [0, 1, 2, 3]), (35, [0, 1, 2, 3, 4])]) (hv := [77]) fr_50_ok fv_marksp_ok (ct_k_tell_ok d) hw_

theorem lm_k_tell_35 {Post : Option fw_V → fw_W → Prop} {d : Nat} {W : fw_W} (hpre : 0 ≤ (fw_g W 12 0) ∧ (fw_g W 12 0) ≤ 14) (hP : ∀ (v : Int) (W2 : fw_W), fw_sm [270, 339] 0 [] W W2 → (-2147483648 ≤ v ∧ v ≤ 2147483647 ∧ (0 ≤ v ∧ v ≤ 14)) → Post (some (.inl v)) W2)  : ∀ (m : Nat) (fil left : Int) (f : fw_W), (left).toNat = m → 0 ≤ fil ∧ fil + left = (fw_g W 12 0) ∧ (2 ≤ left ∨ fil = 0) → jf fw_T (d + 3) 50 35 [(0, .inr (.inl 268)), (1, .inr (.inl 12)), (2, .inr (.inl 339)), (3, .inl fil), (4, .inl left)] [] (fw_put [270, 339] 0 [] W f) Post := by
  intro m
  induction m using Nat.strongRecOn with
  | ind m ih =>
    intro fil left f hm hi
    refine jf_rng (fun hrg => ?_)
    have hrg : -2147483648 ≤ fil ∧ fil ≤ 2147483647 ∧ -2147483648 ≤ left ∧ left ≤ 2147483647 ∧ True := hrg
    refine s_k_tell_35 ?_
    repeat' (first
      | (exact True.intro)
      | (exact hpre.1)
      | (refine And.intro ?_ ?_)
      | (refine jf_put (S := [270, 339]) (o := 0) (F := []) (W := W) (by repeat (first | exact fw_sm_refl | exact fw_sm_put0 | refine fw_sm_arr ?_ rfl | refine fw_sm_up ?_ rfl | refine fw_sm_put ?_ rfl | refine fw_sm_cp ?_ rfl)) (ih _ (by omega) _ _ _ rfl ?_); (first | omega | trivial | (simp (config := { decide := true }) only [fg_in, fg_fin, fg_out, fg_fout, fg_up, fg_same, true_and, and_true] <;> omega)))
      | (refine hP _ _ (by repeat (first | exact fw_sm_refl | exact fw_sm_put0 | refine fw_sm_arr ?_ rfl | refine fw_sm_up ?_ rfl | refine fw_sm_put ?_ rfl | refine fw_sm_cp ?_ rfl)) ?_; (refine ⟨by omega, by omega, ?_⟩; (omega)))
      | omega
      | (intro _))
theorem lm_k_tell_2 {Post : Option fw_V → fw_W → Prop} {d : Nat} {W : fw_W} (hpre : 0 ≤ (fw_g W 12 0) ∧ (fw_g W 12 0) ≤ 14) (hP : ∀ (v : Int) (W2 : fw_W), fw_sm [270, 339] 0 [] W W2 → (-2147483648 ≤ v ∧ v ≤ 2147483647 ∧ (0 ≤ v ∧ v ≤ 14)) → Post (some (.inl v)) W2)  : ∀ (m : Nat) (fil : Int) (f : fw_W), ((fw_g W 12 0) - fil).toNat = m → 0 ≤ fil → jf fw_T (d + 3) 50 2 [(0, .inr (.inl 268)), (1, .inr (.inl 12)), (2, .inr (.inl 339)), (3, .inl fil)] [] (fw_put [270, 339] 0 [] W f) Post := by
  intro m
  induction m using Nat.strongRecOn with
  | ind m ih =>
    intro fil f hm hi
    refine jf_rng (fun hrg => ?_)
    have hrg : -2147483648 ≤ fil ∧ fil ≤ 2147483647 ∧ True := hrg
    refine s_k_tell_2 ?_
    repeat' (first
      | (exact True.intro)
      | (exact hpre.1)
      | (refine And.intro ?_ ?_)
      | (refine jf_put (S := [270, 339]) (o := 0) (F := []) (W := W) (by repeat (first | exact fw_sm_refl | exact fw_sm_put0 | refine fw_sm_arr ?_ rfl | refine fw_sm_up ?_ rfl | refine fw_sm_put ?_ rfl | refine fw_sm_cp ?_ rfl)) (ih _ (by omega) _ _ rfl ?_); (first | omega | trivial | (simp (config := { decide := true }) only [fg_in, fg_fin, fg_out, fg_fout, fg_up, fg_same, true_and, and_true] <;> omega)))
      | (refine jf_put (S := [270, 339]) (o := 0) (F := []) (W := W) (by repeat (first | exact fw_sm_refl | exact fw_sm_put0 | refine fw_sm_arr ?_ rfl | refine fw_sm_up ?_ rfl | refine fw_sm_put ?_ rfl | refine fw_sm_cp ?_ rfl)) (lm_k_tell_35 hpre hP _ _ _ _ rfl ?_); (first | omega | trivial | (simp (config := { decide := true }) only [fg_in, fg_fin, fg_out, fg_fout, fg_up, fg_same, true_and, and_true] <;> omega)))
      | (refine hP _ _ (by repeat (first | exact fw_sm_refl | exact fw_sm_put0 | refine fw_sm_arr ?_ rfl | refine fw_sm_up ?_ rfl | refine fw_sm_put ?_ rfl | refine fw_sm_cp ?_ rfl)) ?_; (refine ⟨by omega, by omega, ?_⟩; (omega)))
      | omega
      | (intro _))
def x_k_tell : fw_X := fun as W Q => match as with
  | [.inr (.inl s_), .inr (.inl r0_), .inr (.inl r1_)] => fw_if (Nat.beq s_ 268) (fw_if (Nat.beq r0_ 12) (fw_if (Nat.beq r1_ 339) ((0 ≤ (fw_g W 12 0) ∧ (fw_g W 12 0) ≤ 14) ∧ (∀ (v : Int) (f : fw_W), (-2147483648 ≤ v ∧ v ≤ 2147483647 ∧ (0 ≤ v ∧ v ≤ 14)) → Q (some (.inl v)) (fw_put [270, 339] 0 [] W f)))))
  | _ => False
theorem x_k_tell_ok (d : Nat) (as : List fw_V) (W : fw_W) (Q : Option fw_V → fw_W → Prop) (hx : x_k_tell as W Q) : jf fw_T (d + 3) 50 0 (fw_args 0 as) [] W Q := by
  unfold x_k_tell at hx
  split at hx
  · rename_i s_ r0_ r1_
    obtain ⟨e0_, hx0⟩ := fw_if_ok hx
    have e0_ := Nat.eq_of_beq_eq_true e0_
    clear hx
    subst e0_
    obtain ⟨e1_, hx1⟩ := fw_if_ok hx0
    have e1_ := Nat.eq_of_beq_eq_true e1_
    clear hx0
    subst e1_
    obtain ⟨e2_, hx2⟩ := fw_if_ok hx1
    have e2_ := Nat.eq_of_beq_eq_true e2_
    clear hx1
    subst e2_
    obtain ⟨hpre, hQ⟩ := hx2
    have hP : ∀ (v : Int) (W2 : fw_W), fw_sm [270, 339] 0 [] W W2 → _ → Q (some (.inl v)) W2 := fun v W2 hs hr => fw_sm_use (Q := fun Z => Q (some (.inl v)) Z) hs (hQ v W2 hr)
    refine s_k_tell_0 ?_
    repeat' (first
      | (exact True.intro)
      | (exact hpre.1)
      | (refine And.intro ?_ ?_)
      | (refine jf_put (S := [270, 339]) (o := 0) (F := []) (W := W) (by repeat (first | exact fw_sm_refl | exact fw_sm_put0 | refine fw_sm_arr ?_ rfl | refine fw_sm_up ?_ rfl | refine fw_sm_put ?_ rfl | refine fw_sm_cp ?_ rfl)) (lm_k_tell_2 hpre hP _ _ _ rfl ?_); (first | omega | trivial | (simp (config := { decide := true }) only [fg_in, fg_fin, fg_out, fg_fout, fg_up, fg_same, true_and, and_true] <;> omega)))
      | (refine jf_put (S := [270, 339]) (o := 0) (F := []) (W := W) (by repeat (first | exact fw_sm_refl | exact fw_sm_put0 | refine fw_sm_arr ?_ rfl | refine fw_sm_up ?_ rfl | refine fw_sm_put ?_ rfl | refine fw_sm_cp ?_ rfl)) (lm_k_tell_35 hpre hP _ _ _ _ rfl ?_); (first | omega | trivial | (simp (config := { decide := true }) only [fg_in, fg_fin, fg_out, fg_fout, fg_up, fg_same, true_and, and_true] <;> omega)))
      | (refine hP _ _ (by repeat (first | exact fw_sm_refl | exact fw_sm_put0 | refine fw_sm_arr ?_ rfl | refine fw_sm_up ?_ rfl | refine fw_sm_put ?_ rfl | refine fw_sm_cp ?_ rfl)) ?_; (refine ⟨by omega, by omega, ?_⟩; (omega)))
      | omega
      | (intro _))
  · exact hx.elim

def fr_176 : fw_P := [(0, 2, 0, 0, 0), (1, 2, 0, 0, 0), (2, 50, 11, 9, 0), (5, 2, 0, 0, 0), (6, 50, 11, 2, 0), (9, 2, 0, 0, 0), (10, 50, 11, 13, 0), (13, 64, 50, 2, 704), (16, 51, 11, 14, 0), (19, 2, 0, 0, 0), (20, 50, 11, 14, 0), (23, 70, 0, 0, 0)]
theorem fr_176_ok : fw_mk 176 1 11 (some .int) fr_176 = true := by decide +kernel
def ct_k_marks : List (Nat × fw_X) := [(50, x_k_tell)]
theorem ct_k_marks_ok (d : Nat) : fw_cok fw_T (d + 3) ct_k_marks := by
  intro q hq as W Q h
  simp only [ct_k_marks, List.mem_cons, List.not_mem_nil, or_false] at hq
  rcases hq with rfl
  · exact jc_of (x_k_tell_ok (d + 0) as W Q h)
theorem s_k_marks_0 {Post : Option fw_V → fw_W → Prop} {d : Nat} {W : fw_W}
    (hw_ : (0 ≤ (fw_g W 12 0) ∧ (fw_g W 12 0) ≤ 14) ∧ (∀ (r1 : Int) (f2 : fw_W), ((-2147483648 ≤ r1 ∧ r1 ≤ 2147483647 ∧ (0 ≤ r1 ∧ r1 ≤ 14))) → 0 ≤ r1 ∧ r1 ≤ 14 ∧ ((0 ≤ (fw_g (fw_up (fw_put [270, 339] 0 [] W f2) 0 14 r1) 0 14) → (fw_g (fw_up (fw_put [270, 339] 0 [] W f2) 0 14 r1) 0 14) ≤ 14 → (-2147483648 ≤ (fw_g (fw_up (fw_put [270, 339] 0 [] W f2) 0 14 r1) 0 14) → (fw_g (fw_up (fw_put [270, 339] 0 [] W f2) 0 14 r1) 0 14) ≤ 2147483647 → Post (some (.inl (fw_g (fw_up (fw_put [270, 339] 0 [] W f2) 0 14 r1) 0 14))) (fw_up (fw_put [270, 339] 0 [] W f2) 0 14 r1)))))) :
    jf fw_T (d + 4) 176 0 [(0, .inr (.inl 0))] [] W Post := fw_ok (n := 13) (ss := []) (hv := []) fr_176_ok fv_owt2_ok (ct_k_marks_ok d) hw_

def x_k_marks : fw_X := fun as W Q => match as with
  | [.inr (.inl s_)] => fw_if (Nat.beq s_ 0) ((0 ≤ (fw_g W 12 0) ∧ (fw_g W 12 0) ≤ 14) ∧ (∀ (v : Int) (f : fw_W), (-2147483648 ≤ v ∧ v ≤ 2147483647 ∧ (True)) → Q (some (.inl v)) (fw_put [270, 339] 0 [14] W f)))
  | _ => False
theorem x_k_marks_ok (d : Nat) (as : List fw_V) (W : fw_W) (Q : Option fw_V → fw_W → Prop) (hx : x_k_marks as W Q) : jf fw_T (d + 4) 176 0 (fw_args 0 as) [] W Q := by
  unfold x_k_marks at hx
  split at hx
  · rename_i s_
    obtain ⟨e_, hpre, hQ⟩ := fw_if_ok hx
    have e_ := Nat.eq_of_beq_eq_true e_
    subst e_
    have hP : ∀ (v : Int) (W2 : fw_W), fw_sm [270, 339] 0 [14] W W2 → _ → Q (some (.inl v)) W2 := fun v W2 hs hr => fw_sm_use (Q := fun Z => Q (some (.inl v)) Z) hs (hQ v W2 hr)
    refine s_k_marks_0 ?_
    repeat' (first
      | (exact True.intro)
      | (exact hpre.1)
      | (refine And.intro ?_ ?_)
      | (refine hP _ _ (by repeat (first | exact fw_sm_refl | exact fw_sm_put0 | refine fw_sm_arr ?_ rfl | refine fw_sm_up ?_ rfl | refine fw_sm_put ?_ rfl | refine fw_sm_cp ?_ rfl)) ?_; (refine ⟨by omega, by omega, ?_⟩; (first | trivial | omega)))
      | omega
      | (intro _))
  · exact hx.elim

def fv_fleetp : List (Nat × ai_C) := [(16, .inr (.inr (.inr (2, [.inl (0, 4, true), .inr (.inl [12]), .inr (.inl [17]), .inr (.inl [18]), .inr (.inl [19]), .inr (.inl [34]), .inr (.inl [35]), .inr (.inl [36]), .inl (0, 20000, true), .inl (0, 65535, true), .inl (-2147483648, 2147483647, true)])))), (17, .inl (.int, 4, 0, 13, true)), (18, .inl (.int, 4, 0, 13, true)), (34, .inl (.int, 14, 0, 14, true)), (35, .inl (.int, 20000, 0, 4194303, true)), (36, .inl (.int, 2048, -2147483648, 2147483647, true)), (12, .inr (.inr (.inr (9, [.inl (0, 14, true), .inl (0, 999, true), .inr (.inl [13]), .inr (.inl [14]), .inr (.inl [15])])))), (13, .inl (.int, 14, -1, 13, true)), (14, .inl (.int, 14, 0, 99, true)), (15, .inl (.int, 14, 0, 99, true))]
def fg_fleetp_G : fw_G := [(19, 14, 14, 0, 13)]
theorem fv_fleetp_ok : fw_view fw_T fv_fleetp fg_fleetp_G := fw_vb_ok (by decide +kernel)
def fr_26 : fw_P := [(0, 0, 0, 0, 0), (1, 3, 1, 0, 0), (2, 1, 1, 0, 0), (3, 0, 0, 0, 14), (5, 13, 21, 0, 0), (8, 2, 0, 0, 0), (9, 50, 2, 5, 0), (12, 1, 1, 0, 0), (13, 0, 0, 0, 0), (14, 53, 0, 0, 0), (15, 5, 1, 0, 1), (18, 6, 2, 0, 0), (21, 0, 0, 0, 0), (22, 3, 1, 0, 0), (23, 1, 1, 0, 0), (24, 2, 0, 0, 0), (25, 50, 2, 1, 0), (28, 50, 9, 0, 0), (31, 13, 95, 0, 0), (34, 0, 0, 0, 0), (35, 3, 2, 0, 0), (36, 1, 2, 0, 0), (37, 2, 0, 0, 0), (38, 50, 2, 1, 0), (41, 50, 9, 0, 0), (44, 13, 89, 0, 0), (47, 2, 0, 0, 0), (48, 50, 2, 1, 0), (51, 1, 1, 0, 0), (52, 1, 2, 0, 0), (53, 64, 113, 2, 309), (56, 25, 83, 0, 0), (59, 2, 0, 0, 0), (60, 50, 2, 4, 0), (63, 1, 1, 0, 0), (64, 56, 0, 0, 0), (65, 2, 0, 0, 0), (66, 50, 2, 5, 0), (69, 1, 1, 0, 0), (70, 52, 0, 0, 0), (71, 1, 2, 0, 0), (72, 53, 0, 0, 0), (73, 2, 0, 0, 0), (74, 50, 2, 5, 0), (77, 1, 1, 0, 0), (78, 44, 0, 0, 0), (79, 52, 0, 0, 0), (80, 0, 0, 0, 1), (81, 30, 0, 0, 0), (82, 53, 0, 0, 0), (83, 5, 2, 0, 1), (86, 6, 36, 0, 0), (89, 5, 1, 0, 1), (92, 6, 23, 0, 0), (95, 72, 0, 0, 0)]
theorem fr_26_ok : fw_mk 26 3 2 none fr_26 = true := by decide +kernel
def ct_k_listNeighbours : List (Nat × fw_X) := [(113, x_k_streetBetween)]
theorem ct_k_listNeighbours_ok (d : Nat) : fw_cok fw_T (d + 1) ct_k_listNeighbours := by
  intro q hq as W Q h
  simp only [ct_k_listNeighbours, List.mem_cons, List.not_mem_nil, or_false] at hq
  rcases hq with rfl
  · exact jc_of (x_k_streetBetween_ok (d + 0) as W Q h)
theorem s_k_listNeighbours_0 {Post : Option fw_V → fw_W → Prop} {d : Nat} {W : fw_W}
    (hw_ : jf fw_T (d + 2) 26 2 [(0, .inr (.inl 16)), (1, .inl (0 : Int))] [] W Post) :
    jf fw_T (d + 2) 26 0 [(0, .inr (.inl 16))] [] W Post := fw_ok (n := 3) (ss := [(2, [0, 1]), (23, [0, 1]), (36, [0, 1, 2])]) (hv := []) fr_26_ok fv_fleetp_ok (ct_k_listNeighbours_ok d) hw_

theorem s_k_listNeighbours_36 {Post : Option fw_V → fw_W → Prop} {d : Nat} {W : fw_W} {h o : Int} {f : fw_W}
    (hw_ : (0 ≤ (fw_g W 12 0) → (fw_g W 12 0) ≤ 14 → (((fw_g W 12 0) ≤ o → -2147483648 ≤ h + (1 : Int) ∧ h + (1 : Int) ≤ 2147483647 ∧ (jf fw_T (d + 2) 26 23 [(0, .inr (.inl 16)), (1, .inl (h + (1 : Int)))] [] (fw_put [34] 0 [] W f) Post)) ∧ (o < (fw_g W 12 0) → (0 ≤ h ∧ h < 14 ∧ 0 ≤ o ∧ o < 14) ∧ (∀ (r1 : Int), ((-2147483648 ≤ r1 ∧ r1 ≤ 2147483647 ∧ (True))) → ((r1 ≤ 0 → -2147483648 ≤ o + (1 : Int) ∧ o + (1 : Int) ≤ 2147483647 ∧ (jf fw_T (d + 2) 26 36 [(0, .inr (.inl 16)), (1, .inl h), (2, .inl (o + (1 : Int)))] [] (fw_put [34] 0 [] W f) Post)) ∧ (0 < r1 → 0 ≤ h ∧ h < 14 ∧ (0 ≤ h ∧ h < 14 ∧ (0 ≤ (fw_g f 34 h) → (fw_g f 34 h) ≤ 14 → 0 ≤ (fw_g f 34 h) ∧ (fw_g f 34 h) < 14 ∧ 0 ≤ o ∧ o ≤ 13 ∧ (0 ≤ h ∧ h < 14 ∧ (0 ≤ (fw_g f 34 h) → (fw_g f 34 h) ≤ 14 → -2147483648 ≤ (fw_g f 34 h) + (1 : Int) ∧ (fw_g f 34 h) + (1 : Int) ≤ 2147483647 ∧ (0 ≤ h ∧ h < 14 ∧ 0 ≤ ((fw_g f 34 h) + (1 : Int)) ∧ ((fw_g f 34 h) + (1 : Int)) ≤ 14 ∧ (-2147483648 ≤ o + (1 : Int) ∧ o + (1 : Int) ≤ 2147483647 ∧ (jf fw_T (d + 2) 26 36 [(0, .inr (.inl 16)), (1, .inl h), (2, .inl (o + (1 : Int)))] [] (fw_up (fw_put [34] 0 [] W f) 34 h ((fw_g f 34 h) + (1 : Int))) Post)))))))))))))) :
    jf fw_T (d + 2) 26 36 [(0, .inr (.inl 16)), (1, .inl h), (2, .inl o)] [] (fw_put [34] 0 [] W f) Post := fw_ok (n := 32) (ss := [(2, [0, 1]), (23, [0, 1]), (36, [0, 1, 2])]) (hv := []) fr_26_ok fv_fleetp_ok (ct_k_listNeighbours_ok d) hw_

theorem s_k_listNeighbours_23 {Post : Option fw_V → fw_W → Prop} {d : Nat} {W : fw_W} {h : Int} {f : fw_W}
    (hw_ : (0 ≤ (fw_g W 12 0) → (fw_g W 12 0) ≤ 14 → (((fw_g W 12 0) ≤ h → Post none (fw_put [34] 0 [] W f)) ∧ (h < (fw_g W 12 0) → jf fw_T (d + 2) 26 36 [(0, .inr (.inl 16)), (1, .inl h), (2, .inl (0 : Int))] [] (fw_put [34] 0 [] W f) Post)))) :
    jf fw_T (d + 2) 26 23 [(0, .inr (.inl 16)), (1, .inl h)] [] (fw_put [34] 0 [] W f) Post := fw_ok (n := 8) (ss := [(2, [0, 1]), (23, [0, 1]), (36, [0, 1, 2])]) (hv := []) fr_26_ok fv_fleetp_ok (ct_k_listNeighbours_ok d) hw_

theorem s_k_listNeighbours_2 {Post : Option fw_V → fw_W → Prop} {d : Nat} {W : fw_W} {h : Int} {f : fw_W}
    (hw_ : (((14 : Int) ≤ h → jf fw_T (d + 2) 26 23 [(0, .inr (.inl 16)), (1, .inl (0 : Int))] [] (fw_put [34] 0 [] W f) Post) ∧ (h < (14 : Int) → 0 ≤ h ∧ h < 14 ∧ 0 ≤ (0 : Int) ∧ (0 : Int) ≤ 14 ∧ (-2147483648 ≤ h + (1 : Int) ∧ h + (1 : Int) ≤ 2147483647 ∧ (jf fw_T (d + 2) 26 2 [(0, .inr (.inl 16)), (1, .inl (h + (1 : Int)))] [] (fw_up (fw_put [34] 0 [] W f) 34 h (0 : Int)) Post))))) :
    jf fw_T (d + 2) 26 2 [(0, .inr (.inl 16)), (1, .inl h)] [] (fw_put [34] 0 [] W f) Post := fw_ok (n := 11) (ss := [(2, [0, 1]), (23, [0, 1]), (36, [0, 1, 2])]) (hv := []) fr_26_ok fv_fleetp_ok (ct_k_listNeighbours_ok d) hw_

theorem lm_k_listNeighbours_36 {Post : Option fw_V → fw_W → Prop} {d : Nat} {W : fw_W} (hpre : 0 ≤ (fw_g W 12 0) ∧ (fw_g W 12 0) ≤ 14) (hP : ∀ (W2 : fw_W), fw_sm [34] 0 [] W W2 → (True) → Post none W2) (M23 : Int) (h23 : ∀ (h : Int) (f : fw_W), (0 ≤ h ∧ ∀ x_, h ≤ x_ → x_ < 14 → (fw_g f 34 x_) = 0) → ((fw_g W 12 0) - h) < M23 → jf fw_T (d + 2) 26 23 [(0, .inr (.inl 16)), (1, .inl h)] [] (fw_put [34] 0 [] W f) Post) : ∀ (m : Nat) (h o : Int) (f : fw_W), ((fw_g W 12 0) - o).toNat = m → ((0 ≤ o ∧ 0 ≤ h ∧ h < (fw_g W 12 0) ∧ 0 ≤ (fw_g f 34 h) ∧ (fw_g f 34 h) ≤ o) ∧ True ∧ (∀ x_, h < x_ → x_ < 14 → (fw_g f 34 x_) = 0)) → ((fw_g W 12 0) - h) ≤ M23 → jf fw_T (d + 2) 26 36 [(0, .inr (.inl 16)), (1, .inl h), (2, .inl o)] [] (fw_put [34] 0 [] W f) Post := by
  intro m
  induction m using Nat.strongRecOn with
  | ind m ih =>
    intro h o f hm hi e23
    refine jf_rng (fun hrg => ?_)
    have hrg : -2147483648 ≤ h ∧ h ≤ 2147483647 ∧ -2147483648 ≤ o ∧ o ≤ 2147483647 ∧ True := hrg
    refine s_k_listNeighbours_36 ?_
    have hi1 := hi.1
    repeat' (first
      | (exact True.intro)
      | (exact hpre.1)
      | (refine And.intro ?_ ?_)
      | (refine (h23 _ _ ?_ (by omega)); (exact ⟨by omega, fun x x1 x2 => hi.2.2 x (by omega) x2⟩))
      | (refine jf_put (S := [34]) (o := 0) (F := []) (W := W) (by repeat (first | exact fw_sm_refl | exact fw_sm_put0 | refine fw_sm_arr ?_ rfl | refine fw_sm_up ?_ rfl | refine fw_sm_put ?_ rfl | refine fw_sm_cp ?_ rfl)) (h23 _ _ ?_ (by omega)); (exact ⟨by omega, fun x x1 x2 => hi.2.2 x (by omega) x2⟩))
      | (refine (ih _ (by omega) _ _ _ rfl ?_ (by omega)); (
        first
          | exact ⟨by omega, trivial, hi.2.2⟩
          | (refine ⟨?_, trivial, fun x x1 x2 => ?_⟩
             · rw [fg_same (by omega) (by omega)]; omega
             · rw [fg_if (by omega) (by omega) (by omega) (by omega), if_neg (by omega)]; exact hi.2.2 x x1 x2)))
      | (refine jf_put (S := [34]) (o := 0) (F := []) (W := W) (by repeat (first | exact fw_sm_refl | exact fw_sm_put0 | refine fw_sm_arr ?_ rfl | refine fw_sm_up ?_ rfl | refine fw_sm_put ?_ rfl | refine fw_sm_cp ?_ rfl)) (ih _ (by omega) _ _ _ rfl ?_ (by omega)); (
        first
          | exact ⟨by omega, trivial, hi.2.2⟩
          | (refine ⟨?_, trivial, fun x x1 x2 => ?_⟩
             · rw [fg_same (by omega) (by omega)]; omega
             · rw [fg_if (by omega) (by omega) (by omega) (by omega), if_neg (by omega)]; exact hi.2.2 x x1 x2)))
      | (refine hP _ (by repeat (first | exact fw_sm_refl | exact fw_sm_put0 | refine fw_sm_arr ?_ rfl | refine fw_sm_up ?_ rfl | refine fw_sm_put ?_ rfl | refine fw_sm_cp ?_ rfl)) ?_; (first | trivial | omega))
      | omega
      | (intro _))
theorem lm_k_listNeighbours_23 {Post : Option fw_V → fw_W → Prop} {d : Nat} {W : fw_W} (hpre : 0 ≤ (fw_g W 12 0) ∧ (fw_g W 12 0) ≤ 14) (hP : ∀ (W2 : fw_W), fw_sm [34] 0 [] W W2 → (True) → Post none W2)  : ∀ (m : Nat) (h : Int) (f : fw_W), ((fw_g W 12 0) - h).toNat = m → (0 ≤ h ∧ ∀ x_, h ≤ x_ → x_ < 14 → (fw_g f 34 x_) = 0) → jf fw_T (d + 2) 26 23 [(0, .inr (.inl 16)), (1, .inl h)] [] (fw_put [34] 0 [] W f) Post := by
  intro m
  induction m using Nat.strongRecOn with
  | ind m ih =>
    intro h f hm hi
    refine jf_rng (fun hrg => ?_)
    have hrg : -2147483648 ≤ h ∧ h ≤ 2147483647 ∧ True := hrg
    refine s_k_listNeighbours_23 ?_
    have hi1 := hi.1
    have hi2 := hi.2 h (by omega)
    repeat' (first
      | (exact True.intro)
      | (exact hpre.1)
      | (refine And.intro ?_ ?_)
      | (refine (ih _ (by omega) _ _ rfl ?_); (first | omega | trivial | (simp (config := { decide := true }) only [fg_in, fg_fin, fg_out, fg_fout, fg_up, fg_same, true_and, and_true] <;> omega)))
      | (refine jf_put (S := [34]) (o := 0) (F := []) (W := W) (by repeat (first | exact fw_sm_refl | exact fw_sm_put0 | refine fw_sm_arr ?_ rfl | refine fw_sm_up ?_ rfl | refine fw_sm_put ?_ rfl | refine fw_sm_cp ?_ rfl)) (ih _ (by omega) _ _ rfl ?_); (first | omega | trivial | (simp (config := { decide := true }) only [fg_in, fg_fin, fg_out, fg_fout, fg_up, fg_same, true_and, and_true] <;> omega)))
      | (refine (lm_k_listNeighbours_36 hpre hP ((fw_g W 12 0) - h) (fun a0 af hi hl => ih _ (by omega) a0 af rfl hi) _ _ _ _ rfl ?_ (by omega)); (exact ⟨by omega, trivial, fun x x1 x2 => hi.2 x (by omega) x2⟩))
      | (refine jf_put (S := [34]) (o := 0) (F := []) (W := W) (by repeat (first | exact fw_sm_refl | exact fw_sm_put0 | refine fw_sm_arr ?_ rfl | refine fw_sm_up ?_ rfl | refine fw_sm_put ?_ rfl | refine fw_sm_cp ?_ rfl)) (lm_k_listNeighbours_36 hpre hP ((fw_g W 12 0) - h) (fun a0 af hi hl => ih _ (by omega) a0 af rfl hi) _ _ _ _ rfl ?_ (by omega)); (exact ⟨by omega, trivial, fun x x1 x2 => hi.2 x (by omega) x2⟩))
      | (refine hP _ (by repeat (first | exact fw_sm_refl | exact fw_sm_put0 | refine fw_sm_arr ?_ rfl | refine fw_sm_up ?_ rfl | refine fw_sm_put ?_ rfl | refine fw_sm_cp ?_ rfl)) ?_; (first | trivial | omega))
      | omega
      | (intro _))
theorem lm_k_listNeighbours_2 {Post : Option fw_V → fw_W → Prop} {d : Nat} {W : fw_W} (hpre : 0 ≤ (fw_g W 12 0) ∧ (fw_g W 12 0) ≤ 14) (hP : ∀ (W2 : fw_W), fw_sm [34] 0 [] W W2 → (True) → Post none W2)  : ∀ (m : Nat) (h : Int) (f : fw_W), (14 - h).toNat = m → (0 ≤ h ∧ ∀ x_, 0 ≤ x_ → x_ < h → (fw_g f 34 x_) = 0) → jf fw_T (d + 2) 26 2 [(0, .inr (.inl 16)), (1, .inl h)] [] (fw_put [34] 0 [] W f) Post := by
  intro m
  induction m using Nat.strongRecOn with
  | ind m ih =>
    intro h f hm hi
    refine jf_rng (fun hrg => ?_)
    have hrg : -2147483648 ≤ h ∧ h ≤ 2147483647 ∧ True := hrg
    refine s_k_listNeighbours_2 ?_
    have hi1 := hi.1
    repeat' (first
      | (exact True.intro)
      | (exact hpre.1)
      | (refine And.intro ?_ ?_)
      | (refine (ih _ (by omega) _ _ rfl ?_); (
        refine ⟨by omega, fun x x1 x2 => ?_⟩
        rw [fg_if (by omega) (by omega) (by omega) (by omega)]
        by_cases e : h = x
        · rw [if_pos e]
        · rw [if_neg e]; exact hi.2 x x1 (by omega)))
      | (refine jf_put (S := [34]) (o := 0) (F := []) (W := W) (by repeat (first | exact fw_sm_refl | exact fw_sm_put0 | refine fw_sm_arr ?_ rfl | refine fw_sm_up ?_ rfl | refine fw_sm_put ?_ rfl | refine fw_sm_cp ?_ rfl)) (ih _ (by omega) _ _ rfl ?_); (
        refine ⟨by omega, fun x x1 x2 => ?_⟩
        rw [fg_if (by omega) (by omega) (by omega) (by omega)]
        by_cases e : h = x
        · rw [if_pos e]
        · rw [if_neg e]; exact hi.2 x x1 (by omega)))
      | (refine (lm_k_listNeighbours_23 hpre hP _ _ _ rfl ?_); (exact ⟨by omega, fun x x1 x2 => hi.2 x (by omega) (by omega)⟩))
      | (refine jf_put (S := [34]) (o := 0) (F := []) (W := W) (by repeat (first | exact fw_sm_refl | exact fw_sm_put0 | refine fw_sm_arr ?_ rfl | refine fw_sm_up ?_ rfl | refine fw_sm_put ?_ rfl | refine fw_sm_cp ?_ rfl)) (lm_k_listNeighbours_23 hpre hP _ _ _ rfl ?_); (exact ⟨by omega, fun x x1 x2 => hi.2 x (by omega) (by omega)⟩))
      | (refine hP _ (by repeat (first | exact fw_sm_refl | exact fw_sm_put0 | refine fw_sm_arr ?_ rfl | refine fw_sm_up ?_ rfl | refine fw_sm_put ?_ rfl | refine fw_sm_cp ?_ rfl)) ?_; (first | trivial | omega))
      | omega
      | (intro _))
def x_k_listNeighbours : fw_X := fun as W Q => match as with
  | [.inr (.inl s_)] => fw_if (Nat.beq s_ 16) ((0 ≤ (fw_g W 12 0) ∧ (fw_g W 12 0) ≤ 14) ∧ (∀ (f : fw_W), (True) → Q none (fw_put [34] 0 [] W f)))
  | _ => False
theorem x_k_listNeighbours_ok (d : Nat) (as : List fw_V) (W : fw_W) (Q : Option fw_V → fw_W → Prop) (hx : x_k_listNeighbours as W Q) : jf fw_T (d + 2) 26 0 (fw_args 0 as) [] W Q := by
  unfold x_k_listNeighbours at hx
  split at hx
  · rename_i s_
    obtain ⟨e_, hpre, hQ⟩ := fw_if_ok hx
    have e_ := Nat.eq_of_beq_eq_true e_
    subst e_
    have hP : ∀ (W2 : fw_W), fw_sm [34] 0 [] W W2 → _ → Q none W2 := fun W2 hs hr => fw_sm_use (Q := fun Z => Q none Z) hs (hQ W2 hr)
    refine s_k_listNeighbours_0 ?_
    repeat' (first
      | (exact True.intro)
      | (exact hpre.1)
      | (refine And.intro ?_ ?_)
      | (refine jf_put (S := [34]) (o := 0) (F := []) (W := W) (by repeat (first | exact fw_sm_refl | exact fw_sm_put0 | refine fw_sm_arr ?_ rfl | refine fw_sm_up ?_ rfl | refine fw_sm_put ?_ rfl | refine fw_sm_cp ?_ rfl)) (lm_k_listNeighbours_2 hpre hP _ _ _ rfl ?_); (exact ⟨by omega, fun x x1 x2 => by omega⟩))
      | (refine jf_put (S := [34]) (o := 0) (F := []) (W := W) (by repeat (first | exact fw_sm_refl | exact fw_sm_put0 | refine fw_sm_arr ?_ rfl | refine fw_sm_up ?_ rfl | refine fw_sm_put ?_ rfl | refine fw_sm_cp ?_ rfl)) (lm_k_listNeighbours_23 hpre hP _ _ _ rfl ?_); (first | omega | trivial | (simp (config := { decide := true }) only [fg_in, fg_fin, fg_out, fg_fout, fg_up, fg_same, true_and, and_true] <;> omega)))
      | (refine jf_put (S := [34]) (o := 0) (F := []) (W := W) (by repeat (first | exact fw_sm_refl | exact fw_sm_put0 | refine fw_sm_arr ?_ rfl | refine fw_sm_up ?_ rfl | refine fw_sm_put ?_ rfl | refine fw_sm_cp ?_ rfl)) (lm_k_listNeighbours_36 hpre hP M23 h23 _ _ _ _ rfl ?_ (by omega)); (first | omega | trivial | (simp (config := { decide := true }) only [fg_in, fg_fin, fg_out, fg_fout, fg_up, fg_same, true_and, and_true] <;> omega)))
      | (refine hP _ (by repeat (first | exact fw_sm_refl | exact fw_sm_put0 | refine fw_sm_arr ?_ rfl | refine fw_sm_up ?_ rfl | refine fw_sm_put ?_ rfl | refine fw_sm_cp ?_ rfl)) ?_; (first | trivial | omega))
      | omega
      | (intro _))
  · exact hx.elim

