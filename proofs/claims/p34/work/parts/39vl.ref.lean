/-! the reference, method by method -/
def fr_194 : fw_P := [(0, 81, 0, 0, 0), (1, 80, 1301, 0, 0), (4, 90, 0, 0, 0), (5, 20, 56, 0, 0), (8, 81, 0, 0, 0), (9, 80, 1000, 0, 0), (12, 90, 0, 0, 0), (13, 20, 56, 0, 0), (16, 81, 0, 0, 0), (17, 80, 1000, 0, 0), (20, 90, 0, 0, 0), (21, 20, 56, 0, 0), (24, 81, 0, 0, 0), (25, 80, 1000, 0, 0), (28, 90, 0, 0, 0), (29, 20, 56, 0, 0), (32, 81, 0, 0, 0), (33, 80, 1302, 0, 0), (36, 90, 0, 0, 0), (37, 20, 56, 0, 0), (40, 81, 0, 0, 0), (41, 80, 1000, 0, 0), (44, 90, 0, 0, 0), (45, 20, 56, 0, 0), (48, 81, 0, 0, 0), (49, 80, 1303, 0, 0), (52, 90, 0, 0, 0), (53, 21, 60, 0, 0), (56, 0, 0, 0, 1), (57, 6, 61, 0, 0), (60, 0, 0, 0, 0), (61, 71, 0, 0, 0)]
theorem fr_194_ok : fw_mk 194 2 12 (some .boolean) fr_194 = true := by decide +kernel
theorem s_isKept0_0 {Post : Option fw_V → fw_W → Prop} {d : Nat} {W : fw_W}
    (hw_ : (∀ v1 : Int, -1 ≤ v1 → v1 ≤ 1 → ((v1 = 0 → 0 ≤ (1 : Int) ∧ (1 : Int) ≤ 1 ∧ Post (some (.inl (1 : Int))) W) ∧ (¬ v1 = 0 → (∀ v2 : Int, -1 ≤ v2 → v2 ≤ 1 → ((v2 = 0 → 0 ≤ (1 : Int) ∧ (1 : Int) ≤ 1 ∧ Post (some (.inl (1 : Int))) W) ∧ (¬ v2 = 0 → (∀ v3 : Int, -1 ≤ v3 → v3 ≤ 1 → ((v3 = 0 → 0 ≤ (1 : Int) ∧ (1 : Int) ≤ 1 ∧ Post (some (.inl (1 : Int))) W) ∧ (¬ v3 = 0 → (∀ v4 : Int, -1 ≤ v4 → v4 ≤ 1 → ((v4 = 0 → 0 ≤ (1 : Int) ∧ (1 : Int) ≤ 1 ∧ Post (some (.inl (1 : Int))) W) ∧ (¬ v4 = 0 → (∀ v5 : Int, -1 ≤ v5 → v5 ≤ 1 → ((v5 = 0 → 0 ≤ (1 : Int) ∧ (1 : Int) ≤ 1 ∧ Post (some (.inl (1 : Int))) W) ∧ (¬ v5 = 0 → (∀ v6 : Int, -1 ≤ v6 → v6 ≤ 1 → ((v6 = 0 → 0 ≤ (1 : Int) ∧ (1 : Int) ≤ 1 ∧ Post (some (.inl (1 : Int))) W) ∧ (¬ v6 = 0 → (∀ v7 : Int, -1 ≤ v7 → v7 ≤ 1 → ((¬ v7 = 0 → 0 ≤ (0 : Int) ∧ (0 : Int) ≤ 1 ∧ Post (some (.inl (0 : Int))) W) ∧ (v7 = 0 → 0 ≤ (1 : Int) ∧ (1 : Int) ≤ 1 ∧ Post (some (.inl (1 : Int))) W)))))))))))))))))))))) :
    jf fw_T (d + 1) 194 0 [(0, .inr (.inr 1000))] [] W Post := fw_ok (n := 32) (ss := []) (hv := []) fr_194_ok fm_ok (fw_c0 _ _) hw_

def x_isKept0 : fw_X := fun as W Q => match as with
  | [.inr (.inr l0_)] => fw_if (Nat.beq l0_ 1000) ((True) ∧ (∀ (v : Int), (0 ≤ v ∧ v ≤ 1 ∧ (True)) → Q (some (.inl v)) W))
  | _ => False
theorem x_isKept0_ok (d : Nat) (as : List fw_V) (W : fw_W) (Q : Option fw_V → fw_W → Prop) (hx : x_isKept0 as W Q) : jf fw_T (d + 1) 194 0 (fw_args 0 as) [] W Q := by
  unfold x_isKept0 at hx
  split at hx
  · rename_i l0_
    obtain ⟨e0_, hx0⟩ := fw_if_ok hx
    have e0_ := Nat.eq_of_beq_eq_true e0_
    clear hx
    subst e0_
    obtain ⟨hpre, hQ⟩ := hx0
    have hP := hQ
    refine s_isKept0_0 ?_
    repeat' (first
      | (exact True.intro)
      | (exact hpre.1)
      | (refine And.intro ?_ ?_)
      | (refine hP _ ?_; (refine ⟨by omega, by omega, ?_⟩; (first | trivial | omega)))
      | omega
      | (intro _))
  · exact hx.elim

theorem fw_v_wk {T : List ai_C} {c : Nat} {v : Value} (h : Nat.ble 1000 c = true) (g : fw_v T (.inr (.inr c)) v) : fw_v T (.inr (.inr 1000)) v := by
  obtain ⟨-, l, rfl, -⟩ := fw_v_lg g h
  exact fw_v_any T l
def x_isKept : fw_X := fun as W Q => match as with
  | [.inr (.inr l_)] => fw_if (Nat.ble 1000 l_) ((True) ∧ (∀ (v : Int), (0 ≤ v ∧ v ≤ 1 ∧ (True)) → Q (some (.inl v)) W))
  | _ => False
theorem x_isKept_ok (d : Nat) (as : List fw_V) (W : fw_W) (Q : Option fw_V → fw_W → Prop) (hx : x_isKept as W Q) : jc fw_T (d + 1) 194 as W Q := by
  unfold x_isKept at hx
  split at hx
  · rename_i l_
    obtain ⟨e0, hx⟩ := fw_if_ok hx
    intro asc h ht hh
    obtain ⟨v, rc, rfl, g, hr⟩ := fw_t_cons ht
    exact jc_of (x_isKept0_ok d [.inr (.inr 1000)] W Q hx) (v :: rc) h ⟨fw_v_wk e0 g, hr⟩ hh
  · exact hx.elim
def fr_199 : fw_P := [(0, 2, 0, 0, 0), (1, 50, 12, 8, 0), (4, 0, 0, 0, 3), (5, 11, 21, 0, 0), (8, 2, 0, 0, 0), (9, 50, 12, 10, 0), (12, 81, 1, 0, 0), (13, 90, 0, 0, 0), (14, 21, 21, 0, 0), (17, 0, 0, 0, 1), (18, 6, 22, 0, 0), (21, 0, 0, 0, 0), (22, 71, 0, 0, 0)]
theorem fr_199_ok : fw_mk 199 3 12 (some .boolean) fr_199 = true := by decide +kernel
theorem s_isWord0_0 {Post : Option fw_V → fw_W → Prop} {d : Nat} {W : fw_W}
    (hw_ : (0 ≤ (fw_g W 352 8) → (fw_g W 352 8) ≤ 5 → ((¬ (fw_g W 352 8) = (3 : Int) → 0 ≤ (0 : Int) ∧ (0 : Int) ≤ 1 ∧ Post (some (.inl (0 : Int))) W) ∧ ((fw_g W 352 8) = (3 : Int) → ((fw_g W 999 0) = 0 → (∀ v1 : Int, -1 ≤ v1 → v1 ≤ 1 → ((¬ v1 = 0 → 0 ≤ (0 : Int) ∧ (0 : Int) ≤ 1 ∧ Post (some (.inl (0 : Int))) W) ∧ (v1 = 0 → 0 ≤ (1 : Int) ∧ (1 : Int) ≤ 1 ∧ Post (some (.inl (1 : Int))) W)))) ∧ ((fw_g W 999 0) = 1 → (∀ v2 : Int, -1 ≤ v2 → v2 ≤ 1 → ((¬ v2 = 0 → 0 ≤ (0 : Int) ∧ (0 : Int) ≤ 1 ∧ Post (some (.inl (0 : Int))) W) ∧ (v2 = 0 → 0 ≤ (1 : Int) ∧ (1 : Int) ≤ 1 ∧ Post (some (.inl (1 : Int))) W)))) ∧ ((fw_g W 999 0) = 2 → (∀ v3 : Int, -1 ≤ v3 → v3 ≤ 1 → ((¬ v3 = 0 → 0 ≤ (0 : Int) ∧ (0 : Int) ≤ 1 ∧ Post (some (.inl (0 : Int))) W) ∧ (v3 = 0 → 0 ≤ (1 : Int) ∧ (1 : Int) ≤ 1 ∧ Post (some (.inl (1 : Int))) W)))) ∧ ((fw_g W 999 0) = 3 → (∀ v4 : Int, -1 ≤ v4 → v4 ≤ 1 → ((¬ v4 = 0 → 0 ≤ (0 : Int) ∧ (0 : Int) ≤ 1 ∧ Post (some (.inl (0 : Int))) W) ∧ (v4 = 0 → 0 ≤ (1 : Int) ∧ (1 : Int) ≤ 1 ∧ Post (some (.inl (1 : Int))) W)))))))) :
    jf fw_T (d + 1) 199 0 [(0, .inr (.inl 352)), (1, .inr (.inr 1000))] [] W Post := fw_ok (n := 13) (ss := []) (hv := []) fr_199_ok fm_ok (fw_c0 _ _) hw_

def x_isWord0 : fw_X := fun as W Q => match as with
  | [.inr (.inl s_), .inr (.inr l0_)] => fw_if (Nat.beq s_ 352) (fw_if (Nat.beq l0_ 1000) ((True) ∧ (∀ (v : Int), (0 ≤ v ∧ v ≤ 1 ∧ (True)) → Q (some (.inl v)) W)))
  | _ => False
theorem x_isWord0_ok (d : Nat) (as : List fw_V) (W : fw_W) (Q : Option fw_V → fw_W → Prop) (hx : x_isWord0 as W Q) : jf fw_T (d + 1) 199 0 (fw_args 0 as) [] W Q := by
  unfold x_isWord0 at hx
  split at hx
  · rename_i s_ l0_
    obtain ⟨e0_, hx0⟩ := fw_if_ok hx
    have e0_ := Nat.eq_of_beq_eq_true e0_
    clear hx
    subst e0_
    obtain ⟨e1_, hx1⟩ := fw_if_ok hx0
    have e1_ := Nat.eq_of_beq_eq_true e1_
    clear hx0
    subst e1_
    obtain ⟨hpre, hQ⟩ := hx1
    have hP := hQ
    refine s_isWord0_0 ?_
    repeat' (first
      | (exact True.intro)
      | (exact hpre.1)
      | (refine And.intro ?_ ?_)
      | (refine hP _ ?_; (refine ⟨by omega, by omega, ?_⟩; (first | exact True.intro | omega)))
      | omega
      | (intro _))
  · exact hx.elim

theorem s_isWord301_0 {Post : Option fw_V → fw_W → Prop} {d : Nat} {W : fw_W}
    (hw_ : (0 ≤ (fw_g W 352 8) → (fw_g W 352 8) ≤ 5 → ((¬ (fw_g W 352 8) = (3 : Int) → 0 ≤ (0 : Int) ∧ (0 : Int) ≤ 1 ∧ Post (some (.inl (0 : Int))) W) ∧ ((fw_g W 352 8) = (3 : Int) → ((fw_g W 999 0) = 0 → (∀ v1 : Int, -1 ≤ v1 → v1 ≤ 1 → ¬ v1 = 0 → ((¬ v1 = 0 → 0 ≤ (0 : Int) ∧ (0 : Int) ≤ 1 ∧ Post (some (.inl (0 : Int))) W) ∧ (v1 = 0 → 0 ≤ (1 : Int) ∧ (1 : Int) ≤ 1 ∧ Post (some (.inl (1 : Int))) W)))) ∧ ((fw_g W 999 0) = 1 → ((¬ (0 : Int) = 0 → 0 ≤ (0 : Int) ∧ (0 : Int) ≤ 1 ∧ Post (some (.inl (0 : Int))) W) ∧ ((0 : Int) = 0 → 0 ≤ (1 : Int) ∧ (1 : Int) ≤ 1 ∧ Post (some (.inl (1 : Int))) W))) ∧ ((fw_g W 999 0) = 2 → (∀ v2 : Int, -1 ≤ v2 → v2 ≤ 1 → ¬ v2 = 0 → ((¬ v2 = 0 → 0 ≤ (0 : Int) ∧ (0 : Int) ≤ 1 ∧ Post (some (.inl (0 : Int))) W) ∧ (v2 = 0 → 0 ≤ (1 : Int) ∧ (1 : Int) ≤ 1 ∧ Post (some (.inl (1 : Int))) W)))) ∧ ((fw_g W 999 0) = 3 → (∀ v3 : Int, -1 ≤ v3 → v3 ≤ 1 → ¬ v3 = 0 → ((¬ v3 = 0 → 0 ≤ (0 : Int) ∧ (0 : Int) ≤ 1 ∧ Post (some (.inl (0 : Int))) W) ∧ (v3 = 0 → 0 ≤ (1 : Int) ∧ (1 : Int) ≤ 1 ∧ Post (some (.inl (1 : Int))) W)))))))) :
    jf fw_T (d + 1) 199 0 [(0, .inr (.inl 352)), (1, .inr (.inr 1301))] [] W Post := fw_ok (n := 13) (ss := []) (hv := []) fr_199_ok fm_ok (fw_c0 _ _) hw_

def x_isWord301 : fw_X := fun as W Q => match as with
  | [.inr (.inl s_), .inr (.inr l0_)] => fw_if (Nat.beq s_ 352) (fw_if (Nat.beq l0_ 1301) ((True) ∧ (∀ (v : Int), (0 ≤ v ∧ v ≤ 1 ∧ ((v = 1 ↔ (fw_g W 352 8) = 3 ∧ (fw_g W 999 0) + 1300 = 1301))) → Q (some (.inl v)) W)))
  | _ => False
theorem x_isWord301_ok (d : Nat) (as : List fw_V) (W : fw_W) (Q : Option fw_V → fw_W → Prop) (hx : x_isWord301 as W Q) : jf fw_T (d + 1) 199 0 (fw_args 0 as) [] W Q := by
  unfold x_isWord301 at hx
  split at hx
  · rename_i s_ l0_
    obtain ⟨e0_, hx0⟩ := fw_if_ok hx
    have e0_ := Nat.eq_of_beq_eq_true e0_
    clear hx
    subst e0_
    obtain ⟨e1_, hx1⟩ := fw_if_ok hx0
    have e1_ := Nat.eq_of_beq_eq_true e1_
    clear hx0
    subst e1_
    obtain ⟨hpre, hQ⟩ := hx1
    have hP := hQ
    refine s_isWord301_0 ?_
    repeat' (first
      | (exact True.intro)
      | (exact hpre.1)
      | (refine And.intro ?_ ?_)
      | (refine hP _ ?_; (refine ⟨by omega, by omega, ?_⟩; (first | exact True.intro | omega)))
      | omega
      | (intro _))
  · exact hx.elim

theorem s_isWord302_0 {Post : Option fw_V → fw_W → Prop} {d : Nat} {W : fw_W}
    (hw_ : (0 ≤ (fw_g W 352 8) → (fw_g W 352 8) ≤ 5 → ((¬ (fw_g W 352 8) = (3 : Int) → 0 ≤ (0 : Int) ∧ (0 : Int) ≤ 1 ∧ Post (some (.inl (0 : Int))) W) ∧ ((fw_g W 352 8) = (3 : Int) → ((fw_g W 999 0) = 0 → (∀ v1 : Int, -1 ≤ v1 → v1 ≤ 1 → ¬ v1 = 0 → ((¬ v1 = 0 → 0 ≤ (0 : Int) ∧ (0 : Int) ≤ 1 ∧ Post (some (.inl (0 : Int))) W) ∧ (v1 = 0 → 0 ≤ (1 : Int) ∧ (1 : Int) ≤ 1 ∧ Post (some (.inl (1 : Int))) W)))) ∧ ((fw_g W 999 0) = 1 → (∀ v2 : Int, -1 ≤ v2 → v2 ≤ 1 → ¬ v2 = 0 → ((¬ v2 = 0 → 0 ≤ (0 : Int) ∧ (0 : Int) ≤ 1 ∧ Post (some (.inl (0 : Int))) W) ∧ (v2 = 0 → 0 ≤ (1 : Int) ∧ (1 : Int) ≤ 1 ∧ Post (some (.inl (1 : Int))) W)))) ∧ ((fw_g W 999 0) = 2 → ((¬ (0 : Int) = 0 → 0 ≤ (0 : Int) ∧ (0 : Int) ≤ 1 ∧ Post (some (.inl (0 : Int))) W) ∧ ((0 : Int) = 0 → 0 ≤ (1 : Int) ∧ (1 : Int) ≤ 1 ∧ Post (some (.inl (1 : Int))) W))) ∧ ((fw_g W 999 0) = 3 → (∀ v3 : Int, -1 ≤ v3 → v3 ≤ 1 → ¬ v3 = 0 → ((¬ v3 = 0 → 0 ≤ (0 : Int) ∧ (0 : Int) ≤ 1 ∧ Post (some (.inl (0 : Int))) W) ∧ (v3 = 0 → 0 ≤ (1 : Int) ∧ (1 : Int) ≤ 1 ∧ Post (some (.inl (1 : Int))) W)))))))) :
    jf fw_T (d + 1) 199 0 [(0, .inr (.inl 352)), (1, .inr (.inr 1302))] [] W Post := fw_ok (n := 13) (ss := []) (hv := []) fr_199_ok fm_ok (fw_c0 _ _) hw_

def x_isWord302 : fw_X := fun as W Q => match as with
  | [.inr (.inl s_), .inr (.inr l0_)] => fw_if (Nat.beq s_ 352) (fw_if (Nat.beq l0_ 1302) ((True) ∧ (∀ (v : Int), (0 ≤ v ∧ v ≤ 1 ∧ ((v = 1 ↔ (fw_g W 352 8) = 3 ∧ (fw_g W 999 0) + 1300 = 1302))) → Q (some (.inl v)) W)))
  | _ => False
theorem x_isWord302_ok (d : Nat) (as : List fw_V) (W : fw_W) (Q : Option fw_V → fw_W → Prop) (hx : x_isWord302 as W Q) : jf fw_T (d + 1) 199 0 (fw_args 0 as) [] W Q := by
  unfold x_isWord302 at hx
  split at hx
  · rename_i s_ l0_
    obtain ⟨e0_, hx0⟩ := fw_if_ok hx
    have e0_ := Nat.eq_of_beq_eq_true e0_
    clear hx
    subst e0_
    obtain ⟨e1_, hx1⟩ := fw_if_ok hx0
    have e1_ := Nat.eq_of_beq_eq_true e1_
    clear hx0
    subst e1_
    obtain ⟨hpre, hQ⟩ := hx1
    have hP := hQ
    refine s_isWord302_0 ?_
    repeat' (first
      | (exact True.intro)
      | (exact hpre.1)
      | (refine And.intro ?_ ?_)
      | (refine hP _ ?_; (refine ⟨by omega, by omega, ?_⟩; (first | exact True.intro | omega)))
      | omega
      | (intro _))
  · exact hx.elim

theorem s_isWord303_0 {Post : Option fw_V → fw_W → Prop} {d : Nat} {W : fw_W}
    (hw_ : (0 ≤ (fw_g W 352 8) → (fw_g W 352 8) ≤ 5 → ((¬ (fw_g W 352 8) = (3 : Int) → 0 ≤ (0 : Int) ∧ (0 : Int) ≤ 1 ∧ Post (some (.inl (0 : Int))) W) ∧ ((fw_g W 352 8) = (3 : Int) → ((fw_g W 999 0) = 0 → (∀ v1 : Int, -1 ≤ v1 → v1 ≤ 1 → ¬ v1 = 0 → ((¬ v1 = 0 → 0 ≤ (0 : Int) ∧ (0 : Int) ≤ 1 ∧ Post (some (.inl (0 : Int))) W) ∧ (v1 = 0 → 0 ≤ (1 : Int) ∧ (1 : Int) ≤ 1 ∧ Post (some (.inl (1 : Int))) W)))) ∧ ((fw_g W 999 0) = 1 → (∀ v2 : Int, -1 ≤ v2 → v2 ≤ 1 → ¬ v2 = 0 → ((¬ v2 = 0 → 0 ≤ (0 : Int) ∧ (0 : Int) ≤ 1 ∧ Post (some (.inl (0 : Int))) W) ∧ (v2 = 0 → 0 ≤ (1 : Int) ∧ (1 : Int) ≤ 1 ∧ Post (some (.inl (1 : Int))) W)))) ∧ ((fw_g W 999 0) = 2 → (∀ v3 : Int, -1 ≤ v3 → v3 ≤ 1 → ¬ v3 = 0 → ((¬ v3 = 0 → 0 ≤ (0 : Int) ∧ (0 : Int) ≤ 1 ∧ Post (some (.inl (0 : Int))) W) ∧ (v3 = 0 → 0 ≤ (1 : Int) ∧ (1 : Int) ≤ 1 ∧ Post (some (.inl (1 : Int))) W)))) ∧ ((fw_g W 999 0) = 3 → ((¬ (0 : Int) = 0 → 0 ≤ (0 : Int) ∧ (0 : Int) ≤ 1 ∧ Post (some (.inl (0 : Int))) W) ∧ ((0 : Int) = 0 → 0 ≤ (1 : Int) ∧ (1 : Int) ≤ 1 ∧ Post (some (.inl (1 : Int))) W))))))) :
    jf fw_T (d + 1) 199 0 [(0, .inr (.inl 352)), (1, .inr (.inr 1303))] [] W Post := fw_ok (n := 13) (ss := []) (hv := []) fr_199_ok fm_ok (fw_c0 _ _) hw_

def x_isWord303 : fw_X := fun as W Q => match as with
  | [.inr (.inl s_), .inr (.inr l0_)] => fw_if (Nat.beq s_ 352) (fw_if (Nat.beq l0_ 1303) ((True) ∧ (∀ (v : Int), (0 ≤ v ∧ v ≤ 1 ∧ ((v = 1 ↔ (fw_g W 352 8) = 3 ∧ (fw_g W 999 0) + 1300 = 1303))) → Q (some (.inl v)) W)))
  | _ => False
theorem x_isWord303_ok (d : Nat) (as : List fw_V) (W : fw_W) (Q : Option fw_V → fw_W → Prop) (hx : x_isWord303 as W Q) : jf fw_T (d + 1) 199 0 (fw_args 0 as) [] W Q := by
  unfold x_isWord303 at hx
  split at hx
  · rename_i s_ l0_
    obtain ⟨e0_, hx0⟩ := fw_if_ok hx
    have e0_ := Nat.eq_of_beq_eq_true e0_
    clear hx
    subst e0_
    obtain ⟨e1_, hx1⟩ := fw_if_ok hx0
    have e1_ := Nat.eq_of_beq_eq_true e1_
    clear hx0
    subst e1_
    obtain ⟨hpre, hQ⟩ := hx1
    have hP := hQ
    refine s_isWord303_0 ?_
    repeat' (first
      | (exact True.intro)
      | (exact hpre.1)
      | (refine And.intro ?_ ?_)
      | (refine hP _ ?_; (refine ⟨by omega, by omega, ?_⟩; (first | exact True.intro | omega)))
      | omega
      | (intro _))
  · exact hx.elim

def fw_wp (l : Nat) (W : fw_W) (v : Int) : Prop := match Nat.ble 1301 l with
  | true => (v = 1 ↔ fw_g W 352 8 = 3 ∧ fw_g W 999 0 + 1300 = (l : Int))
  | false => True
def x_isWord : fw_X := fun as W Q => match as with
  | [.inr (.inl s_), .inr (.inr l_)] => fw_if (Nat.beq s_ 352) (fw_if (Nat.beq l_ 1000 || (Nat.beq l_ 1301 || (Nat.beq l_ 1302 || Nat.beq l_ 1303))) ((True) ∧ (∀ (v : Int), (0 ≤ v ∧ v ≤ 1 ∧ (fw_wp l_ W v)) → Q (some (.inl v)) W)))
  | _ => False
theorem x_isWord_ok (d : Nat) (as : List fw_V) (W : fw_W) (Q : Option fw_V → fw_W → Prop) (hx : x_isWord as W Q) : jf fw_T (d + 1) 199 0 (fw_args 0 as) [] W Q := by
  unfold x_isWord at hx
  split at hx
  · rename_i s_ l_
    obtain ⟨e0, hx⟩ := fw_if_ok hx
    obtain ⟨e1, hx⟩ := fw_if_ok hx
    have e0 := Nat.eq_of_beq_eq_true e0
    subst e0
    rw [Bool.or_eq_true, Bool.or_eq_true, Bool.or_eq_true] at e1
    rcases e1 with e1 | e1 | e1 | e1
    · have e1 := Nat.eq_of_beq_eq_true e1
      subst e1
      exact x_isWord0_ok d [.inr (.inl 352), .inr (.inr 1000)] W Q hx
    · have e1 := Nat.eq_of_beq_eq_true e1
      subst e1
      exact x_isWord301_ok d [.inr (.inl 352), .inr (.inr 1301)] W Q ⟨trivial, fun v hv => hx.2 v hv⟩
    · have e1 := Nat.eq_of_beq_eq_true e1
      subst e1
      exact x_isWord302_ok d [.inr (.inl 352), .inr (.inr 1302)] W Q ⟨trivial, fun v hv => hx.2 v hv⟩
    · have e1 := Nat.eq_of_beq_eq_true e1
      subst e1
      exact x_isWord303_ok d [.inr (.inl 352), .inr (.inr 1303)] W Q ⟨trivial, fun v hv => hx.2 v hv⟩
  · exact hx.elim
