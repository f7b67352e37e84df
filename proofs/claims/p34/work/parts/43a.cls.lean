/-! likeness -/
def fv_tk12 : List (Nat × ai_C) := [(12, .inr (.inr (.inr (9, [.inl (0, 14, true), .inl (0, 999, true), .inr (.inl [13]), .inr (.inl [14]), .inr (.inl [15])])))), (13, .inl (.int, 14, -1, 13, true)), (14, .inl (.int, 14, 0, 99, true)), (15, .inl (.int, 14, 0, 99, true))]
def fg_tk12_G : fw_G := []
theorem fv_tk12_ok : fw_view fw_T fv_tk12 fg_tk12_G := fw_vb_ok (by decide +kernel)
theorem s_k_stA12_0 {Post : Option fw_V → fw_W → Prop} {d : Nat} {W : fw_W} {h : Int}
    (hw_ : ((¬ h = 0 → jf fw_T (d + 1) 112 12 [(0, .inr (.inl 12)), (1, .inl h), (2, .inl (1 : Int)), (3, .inl (1 : Int))] [] W Post) ∧ (h = 0 → jf fw_T (d + 1) 112 12 [(0, .inr (.inl 12)), (1, .inl h), (2, .inl (0 : Int)), (3, .inl (1 : Int))] [] W Post))) :
    jf fw_T (d + 1) 112 0 [(0, .inr (.inl 12)), (1, .inl h)] [] W Post := fw_ok (n := 8) (ss := [(12, [0, 1, 2, 3])]) (hv := [30]) fr_112_ok fv_tk12_ok (fw_c0 _ _) hw_

theorem s_k_stA12_12 {Post : Option fw_V → fw_W → Prop} {d : Nat} {W : fw_W} {h st_ o : Int}
    (hw_ : (0 ≤ (fw_g W 12 0) → (fw_g W 12 0) ≤ 14 → (((fw_g W 12 0) ≤ o → (-2147483648 ≤ st_ → st_ ≤ 2147483647 → Post (some (.inl st_)) W)) ∧ (o < (fw_g W 12 0) → 0 ≤ o ∧ o < 14 ∧ (-1 ≤ (fw_g W 13 o) → (fw_g W 13 o) ≤ 13 → ((¬ (fw_g W 13 o) = h → -2147483648 ≤ o + (1 : Int) ∧ o + (1 : Int) ≤ 2147483647 ∧ (jf fw_T (d + 1) 112 12 [(0, .inr (.inl 12)), (1, .inl h), (2, .inl st_), (3, .inl (o + (1 : Int)))] [] W Post)) ∧ ((fw_g W 13 o) = h → ∀ v1 : Int, -2147483648 ≤ v1 → v1 ≤ 2147483647 → -2147483648 ≤ o + (1 : Int) ∧ o + (1 : Int) ≤ 2147483647 ∧ (jf fw_T (d + 1) 112 12 [(0, .inr (.inl 12)), (1, .inl h), (2, .inl v1), (3, .inl (o + (1 : Int)))] [] W Post)))))))) :
    jf fw_T (d + 1) 112 12 [(0, .inr (.inl 12)), (1, .inl h), (2, .inl st_), (3, .inl o)] [] W Post := fw_ok (n := 14) (ss := [(12, [0, 1, 2, 3])]) (hv := [30]) fr_112_ok fv_tk12_ok (fw_c0 _ _) hw_

theorem lm_k_stA12_12 {Post : Option fw_V → fw_W → Prop} {d : Nat} {W : fw_W} {h : Int} (hpre : True) (hP : ∀ (v : Int) , (-2147483648 ≤ v ∧ v ≤ 2147483647 ∧ (True)) → Post (some (.inl v)) W)  : ∀ (m : Nat) (st_ o : Int), ((fw_g W 12 0) - o).toNat = m → 1 ≤ o → jf fw_T (d + 1) 112 12 [(0, .inr (.inl 12)), (1, .inl h), (2, .inl st_), (3, .inl o)] [] W Post := by
  intro m
  induction m using Nat.strongRecOn with
  | ind m ih =>
    intro st_ o hm hi
    refine jf_rng (fun hrg => ?_)
    have hrg : -2147483648 ≤ h ∧ h ≤ 2147483647 ∧ -2147483648 ≤ st_ ∧ st_ ≤ 2147483647 ∧ -2147483648 ≤ o ∧ o ≤ 2147483647 ∧ True := hrg
    refine s_k_stA12_12 ?_
    repeat' (first
      | (exact True.intro)
      | (exact hpre.1)
      | (refine And.intro ?_ ?_)
      | (refine (ih _ (by omega) _ _ rfl ?_); (first | omega | trivial))
      | (refine hP _ ?_; (refine ⟨by omega, by omega, ?_⟩; (first | trivial | omega)))
      | omega
      | (intro _))
def x_k_stA12 : fw_X := fun as W Q => match as with
  | [.inr (.inl s_), .inl h] => fw_if (Nat.beq s_ 12) ((True) ∧ (∀ (v : Int), (-2147483648 ≤ v ∧ v ≤ 2147483647 ∧ (True)) → Q (some (.inl v)) W))
  | _ => False
theorem x_k_stA12_ok (d : Nat) (as : List fw_V) (W : fw_W) (Q : Option fw_V → fw_W → Prop) (hx : x_k_stA12 as W Q) : jf fw_T (d + 1) 112 0 (fw_args 0 as) [] W Q := by
  unfold x_k_stA12 at hx
  split at hx
  · rename_i s_ h
    obtain ⟨e_, hpre, hQ⟩ := fw_if_ok hx
    have e_ := Nat.eq_of_beq_eq_true e_
    subst e_
    have hP := hQ
    refine s_k_stA12_0 ?_
    repeat' (first
      | (exact True.intro)
      | (exact hpre.1)
      | (refine And.intro ?_ ?_)
      | (refine (lm_k_stA12_12 (h := h) hpre hP _ _ _ rfl ?_); (first | omega | trivial))
      | (refine hP _ ?_; (refine ⟨by omega, by omega, ?_⟩; (first | trivial | omega)))
      | omega
      | (intro _))
  · exact hx.elim

theorem s_k_stB12_0 {Post : Option fw_V → fw_W → Prop} {d : Nat} {W : fw_W} {a b : Int}
    (hw_ : 0 ≤ a ∧ a < 14 ∧ (-1 ≤ (fw_g W 13 a) → (fw_g W 13 a) ≤ 13 → ((¬ (fw_g W 13 a) = b → 0 ≤ b ∧ b < 14 ∧ (-1 ≤ (fw_g W 13 b) → (fw_g W 13 b) ≤ 13 → ((¬ (fw_g W 13 b) = a → (-2147483648 ≤ (0 : Int) → (0 : Int) ≤ 2147483647 → Post (some (.inl (0 : Int))) W)) ∧ ((fw_g W 13 b) = a → 0 ≤ b ∧ b < 14 ∧ (0 ≤ (fw_g W 14 b) → (fw_g W 14 b) ≤ 99 → (-2147483648 ≤ (fw_g W 14 b) → (fw_g W 14 b) ≤ 2147483647 → Post (some (.inl (fw_g W 14 b))) W)))))) ∧ ((fw_g W 13 a) = b → 0 ≤ a ∧ a < 14 ∧ (0 ≤ (fw_g W 14 a) → (fw_g W 14 a) ≤ 99 → (-2147483648 ≤ (fw_g W 14 a) → (fw_g W 14 a) ≤ 2147483647 → Post (some (.inl (fw_g W 14 a))) W)))))) :
    jf fw_T (d + 1) 113 0 [(0, .inr (.inl 12)), (1, .inl a), (2, .inl b)] [] W Post := fw_ok (n := 19) (ss := []) (hv := []) fr_113_ok fv_tk12_ok (fw_c0 _ _) hw_

def x_k_stB12 : fw_X := fun as W Q => match as with
  | [.inr (.inl s_), .inl a, .inl b] => fw_if (Nat.beq s_ 12) ((0 ≤ a ∧ a < 14 ∧ 0 ≤ b ∧ b < 14) ∧ (∀ (v : Int), (-2147483648 ≤ v ∧ v ≤ 2147483647 ∧ (True)) → Q (some (.inl v)) W))
  | _ => False
theorem x_k_stB12_ok (d : Nat) (as : List fw_V) (W : fw_W) (Q : Option fw_V → fw_W → Prop) (hx : x_k_stB12 as W Q) : jf fw_T (d + 1) 113 0 (fw_args 0 as) [] W Q := by
  unfold x_k_stB12 at hx
  split at hx
  · rename_i s_ a b
    obtain ⟨e_, hpre, hQ⟩ := fw_if_ok hx
    have e_ := Nat.eq_of_beq_eq_true e_
    subst e_
    have hP := hQ
    refine s_k_stB12_0 ?_
    repeat' (first
      | (exact True.intro)
      | (exact hpre.1)
      | (refine And.intro ?_ ?_)
      | (refine hP _ ?_; (refine ⟨by omega, by omega, ?_⟩; (first | trivial | omega)))
      | omega
      | (intro _))
  · exact hx.elim

def fv_tk340 : List (Nat × ai_C) := [(340, .inr (.inr (.inr (9, [.inl (0, 14, true), .inl (0, 999, true), .inr (.inl [341]), .inr (.inl [342]), .inr (.inl [343])])))), (341, .inl (.int, 14, -1, 13, true)), (342, .inl (.int, 14, 0, 99, true)), (343, .inl (.int, 14, 0, 99, true))]
def fg_tk340_G : fw_G := []
theorem fv_tk340_ok : fw_view fw_T fv_tk340 fg_tk340_G := fw_vb_ok (by decide +kernel)
theorem s_k_stA340_0 {Post : Option fw_V → fw_W → Prop} {d : Nat} {W : fw_W} {h : Int}
    (hw_ : ((¬ h = 0 → jf fw_T (d + 1) 112 12 [(0, .inr (.inl 340)), (1, .inl h), (2, .inl (1 : Int)), (3, .inl (1 : Int))] [] W Post) ∧ (h = 0 → jf fw_T (d + 1) 112 12 [(0, .inr (.inl 340)), (1, .inl h), (2, .inl (0 : Int)), (3, .inl (1 : Int))] [] W Post))) :
    jf fw_T (d + 1) 112 0 [(0, .inr (.inl 340)), (1, .inl h)] [] W Post := fw_ok (n := 8) (ss := [(12, [0, 1, 2, 3])]) (hv := [30]) fr_112_ok fv_tk340_ok (fw_c0 _ _) hw_

theorem s_k_stA340_12 {Post : Option fw_V → fw_W → Prop} {d : Nat} {W : fw_W} {h st_ o : Int}
    (hw_ : (0 ≤ (fw_g W 340 0) → (fw_g W 340 0) ≤ 14 → (((fw_g W 340 0) ≤ o → (-2147483648 ≤ st_ → st_ ≤ 2147483647 → Post (some (.inl st_)) W)) ∧ (o < (fw_g W 340 0) → 0 ≤ o ∧ o < 14 ∧ (-1 ≤ (fw_g W 341 o) → (fw_g W 341 o) ≤ 13 → ((¬ (fw_g W 341 o) = h → -2147483648 ≤ o + (1 : Int) ∧ o + (1 : Int) ≤ 2147483647 ∧ (jf fw_T (d + 1) 112 12 [(0, .inr (.inl 340)), (1, .inl h), (2, .inl st_), (3, .inl (o + (1 : Int)))] [] W Post)) ∧ ((fw_g W 341 o) = h → ∀ v1 : Int, -2147483648 ≤ v1 → v1 ≤ 2147483647 → -2147483648 ≤ o + (1 : Int) ∧ o + (1 : Int) ≤ 2147483647 ∧ (jf fw_T (d + 1) 112 12 [(0, .inr (.inl 340)), (1, .inl h), (2, .inl v1), (3, .inl (o + (1 : Int)))] [] W Post)))))))) :
    jf fw_T (d + 1) 112 12 [(0, .inr (.inl 340)), (1, .inl h), (2, .inl st_), (3, .inl o)] [] W Post := fw_ok (n := 14) (ss := [(12, [0, 1, 2, 3])]) (hv := [30]) fr_112_ok fv_tk340_ok (fw_c0 _ _) hw_

theorem lm_k_stA340_12 {Post : Option fw_V → fw_W → Prop} {d : Nat} {W : fw_W} {h : Int} (hpre : True) (hP : ∀ (v : Int) , (-2147483648 ≤ v ∧ v ≤ 2147483647 ∧ (True)) → Post (some (.inl v)) W)  : ∀ (m : Nat) (st_ o : Int), ((fw_g W 340 0) - o).toNat = m → 1 ≤ o → jf fw_T (d + 1) 112 12 [(0, .inr (.inl 340)), (1, .inl h), (2, .inl st_), (3, .inl o)] [] W Post := by
  intro m
  induction m using Nat.strongRecOn with
  | ind m ih =>
    intro st_ o hm hi
    refine jf_rng (fun hrg => ?_)
    have hrg : -2147483648 ≤ h ∧ h ≤ 2147483647 ∧ -2147483648 ≤ st_ ∧ st_ ≤ 2147483647 ∧ -2147483648 ≤ o ∧ o ≤ 2147483647 ∧ True := hrg
    refine s_k_stA340_12 ?_
    repeat' (first
      | (exact True.intro)
      | (exact hpre.1)
      | (refine And.intro ?_ ?_)
      | (refine (ih _ (by omega) _ _ rfl ?_); (first | omega | trivial))
      | (refine hP _ ?_; (refine ⟨by omega, by omega, ?_⟩; (first | trivial | omega)))
      | omega
      | (intro _))
def x_k_stA340 : fw_X := fun as W Q => match as with
  | [.inr (.inl s_), .inl h] => fw_if (Nat.beq s_ 340) ((True) ∧ (∀ (v : Int), (-2147483648 ≤ v ∧ v ≤ 2147483647 ∧ (True)) → Q (some (.inl v)) W))
  | _ => False
theorem x_k_stA340_ok (d : Nat) (as : List fw_V) (W : fw_W) (Q : Option fw_V → fw_W → Prop) (hx : x_k_stA340 as W Q) : jf fw_T (d + 1) 112 0 (fw_args 0 as) [] W Q := by
  unfold x_k_stA340 at hx
  split at hx
  · rename_i s_ h
    obtain ⟨e_, hpre, hQ⟩ := fw_if_ok hx
    have e_ := Nat.eq_of_beq_eq_true e_
    subst e_
    have hP := hQ
    refine s_k_stA340_0 ?_
    repeat' (first
      | (exact True.intro)
      | (exact hpre.1)
      | (refine And.intro ?_ ?_)
      | (refine (lm_k_stA340_12 (h := h) hpre hP _ _ _ rfl ?_); (first | omega | trivial))
      | (refine hP _ ?_; (refine ⟨by omega, by omega, ?_⟩; (first | trivial | omega)))
      | omega
      | (intro _))
  · exact hx.elim

theorem s_k_stB340_0 {Post : Option fw_V → fw_W → Prop} {d : Nat} {W : fw_W} {a b : Int}
    (hw_ : 0 ≤ a ∧ a < 14 ∧ (-1 ≤ (fw_g W 341 a) → (fw_g W 341 a) ≤ 13 → ((¬ (fw_g W 341 a) = b → 0 ≤ b ∧ b < 14 ∧ (-1 ≤ (fw_g W 341 b) → (fw_g W 341 b) ≤ 13 → ((¬ (fw_g W 341 b) = a → (-2147483648 ≤ (0 : Int) → (0 : Int) ≤ 2147483647 → Post (some (.inl (0 : Int))) W)) ∧ ((fw_g W 341 b) = a → 0 ≤ b ∧ b < 14 ∧ (0 ≤ (fw_g W 342 b) → (fw_g W 342 b) ≤ 99 → (-2147483648 ≤ (fw_g W 342 b) → (fw_g W 342 b) ≤ 2147483647 → Post (some (.inl (fw_g W 342 b))) W)))))) ∧ ((fw_g W 341 a) = b → 0 ≤ a ∧ a < 14 ∧ (0 ≤ (fw_g W 342 a) → (fw_g W 342 a) ≤ 99 → (-2147483648 ≤ (fw_g W 342 a) → (fw_g W 342 a) ≤ 2147483647 → Post (some (.inl (fw_g W 342 a))) W)))))) :
    jf fw_T (d + 1) 113 0 [(0, .inr (.inl 340)), (1, .inl a), (2, .inl b)] [] W Post := fw_ok (n := 19) (ss := []) (hv := []) fr_113_ok fv_tk340_ok (fw_c0 _ _) hw_

def x_k_stB340 : fw_X := fun as W Q => match as with
  | [.inr (.inl s_), .inl a, .inl b] => fw_if (Nat.beq s_ 340) ((0 ≤ a ∧ a < 14 ∧ 0 ≤ b ∧ b < 14) ∧ (∀ (v : Int), (-2147483648 ≤ v ∧ v ≤ 2147483647 ∧ (True)) → Q (some (.inl v)) W))
  | _ => False
theorem x_k_stB340_ok (d : Nat) (as : List fw_V) (W : fw_W) (Q : Option fw_V → fw_W → Prop) (hx : x_k_stB340 as W Q) : jf fw_T (d + 1) 113 0 (fw_args 0 as) [] W Q := by
  unfold x_k_stB340 at hx
  split at hx
  · rename_i s_ a b
    obtain ⟨e_, hpre, hQ⟩ := fw_if_ok hx
    have e_ := Nat.eq_of_beq_eq_true e_
    subst e_
    have hP := hQ
    refine s_k_stB340_0 ?_
    repeat' (first
      | (exact True.intro)
      | (exact hpre.1)
      | (refine And.intro ?_ ?_)
      | (refine hP _ ?_; (refine ⟨by omega, by omega, ?_⟩; (first | trivial | omega)))
      | omega
      | (intro _))
  · exact hx.elim

def fv_tk344 : List (Nat × ai_C) := [(344, .inr (.inr (.inr (9, [.inl (0, 14, true), .inl (0, 999, true), .inr (.inl [345]), .inr (.inl [346]), .inr (.inl [347])])))), (345, .inl (.int, 14, -1, 13, true)), (346, .inl (.int, 14, 0, 99, true)), (347, .inl (.int, 14, 0, 99, true))]
def fg_tk344_G : fw_G := []
theorem fv_tk344_ok : fw_view fw_T fv_tk344 fg_tk344_G := fw_vb_ok (by decide +kernel)
theorem s_k_stA344_0 {Post : Option fw_V → fw_W → Prop} {d : Nat} {W : fw_W} {h : Int}
    (hw_ : ((¬ h = 0 → jf fw_T (d + 1) 112 12 [(0, .inr (.inl 344)), (1, .inl h), (2, .inl (1 : Int)), (3, .inl (1 : Int))] [] W Post) ∧ (h = 0 → jf fw_T (d + 1) 112 12 [(0, .inr (.inl 344)), (1, .inl h), (2, .inl (0 : Int)), (3, .inl (1 : Int))] [] W Post))) :
    jf fw_T (d + 1) 112 0 [(0, .inr (.inl 344)), (1, .inl h)] [] W Post := fw_ok (n := 8) (ss := [(12, [0, 1, 2, 3])]) (hv := [30]) fr_112_ok fv_tk344_ok (fw_c0 _ _) hw_

theorem s_k_stA344_12 {Post : Option fw_V → fw_W → Prop} {d : Nat} {W : fw_W} {h st_ o : Int}
    (hw_ : (0 ≤ (fw_g W 344 0) → (fw_g W 344 0) ≤ 14 → (((fw_g W 344 0) ≤ o → (-2147483648 ≤ st_ → st_ ≤ 2147483647 → Post (some (.inl st_)) W)) ∧ (o < (fw_g W 344 0) → 0 ≤ o ∧ o < 14 ∧ (-1 ≤ (fw_g W 345 o) → (fw_g W 345 o) ≤ 13 → ((¬ (fw_g W 345 o) = h → -2147483648 ≤ o + (1 : Int) ∧ o + (1 : Int) ≤ 2147483647 ∧ (jf fw_T (d + 1) 112 12 [(0, .inr (.inl 344)), (1, .inl h), (2, .inl st_), (3, .inl (o + (1 : Int)))] [] W Post)) ∧ ((fw_g W 345 o) = h → ∀ v1 : Int, -2147483648 ≤ v1 → v1 ≤ 2147483647 → -2147483648 ≤ o + (1 : Int) ∧ o + (1 : Int) ≤ 2147483647 ∧ (jf fw_T (d + 1) 112 12 [(0, .inr (.inl 344)), (1, .inl h), (2, .inl v1), (3, .inl (o + (1 : Int)))] [] W Post)))))))) :
    jf fw_T (d + 1) 112 12 [(0, .inr (.inl 344)), (1, .inl h), (2, .inl st_), (3, .inl o)] [] W Post := fw_ok (n := 14) (ss := [(12, [0, 1, 2, 3])]) (hv := [30]) fr_112_ok fv_tk344_ok (fw_c0 _ _) hw_

theorem lm_k_stA344_12 {Post : Option fw_V → fw_W → Prop} {d : Nat} {W : fw_W} {h : Int} (hpre : True) (hP : ∀ (v : Int) , (-2147483648 ≤ v ∧ v ≤ 2147483647 ∧ (True)) → Post (some (.inl v)) W)  : ∀ (m : Nat) (st_ o : Int), ((fw_g W 344 0) - o).toNat = m → 1 ≤ o → jf fw_T (d + 1) 112 12 [(0, .inr (.inl 344)), (1, .inl h), (2, .inl st_), (3, .inl o)] [] W Post := by
  intro m
  induction m using Nat.strongRecOn with
  | ind m ih =>
    intro st_ o hm hi
    refine jf_rng (fun hrg => ?_)
    have hrg : -2147483648 ≤ h ∧ h ≤ 2147483647 ∧ -2147483648 ≤ st_ ∧ st_ ≤ 2147483647 ∧ -2147483648 ≤ o ∧ o ≤ 2147483647 ∧ True := hrg
    refine s_k_stA344_12 ?_
    repeat' (first
      | (exact True.intro)
      | (exact hpre.1)
      | (refine And.intro ?_ ?_)
      | (refine (ih _ (by omega) _ _ rfl ?_); (first | omega | trivial))
      | (refine hP _ ?_; (refine ⟨by omega, by omega, ?_⟩; (first | trivial | omega)))
      | omega
      | (intro _))
def x_k_stA344 : fw_X := fun as W Q => match as with
  | [.inr (.inl s_), .inl h] => fw_if (Nat.beq s_ 344) ((True) ∧ (∀ (v : Int), (-2147483648 ≤ v ∧ v ≤ 2147483647 ∧ (True)) → Q (some (.inl v)) W))
  | _ => False
theorem x_k_stA344_ok (d : Nat) (as : List fw_V) (W : fw_W) (Q : Option fw_V → fw_W → Prop) (hx : x_k_stA344 as W Q) : jf fw_T (d + 1) 112 0 (fw_args 0 as) [] W Q := by
  unfold x_k_stA344 at hx
  split at hx
  · rename_i s_ h
    obtain ⟨e_, hpre, hQ⟩ := fw_if_ok hx
    have e_ := Nat.eq_of_beq_eq_true e_
    subst e_
    have hP := hQ
    refine s_k_stA344_0 ?_
    repeat' (first
      | (exact True.intro)
      | (exact hpre.1)
      | (refine And.intro ?_ ?_)
      | (refine (lm_k_stA344_12 (h := h) hpre hP _ _ _ rfl ?_); (first | omega | trivial))
      | (refine hP _ ?_; (refine ⟨by omega, by omega, ?_⟩; (first | trivial | omega)))
      | omega
      | (intro _))
  · exact hx.elim

theorem s_k_stB344_0 {Post : Option fw_V → fw_W → Prop} {d : Nat} {W : fw_W} {a b : Int}
    (hw_ : 0 ≤ a ∧ a < 14 ∧ (-1 ≤ (fw_g W 345 a) → (fw_g W 345 a) ≤ 13 → ((¬ (fw_g W 345 a) = b → 0 ≤ b ∧ b < 14 ∧ (-1 ≤ (fw_g W 345 b) → (fw_g W 345 b) ≤ 13 → ((¬ (fw_g W 345 b) = a → (-2147483648 ≤ (0 : Int) → (0 : Int) ≤ 2147483647 → Post (some (.inl (0 : Int))) W)) ∧ ((fw_g W 345 b) = a → 0 ≤ b ∧ b < 14 ∧ (0 ≤ (fw_g W 346 b) → (fw_g W 346 b) ≤ 99 → (-2147483648 ≤ (fw_g W 346 b) → (fw_g W 346 b) ≤ 2147483647 → Post (some (.inl (fw_g W 346 b))) W)))))) ∧ ((fw_g W 345 a) = b → 0 ≤ a ∧ a < 14 ∧ (0 ≤ (fw_g W 346 a) → (fw_g W 346 a) ≤ 99 → (-2147483648 ≤ (fw_g W 346 a) → (fw_g W 346 a) ≤ 2147483647 → Post (some (.inl (fw_g W 346 a))) W)))))) :
    jf fw_T (d + 1) 113 0 [(0, .inr (.inl 344)), (1, .inl a), (2, .inl b)] [] W Post := fw_ok (n := 19) (ss := []) (hv := []) fr_113_ok fv_tk344_ok (fw_c0 _ _) hw_

def x_k_stB344 : fw_X := fun as W Q => match as with
  | [.inr (.inl s_), .inl a, .inl b] => fw_if (Nat.beq s_ 344) ((0 ≤ a ∧ a < 14 ∧ 0 ≤ b ∧ b < 14) ∧ (∀ (v : Int), (-2147483648 ≤ v ∧ v ≤ 2147483647 ∧ (True)) → Q (some (.inl v)) W))
  | _ => False
theorem x_k_stB344_ok (d : Nat) (as : List fw_V) (W : fw_W) (Q : Option fw_V → fw_W → Prop) (hx : x_k_stB344 as W Q) : jf fw_T (d + 1) 113 0 (fw_args 0 as) [] W Q := by
  unfold x_k_stB344 at hx
  split at hx
  · rename_i s_ a b
    obtain ⟨e_, hpre, hQ⟩ := fw_if_ok hx
    have e_ := Nat.eq_of_beq_eq_true e_
    subst e_
    have hP := hQ
    refine s_k_stB344_0 ?_
    repeat' (first
      | (exact True.intro)
      | (exact hpre.1)
      | (refine And.intro ?_ ?_)
      | (refine hP _ ?_; (refine ⟨by omega, by omega, ?_⟩; (first | trivial | omega)))
      | omega
      | (intro _))
  · exact hx.elim

def fv_tk348 : List (Nat × ai_C) := [(348, .inr (.inr (.inr (9, [.inl (0, 14, true), .inl (0, 999, true), .inr (.inl [349]), .inr (.inl [350]), .inr (.inl [351])])))), (349, .inl (.int, 14, -1, 13, true)), (350, .inl (.int, 14, 0, 99, true)), (351, .inl (.int, 14, 0, 99, true))]
def fg_tk348_G : fw_G := []
theorem fv_tk348_ok : fw_view fw_T fv_tk348 fg_tk348_G := fw_vb_ok (by decide +kernel)
theorem s_k_stA348_0 {Post : Option fw_V → fw_W → Prop} {d : Nat} {W : fw_W} {h : Int}
    (hw_ : ((¬ h = 0 → jf fw_T (d + 1) 112 12 [(0, .inr (.inl 348)), (1, .inl h), (2, .inl (1 : Int)), (3, .inl (1 : Int))] [] W Post) ∧ (h = 0 → jf fw_T (d + 1) 112 12 [(0, .inr (.inl 348)), (1, .inl h), (2, .inl (0 : Int)), (3, .inl (1 : Int))] [] W Post))) :
    jf fw_T (d + 1) 112 0 [(0, .inr (.inl 348)), (1, .inl h)] [] W Post := fw_ok (n := 8) (ss := [(12, [0, 1, 2, 3])]) (hv := [30]) fr_112_ok fv_tk348_ok (fw_c0 _ _) hw_

theorem s_k_stA348_12 {Post : Option fw_V → fw_W → Prop} {d : Nat} {W : fw_W} {h st_ o : Int}
    (hw_ : (0 ≤ (fw_g W 348 0) → (fw_g W 348 0) ≤ 14 → (((fw_g W 348 0) ≤ o → (-2147483648 ≤ st_ → st_ ≤ 2147483647 → Post (some (.inl st_)) W)) ∧ (o < (fw_g W 348 0) → 0 ≤ o ∧ o < 14 ∧ (-1 ≤ (fw_g W 349 o) → (fw_g W 349 o) ≤ 13 → ((¬ (fw_g W 349 o) = h → -2147483648 ≤ o + (1 : Int) ∧ o + (1 : Int) ≤ 2147483647 ∧ (jf fw_T (d + 1) 112 12 [(0, .inr (.inl 348)), (1, .inl h), (2, .inl st_), (3, .inl (o + (1 : Int)))] [] W Post)) ∧ ((fw_g W 349 o) = h → ∀ v1 : Int, -2147483648 ≤ v1 → v1 ≤ 2147483647 → -2147483648 ≤ o + (1 : Int) ∧ o + (1 : Int) ≤ 2147483647 ∧ (jf fw_T (d + 1) 112 12 [(0, .inr (.inl 348)), (1, .inl h), (2, .inl v1), (3, .inl (o + (1 : Int)))] [] W Post)))))))) :
    jf fw_T (d + 1) 112 12 [(0, .inr (.inl 348)), (1, .inl h), (2, .inl st_), (3, .inl o)] [] W Post := fw_ok (n := 14) (ss := [(12, [0, 1, 2, 3])]) (hv := [30]) fr_112_ok fv_tk348_ok (fw_c0 _ _) hw_

theorem lm_k_stA348_12 {Post : Option fw_V → fw_W → Prop} {d : Nat} {W : fw_W} {h : Int} (hpre : True) (hP : ∀ (v : Int) , (-2147483648 ≤ v ∧ v ≤ 2147483647 ∧ (True)) → Post (some (.inl v)) W)  : ∀ (m : Nat) (st_ o : Int), ((fw_g W 348 0) - o).toNat = m → 1 ≤ o → jf fw_T (d + 1) 112 12 [(0, .inr (.inl 348)), (1, .inl h), (2, .inl st_), (3, .inl o)] [] W Post := by
  intro m
  induction m using Nat.strongRecOn with
  | ind m ih =>
    intro st_ o hm hi
    refine jf_rng (fun hrg => ?_)
    have hrg : -2147483648 ≤ h ∧ h ≤ 2147483647 ∧ -2147483648 ≤ st_ ∧ st_ ≤ 2147483647 ∧ -2147483648 ≤ o ∧ o ≤ 2147483647 ∧ True := hrg
    refine s_k_stA348_12 ?_
    repeat' (first
      | (exact True.intro)
      | (exact hpre.1)
      | (refine And.intro ?_ ?_)
      | (refine (ih _ (by omega) _ _ rfl ?_); (first | omega | trivial))
      | (refine hP _ ?_; (refine ⟨by omega, by omega, ?_⟩; (first | trivial | omega)))
      | omega
      | (intro _))
def x_k_stA348 : fw_X := fun as W Q => match as with
  | [.inr (.inl s_), .inl h] => fw_if (Nat.beq s_ 348) ((True) ∧ (∀ (v : Int), (-2147483648 ≤ v ∧ v ≤ 2147483647 ∧ (True)) → Q (some (.inl v)) W))
  | _ => False
theorem x_k_stA348_ok (d : Nat) (as : List fw_V) (W : fw_W) (Q : Option fw_V → fw_W → Prop) (hx : x_k_stA348 as W Q) : jf fw_T (d + 1) 112 0 (fw_args 0 as) [] W Q := by
  unfold x_k_stA348 at hx
  split at hx
  · rename_i s_ h
    obtain ⟨e_, hpre, hQ⟩ := fw_if_ok hx
    have e_ := Nat.eq_of_beq_eq_true e_
    subst e_
    have hP := hQ
    refine s_k_stA348_0 ?_
    repeat' (first
      | (exact True.intro)
      | (exact hpre.1)
      | (refine And.intro ?_ ?_)
      | (refine (lm_k_stA348_12 (h := h) hpre hP _ _ _ rfl ?_); (first | omega | trivial))
      | (refine hP _ ?_; (refine ⟨by omega, by omega, ?_⟩; (first | trivial | omega)))
      | omega
      | (intro _))
  · exact hx.elim

theorem s_k_stB348_0 {Post : Option fw_V → fw_W → Prop} {d : Nat} {W : fw_W} {a b : Int}
    (hw_ : 0 ≤ a ∧ a < 14 ∧ (-1 ≤ (fw_g W 349 a) → (fw_g W 349 a) ≤ 13 → ((¬ (fw_g W 349 a) = b → 0 ≤ b ∧ b < 14 ∧ (-1 ≤ (fw_g W 349 b) → (fw_g W 349 b) ≤ 13 → ((¬ (fw_g W 349 b) = a → (-2147483648 ≤ (0 : Int) → (0 : Int) ≤ 2147483647 → Post (some (.inl (0 : Int))) W)) ∧ ((fw_g W 349 b) = a → 0 ≤ b ∧ b < 14 ∧ (0 ≤ (fw_g W 350 b) → (fw_g W 350 b) ≤ 99 → (-2147483648 ≤ (fw_g W 350 b) → (fw_g W 350 b) ≤ 2147483647 → Post (some (.inl (fw_g W 350 b))) W)))))) ∧ ((fw_g W 349 a) = b → 0 ≤ a ∧ a < 14 ∧ (0 ≤ (fw_g W 350 a) → (fw_g W 350 a) ≤ 99 → (-2147483648 ≤ (fw_g W 350 a) → (fw_g W 350 a) ≤ 2147483647 → Post (some (.inl (fw_g W 350 a))) W)))))) :
    jf fw_T (d + 1) 113 0 [(0, .inr (.inl 348)), (1, .inl a), (2, .inl b)] [] W Post := fw_ok (n := 19) (ss := []) (hv := []) fr_113_ok fv_tk348_ok (fw_c0 _ _) hw_

def x_k_stB348 : fw_X := fun as W Q => match as with
  | [.inr (.inl s_), .inl a, .inl b] => fw_if (Nat.beq s_ 348) ((0 ≤ a ∧ a < 14 ∧ 0 ≤ b ∧ b < 14) ∧ (∀ (v : Int), (-2147483648 ≤ v ∧ v ≤ 2147483647 ∧ (True)) → Q (some (.inl v)) W))
  | _ => False
theorem x_k_stB348_ok (d : Nat) (as : List fw_V) (W : fw_W) (Q : Option fw_V → fw_W → Prop) (hx : x_k_stB348 as W Q) : jf fw_T (d + 1) 113 0 (fw_args 0 as) [] W Q := by
  unfold x_k_stB348 at hx
  split at hx
  · rename_i s_ a b
    obtain ⟨e_, hpre, hQ⟩ := fw_if_ok hx
    have e_ := Nat.eq_of_beq_eq_true e_
    subst e_
    have hP := hQ
    refine s_k_stB348_0 ?_
    repeat' (first
      | (exact True.intro)
      | (exact hpre.1)
      | (refine And.intro ?_ ?_)
      | (refine hP _ ?_; (refine ⟨by omega, by omega, ?_⟩; (first | trivial | omega)))
      | omega
      | (intro _))
  · exact hx.elim

def x_k_stA : fw_X := fun as W Q => match as with
  | [.inr (.inl s_), .inl h] => fw_if (Nat.beq s_ 12) ((True) ∧ (∀ (v : Int), (-2147483648 ≤ v ∧ v ≤ 2147483647 ∧ (True)) → Q (some (.inl v)) W))
  | [.inr (.inr s_), .inl h] => fw_if (Nat.beq s_ 400) ((True) ∧ (∀ (v : Int), (-2147483648 ≤ v ∧ v ≤ 2147483647 ∧ (True)) → Q (some (.inl v)) W))
  | _ => False
theorem x_k_stA_ok (d : Nat) (as : List fw_V) (W : fw_W) (Q : Option fw_V → fw_W → Prop) (hx : x_k_stA as W Q) : jc fw_T (d + 1) 112 as W Q := by
  unfold x_k_stA at hx
  split at hx
  · rename_i s_ h
    obtain ⟨e0, hy⟩ := fw_if_ok hx
    have e1 := Nat.eq_of_beq_eq_true e0
    clear hx
    subst e1
    exact jc_of (x_k_stA12_ok d _ W Q hy)
  · rename_i s_ h
    obtain ⟨e0, hy⟩ := fw_if_ok hx
    have e1 := Nat.eq_of_beq_eq_true e0
    clear hx
    subst e1
    intro asc h9 ht hg
    obtain ⟨v0, rc, rfl, q, hr⟩ := fw_t_cons ht
    obtain ⟨k, hk, rfl⟩ := (fw_v_set rfl).mp q
    have hk : k = 12 ∨ k = 340 ∨ k = 344 ∨ k = 348 := by
      simp only [fw_ss, List.mem_cons, List.not_mem_nil, or_false] at hk
      exact hk
    rcases hk with rfl | rfl | rfl | rfl
    · exact jc_of (x_k_stA12_ok d (.inr (.inl 12) :: [.inl h]) W Q hy) (.ref 12 :: rc) h9 ⟨rfl, hr⟩ hg
    · exact jc_of (x_k_stA340_ok d (.inr (.inl 340) :: [.inl h]) W Q hy) (.ref 340 :: rc) h9 ⟨rfl, hr⟩ hg
    · exact jc_of (x_k_stA344_ok d (.inr (.inl 344) :: [.inl h]) W Q hy) (.ref 344 :: rc) h9 ⟨rfl, hr⟩ hg
    · exact jc_of (x_k_stA348_ok d (.inr (.inl 348) :: [.inl h]) W Q hy) (.ref 348 :: rc) h9 ⟨rfl, hr⟩ hg
  · exact hx.elim
def x_k_stB : fw_X := fun as W Q => match as with
  | [.inr (.inl s_), .inl a, .inl b] => fw_if (Nat.beq s_ 12) ((0 ≤ a ∧ a < 14 ∧ 0 ≤ b ∧ b < 14) ∧ (∀ (v : Int), (-2147483648 ≤ v ∧ v ≤ 2147483647 ∧ (True)) → Q (some (.inl v)) W))
  | [.inr (.inr s_), .inl a, .inl b] => fw_if (Nat.beq s_ 400) ((0 ≤ a ∧ a < 14 ∧ 0 ≤ b ∧ b < 14) ∧ (∀ (v : Int), (-2147483648 ≤ v ∧ v ≤ 2147483647 ∧ (True)) → Q (some (.inl v)) W))
  | _ => False
theorem x_k_stB_ok (d : Nat) (as : List fw_V) (W : fw_W) (Q : Option fw_V → fw_W → Prop) (hx : x_k_stB as W Q) : jc fw_T (d + 1) 113 as W Q := by
  unfold x_k_stB at hx
  split at hx
  · rename_i s_ a b
    obtain ⟨e0, hy⟩ := fw_if_ok hx
    have e1 := Nat.eq_of_beq_eq_true e0
    clear hx
    subst e1
    exact jc_of (x_k_stB12_ok d _ W Q hy)
  · rename_i s_ a b
    obtain ⟨e0, hy⟩ := fw_if_ok hx
    have e1 := Nat.eq_of_beq_eq_true e0
    clear hx
    subst e1
    intro asc h9 ht hg
    obtain ⟨v0, rc, rfl, q, hr⟩ := fw_t_cons ht
    obtain ⟨k, hk, rfl⟩ := (fw_v_set rfl).mp q
    have hk : k = 12 ∨ k = 340 ∨ k = 344 ∨ k = 348 := by
      simp only [fw_ss, List.mem_cons, List.not_mem_nil, or_false] at hk
      exact hk
    rcases hk with rfl | rfl | rfl | rfl
    · exact jc_of (x_k_stB12_ok d (.inr (.inl 12) :: [.inl a, .inl b]) W Q hy) (.ref 12 :: rc) h9 ⟨rfl, hr⟩ hg
    · exact jc_of (x_k_stB340_ok d (.inr (.inl 340) :: [.inl a, .inl b]) W Q hy) (.ref 340 :: rc) h9 ⟨rfl, hr⟩ hg
    · exact jc_of (x_k_stB344_ok d (.inr (.inl 344) :: [.inl a, .inl b]) W Q hy) (.ref 344 :: rc) h9 ⟨rfl, hr⟩ hg
    · exact jc_of (x_k_stB348_ok d (.inr (.inl 348) :: [.inl a, .inl b]) W Q hy) (.ref 348 :: rc) h9 ⟨rfl, hr⟩ hg
  · exact hx.elim
def fv_like : List (Nat × ai_C) := [(266, .inr (.inr (.inr (3, [.inr (.inl [12]), .inr (.inl [12, 340, 344, 348]), .inl (0, 1, true), .inr (.inl [267])])))), (12, .inr (.inr (.inr (9, [.inl (0, 14, true), .inl (0, 999, true), .inr (.inl [13]), .inr (.inl [14]), .inr (.inl [15])])))), (13, .inl (.int, 14, -1, 13, true)), (14, .inl (.int, 14, 0, 99, true)), (15, .inl (.int, 14, 0, 99, true)), (340, .inr (.inr (.inr (9, [.inl (0, 14, true), .inl (0, 999, true), .inr (.inl [341]), .inr (.inl [342]), .inr (.inl [343])])))), (344, .inr (.inr (.inr (9, [.inl (0, 14, true), .inl (0, 999, true), .inr (.inl [345]), .inr (.inl [346]), .inr (.inl [347])])))), (348, .inr (.inr (.inr (9, [.inl (0, 14, true), .inl (0, 999, true), .inr (.inl [349]), .inr (.inl [350]), .inr (.inl [351])]))))]
def fg_like_G : fw_G := []
theorem fv_like_ok : fw_view fw_T fv_like fg_like_G := fw_vb_ok (by decide +kernel)
def fr_37 : fw_P := [(0, 1, 1, 0, 0), (1, 25, 24, 0, 0), (4, 1, 2, 0, 0), (5, 25, 24, 0, 0), (8, 1, 1, 0, 0), (9, 1, 2, 0, 0), (10, 10, 20, 0, 0), (13, 2, 0, 0, 0), (14, 50, 3, 2, 0), (17, 21, 24, 0, 0), (20, 0, 0, 0, 1), (21, 6, 25, 0, 0), (24, 0, 0, 0, 0), (25, 71, 0, 0, 0)]
theorem fr_37_ok : fw_mk 37 3 3 (some .boolean) fr_37 = true := by decide +kernel
theorem s_k_isStreetLike_0 {Post : Option fw_V → fw_W → Prop} {d : Nat} {W : fw_W} {a b : Int}
    (hw_ : ((a ≤ 0 → 0 ≤ (0 : Int) ∧ (0 : Int) ≤ 1 ∧ Post (some (.inl (0 : Int))) W) ∧ (0 < a → ((b ≤ 0 → 0 ≤ (0 : Int) ∧ (0 : Int) ≤ 1 ∧ Post (some (.inl (0 : Int))) W) ∧ (0 < b → ((a = b → 0 ≤ (1 : Int) ∧ (1 : Int) ≤ 1 ∧ Post (some (.inl (1 : Int))) W) ∧ (¬ a = b → (0 ≤ (fw_g W 266 2) → (fw_g W 266 2) ≤ 1 → ((¬ (fw_g W 266 2) = 0 → 0 ≤ (0 : Int) ∧ (0 : Int) ≤ 1 ∧ Post (some (.inl (0 : Int))) W) ∧ ((fw_g W 266 2) = 0 → 0 ≤ (1 : Int) ∧ (1 : Int) ≤ 1 ∧ Post (some (.inl (1 : Int))) W)))))))))) :
    jf fw_T (d + 1) 37 0 [(0, .inr (.inl 266)), (1, .inl a), (2, .inl b)] [] W Post := fw_ok (n := 14) (ss := []) (hv := []) fr_37_ok fv_like_ok (fw_c0 _ _) hw_

def x_k_isStreetLike : fw_X := fun as W Q => match as with
  | [.inr (.inl s_), .inl a, .inl b] => fw_if (Nat.beq s_ 266) ((True) ∧ (∀ (v : Int), (0 ≤ v ∧ v ≤ 1 ∧ (True)) → Q (some (.inl v)) W))
  | _ => False
theorem x_k_isStreetLike_ok (d : Nat) (as : List fw_V) (W : fw_W) (Q : Option fw_V → fw_W → Prop) (hx : x_k_isStreetLike as W Q) : jf fw_T (d + 1) 37 0 (fw_args 0 as) [] W Q := by
  unfold x_k_isStreetLike at hx
  split at hx
  · rename_i s_ a b
    obtain ⟨e_, hpre, hQ⟩ := fw_if_ok hx
    have e_ := Nat.eq_of_beq_eq_true e_
    subst e_
    have hP := hQ
    refine s_k_isStreetLike_0 ?_
    repeat' (first
      | (exact True.intro)
      | (exact hpre.1)
      | (refine And.intro ?_ ?_)
      | (refine hP _ ?_; (refine ⟨by omega, by omega, ?_⟩; (first | trivial | omega)))
      | omega
      | (intro _))
  · exact hx.elim

def fr_36 : fw_P := [(0, 1, 5, 0, 0), (2, 0, 0, 0, 14), (4, 14, 26, 0, 0), (7, 2, 0, 0, 0), (8, 50, 3, 0, 0), (11, 1, 1, 0, 0), (12, 64, 112, 1, 409), (15, 2, 0, 0, 0), (16, 50, 3, 1, 0), (19, 1, 3, 0, 0), (20, 64, 112, 1, 409), (23, 10, 28, 0, 0), (26, 0, 0, 0, 0), (27, 71, 0, 0, 0), (28, 1, 4, 0, 0), (30, 0, 0, 0, -1), (31, 11, 38, 0, 0), (34, 0, 0, 0, 0), (35, 6, 42, 0, 0), (38, 0, 0, 0, 1), (39, 1, 4, 0, 0), (41, 39, 0, 0, 0), (42, 3, 6, 0, 0), (44, 0, 0, 0, 0), (45, 3, 7, 0, 0), (47, 1, 7, 0, 0), (49, 2, 0, 0, 0), (50, 50, 3, 0, 0), (53, 50, 9, 0, 0), (56, 13, 188, 0, 0), (59, 2, 0, 0, 0), (60, 50, 3, 0, 0), (63, 1, 1, 0, 0), (64, 1, 7, 0, 0), (66, 64, 113, 2, 309), (69, 3, 8, 0, 0), (71, 1, 8, 0, 0), (73, 20, 182, 0, 0), (76, 1, 7, 0, 0), (78, 1, 2, 0, 0), (79, 11, 85, 0, 0), (82, 6, 182, 0, 0), (85, 0, 0, 0, -1), (86, 3, 9, 0, 0), (88, 0, 0, 0, 0), (89, 3, 10, 0, 0), (91, 1, 10, 0, 0), (93, 2, 0, 0, 0), (94, 50, 3, 1, 0), (97, 50, 9, 0, 0), (100, 13, 165, 0, 0), (103, 1, 9, 0, 0), (105, 0, 0, 0, -1), (106, 11, 165, 0, 0), (109, 1, 6, 0, 0), (111, 1, 10, 0, 0), (113, 40, 0, 0, 0), (114, 0, 0, 0, 1), (115, 36, 0, 0, 0), (116, 21, 159, 0, 0), (119, 2, 0, 0, 0), (120, 1, 8, 0, 0), (122, 2, 0, 0, 0), (123, 50, 3, 1, 0), (126, 1, 3, 0, 0), (127, 1, 10, 0, 0), (129, 64, 113, 2, 309), (132, 64, 37, 2, 303), (135, 20, 159, 0, 0), (138, 2, 0, 0, 0), (139, 1, 7, 0, 0), (141, 1, 1, 0, 0), (142, 1, 10, 0, 0), (144, 1, 3, 0, 0), (145, 1, 5, 0, 0), (147, 0, 0, 0, 1), (148, 30, 0, 0, 0), (149, 64, 36, 5, 1103), (152, 20, 159, 0, 0), (155, 1, 10, 0, 0), (157, 3, 9, 0, 0), (159, 5, 10, 0, 1), (162, 6, 91, 0, 0), (165, 1, 9, 0, 0), (167, 0, 0, 0, -1), (168, 11, 173, 0, 0), (171, 0, 0, 0, 0), (172, 71, 0, 0, 0), (173, 1, 6, 0, 0), (175, 0, 0, 0, 1), (176, 1, 9, 0, 0), (178, 39, 0, 0, 0), (179, 37, 0, 0, 0), (180, 3, 6, 0, 0), (182, 5, 7, 0, 1), (185, 6, 47, 0, 0), (188, 0, 0, 0, 1), (189, 71, 0, 0, 0)]
theorem fr_36_ok : fw_mk 36 11 3 (some .boolean) fr_36 = true := by decide +kernel
def ct_k_isBL15 : List (Nat × fw_X) := [(112, x_k_stA), (113, x_k_stB), (37, x_k_isStreetLike)]
theorem ct_k_isBL15_ok (d : Nat) : fw_cok fw_T (d + 1) ct_k_isBL15 := by
  intro q hq as W Q h
  simp only [ct_k_isBL15, List.mem_cons, List.not_mem_nil, or_false] at hq
  rcases hq with rfl | rfl | rfl
  · exact x_k_stA_ok (d + 0) as W Q h
  · exact x_k_stB_ok (d + 0) as W Q h
  · exact jc_of (x_k_isStreetLike_ok (d + 0) as W Q h)
theorem s_k_isBL15_0 {Post : Option fw_V → fw_W → Prop} {d : Nat} {W : fw_W} {a fa b fb dp : Int}
    (hw_ : (((14 : Int) < dp → 0 ≤ (0 : Int) ∧ (0 : Int) ≤ 1 ∧ Post (some (.inl (0 : Int))) W) ∧ (dp ≤ (14 : Int) → (True) ∧ (∀ (r1 : Int), ((-2147483648 ≤ r1 ∧ r1 ≤ 2147483647 ∧ (True))) → (True) ∧ (∀ (r2 : Int), ((-2147483648 ≤ r2 ∧ r2 ≤ 2147483647 ∧ (True))) → ((r1 = r2 → ((¬ fb = (-1 : Int) → (-2147483648 ≤ (fw_shl (1 : Int) fb) → (fw_shl (1 : Int) fb) ≤ 2147483647 → jf fw_T (d + 2) 36 47 [(0, .inr (.inl 266)), (1, .inl a), (2, .inl fa), (3, .inl b), (5, .inl dp), (6, .inl (fw_shl (1 : Int) fb)), (7, .inl (0 : Int))] [] W Post)) ∧ (fb = (-1 : Int) → jf fw_T (d + 2) 36 47 [(0, .inr (.inl 266)), (1, .inl a), (2, .inl fa), (3, .inl b), (5, .inl dp), (6, .inl (0 : Int)), (7, .inl (0 : Int))] [] W Post))) ∧ (¬ r1 = r2 → 0 ≤ (0 : Int) ∧ (0 : Int) ≤ 1 ∧ Post (some (.inl (0 : Int))) W))))))) :
    jf fw_T (d + 2) 36 0 [(0, .inr (.inl 266)), (1, .inl a), (2, .inl fa), (3, .inl b), (4, .inl fb), (5, .inl dp)] [] W Post := fw_ok (n := 22) (ss := [(47, [0, 1, 2, 3, 5, 6, 7]), (91, [0, 1, 2, 3, 5, 6, 7, 8, 9, 10])]) (hv := []) fr_36_ok fv_like_ok (ct_k_isBL15_ok d) hw_

theorem s_k_isBL15_91 {Post : Option fw_V → fw_W → Prop} {d : Nat} {W : fw_W} {a fa b dp us ne st_ ma li : Int}
    (hw_ : (∀ v1 : Int, 0 ≤ v1 → v1 ≤ 14 → ((v1 ≤ li → ((¬ ma = (-1 : Int) → (-2147483648 ≤ (fw_shl (1 : Int) ma) → (fw_shl (1 : Int) ma) ≤ 2147483647 → (-2147483648 ≤ (fw_or us (fw_shl (1 : Int) ma)) → (fw_or us (fw_shl (1 : Int) ma)) ≤ 2147483647 → -2147483648 ≤ ne + (1 : Int) ∧ ne + (1 : Int) ≤ 2147483647 ∧ (jf fw_T (d + 2) 36 47 [(0, .inr (.inl 266)), (1, .inl a), (2, .inl fa), (3, .inl b), (5, .inl dp), (6, .inl (fw_or us (fw_shl (1 : Int) ma))), (7, .inl (ne + (1 : Int)))] [] W Post)))) ∧ (ma = (-1 : Int) → 0 ≤ (0 : Int) ∧ (0 : Int) ≤ 1 ∧ Post (some (.inl (0 : Int))) W))) ∧ (li < v1 → ((¬ ma = (-1 : Int) → ((¬ ma = (-1 : Int) → (-2147483648 ≤ (fw_shl (1 : Int) ma) → (fw_shl (1 : Int) ma) ≤ 2147483647 → (-2147483648 ≤ (fw_or us (fw_shl (1 : Int) ma)) → (fw_or us (fw_shl (1 : Int) ma)) ≤ 2147483647 → -2147483648 ≤ ne + (1 : Int) ∧ ne + (1 : Int) ≤ 2147483647 ∧ (jf fw_T (d + 2) 36 47 [(0, .inr (.inl 266)), (1, .inl a), (2, .inl fa), (3, .inl b), (5, .inl dp), (6, .inl (fw_or us (fw_shl (1 : Int) ma))), (7, .inl (ne + (1 : Int)))] [] W Post)))) ∧ (ma = (-1 : Int) → 0 ≤ (0 : Int) ∧ (0 : Int) ≤ 1 ∧ Post (some (.inl (0 : Int))) W))) ∧ (ma = (-1 : Int) → (-2147483648 ≤ (fw_shr us li) → (fw_shr us li) ≤ 2147483647 → (-2147483648 ≤ (fw_and (fw_shr us li) (1 : Int)) → (fw_and (fw_shr us li) (1 : Int)) ≤ 2147483647 → ((¬ (fw_and (fw_shr us li) (1 : Int)) = 0 → -2147483648 ≤ li + (1 : Int) ∧ li + (1 : Int) ≤ 2147483647 ∧ (jf fw_T (d + 2) 36 91 [(0, .inr (.inl 266)), (1, .inl a), (2, .inl fa), (3, .inl b), (5, .inl dp), (6, .inl us), (7, .inl ne), (8, .inl st_), (9, .inl ma), (10, .inl (li + (1 : Int)))] [] W Post)) ∧ ((fw_and (fw_shr us li) (1 : Int)) = 0 → (0 ≤ b ∧ b < 14 ∧ 0 ≤ li ∧ li < 14) ∧ (∀ (r2 : Int), ((-2147483648 ≤ r2 ∧ r2 ≤ 2147483647 ∧ (True))) → (True) ∧ (∀ (r3 : Int), ((0 ≤ r3 ∧ r3 ≤ 1 ∧ (True))) → ((r3 = 0 → -2147483648 ≤ li + (1 : Int) ∧ li + (1 : Int) ≤ 2147483647 ∧ (jf fw_T (d + 2) 36 91 [(0, .inr (.inl 266)), (1, .inl a), (2, .inl fa), (3, .inl b), (5, .inl dp), (6, .inl us), (7, .inl ne), (8, .inl st_), (9, .inl ma), (10, .inl (li + (1 : Int)))] [] W Post)) ∧ (¬ r3 = 0 → -2147483648 ≤ dp + (1 : Int) ∧ dp + (1 : Int) ≤ 2147483647 ∧ (jf fw_T (d + 2) 36 149 [(0, .inr (.inl 266)), (1, .inl a), (2, .inl fa), (3, .inl b), (5, .inl dp), (6, .inl us), (7, .inl ne), (8, .inl st_), (9, .inl ma), (10, .inl li)] [.inl (dp + (1 : Int)), .inl b, .inl li, .inl a, .inl ne, .inr (.inl 266)] W Post))))))))))))))) :
    jf fw_T (d + 2) 36 91 [(0, .inr (.inl 266)), (1, .inl a), (2, .inl fa), (3, .inl b), (5, .inl dp), (6, .inl us), (7, .inl ne), (8, .inl st_), (9, .inl ma), (10, .inl li)] [] W Post := fw_ok (n := 33) (ss := [(47, [0, 1, 2, 3, 5, 6, 7]), (91, [0, 1, 2, 3, 5, 6, 7, 8, 9, 10])]) (hv := []) fr_36_ok fv_like_ok (ct_k_isBL15_ok d) hw_

theorem s_k_isBL15_47 {Post : Option fw_V → fw_W → Prop} {d : Nat} {W : fw_W} {a fa b dp us ne : Int}
    (hw_ : (0 ≤ (fw_g W 12 0) → (fw_g W 12 0) ≤ 14 → (((fw_g W 12 0) ≤ ne → 0 ≤ (1 : Int) ∧ (1 : Int) ≤ 1 ∧ Post (some (.inl (1 : Int))) W) ∧ (ne < (fw_g W 12 0) → (0 ≤ a ∧ a < 14 ∧ 0 ≤ ne ∧ ne < 14) ∧ (∀ (r1 : Int), ((-2147483648 ≤ r1 ∧ r1 ≤ 2147483647 ∧ (True))) → ((r1 = 0 → -2147483648 ≤ ne + (1 : Int) ∧ ne + (1 : Int) ≤ 2147483647 ∧ (jf fw_T (d + 2) 36 47 [(0, .inr (.inl 266)), (1, .inl a), (2, .inl fa), (3, .inl b), (5, .inl dp), (6, .inl us), (7, .inl (ne + (1 : Int)))] [] W Post)) ∧ (¬ r1 = 0 → ((¬ ne = fa → jf fw_T (d + 2) 36 91 [(0, .inr (.inl 266)), (1, .inl a), (2, .inl fa), (3, .inl b), (5, .inl dp), (6, .inl us), (7, .inl ne), (8, .inl r1), (9, .inl (-1 : Int)), (10, .inl (0 : Int))] [] W Post) ∧ (ne = fa → -2147483648 ≤ ne + (1 : Int) ∧ ne + (1 : Int) ≤ 2147483647 ∧ (jf fw_T (d + 2) 36 47 [(0, .inr (.inl 266)), (1, .inl a), (2, .inl fa), (3, .inl b), (5, .inl dp), (6, .inl us), (7, .inl (ne + (1 : Int)))] [] W Post)))))))))) :
    jf fw_T (d + 2) 36 47 [(0, .inr (.inl 266)), (1, .inl a), (2, .inl fa), (3, .inl b), (5, .inl dp), (6, .inl us), (7, .inl ne)] [] W Post := fw_ok (n := 21) (ss := [(47, [0, 1, 2, 3, 5, 6, 7]), (91, [0, 1, 2, 3, 5, 6, 7, 8, 9, 10])]) (hv := []) fr_36_ok fv_like_ok (ct_k_isBL15_ok d) hw_

theorem lm_k_isBL15_91 {Post : Option fw_V → fw_W → Prop} {d : Nat} {W : fw_W} {a fa b fb dp : Int} (hpre : 0 ≤ a ∧ a < 14 ∧ 0 ≤ b ∧ b < 14 ∧ dp = 15) (hP : ∀ (v : Int) , (0 ≤ v ∧ v ≤ 1 ∧ (True)) → Post (some (.inl v)) W) (M47 : Int) (h47 : ∀ (us ne : Int), 0 ≤ ne ∧ dp ≤ 14 → ((fw_g W 12 0) - ne) < M47 → jf fw_T (d + 2) 36 47 [(0, .inr (.inl 266)), (1, .inl a), (2, .inl fa), (3, .inl b), (5, .inl dp), (6, .inl us), (7, .inl ne)] [] W Post) : ∀ (m : Nat) (us ne st_ ma li : Int), (14 - li).toNat = m → 0 ≤ li ∧ li ≤ 14 ∧ 0 ≤ ne ∧ ne < (fw_g W 12 0) ∧ (fw_g W 12 0) ≤ 14 ∧ -1 ≤ ma ∧ ma < 14 ∧ dp ≤ 14 → ((fw_g W 12 0) - ne) ≤ M47 → jf fw_T (d + 2) 36 91 [(0, .inr (.inl 266)), (1, .inl a), (2, .inl fa), (3, .inl b), (5, .inl dp), (6, .inl us), (7, .inl ne), (8, .inl st_), (9, .inl ma), (10, .inl li)] [] W Post := by
  intro m
  induction m using Nat.strongRecOn with
  | ind m ih =>
    intro us ne st_ ma li hm hi e47
    refine jf_rng (fun hrg => ?_)
    have hrg : -2147483648 ≤ a ∧ a ≤ 2147483647 ∧ -2147483648 ≤ fa ∧ fa ≤ 2147483647 ∧ -2147483648 ≤ b ∧ b ≤ 2147483647 ∧ -2147483648 ≤ dp ∧ dp ≤ 2147483647 ∧ -2147483648 ≤ us ∧ us ≤ 2147483647 ∧ -2147483648 ≤ ne ∧ ne ≤ 2147483647 ∧ -2147483648 ≤ st_ ∧ st_ ≤ 2147483647 ∧ -2147483648 ≤ ma ∧ ma ≤ 2147483647 ∧ -2147483648 ≤ li ∧ li ≤ 2147483647 ∧ True := hrg
    refine s_k_isBL15_91 ?_
    repeat' (first
      | (exact True.intro)
      | (exact hpre.1)
      | (refine And.intro ?_ ?_)
      | (refine (h47 _ _ ?_ (by omega)); (first | omega | trivial))
      | (refine (ih _ (by omega) _ _ _ _ _ rfl ?_ (by omega)); (first | omega | trivial))
      | (refine hP _ ?_; (refine ⟨by omega, by omega, ?_⟩; (first | trivial | omega)))
      | omega
      | (intro _))
theorem lm_k_isBL15_47 {Post : Option fw_V → fw_W → Prop} {d : Nat} {W : fw_W} {a fa b fb dp : Int} (hpre : 0 ≤ a ∧ a < 14 ∧ 0 ≤ b ∧ b < 14 ∧ dp = 15) (hP : ∀ (v : Int) , (0 ≤ v ∧ v ≤ 1 ∧ (True)) → Post (some (.inl v)) W)  : ∀ (m : Nat) (us ne : Int), ((fw_g W 12 0) - ne).toNat = m → 0 ≤ ne ∧ dp ≤ 14 → jf fw_T (d + 2) 36 47 [(0, .inr (.inl 266)), (1, .inl a), (2, .inl fa), (3, .inl b), (5, .inl dp), (6, .inl us), (7, .inl ne)] [] W Post := by
  intro m
  induction m using Nat.strongRecOn with
  | ind m ih =>
    intro us ne hm hi
    refine jf_rng (fun hrg => ?_)
    have hrg : -2147483648 ≤ a ∧ a ≤ 2147483647 ∧ -2147483648 ≤ fa ∧ fa ≤ 2147483647 ∧ -2147483648 ≤ b ∧ b ≤ 2147483647 ∧ -2147483648 ≤ dp ∧ dp ≤ 2147483647 ∧ -2147483648 ≤ us ∧ us ≤ 2147483647 ∧ -2147483648 ≤ ne ∧ ne ≤ 2147483647 ∧ True := hrg
    refine s_k_isBL15_47 ?_
    repeat' (first
      | (exact True.intro)
      | (exact hpre.1)
      | (refine And.intro ?_ ?_)
      | (refine (ih _ (by omega) _ _ rfl ?_); (first | omega | trivial))
      | (refine (lm_k_isBL15_91 (a := a) (fa := fa) (b := b) (fb := fb) (dp := dp) hpre hP ((fw_g W 12 0) - ne) (fun a0 a1 hi hl => ih _ (by omega) a0 a1 rfl hi) _ _ _ _ _ _ rfl ?_ (by omega)); (first | omega | trivial))
      | (refine hP _ ?_; (refine ⟨by omega, by omega, ?_⟩; (first | trivial | omega)))
      | omega
      | (intro _))
def x_k_isBL15 : fw_X := fun as W Q => match as with
  | [.inr (.inl s_), .inl a, .inl fa, .inl b, .inl fb, .inl dp] => fw_if (Nat.beq s_ 266) ((0 ≤ a ∧ a < 14 ∧ 0 ≤ b ∧ b < 14 ∧ dp = 15) ∧ (∀ (v : Int), (0 ≤ v ∧ v ≤ 1 ∧ (True)) → Q (some (.inl v)) W))
  | _ => False
theorem x_k_isBL15_ok (d : Nat) (as : List fw_V) (W : fw_W) (Q : Option fw_V → fw_W → Prop) (hx : x_k_isBL15 as W Q) : jf fw_T (d + 2) 36 0 (fw_args 0 as) [] W Q := by
  unfold x_k_isBL15 at hx
  split at hx
  · rename_i s_ a fa b fb dp
    obtain ⟨e_, hpre, hQ⟩ := fw_if_ok hx
    have e_ := Nat.eq_of_beq_eq_true e_
    subst e_
    have hP := hQ
    refine s_k_isBL15_0 ?_
    repeat' (first
      | (exact True.intro)
      | (exact hpre.1)
      | (refine And.intro ?_ ?_)
      | (refine (lm_k_isBL15_47 (a := a) (fa := fa) (b := b) (fb := fb) (dp := dp) hpre hP _ _ _ rfl ?_); (first | omega | trivial))
      | (refine (lm_k_isBL15_91 (a := a) (fa := fa) (b := b) (fb := fb) (dp := dp) hpre hP M47 h47 _ _ _ _ _ _ rfl ?_ (by omega)); (first | omega | trivial))
      | (refine hP _ ?_; (refine ⟨by omega, by omega, ?_⟩; (first | trivial | omega)))
      | omega
      | (intro _))
  · exact hx.elim

def ct_k_isBL14 : List (Nat × fw_X) := [(112, x_k_stA), (113, x_k_stB), (37, x_k_isStreetLike), (36, x_k_isBL15)]
theorem ct_k_isBL14_ok (d : Nat) : fw_cok fw_T (d + 2) ct_k_isBL14 := by
  intro q hq as W Q h
  simp only [ct_k_isBL14, List.mem_cons, List.not_mem_nil, or_false] at hq
  rcases hq with rfl | rfl | rfl | rfl
  · exact x_k_stA_ok (d + 1) as W Q h
  · exact x_k_stB_ok (d + 1) as W Q h
  · exact jc_of (x_k_isStreetLike_ok (d + 1) as W Q h)
  · exact jc_of (x_k_isBL15_ok (d + 0) as W Q h)
theorem s_k_isBL14_0 {Post : Option fw_V → fw_W → Prop} {d : Nat} {W : fw_W} {a fa b fb dp : Int}
    (hw_ : (((14 : Int) < dp → 0 ≤ (0 : Int) ∧ (0 : Int) ≤ 1 ∧ Post (some (.inl (0 : Int))) W) ∧ (dp ≤ (14 : Int) → (True) ∧ (∀ (r1 : Int), ((-2147483648 ≤ r1 ∧ r1 ≤ 2147483647 ∧ (True))) → (True) ∧ (∀ (r2 : Int), ((-2147483648 ≤ r2 ∧ r2 ≤ 2147483647 ∧ (True))) → ((r1 = r2 → ((¬ fb = (-1 : Int) → (-2147483648 ≤ (fw_shl (1 : Int) fb) → (fw_shl (1 : Int) fb) ≤ 2147483647 → jf fw_T (d + 3) 36 47 [(0, .inr (.inl 266)), (1, .inl a), (2, .inl fa), (3, .inl b), (5, .inl dp), (6, .inl (fw_shl (1 : Int) fb)), (7, .inl (0 : Int))] [] W Post)) ∧ (fb = (-1 : Int) → jf fw_T (d + 3) 36 47 [(0, .inr (.inl 266)), (1, .inl a), (2, .inl fa), (3, .inl b), (5, .inl dp), (6, .inl (0 : Int)), (7, .inl (0 : Int))] [] W Post))) ∧ (¬ r1 = r2 → 0 ≤ (0 : Int) ∧ (0 : Int) ≤ 1 ∧ Post (some (.inl (0 : Int))) W))))))) :
    jf fw_T (d + 3) 36 0 [(0, .inr (.inl 266)), (1, .inl a), (2, .inl fa), (3, .inl b), (4, .inl fb), (5, .inl dp)] [] W Post := fw_ok (n := 22) (ss := [(47, [0, 1, 2, 3, 5, 6, 7]), (91, [0, 1, 2, 3, 5, 6, 7, 8, 9, 10])]) (hv := []) fr_36_ok fv_like_ok (ct_k_isBL14_ok d) hw_

theorem s_k_isBL14_91 {Post : Option fw_V → fw_W → Prop} {d : Nat} {W : fw_W} {a fa b dp us ne st_ ma li : Int}
    (hw_ : (∀ v1 : Int, 0 ≤ v1 → v1 ≤ 14 → ((v1 ≤ li → ((¬ ma = (-1 : Int) → (-2147483648 ≤ (fw_shl (1 : Int) ma) → (fw_shl (1 : Int) ma) ≤ 2147483647 → (-2147483648 ≤ (fw_or us (fw_shl (1 : Int) ma)) → (fw_or us (fw_shl (1 : Int) ma)) ≤ 2147483647 → -2147483648 ≤ ne + (1 : Int) ∧ ne + (1 : Int) ≤ 2147483647 ∧ (jf fw_T (d + 3) 36 47 [(0, .inr (.inl 266)), (1, .inl a), (2, .inl fa), (3, .inl b), (5, .inl dp), (6, .inl (fw_or us (fw_shl (1 : Int) ma))), (7, .inl (ne + (1 : Int)))] [] W Post)))) ∧ (ma = (-1 : Int) → 0 ≤ (0 : Int) ∧ (0 : Int) ≤ 1 ∧ Post (some (.inl (0 : Int))) W))) ∧ (li < v1 → ((¬ ma = (-1 : Int) → ((¬ ma = (-1 : Int) → (-2147483648 ≤ (fw_shl (1 : Int) ma) → (fw_shl (1 : Int) ma) ≤ 2147483647 → (-2147483648 ≤ (fw_or us (fw_shl (1 : Int) ma)) → (fw_or us (fw_shl (1 : Int) ma)) ≤ 2147483647 → -2147483648 ≤ ne + (1 : Int) ∧ ne + (1 : Int) ≤ 2147483647 ∧ (jf fw_T (d + 3) 36 47 [(0, .inr (.inl 266)), (1, .inl a), (2, .inl fa), (3, .inl b), (5, .inl dp), (6, .inl (fw_or us (fw_shl (1 : Int) ma))), (7, .inl (ne + (1 : Int)))] [] W Post)))) ∧ (ma = (-1 : Int) → 0 ≤ (0 : Int) ∧ (0 : Int) ≤ 1 ∧ Post (some (.inl (0 : Int))) W))) ∧ (ma = (-1 : Int) → (-2147483648 ≤ (fw_shr us li) → (fw_shr us li) ≤ 2147483647 → (-2147483648 ≤ (fw_and (fw_shr us li) (1 : Int)) → (fw_and (fw_shr us li) (1 : Int)) ≤ 2147483647 → ((¬ (fw_and (fw_shr us li) (1 : Int)) = 0 → -2147483648 ≤ li + (1 : Int) ∧ li + (1 : Int) ≤ 2147483647 ∧ (jf fw_T (d + 3) 36 91 [(0, .inr (.inl 266)), (1, .inl a), (2, .inl fa), (3, .inl b), (5, .inl dp), (6, .inl us), (7, .inl ne), (8, .inl st_), (9, .inl ma), (10, .inl (li + (1 : Int)))] [] W Post)) ∧ ((fw_and (fw_shr us li) (1 : Int)) = 0 → (0 ≤ b ∧ b < 14 ∧ 0 ≤ li ∧ li < 14) ∧ (∀ (r2 : Int), ((-2147483648 ≤ r2 ∧ r2 ≤ 2147483647 ∧ (True))) → (True) ∧ (∀ (r3 : Int), ((0 ≤ r3 ∧ r3 ≤ 1 ∧ (True))) → ((r3 = 0 → -2147483648 ≤ li + (1 : Int) ∧ li + (1 : Int) ≤ 2147483647 ∧ (jf fw_T (d + 3) 36 91 [(0, .inr (.inl 266)), (1, .inl a), (2, .inl fa), (3, .inl b), (5, .inl dp), (6, .inl us), (7, .inl ne), (8, .inl st_), (9, .inl ma), (10, .inl (li + (1 : Int)))] [] W Post)) ∧ (¬ r3 = 0 → -2147483648 ≤ dp + (1 : Int) ∧ dp + (1 : Int) ≤ 2147483647 ∧ ((0 ≤ ne ∧ ne < 14 ∧ 0 ≤ li ∧ li < 14 ∧ (dp + (1 : Int)) = 15) ∧ (∀ (r4 : Int), ((0 ≤ r4 ∧ r4 ≤ 1 ∧ (True))) → ((r4 = 0 → -2147483648 ≤ li + (1 : Int) ∧ li + (1 : Int) ≤ 2147483647 ∧ (jf fw_T (d + 3) 36 91 [(0, .inr (.inl 266)), (1, .inl a), (2, .inl fa), (3, .inl b), (5, .inl dp), (6, .inl us), (7, .inl ne), (8, .inl st_), (9, .inl ma), (10, .inl (li + (1 : Int)))] [] W Post)) ∧ (¬ r4 = 0 → -2147483648 ≤ li + (1 : Int) ∧ li + (1 : Int) ≤ 2147483647 ∧ (jf fw_T (d + 3) 36 91 [(0, .inr (.inl 266)), (1, .inl a), (2, .inl fa), (3, .inl b), (5, .inl dp), (6, .inl us), (7, .inl ne), (8, .inl st_), (9, .inl li), (10, .inl (li + (1 : Int)))] [] W Post))))))))))))))))))) :
    jf fw_T (d + 3) 36 91 [(0, .inr (.inl 266)), (1, .inl a), (2, .inl fa), (3, .inl b), (5, .inl dp), (6, .inl us), (7, .inl ne), (8, .inl st_), (9, .inl ma), (10, .inl li)] [] W Post := fw_ok (n := 38) (ss := [(47, [0, 1, 2, 3, 5, 6, 7]), (91, [0, 1, 2, 3, 5, 6, 7, 8, 9, 10])]) (hv := []) fr_36_ok fv_like_ok (ct_k_isBL14_ok d) hw_

theorem s_k_isBL14_47 {Post : Option fw_V → fw_W → Prop} {d : Nat} {W : fw_W} {a fa b dp us ne : Int}
    (hw_ : (0 ≤ (fw_g W 12 0) → (fw_g W 12 0) ≤ 14 → (((fw_g W 12 0) ≤ ne → 0 ≤ (1 : Int) ∧ (1 : Int) ≤ 1 ∧ Post (some (.inl (1 : Int))) W) ∧ (ne < (fw_g W 12 0) → (0 ≤ a ∧ a < 14 ∧ 0 ≤ ne ∧ ne < 14) ∧ (∀ (r1 : Int), ((-2147483648 ≤ r1 ∧ r1 ≤ 2147483647 ∧ (True))) → ((r1 = 0 → -2147483648 ≤ ne + (1 : Int) ∧ ne + (1 : Int) ≤ 2147483647 ∧ (jf fw_T (d + 3) 36 47 [(0, .inr (.inl 266)), (1, .inl a), (2, .inl fa), (3, .inl b), (5, .inl dp), (6, .inl us), (7, .inl (ne + (1 : Int)))] [] W Post)) ∧ (¬ r1 = 0 → ((¬ ne = fa → jf fw_T (d + 3) 36 91 [(0, .inr (.inl 266)), (1, .inl a), (2, .inl fa), (3, .inl b), (5, .inl dp), (6, .inl us), (7, .inl ne), (8, .inl r1), (9, .inl (-1 : Int)), (10, .inl (0 : Int))] [] W Post) ∧ (ne = fa → -2147483648 ≤ ne + (1 : Int) ∧ ne + (1 : Int) ≤ 2147483647 ∧ (jf fw_T (d + 3) 36 47 [(0, .inr (.inl 266)), (1, .inl a), (2, .inl fa), (3, .inl b), (5, .inl dp), (6, .inl us), (7, .inl (ne + (1 : Int)))] [] W Post)))))))))) :
    jf fw_T (d + 3) 36 47 [(0, .inr (.inl 266)), (1, .inl a), (2, .inl fa), (3, .inl b), (5, .inl dp), (6, .inl us), (7, .inl ne)] [] W Post := fw_ok (n := 21) (ss := [(47, [0, 1, 2, 3, 5, 6, 7]), (91, [0, 1, 2, 3, 5, 6, 7, 8, 9, 10])]) (hv := []) fr_36_ok fv_like_ok (ct_k_isBL14_ok d) hw_

theorem lm_k_isBL14_91 {Post : Option fw_V → fw_W → Prop} {d : Nat} {W : fw_W} {a fa b fb dp : Int} (hpre : 0 ≤ a ∧ a < 14 ∧ 0 ≤ b ∧ b < 14 ∧ dp = 14) (hP : ∀ (v : Int) , (0 ≤ v ∧ v ≤ 1 ∧ (True)) → Post (some (.inl v)) W) (M47 : Int) (h47 : ∀ (us ne : Int), 0 ≤ ne ∧ dp ≤ 14 → ((fw_g W 12 0) - ne) < M47 → jf fw_T (d + 3) 36 47 [(0, .inr (.inl 266)), (1, .inl a), (2, .inl fa), (3, .inl b), (5, .inl dp), (6, .inl us), (7, .inl ne)] [] W Post) : ∀ (m : Nat) (us ne st_ ma li : Int), (14 - li).toNat = m → 0 ≤ li ∧ li ≤ 14 ∧ 0 ≤ ne ∧ ne < (fw_g W 12 0) ∧ (fw_g W 12 0) ≤ 14 ∧ -1 ≤ ma ∧ ma < 14 ∧ dp ≤ 14 → ((fw_g W 12 0) - ne) ≤ M47 → jf fw_T (d + 3) 36 91 [(0, .inr (.inl 266)), (1, .inl a), (2, .inl fa), (3, .inl b), (5, .inl dp), (6, .inl us), (7, .inl ne), (8, .inl st_), (9, .inl ma), (10, .inl li)] [] W Post := by
  intro m
  induction m using Nat.strongRecOn with
  | ind m ih =>
    intro us ne st_ ma li hm hi e47
    refine jf_rng (fun hrg => ?_)
    have hrg : -2147483648 ≤ a ∧ a ≤ 2147483647 ∧ -2147483648 ≤ fa ∧ fa ≤ 2147483647 ∧ -2147483648 ≤ b ∧ b ≤ 2147483647 ∧ -2147483648 ≤ dp ∧ dp ≤ 2147483647 ∧ -2147483648 ≤ us ∧ us ≤ 2147483647 ∧ -2147483648 ≤ ne ∧ ne ≤ 2147483647 ∧ -2147483648 ≤ st_ ∧ st_ ≤ 2147483647 ∧ -2147483648 ≤ ma ∧ ma ≤ 2147483647 ∧ -2147483648 ≤ li ∧ li ≤ 2147483647 ∧ True := hrg
    refine s_k_isBL14_91 ?_
    repeat' (first
      | (exact True.intro)
      | (exact hpre.1)
      | (refine And.intro ?_ ?_)
      | (refine (h47 _ _ ?_ (by omega)); (first | omega | trivial))
      | (refine (ih _ (by omega) _ _ _ _ _ rfl ?_ (by omega)); (first | omega | trivial))
      | (refine hP _ ?_; (refine ⟨by omega, by omega, ?_⟩; (first | trivial | omega)))
      | omega
      | (intro _))
theorem lm_k_isBL14_47 {Post : Option fw_V → fw_W → Prop} {d : Nat} {W : fw_W} {a fa b fb dp : Int} (hpre : 0 ≤ a ∧ a < 14 ∧ 0 ≤ b ∧ b < 14 ∧ dp = 14) (hP : ∀ (v : Int) , (0 ≤ v ∧ v ≤ 1 ∧ (True)) → Post (some (.inl v)) W)  : ∀ (m : Nat) (us ne : Int), ((fw_g W 12 0) - ne).toNat = m → 0 ≤ ne ∧ dp ≤ 14 → jf fw_T (d + 3) 36 47 [(0, .inr (.inl 266)), (1, .inl a), (2, .inl fa), (3, .inl b), (5, .inl dp), (6, .inl us), (7, .inl ne)] [] W Post := by
  intro m
  induction m using Nat.strongRecOn with
  | ind m ih =>
    intro us ne hm hi
    refine jf_rng (fun hrg => ?_)
    have hrg : -2147483648 ≤ a ∧ a ≤ 2147483647 ∧ -2147483648 ≤ fa ∧ fa ≤ 2147483647 ∧ -2147483648 ≤ b ∧ b ≤ 2147483647 ∧ -2147483648 ≤ dp ∧ dp ≤ 2147483647 ∧ -2147483648 ≤ us ∧ us ≤ 2147483647 ∧ -2147483648 ≤ ne ∧ ne ≤ 2147483647 ∧ True := hrg
    refine s_k_isBL14_47 ?_
    repeat' (first
      | (exact True.intro)
      | (exact hpre.1)
      | (refine And.intro ?_ ?_)
      | (refine (ih _ (by omega) _ _ rfl ?_); (first | omega | trivial))
      | (refine (lm_k_isBL14_91 (a := a) (fa := fa) (b := b) (fb := fb) (dp := dp) hpre hP ((fw_g W 12 0) - ne) (fun a0 a1 hi hl => ih _ (by omega) a0 a1 rfl hi) _ _ _ _ _ _ rfl ?_ (by omega)); (first | omega | trivial))
      | (refine hP _ ?_; (refine ⟨by omega, by omega, ?_⟩; (first | trivial | omega)))
      | omega
      | (intro _))
def x_k_isBL14 : fw_X := fun as W Q => match as with
  | [.inr (.inl s_), .inl a, .inl fa, .inl b, .inl fb, .inl dp] => fw_if (Nat.beq s_ 266) ((0 ≤ a ∧ a < 14 ∧ 0 ≤ b ∧ b < 14 ∧ dp = 14) ∧ (∀ (v : Int), (0 ≤ v ∧ v ≤ 1 ∧ (True)) → Q (some (.inl v)) W))
  | _ => False
theorem x_k_isBL14_ok (d : Nat) (as : List fw_V) (W : fw_W) (Q : Option fw_V → fw_W → Prop) (hx : x_k_isBL14 as W Q) : jf fw_T (d + 3) 36 0 (fw_args 0 as) [] W Q := by
  unfold x_k_isBL14 at hx
  split at hx
  · rename_i s_ a fa b fb dp
    obtain ⟨e_, hpre, hQ⟩ := fw_if_ok hx
    have e_ := Nat.eq_of_beq_eq_true e_
    subst e_
    have hP := hQ
    refine s_k_isBL14_0 ?_
    repeat' (first
      | (exact True.intro)
      | (exact hpre.1)
      | (refine And.intro ?_ ?_)
      | (refine (lm_k_isBL14_47 (a := a) (fa := fa) (b := b) (fb := fb) (dp := dp) hpre hP _ _ _ rfl ?_); (first | omega | trivial))
      | (refine (lm_k_isBL14_91 (a := a) (fa := fa) (b := b) (fb := fb) (dp := dp) hpre hP M47 h47 _ _ _ _ _ _ rfl ?_ (by omega)); (first | omega | trivial))
      | (refine hP _ ?_; (refine ⟨by omega, by omega, ?_⟩; (first | trivial | omega)))
      | omega
      | (intro _))
  · exact hx.elim

def ct_k_isBL13 : List (Nat × fw_X) := [(112, x_k_stA), (113, x_k_stB), (37, x_k_isStreetLike), (36, x_k_isBL14)]
theorem ct_k_isBL13_ok (d : Nat) : fw_cok fw_T (d + 3) ct_k_isBL13 := by
  intro q hq as W Q h
  simp only [ct_k_isBL13, List.mem_cons, List.not_mem_nil, or_false] at hq
  rcases hq with rfl | rfl | rfl | rfl
  · exact x_k_stA_ok (d + 2) as W Q h
  · exact x_k_stB_ok (d + 2) as W Q h
  · exact jc_of (x_k_isStreetLike_ok (d + 2) as W Q h)
  · exact jc_of (x_k_isBL14_ok (d + 0) as W Q h)
theorem s_k_isBL13_0 {Post : Option fw_V → fw_W → Prop} {d : Nat} {W : fw_W} {a fa b fb dp : Int}
    (hw_ : (((14 : Int) < dp → 0 ≤ (0 : Int) ∧ (0 : Int) ≤ 1 ∧ Post (some (.inl (0 : Int))) W) ∧ (dp ≤ (14 : Int) → (True) ∧ (∀ (r1 : Int), ((-2147483648 ≤ r1 ∧ r1 ≤ 2147483647 ∧ (True))) → (True) ∧ (∀ (r2 : Int), ((-2147483648 ≤ r2 ∧ r2 ≤ 2147483647 ∧ (True))) → ((r1 = r2 → ((¬ fb = (-1 : Int) → (-2147483648 ≤ (fw_shl (1 : Int) fb) → (fw_shl (1 : Int) fb) ≤ 2147483647 → jf fw_T (d + 4) 36 47 [(0, .inr (.inl 266)), (1, .inl a), (2, .inl fa), (3, .inl b), (5, .inl dp), (6, .inl (fw_shl (1 : Int) fb)), (7, .inl (0 : Int))] [] W Post)) ∧ (fb = (-1 : Int) → jf fw_T (d + 4) 36 47 [(0, .inr (.inl 266)), (1, .inl a), (2, .inl fa), (3, .inl b), (5, .inl dp), (6, .inl (0 : Int)), (7, .inl (0 : Int))] [] W Post))) ∧ (¬ r1 = r2 → 0 ≤ (0 : Int) ∧ (0 : Int) ≤ 1 ∧ Post (some (.inl (0 : Int))) W))))))) :
    jf fw_T (d + 4) 36 0 [(0, .inr (.inl 266)), (1, .inl a), (2, .inl fa), (3, .inl b), (4, .inl fb), (5, .inl dp)] [] W Post := fw_ok (n := 22) (ss := [(47, [0, 1, 2, 3, 5, 6, 7]), (91, [0, 1, 2, 3, 5, 6, 7, 8, 9, 10])]) (hv := []) fr_36_ok fv_like_ok (ct_k_isBL13_ok d) hw_

theorem s_k_isBL13_91 {Post : Option fw_V → fw_W → Prop} {d : Nat} {W : fw_W} {a fa b dp us ne st_ ma li : Int}
    (hw_ : (∀ v1 : Int, 0 ≤ v1 → v1 ≤ 14 → ((v1 ≤ li → ((¬ ma = (-1 : Int) → (-2147483648 ≤ (fw_shl (1 : Int) ma) → (fw_shl (1 : Int) ma) ≤ 2147483647 → (-2147483648 ≤ (fw_or us (fw_shl (1 : Int) ma)) → (fw_or us (fw_shl (1 : Int) ma)) ≤ 2147483647 → -2147483648 ≤ ne + (1 : Int) ∧ ne + (1 : Int) ≤ 2147483647 ∧ (jf fw_T (d + 4) 36 47 [(0, .inr (.inl 266)), (1, .inl a), (2, .inl fa), (3, .inl b), (5, .inl dp), (6, .inl (fw_or us (fw_shl (1 : Int) ma))), (7, .inl (ne + (1 : Int)))] [] W Post)))) ∧ (ma = (-1 : Int) → 0 ≤ (0 : Int) ∧ (0 : Int) ≤ 1 ∧ Post (some (.inl (0 : Int))) W))) ∧ (li < v1 → ((¬ ma = (-1 : Int) → ((¬ ma = (-1 : Int) → (-2147483648 ≤ (fw_shl (1 : Int) ma) → (fw_shl (1 : Int) ma) ≤ 2147483647 → (-2147483648 ≤ (fw_or us (fw_shl (1 : Int) ma)) → (fw_or us (fw_shl (1 : Int) ma)) ≤ 2147483647 → -2147483648 ≤ ne + (1 : Int) ∧ ne + (1 : Int) ≤ 2147483647 ∧ (jf fw_T (d + 4) 36 47 [(0, .inr (.inl 266)), (1, .inl a), (2, .inl fa), (3, .inl b), (5, .inl dp), (6, .inl (fw_or us (fw_shl (1 : Int) ma))), (7, .inl (ne + (1 : Int)))] [] W Post)))) ∧ (ma = (-1 : Int) → 0 ≤ (0 : Int) ∧ (0 : Int) ≤ 1 ∧ Post (some (.inl (0 : Int))) W))) ∧ (ma = (-1 : Int) → (-2147483648 ≤ (fw_shr us li) → (fw_shr us li) ≤ 2147483647 → (-2147483648 ≤ (fw_and (fw_shr us li) (1 : Int)) → (fw_and (fw_shr us li) (1 : Int)) ≤ 2147483647 → ((¬ (fw_and (fw_shr us li) (1 : Int)) = 0 → -2147483648 ≤ li + (1 : Int) ∧ li + (1 : Int) ≤ 2147483647 ∧ (jf fw_T (d + 4) 36 91 [(0, .inr (.inl 266)), (1, .inl a), (2, .inl fa), (3, .inl b), (5, .inl dp), (6, .inl us), (7, .inl ne), (8, .inl st_), (9, .inl ma), (10, .inl (li + (1 : Int)))] [] W Post)) ∧ ((fw_and (fw_shr us li) (1 : Int)) = 0 → (0 ≤ b ∧ b < 14 ∧ 0 ≤ li ∧ li < 14) ∧ (∀ (r2 : Int), ((-2147483648 ≤ r2 ∧ r2 ≤ 2147483647 ∧ (True))) → (True) ∧ (∀ (r3 : Int), ((0 ≤ r3 ∧ r3 ≤ 1 ∧ (True))) → ((r3 = 0 → -2147483648 ≤ li + (1 : Int) ∧ li + (1 : Int) ≤ 2147483647 ∧ (jf fw_T (d + 4) 36 91 [(0, .inr (.inl 266)), (1, .inl a), (2, .inl fa), (3, .inl b), (5, .inl dp), (6, .inl us), (7, .inl ne), (8, .inl st_), (9, .inl ma), (10, .inl (li + (1 : Int)))] [] W Post)) ∧ (¬ r3 = 0 → -2147483648 ≤ dp + (1 : Int) ∧ dp + (1 : Int) ≤ 2147483647 ∧ ((0 ≤ ne ∧ ne < 14 ∧ 0 ≤ li ∧ li < 14 ∧ (dp + (1 : Int)) = 14) ∧ (∀ (r4 : Int), ((0 ≤ r4 ∧ r4 ≤ 1 ∧ (True))) → ((r4 = 0 → -2147483648 ≤ li + (1 : Int) ∧ li + (1 : Int) ≤ 2147483647 ∧ (jf fw_T (d + 4) 36 91 [(0, .inr (.inl 266)), (1, .inl a), (2, .inl fa), (3, .inl b), (5, .inl dp), (6, .inl us), (7, .inl ne), (8, .inl st_), (9, .inl ma), (10, .inl (li + (1 : Int)))] [] W Post)) ∧ (¬ r4 = 0 → -2147483648 ≤ li + (1 : Int) ∧ li + (1 : Int) ≤ 2147483647 ∧ (jf fw_T (d + 4) 36 91 [(0, .inr (.inl 266)), (1, .inl a), (2, .inl fa), (3, .inl b), (5, .inl dp), (6, .inl us), (7, .inl ne), (8, .inl st_), (9, .inl li), (10, .inl (li + (1 : Int)))] [] W Post))))))))))))))))))) :
    jf fw_T (d + 4) 36 91 [(0, .inr (.inl 266)), (1, .inl a), (2, .inl fa), (3, .inl b), (5, .inl dp), (6, .inl us), (7, .inl ne), (8, .inl st_), (9, .inl ma), (10, .inl li)] [] W Post := fw_ok (n := 38) (ss := [(47, [0, 1, 2, 3, 5, 6, 7]), (91, [0, 1, 2, 3, 5, 6, 7, 8, 9, 10])]) (hv := []) fr_36_ok fv_like_ok (ct_k_isBL13_ok d) hw_

theorem s_k_isBL13_47 {Post : Option fw_V → fw_W → Prop} {d : Nat} {W : fw_W} {a fa b dp us ne : Int}
    (hw_ : (0 ≤ (fw_g W 12 0) → (fw_g W 12 0) ≤ 14 → (((fw_g W 12 0) ≤ ne → 0 ≤ (1 : Int) ∧ (1 : Int) ≤ 1 ∧ Post (some (.inl (1 : Int))) W) ∧ (ne < (fw_g W 12 0) → (0 ≤ a ∧ a < 14 ∧ 0 ≤ ne ∧ ne < 14) ∧ (∀ (r1 : Int), ((-2147483648 ≤ r1 ∧ r1 ≤ 2147483647 ∧ (True))) → ((r1 = 0 → -2147483648 ≤ ne + (1 : Int) ∧ ne + (1 : Int) ≤ 2147483647 ∧ (jf fw_T (d + 4) 36 47 [(0, .inr (.inl 266)), (1, .inl a), (2, .inl fa), (3, .inl b), (5, .inl dp), (6, .inl us), (7, .inl (ne + (1 : Int)))] [] W Post)) ∧ (¬ r1 = 0 → ((¬ ne = fa → jf fw_T (d + 4) 36 91 [(0, .inr (.inl 266)), (1, .inl a), (2, .inl fa), (3, .inl b), (5, .inl dp), (6, .inl us), (7, .inl ne), (8, .inl r1), (9, .inl (-1 : Int)), (10, .inl (0 : Int))] [] W Post) ∧ (ne = fa → -2147483648 ≤ ne + (1 : Int) ∧ ne + (1 : Int) ≤ 2147483647 ∧ (jf fw_T (d + 4) 36 47 [(0, .inr (.inl 266)), (1, .inl a), (2, .inl fa), (3, .inl b), (5, .inl dp), (6, .inl us), (7, .inl (ne + (1 : Int)))] [] W Post)))))))))) :
    jf fw_T (d + 4) 36 47 [(0, .inr (.inl 266)), (1, .inl a), (2, .inl fa), (3, .inl b), (5, .inl dp), (6, .inl us), (7, .inl ne)] [] W Post := fw_ok (n := 21) (ss := [(47, [0, 1, 2, 3, 5, 6, 7]), (91, [0, 1, 2, 3, 5, 6, 7, 8, 9, 10])]) (hv := []) fr_36_ok fv_like_ok (ct_k_isBL13_ok d) hw_

theorem lm_k_isBL13_91 {Post : Option fw_V → fw_W → Prop} {d : Nat} {W : fw_W} {a fa b fb dp : Int} (hpre : 0 ≤ a ∧ a < 14 ∧ 0 ≤ b ∧ b < 14 ∧ dp = 13) (hP : ∀ (v : Int) , (0 ≤ v ∧ v ≤ 1 ∧ (True)) → Post (some (.inl v)) W) (M47 : Int) (h47 : ∀ (us ne : Int), 0 ≤ ne ∧ dp ≤ 14 → ((fw_g W 12 0) - ne) < M47 → jf fw_T (d + 4) 36 47 [(0, .inr (.inl 266)), (1, .inl a), (2, .inl fa), (3, .inl b), (5, .inl dp), (6, .inl us), (7, .inl ne)] [] W Post) : ∀ (m : Nat) (us ne st_ ma li : Int), (14 - li).toNat = m → 0 ≤ li ∧ li ≤ 14 ∧ 0 ≤ ne ∧ ne < (fw_g W 12 0) ∧ (fw_g W 12 0) ≤ 14 ∧ -1 ≤ ma ∧ ma < 14 ∧ dp ≤ 14 → ((fw_g W 12 0) - ne) ≤ M47 → jf fw_T (d + 4) 36 91 [(0, .inr (.inl 266)), (1, .inl a), (2, .inl fa), (3, .inl b), (5, .inl dp), (6, .inl us), (7, .inl ne), (8, .inl st_), (9, .inl ma), (10, .inl li)] [] W Post := by
  intro m
  induction m using Nat.strongRecOn with
  | ind m ih =>
    intro us ne st_ ma li hm hi e47
    refine jf_rng (fun hrg => ?_)
    have hrg : -2147483648 ≤ a ∧ a ≤ 2147483647 ∧ -2147483648 ≤ fa ∧ fa ≤ 2147483647 ∧ -2147483648 ≤ b ∧ b ≤ 2147483647 ∧ -2147483648 ≤ dp ∧ dp ≤ 2147483647 ∧ -2147483648 ≤ us ∧ us ≤ 2147483647 ∧ -2147483648 ≤ ne ∧ ne ≤ 2147483647 ∧ -2147483648 ≤ st_ ∧ st_ ≤ 2147483647 ∧ -2147483648 ≤ ma ∧ ma ≤ 2147483647 ∧ -2147483648 ≤ li ∧ li ≤ 2147483647 ∧ True := hrg
    refine s_k_isBL13_91 ?_
    repeat' (first
      | (exact True.intro)
      | (exact hpre.1)
      | (refine And.intro ?_ ?_)
      | (refine (h47 _ _ ?_ (by omega)); (first | omega | trivial))
      | (refine (ih _ (by omega) _ _ _ _ _ rfl ?_ (by omega)); (first | omega | trivial))
      | (refine hP _ ?_; (refine ⟨by omega, by omega, ?_⟩; (first | trivial | omega)))
      | omega
      | (intro _))
theorem lm_k_isBL13_47 {Post : Option fw_V → fw_W → Prop} {d : Nat} {W : fw_W} {a fa b fb dp : Int} (hpre : 0 ≤ a ∧ a < 14 ∧ 0 ≤ b ∧ b < 14 ∧ dp = 13) (hP : ∀ (v : Int) , (0 ≤ v ∧ v ≤ 1 ∧ (True)) → Post (some (.inl v)) W)  : ∀ (m : Nat) (us ne : Int), ((fw_g W 12 0) - ne).toNat = m → 0 ≤ ne ∧ dp ≤ 14 → jf fw_T (d + 4) 36 47 [(0, .inr (.inl 266)), (1, .inl a), (2, .inl fa), (3, .inl b), (5, .inl dp), (6, .inl us), (7, .inl ne)] [] W Post := by
  intro m
  induction m using Nat.strongRecOn with
  | ind m ih =>
    intro us ne hm hi
    refine jf_rng (fun hrg => ?_)
    have hrg : -2147483648 ≤ a ∧ a ≤ 2147483647 ∧ -2147483648 ≤ fa ∧ fa ≤ 2147483647 ∧ -2147483648 ≤ b ∧ b ≤ 2147483647 ∧ -2147483648 ≤ dp ∧ dp ≤ 2147483647 ∧ -2147483648 ≤ us ∧ us ≤ 2147483647 ∧ -2147483648 ≤ ne ∧ ne ≤ 2147483647 ∧ True := hrg
    refine s_k_isBL13_47 ?_
    repeat' (first
      | (exact True.intro)
      | (exact hpre.1)
      | (refine And.intro ?_ ?_)
      | (refine (ih _ (by omega) _ _ rfl ?_); (first | omega | trivial))
      | (refine (lm_k_isBL13_91 (a := a) (fa := fa) (b := b) (fb := fb) (dp := dp) hpre hP ((fw_g W 12 0) - ne) (fun a0 a1 hi hl => ih _ (by omega) a0 a1 rfl hi) _ _ _ _ _ _ rfl ?_ (by omega)); (first | omega | trivial))
      | (refine hP _ ?_; (refine ⟨by omega, by omega, ?_⟩; (first | trivial | omega)))
      | omega
      | (intro _))
def x_k_isBL13 : fw_X := fun as W Q => match as with
  | [.inr (.inl s_), .inl a, .inl fa, .inl b, .inl fb, .inl dp] => fw_if (Nat.beq s_ 266) ((0 ≤ a ∧ a < 14 ∧ 0 ≤ b ∧ b < 14 ∧ dp = 13) ∧ (∀ (v : Int), (0 ≤ v ∧ v ≤ 1 ∧ (True)) → Q (some (.inl v)) W))
  | _ => False
theorem x_k_isBL13_ok (d : Nat) (as : List fw_V) (W : fw_W) (Q : Option fw_V → fw_W → Prop) (hx : x_k_isBL13 as W Q) : jf fw_T (d + 4) 36 0 (fw_args 0 as) [] W Q := by
  unfold x_k_isBL13 at hx
  split at hx
  · rename_i s_ a fa b fb dp
    obtain ⟨e_, hpre, hQ⟩ := fw_if_ok hx
    have e_ := Nat.eq_of_beq_eq_true e_
    subst e_
    have hP := hQ
    refine s_k_isBL13_0 ?_
    repeat' (first
      | (exact True.intro)
      | (exact hpre.1)
      | (refine And.intro ?_ ?_)
      | (refine (lm_k_isBL13_47 (a := a) (fa := fa) (b := b) (fb := fb) (dp := dp) hpre hP _ _ _ rfl ?_); (first | omega | trivial))
      | (refine (lm_k_isBL13_91 (a := a) (fa := fa) (b := b) (fb := fb) (dp := dp) hpre hP M47 h47 _ _ _ _ _ _ rfl ?_ (by omega)); (first | omega | trivial))
      | (refine hP _ ?_; (refine ⟨by omega, by omega, ?_⟩; (first | trivial | omega)))
      | omega
      | (intro _))
  · exact hx.elim

def ct_k_isBL12 : List (Nat × fw_X) := [(112, x_k_stA), (113, x_k_stB), (37, x_k_isStreetLike), (36, x_k_isBL13)]
theorem ct_k_isBL12_ok (d : Nat) : fw_cok fw_T (d + 4) ct_k_isBL12 := by
  intro q hq as W Q h
  simp only [ct_k_isBL12, List.mem_cons, List.not_mem_nil, or_false] at hq
  rcases hq with rfl | rfl | rfl | rfl
  · exact x_k_stA_ok (d + 3) as W Q h
  · exact x_k_stB_ok (d + 3) as W Q h
  · exact jc_of (x_k_isStreetLike_ok (d + 3) as W Q h)
  · exact jc_of (x_k_isBL13_ok (d + 0) as W Q h)
theorem s_k_isBL12_0 {Post : Option fw_V → fw_W → Prop} {d : Nat} {W : fw_W} {a fa b fb dp : Int}
    (hw_ : (((14 : Int) < dp → 0 ≤ (0 : Int) ∧ (0 : Int) ≤ 1 ∧ Post (some (.inl (0 : Int))) W) ∧ (dp ≤ (14 : Int) → (True) ∧ (∀ (r1 : Int), ((-2147483648 ≤ r1 ∧ r1 ≤ 2147483647 ∧ (True))) → (True) ∧ (∀ (r2 : Int), ((-2147483648 ≤ r2 ∧ r2 ≤ 2147483647 ∧ (True))) → ((r1 = r2 → ((¬ fb = (-1 : Int) → (-2147483648 ≤ (fw_shl (1 : Int) fb) → (fw_shl (1 : Int) fb) ≤ 2147483647 → jf fw_T (d + 5) 36 47 [(0, .inr (.inl 266)), (1, .inl a), (2, .inl fa), (3, .inl b), (5, .inl dp), (6, .inl (fw_shl (1 : Int) fb)), (7, .inl (0 : Int))] [] W Post)) ∧ (fb = (-1 : Int) → jf fw_T (d + 5) 36 47 [(0, .inr (.inl 266)), (1, .inl a), (2, .inl fa), (3, .inl b), (5, .inl dp), (6, .inl (0 : Int)), (7, .inl (0 : Int))] [] W Post))) ∧ (¬ r1 = r2 → 0 ≤ (0 : Int) ∧ (0 : Int) ≤ 1 ∧ Post (some (.inl (0 : Int))) W))))))) :
    jf fw_T (d + 5) 36 0 [(0, .inr (.inl 266)), (1, .inl a), (2, .inl fa), (3, .inl b), (4, .inl fb), (5, .inl dp)] [] W Post := fw_ok (n := 22) (ss := [(47, [0, 1, 2, 3, 5, 6, 7]), (91, [0, 1, 2, 3, 5, 6, 7, 8, 9, 10])]) (hv := []) fr_36_ok fv_like_ok (ct_k_isBL12_ok d) hw_

theorem s_k_isBL12_91 {Post : Option fw_V → fw_W → Prop} {d : Nat} {W : fw_W} {a fa b dp us ne st_ ma li : Int}
    (hw_ : (∀ v1 : Int, 0 ≤ v1 → v1 ≤ 14 → ((v1 ≤ li → ((¬ ma = (-1 : Int) → (-2147483648 ≤ (fw_shl (1 : Int) ma) → (fw_shl (1 : Int) ma) ≤ 2147483647 → (-2147483648 ≤ (fw_or us (fw_shl (1 : Int) ma)) → (fw_or us (fw_shl (1 : Int) ma)) ≤ 2147483647 → -2147483648 ≤ ne + (1 : Int) ∧ ne + (1 : Int) ≤ 2147483647 ∧ (jf fw_T (d + 5) 36 47 [(0, .inr (.inl 266)), (1, .inl a), (2, .inl fa), (3, .inl b), (5, .inl dp), (6, .inl (fw_or us (fw_shl (1 : Int) ma))), (7, .inl (ne + (1 : Int)))] [] W Post)))) ∧ (ma = (-1 : Int) → 0 ≤ (0 : Int) ∧ (0 : Int) ≤ 1 ∧ Post (some (.inl (0 : Int))) W))) ∧ (li < v1 → ((¬ ma = (-1 : Int) → ((¬ ma = (-1 : Int) → (-2147483648 ≤ (fw_shl (1 : Int) ma) → (fw_shl (1 : Int) ma) ≤ 2147483647 → (-2147483648 ≤ (fw_or us (fw_shl (1 : Int) ma)) → (fw_or us (fw_shl (1 : Int) ma)) ≤ 2147483647 → -2147483648 ≤ ne + (1 : Int) ∧ ne + (1 : Int) ≤ 2147483647 ∧ (jf fw_T (d + 5) 36 47 [(0, .inr (.inl 266)), (1, .inl a), (2, .inl fa), (3, .inl b), (5, .inl dp), (6, .inl (fw_or us (fw_shl (1 : Int) ma))), (7, .inl (ne + (1 : Int)))] [] W Post)))) ∧ (ma = (-1 : Int) → 0 ≤ (0 : Int) ∧ (0 : Int) ≤ 1 ∧ Post (some (.inl (0 : Int))) W))) ∧ (ma = (-1 : Int) → (-2147483648 ≤ (fw_shr us li) → (fw_shr us li) ≤ 2147483647 → (-2147483648 ≤ (fw_and (fw_shr us li) (1 : Int)) → (fw_and (fw_shr us li) (1 : Int)) ≤ 2147483647 → ((¬ (fw_and (fw_shr us li) (1 : Int)) = 0 → -2147483648 ≤ li + (1 : Int) ∧ li + (1 : Int) ≤ 2147483647 ∧ (jf fw_T (d + 5) 36 91 [(0, .inr (.inl 266)), (1, .inl a), (2, .inl fa), (3, .inl b), (5, .inl dp), (6, .inl us), (7, .inl ne), (8, .inl st_), (9, .inl ma), (10, .inl (li + (1 : Int)))] [] W Post)) ∧ ((fw_and (fw_shr us li) (1 : Int)) = 0 → (0 ≤ b ∧ b < 14 ∧ 0 ≤ li ∧ li < 14) ∧ (∀ (r2 : Int), ((-2147483648 ≤ r2 ∧ r2 ≤ 2147483647 ∧ (True))) → (True) ∧ (∀ (r3 : Int), ((0 ≤ r3 ∧ r3 ≤ 1 ∧ (True))) → ((r3 = 0 → -2147483648 ≤ li + (1 : Int) ∧ li + (1 : Int) ≤ 2147483647 ∧ (jf fw_T (d + 5) 36 91 [(0, .inr (.inl 266)), (1, .inl a), (2, .inl fa), (3, .inl b), (5, .inl dp), (6, .inl us), (7, .inl ne), (8, .inl st_), (9, .inl ma), (10, .inl (li + (1 : Int)))] [] W Post)) ∧ (¬ r3 = 0 → -2147483648 ≤ dp + (1 : Int) ∧ dp + (1 : Int) ≤ 2147483647 ∧ ((0 ≤ ne ∧ ne < 14 ∧ 0 ≤ li ∧ li < 14 ∧ (dp + (1 : Int)) = 13) ∧ (∀ (r4 : Int), ((0 ≤ r4 ∧ r4 ≤ 1 ∧ (True))) → ((r4 = 0 → -2147483648 ≤ li + (1 : Int) ∧ li + (1 : Int) ≤ 2147483647 ∧ (jf fw_T (d + 5) 36 91 [(0, .inr (.inl 266)), (1, .inl a), (2, .inl fa), (3, .inl b), (5, .inl dp), (6, .inl us), (7, .inl ne), (8, .inl st_), (9, .inl ma), (10, .inl (li + (1 : Int)))] [] W Post)) ∧ (¬ r4 = 0 → -2147483648 ≤ li + (1 : Int) ∧ li + (1 : Int) ≤ 2147483647 ∧ (jf fw_T (d + 5) 36 91 [(0, .inr (.inl 266)), (1, .inl a), (2, .inl fa), (3, .inl b), (5, .inl dp), (6, .inl us), (7, .inl ne), (8, .inl st_), (9, .inl li), (10, .inl (li + (1 : Int)))] [] W Post))))))))))))))))))) :
    jf fw_T (d + 5) 36 91 [(0, .inr (.inl 266)), (1, .inl a), (2, .inl fa), (3, .inl b), (5, .inl dp), (6, .inl us), (7, .inl ne), (8, .inl st_), (9, .inl ma), (10, .inl li)] [] W Post := fw_ok (n := 38) (ss := [(47, [0, 1, 2, 3, 5, 6, 7]), (91, [0, 1, 2, 3, 5, 6, 7, 8, 9, 10])]) (hv := []) fr_36_ok fv_like_ok (ct_k_isBL12_ok d) hw_

theorem s_k_isBL12_47 {Post : Option fw_V → fw_W → Prop} {d : Nat} {W : fw_W} {a fa b dp us ne : Int}
    (hw_ : (0 ≤ (fw_g W 12 0) → (fw_g W 12 0) ≤ 14 → (((fw_g W 12 0) ≤ ne → 0 ≤ (1 : Int) ∧ (1 : Int) ≤ 1 ∧ Post (some (.inl (1 : Int))) W) ∧ (ne < (fw_g W 12 0) → (0 ≤ a ∧ a < 14 ∧ 0 ≤ ne ∧ ne < 14) ∧ (∀ (r1 : Int), ((-2147483648 ≤ r1 ∧ r1 ≤ 2147483647 ∧ (True))) → ((r1 = 0 → -2147483648 ≤ ne + (1 : Int) ∧ ne + (1 : Int) ≤ 2147483647 ∧ (jf fw_T (d + 5) 36 47 [(0, .inr (.inl 266)), (1, .inl a), (2, .inl fa), (3, .inl b), (5, .inl dp), (6, .inl us), (7, .inl (ne + (1 : Int)))] [] W Post)) ∧ (¬ r1 = 0 → ((¬ ne = fa → jf fw_T (d + 5) 36 91 [(0, .inr (.inl 266)), (1, .inl a), (2, .inl fa), (3, .inl b), (5, .inl dp), (6, .inl us), (7, .inl ne), (8, .inl r1), (9, .inl (-1 : Int)), (10, .inl (0 : Int))] [] W Post) ∧ (ne = fa → -2147483648 ≤ ne + (1 : Int) ∧ ne + (1 : Int) ≤ 2147483647 ∧ (jf fw_T (d + 5) 36 47 [(0, .inr (.inl 266)), (1, .inl a), (2, .inl fa), (3, .inl b), (5, .inl dp), (6, .inl us), (7, .inl (ne + (1 : Int)))] [] W Post)))))))))) :
    jf fw_T (d + 5) 36 47 [(0, .inr (.inl 266)), (1, .inl a), (2, .inl fa), (3, .inl b), (5, .inl dp), (6, .inl us), (7, .inl ne)] [] W Post := fw_ok (n := 21) (ss := [(47, [0, 1, 2, 3, 5, 6, 7]), (91, [0, 1, 2, 3, 5, 6, 7, 8, 9, 10])]) (hv := []) fr_36_ok fv_like_ok (ct_k_isBL12_ok d) hw_

theorem lm_k_isBL12_91 {Post : Option fw_V → fw_W → Prop} {d : Nat} {W : fw_W} {a fa b fb dp : Int} (hpre : 0 ≤ a ∧ a < 14 ∧ 0 ≤ b ∧ b < 14 ∧ dp = 12) (hP : ∀ (v : Int) , (0 ≤ v ∧ v ≤ 1 ∧ (True)) → Post (some (.inl v)) W) (M47 : Int) (h47 : ∀ (us ne : Int), 0 ≤ ne ∧ dp ≤ 14 → ((fw_g W 12 0) - ne) < M47 → jf fw_T (d + 5) 36 47 [(0, .inr (.inl 266)), (1, .inl a), (2, .inl fa), (3, .inl b), (5, .inl dp), (6, .inl us), (7, .inl ne)] [] W Post) : ∀ (m : Nat) (us ne st_ ma li : Int), (14 - li).toNat = m → 0 ≤ li ∧ li ≤ 14 ∧ 0 ≤ ne ∧ ne < (fw_g W 12 0) ∧ (fw_g W 12 0) ≤ 14 ∧ -1 ≤ ma ∧ ma < 14 ∧ dp ≤ 14 → ((fw_g W 12 0) - ne) ≤ M47 → jf fw_T (d + 5) 36 91 [(0, .inr (.inl 266)), (1, .inl a), (2, .inl fa), (3, .inl b), (5, .inl dp), (6, .inl us), (7, .inl ne), (8, .inl st_), (9, .inl ma), (10, .inl li)] [] W Post := by
  intro m
  induction m using Nat.strongRecOn with
  | ind m ih =>
    intro us ne st_ ma li hm hi e47
    refine jf_rng (fun hrg => ?_)
    have hrg : -2147483648 ≤ a ∧ a ≤ 2147483647 ∧ -2147483648 ≤ fa ∧ fa ≤ 2147483647 ∧ -2147483648 ≤ b ∧ b ≤ 2147483647 ∧ -2147483648 ≤ dp ∧ dp ≤ 2147483647 ∧ -2147483648 ≤ us ∧ us ≤ 2147483647 ∧ -2147483648 ≤ ne ∧ ne ≤ 2147483647 ∧ -2147483648 ≤ st_ ∧ st_ ≤ 2147483647 ∧ -2147483648 ≤ ma ∧ ma ≤ 2147483647 ∧ -2147483648 ≤ li ∧ li ≤ 2147483647 ∧ True := hrg
    refine s_k_isBL12_91 ?_
    repeat' (first
      | (exact True.intro)
      | (exact hpre.1)
      | (refine And.intro ?_ ?_)
      | (refine (h47 _ _ ?_ (by omega)); (first | omega | trivial))
      | (refine (ih _ (by omega) _ _ _ _ _ rfl ?_ (by omega)); (first | omega | trivial))
      | (refine hP _ ?_; (refine ⟨by omega, by omega, ?_⟩; (first | trivial | omega)))
      | omega
      | (intro _))
theorem lm_k_isBL12_47 {Post : Option fw_V → fw_W → Prop} {d : Nat} {W : fw_W} {a fa b fb dp : Int} (hpre : 0 ≤ a ∧ a < 14 ∧ 0 ≤ b ∧ b < 14 ∧ dp = 12) (hP : ∀ (v : Int) , (0 ≤ v ∧ v ≤ 1 ∧ (True)) → Post (some (.inl v)) W)  : ∀ (m : Nat) (us ne : Int), ((fw_g W 12 0) - ne).toNat = m → 0 ≤ ne ∧ dp ≤ 14 → jf fw_T (d + 5) 36 47 [(0, .inr (.inl 266)), (1, .inl a), (2, .inl fa), (3, .inl b), (5, .inl dp), (6, .inl us), (7, .inl ne)] [] W Post := by
  intro m
  induction m using Nat.strongRecOn with
  | ind m ih =>
    intro us ne hm hi
    refine jf_rng (fun hrg => ?_)
    have hrg : -2147483648 ≤ a ∧ a ≤ 2147483647 ∧ -2147483648 ≤ fa ∧ fa ≤ 2147483647 ∧ -2147483648 ≤ b ∧ b ≤ 2147483647 ∧ -2147483648 ≤ dp ∧ dp ≤ 2147483647 ∧ -2147483648 ≤ us ∧ us ≤ 2147483647 ∧ -2147483648 ≤ ne ∧ ne ≤ 2147483647 ∧ True := hrg
    refine s_k_isBL12_47 ?_
    repeat' (first
      | (exact True.intro)
      | (exact hpre.1)
      | (refine And.intro ?_ ?_)
      | (refine (ih _ (by omega) _ _ rfl ?_); (first | omega | trivial))
      | (refine (lm_k_isBL12_91 (a := a) (fa := fa) (b := b) (fb := fb) (dp := dp) hpre hP ((fw_g W 12 0) - ne) (fun a0 a1 hi hl => ih _ (by omega) a0 a1 rfl hi) _ _ _ _ _ _ rfl ?_ (by omega)); (first | omega | trivial))
      | (refine hP _ ?_; (refine ⟨by omega, by omega, ?_⟩; (first | trivial | omega)))
      | omega
      | (intro _))
def x_k_isBL12 : fw_X := fun as W Q => match as with
  | [.inr (.inl s_), .inl a, .inl fa, .inl b, .inl fb, .inl dp] => fw_if (Nat.beq s_ 266) ((0 ≤ a ∧ a < 14 ∧ 0 ≤ b ∧ b < 14 ∧ dp = 12) ∧ (∀ (v : Int), (0 ≤ v ∧ v ≤ 1 ∧ (True)) → Q (some (.inl v)) W))
  | _ => False
theorem x_k_isBL12_ok (d : Nat) (as : List fw_V) (W : fw_W) (Q : Option fw_V → fw_W → Prop) (hx : x_k_isBL12 as W Q) : jf fw_T (d + 5) 36 0 (fw_args 0 as) [] W Q := by
  unfold x_k_isBL12 at hx
  split at hx
  · rename_i s_ a fa b fb dp
    obtain ⟨e_, hpre, hQ⟩ := fw_if_ok hx
    have e_ := Nat.eq_of_beq_eq_true e_
    subst e_
    have hP := hQ
    refine s_k_isBL12_0 ?_
    repeat' (first
      | (exact True.intro)
      | (exact hpre.1)
      | (refine And.intro ?_ ?_)
      | (refine (lm_k_isBL12_47 (a := a) (fa := fa) (b := b) (fb := fb) (dp := dp) hpre hP _ _ _ rfl ?_); (first | omega | trivial))
      | (refine (lm_k_isBL12_91 (a := a) (fa := fa) (b := b) (fb := fb) (dp := dp) hpre hP M47 h47 _ _ _ _ _ _ rfl ?_ (by omega)); (first | omega | trivial))
      | (refine hP _ ?_; (refine ⟨by omega, by omega, ?_⟩; (first | trivial | omega)))
      | omega
      | (intro _))
  · exact hx.elim

def ct_k_isBL11 : List (Nat × fw_X) := [(112, x_k_stA), (113, x_k_stB), (37, x_k_isStreetLike), (36, x_k_isBL12)]
theorem ct_k_isBL11_ok (d : Nat) : fw_cok fw_T (d + 5) ct_k_isBL11 := by
  intro q hq as W Q h
  simp only [ct_k_isBL11, List.mem_cons, List.not_mem_nil, or_false] at hq
  rcases hq with rfl | rfl | rfl | rfl
  · exact x_k_stA_ok (d + 4) as W Q h
  · exact x_k_stB_ok (d + 4) as W Q h
  · exact jc_of (x_k_isStreetLike_ok (d + 4) as W Q h)
  · exact jc_of (x_k_isBL12_ok (d + 0) as W Q h)
theorem s_k_isBL11_0 {Post : Option fw_V → fw_W → Prop} {d : Nat} {W : fw_W} {a fa b fb dp : Int}
    (hw_ : (((14 : Int) < dp → 0 ≤ (0 : Int) ∧ (0 : Int) ≤ 1 ∧ Post (some (.inl (0 : Int))) W) ∧ (dp ≤ (14 : Int) → (True) ∧ (∀ (r1 : Int), ((-2147483648 ≤ r1 ∧ r1 ≤ 2147483647 ∧ (True))) → (True) ∧ (∀ (r2 : Int), ((-2147483648 ≤ r2 ∧ r2 ≤ 2147483647 ∧ (True))) → ((r1 = r2 → ((¬ fb = (-1 : Int) → (-2147483648 ≤ (fw_shl (1 : Int) fb) → (fw_shl (1 : Int) fb) ≤ 2147483647 → jf fw_T (d + 6) 36 47 [(0, .inr (.inl 266)), (1, .inl a), (2, .inl fa), (3, .inl b), (5, .inl dp), (6, .inl (fw_shl (1 : Int) fb)), (7, .inl (0 : Int))] [] W Post)) ∧ (fb = (-1 : Int) → jf fw_T (d + 6) 36 47 [(0, .inr (.inl 266)), (1, .inl a), (2, .inl fa), (3, .inl b), (5, .inl dp), (6, .inl (0 : Int)), (7, .inl (0 : Int))] [] W Post))) ∧ (¬ r1 = r2 → 0 ≤ (0 : Int) ∧ (0 : Int) ≤ 1 ∧ Post (some (.inl (0 : Int))) W))))))) :
    jf fw_T (d + 6) 36 0 [(0, .inr (.inl 266)), (1, .inl a), (2, .inl fa), (3, .inl b), (4, .inl fb), (5, .inl dp)] [] W Post := fw_ok (n := 22) (ss := [(47, [0, 1, 2, 3, 5, 6, 7]), (91, [0, 1, 2, 3, 5, 6, 7, 8, 9, 10])]) (hv := []) fr_36_ok fv_like_ok (ct_k_isBL11_ok d) hw_

theorem s_k_isBL11_91 {Post : Option fw_V → fw_W → Prop} {d : Nat} {W : fw_W} {a fa b dp us ne st_ ma li : Int}
    (hw_ : (∀ v1 : Int, 0 ≤ v1 → v1 ≤ 14 → ((v1 ≤ li → ((¬ ma = (-1 : Int) → (-2147483648 ≤ (fw_shl (1 : Int) ma) → (fw_shl (1 : Int) ma) ≤ 2147483647 → (-2147483648 ≤ (fw_or us (fw_shl (1 : Int) ma)) → (fw_or us (fw_shl (1 : Int) ma)) ≤ 2147483647 → -2147483648 ≤ ne + (1 : Int) ∧ ne + (1 : Int) ≤ 2147483647 ∧ (jf fw_T (d + 6) 36 47 [(0, .inr (.inl 266)), (1, .inl a), (2, .inl fa), (3, .inl b), (5, .inl dp), (6, .inl (fw_or us (fw_shl (1 : Int) ma))), (7, .inl (ne + (1 : Int)))] [] W Post)))) ∧ (ma = (-1 : Int) → 0 ≤ (0 : Int) ∧ (0 : Int) ≤ 1 ∧ Post (some (.inl (0 : Int))) W))) ∧ (li < v1 → ((¬ ma = (-1 : Int) → ((¬ ma = (-1 : Int) → (-2147483648 ≤ (fw_shl (1 : Int) ma) → (fw_shl (1 : Int) ma) ≤ 2147483647 → (-2147483648 ≤ (fw_or us (fw_shl (1 : Int) ma)) → (fw_or us (fw_shl (1 : Int) ma)) ≤ 2147483647 → -2147483648 ≤ ne + (1 : Int) ∧ ne + (1 : Int) ≤ 2147483647 ∧ (jf fw_T (d + 6) 36 47 [(0, .inr (.inl 266)), (1, .inl a), (2, .inl fa), (3, .inl b), (5, .inl dp), (6, .inl (fw_or us (fw_shl (1 : Int) ma))), (7, .inl (ne + (1 : Int)))] [] W Post)))) ∧ (ma = (-1 : Int) → 0 ≤ (0 : Int) ∧ (0 : Int) ≤ 1 ∧ Post (some (.inl (0 : Int))) W))) ∧ (ma = (-1 : Int) → (-2147483648 ≤ (fw_shr us li) → (fw_shr us li) ≤ 2147483647 → (-2147483648 ≤ (fw_and (fw_shr us li) (1 : Int)) → (fw_and (fw_shr us li) (1 : Int)) ≤ 2147483647 → ((¬ (fw_and (fw_shr us li) (1 : Int)) = 0 → -2147483648 ≤ li + (1 : Int) ∧ li + (1 : Int) ≤ 2147483647 ∧ (jf fw_T (d + 6) 36 91 [(0, .inr (.inl 266)), (1, .inl a), (2, .inl fa), (3, .inl b), (5, .inl dp), (6, .inl us), (7, .inl ne), (8, .inl st_), (9, .inl ma), (10, .inl (li + (1 : Int)))] [] W Post)) ∧ ((fw_and (fw_shr us li) (1 : Int)) = 0 → (0 ≤ b ∧ b < 14 ∧ 0 ≤ li ∧ li < 14) ∧ (∀ (r2 : Int), ((-2147483648 ≤ r2 ∧ r2 ≤ 2147483647 ∧ (True))) → (True) ∧ (∀ (r3 : Int), ((0 ≤ r3 ∧ r3 ≤ 1 ∧ (True))) → ((r3 = 0 → -2147483648 ≤ li + (1 : Int) ∧ li + (1 : Int) ≤ 2147483647 ∧ (jf fw_T (d + 6) 36 91 [(0, .inr (.inl 266)), (1, .inl a), (2, .inl fa), (3, .inl b), (5, .inl dp), (6, .inl us), (7, .inl ne), (8, .inl st_), (9, .inl ma), (10, .inl (li + (1 : Int)))] [] W Post)) ∧ (¬ r3 = 0 → -2147483648 ≤ dp + (1 : Int) ∧ dp + (1 : Int) ≤ 2147483647 ∧ ((0 ≤ ne ∧ ne < 14 ∧ 0 ≤ li ∧ li < 14 ∧ (dp + (1 : Int)) = 12) ∧ (∀ (r4 : Int), ((0 ≤ r4 ∧ r4 ≤ 1 ∧ (True))) → ((r4 = 0 → -2147483648 ≤ li + (1 : Int) ∧ li + (1 : Int) ≤ 2147483647 ∧ (jf fw_T (d + 6) 36 91 [(0, .inr (.inl 266)), (1, .inl a), (2, .inl fa), (3, .inl b), (5, .inl dp), (6, .inl us), (7, .inl ne), (8, .inl st_), (9, .inl ma), (10, .inl (li + (1 : Int)))] [] W Post)) ∧ (¬ r4 = 0 → -2147483648 ≤ li + (1 : Int) ∧ li + (1 : Int) ≤ 2147483647 ∧ (jf fw_T (d + 6) 36 91 [(0, .inr (.inl 266)), (1, .inl a), (2, .inl fa), (3, .inl b), (5, .inl dp), (6, .inl us), (7, .inl ne), (8, .inl st_), (9, .inl li), (10, .inl (li + (1 : Int)))] [] W Post))))))))))))))))))) :
    jf fw_T (d + 6) 36 91 [(0, .inr (.inl 266)), (1, .inl a), (2, .inl fa), (3, .inl b), (5, .inl dp), (6, .inl us), (7, .inl ne), (8, .inl st_), (9, .inl ma), (10, .inl li)] [] W Post := fw_ok (n := 38) (ss := [(47, [0, 1, 2, 3, 5, 6, 7]), (91, [0, 1, 2, 3, 5, 6, 7, 8, 9, 10])]) (hv := []) fr_36_ok fv_like_ok (ct_k_isBL11_ok d) hw_

theorem s_k_isBL11_47 {Post : Option fw_V → fw_W → Prop} {d : Nat} {W : fw_W} {a fa b dp us ne : Int}
    (hw_ : (0 ≤ (fw_g W 12 0) → (fw_g W 12 0) ≤ 14 → (((fw_g W 12 0) ≤ ne → 0 ≤ (1 : Int) ∧ (1 : Int) ≤ 1 ∧ Post (some (.inl (1 : Int))) W) ∧ (ne < (fw_g W 12 0) → (0 ≤ a ∧ a < 14 ∧ 0 ≤ ne ∧ ne < 14) ∧ (∀ (r1 : Int), ((-2147483648 ≤ r1 ∧ r1 ≤ 2147483647 ∧ (True))) → ((r1 = 0 → -2147483648 ≤ ne + (1 : Int) ∧ ne + (1 : Int) ≤ 2147483647 ∧ (jf fw_T (d + 6) 36 47 [(0, .inr (.inl 266)), (1, .inl a), (2, .inl fa), (3, .inl b), (5, .inl dp), (6, .inl us), (7, .inl (ne + (1 : Int)))] [] W Post)) ∧ (¬ r1 = 0 → ((¬ ne = fa → jf fw_T (d + 6) 36 91 [(0, .inr (.inl 266)), (1, .inl a), (2, .inl fa), (3, .inl b), (5, .inl dp), (6, .inl us), (7, .inl ne), (8, .inl r1), (9, .inl (-1 : Int)), (10, .inl (0 : Int))] [] W Post) ∧ (ne = fa → -2147483648 ≤ ne + (1 : Int) ∧ ne + (1 : Int) ≤ 2147483647 ∧ (jf fw_T (d + 6) 36 47 [(0, .inr (.inl 266)), (1, .inl a), (2, .inl fa), (3, .inl b), (5, .inl dp), (6, .inl us), (7, .inl (ne + (1 : Int)))] [] W Post)))))))))) :
    jf fw_T (d + 6) 36 47 [(0, .inr (.inl 266)), (1, .inl a), (2, .inl fa), (3, .inl b), (5, .inl dp), (6, .inl us), (7, .inl ne)] [] W Post := fw_ok (n := 21) (ss := [(47, [0, 1, 2, 3, 5, 6, 7]), (91, [0, 1, 2, 3, 5, 6, 7, 8, 9, 10])]) (hv := []) fr_36_ok fv_like_ok (ct_k_isBL11_ok d) hw_

theorem lm_k_isBL11_91 {Post : Option fw_V → fw_W → Prop} {d : Nat} {W : fw_W} {a fa b fb dp : Int} (hpre : 0 ≤ a ∧ a < 14 ∧ 0 ≤ b ∧ b < 14 ∧ dp = 11) (hP : ∀ (v : Int) , (0 ≤ v ∧ v ≤ 1 ∧ (True)) → Post (some (.inl v)) W) (M47 : Int) (h47 : ∀ (us ne : Int), 0 ≤ ne ∧ dp ≤ 14 → ((fw_g W 12 0) - ne) < M47 → jf fw_T (d + 6) 36 47 [(0, .inr (.inl 266)), (1, .inl a), (2, .inl fa), (3, .inl b), (5, .inl dp), (6, .inl us), (7, .inl ne)] [] W Post) : ∀ (m : Nat) (us ne st_ ma li : Int), (14 - li).toNat = m → 0 ≤ li ∧ li ≤ 14 ∧ 0 ≤ ne ∧ ne < (fw_g W 12 0) ∧ (fw_g W 12 0) ≤ 14 ∧ -1 ≤ ma ∧ ma < 14 ∧ dp ≤ 14 → ((fw_g W 12 0) - ne) ≤ M47 → jf fw_T (d + 6) 36 91 [(0, .inr (.inl 266)), (1, .inl a), (2, .inl fa), (3, .inl b), (5, .inl dp), (6, .inl us), (7, .inl ne), (8, .inl st_), (9, .inl ma), (10, .inl li)] [] W Post := by
  intro m
  induction m using Nat.strongRecOn with
  | ind m ih =>
    intro us ne st_ ma li hm hi e47
    refine jf_rng (fun hrg => ?_)
    have hrg : -2147483648 ≤ a ∧ a ≤ 2147483647 ∧ -2147483648 ≤ fa ∧ fa ≤ 2147483647 ∧ -2147483648 ≤ b ∧ b ≤ 2147483647 ∧ -2147483648 ≤ dp ∧ dp ≤ 2147483647 ∧ -2147483648 ≤ us ∧ us ≤ 2147483647 ∧ -2147483648 ≤ ne ∧ ne ≤ 2147483647 ∧ -2147483648 ≤ st_ ∧ st_ ≤ 2147483647 ∧ -2147483648 ≤ ma ∧ ma ≤ 2147483647 ∧ -2147483648 ≤ li ∧ li ≤ 2147483647 ∧ True := hrg
    refine s_k_isBL11_91 ?_
    repeat' (first
      | (exact True.intro)
      | (exact hpre.1)
      | (refine And.intro ?_ ?_)
      | (refine (h47 _ _ ?_ (by omega)); (first | omega | trivial))
      | (refine (ih _ (by omega) _ _ _ _ _ rfl ?_ (by omega)); (first | omega | trivial))
      | (refine hP _ ?_; (refine ⟨by omega, by omega, ?_⟩; (first | trivial | omega)))
      | omega
      | (intro _))
theorem lm_k_isBL11_47 {Post : Option fw_V → fw_W → Prop} {d : Nat} {W : fw_W} {a fa b fb dp : Int} (hpre : 0 ≤ a ∧ a < 14 ∧ 0 ≤ b ∧ b < 14 ∧ dp = 11) (hP : ∀ (v : Int) , (0 ≤ v ∧ v ≤ 1 ∧ (True)) → Post (some (.inl v)) W)  : ∀ (m : Nat) (us ne : Int), ((fw_g W 12 0) - ne).toNat = m → 0 ≤ ne ∧ dp ≤ 14 → jf fw_T (d + 6) 36 47 [(0, .inr (.inl 266)), (1, .inl a), (2, .inl fa), (3, .inl b), (5, .inl dp), (6, .inl us), (7, .inl ne)] [] W Post := by
  intro m
  induction m using Nat.strongRecOn with
  | ind m ih =>
    intro us ne hm hi
    refine jf_rng (fun hrg => ?_)
    have hrg : -2147483648 ≤ a ∧ a ≤ 2147483647 ∧ -2147483648 ≤ fa ∧ fa ≤ 2147483647 ∧ -2147483648 ≤ b ∧ b ≤ 2147483647 ∧ -2147483648 ≤ dp ∧ dp ≤ 2147483647 ∧ -2147483648 ≤ us ∧ us ≤ 2147483647 ∧ -2147483648 ≤ ne ∧ ne ≤ 2147483647 ∧ True := hrg
    refine s_k_isBL11_47 ?_
    repeat' (first
      | (exact True.intro)
      | (exact hpre.1)
      | (refine And.intro ?_ ?_)
      | (refine (ih _ (by omega) _ _ rfl ?_); (first | omega | trivial))
      | (refine (lm_k_isBL11_91 (a := a) (fa := fa) (b := b) (fb := fb) (dp := dp) hpre hP ((fw_g W 12 0) - ne) (fun a0 a1 hi hl => ih _ (by omega) a0 a1 rfl hi) _ _ _ _ _ _ rfl ?_ (by omega)); (first | omega | trivial))
      | (refine hP _ ?_; (refine ⟨by omega, by omega, ?_⟩; (first | trivial | omega)))
      | omega
      | (intro _))
def x_k_isBL11 : fw_X := fun as W Q => match as with
  | [.inr (.inl s_), .inl a, .inl fa, .inl b, .inl fb, .inl dp] => fw_if (Nat.beq s_ 266) ((0 ≤ a ∧ a < 14 ∧ 0 ≤ b ∧ b < 14 ∧ dp = 11) ∧ (∀ (v : Int), (0 ≤ v ∧ v ≤ 1 ∧ (True)) → Q (some (.inl v)) W))
  | _ => False
theorem x_k_isBL11_ok (d : Nat) (as : List fw_V) (W : fw_W) (Q : Option fw_V → fw_W → Prop) (hx : x_k_isBL11 as W Q) : jf fw_T (d + 6) 36 0 (fw_args 0 as) [] W Q := by
  unfold x_k_isBL11 at hx
  split at hx
  · rename_i s_ a fa b fb dp
    obtain ⟨e_, hpre, hQ⟩ := fw_if_ok hx
    have e_ := Nat.eq_of_beq_eq_true e_
    subst e_
    have hP := hQ
    refine s_k_isBL11_0 ?_
    repeat' (first
      | (exact True.intro)
      | (exact hpre.1)
      | (refine And.intro ?_ ?_)
      | (refine (lm_k_isBL11_47 (a := a) (fa := fa) (b := b) (fb := fb) (dp := dp) hpre hP _ _ _ rfl ?_); (first | omega | trivial))
      | (refine (lm_k_isBL11_91 (a := a) (fa := fa) (b := b) (fb := fb) (dp := dp) hpre hP M47 h47 _ _ _ _ _ _ rfl ?_ (by omega)); (first | omega | trivial))
      | (refine hP _ ?_; (refine ⟨by omega, by omega, ?_⟩; (first | trivial | omega)))
      | omega
      | (intro _))
  · exact hx.elim

def ct_k_isBL10 : List (Nat × fw_X) := [(112, x_k_stA), (113, x_k_stB), (37, x_k_isStreetLike), (36, x_k_isBL11)]
theorem ct_k_isBL10_ok (d : Nat) : fw_cok fw_T (d + 6) ct_k_isBL10 := by
  intro q hq as W Q h
  simp only [ct_k_isBL10, List.mem_cons, List.not_mem_nil, or_false] at hq
  rcases hq with rfl | rfl | rfl | rfl
  · exact x_k_stA_ok (d + 5) as W Q h
  · exact x_k_stB_ok (d + 5) as W Q h
  · exact jc_of (x_k_isStreetLike_ok (d + 5) as W Q h)
  · exact jc_of (x_k_isBL11_ok (d + 0) as W Q h)
theorem s_k_isBL10_0 {Post : Option fw_V → fw_W → Prop} {d : Nat} {W : fw_W} {a fa b fb dp : Int}
    (hw_ : (((14 : Int) < dp → 0 ≤ (0 : Int) ∧ (0 : Int) ≤ 1 ∧ Post (some (.inl (0 : Int))) W) ∧ (dp ≤ (14 : Int) → (True) ∧ (∀ (r1 : Int), ((-2147483648 ≤ r1 ∧ r1 ≤ 2147483647 ∧ (True))) → (True) ∧ (∀ (r2 : Int), ((-2147483648 ≤ r2 ∧ r2 ≤ 2147483647 ∧ (True))) → ((r1 = r2 → ((¬ fb = (-1 : Int) → (-2147483648 ≤ (fw_shl (1 : Int) fb) → (fw_shl (1 : Int) fb) ≤ 2147483647 → jf fw_T (d + 7) 36 47 [(0, .inr (.inl 266)), (1, .inl a), (2, .inl fa), (3, .inl b), (5, .inl dp), (6, .inl (fw_shl (1 : Int) fb)), (7, .inl (0 : Int))] [] W Post)) ∧ (fb = (-1 : Int) → jf fw_T (d + 7) 36 47 [(0, .inr (.inl 266)), (1, .inl a), (2, .inl fa), (3, .inl b), (5, .inl dp), (6, .inl (0 : Int)), (7, .inl (0 : Int))] [] W Post))) ∧ (¬ r1 = r2 → 0 ≤ (0 : Int) ∧ (0 : Int) ≤ 1 ∧ Post (some (.inl (0 : Int))) W))))))) :
    jf fw_T (d + 7) 36 0 [(0, .inr (.inl 266)), (1, .inl a), (2, .inl fa), (3, .inl b), (4, .inl fb), (5, .inl dp)] [] W Post := fw_ok (n := 22) (ss := [(47, [0, 1, 2, 3, 5, 6, 7]), (91, [0, 1, 2, 3, 5, 6, 7, 8, 9, 10])]) (hv := []) fr_36_ok fv_like_ok (ct_k_isBL10_ok d) hw_

theorem s_k_isBL10_91 {Post : Option fw_V → fw_W → Prop} {d : Nat} {W : fw_W} {a fa b dp us ne st_ ma li : Int}
    (hw_ : (∀ v1 : Int, 0 ≤ v1 → v1 ≤ 14 → ((v1 ≤ li → ((¬ ma = (-1 : Int) → (-2147483648 ≤ (fw_shl (1 : Int) ma) → (fw_shl (1 : Int) ma) ≤ 2147483647 → (-2147483648 ≤ (fw_or us (fw_shl (1 : Int) ma)) → (fw_or us (fw_shl (1 : Int) ma)) ≤ 2147483647 → -2147483648 ≤ ne + (1 : Int) ∧ ne + (1 : Int) ≤ 2147483647 ∧ (jf fw_T (d + 7) 36 47 [(0, .inr (.inl 266)), (1, .inl a), (2, .inl fa), (3, .inl b), (5, .inl dp), (6, .inl (fw_or us (fw_shl (1 : Int) ma))), (7, .inl (ne + (1 : Int)))] [] W Post)))) ∧ (ma = (-1 : Int) → 0 ≤ (0 : Int) ∧ (0 : Int) ≤ 1 ∧ Post (some (.inl (0 : Int))) W))) ∧ (li < v1 → ((¬ ma = (-1 : Int) → ((¬ ma = (-1 : Int) → (-2147483648 ≤ (fw_shl (1 : Int) ma) → (fw_shl (1 : Int) ma) ≤ 2147483647 → (-2147483648 ≤ (fw_or us (fw_shl (1 : Int) ma)) → (fw_or us (fw_shl (1 : Int) ma)) ≤ 2147483647 → -2147483648 ≤ ne + (1 : Int) ∧ ne + (1 : Int) ≤ 2147483647 ∧ (jf fw_T (d + 7) 36 47 [(0, .inr (.inl 266)), (1, .inl a), (2, .inl fa), (3, .inl b), (5, .inl dp), (6, .inl (fw_or us (fw_shl (1 : Int) ma))), (7, .inl (ne + (1 : Int)))] [] W Post)))) ∧ (ma = (-1 : Int) → 0 ≤ (0 : Int) ∧ (0 : Int) ≤ 1 ∧ Post (some (.inl (0 : Int))) W))) ∧ (ma = (-1 : Int) → (-2147483648 ≤ (fw_shr us li) → (fw_shr us li) ≤ 2147483647 → (-2147483648 ≤ (fw_and (fw_shr us li) (1 : Int)) → (fw_and (fw_shr us li) (1 : Int)) ≤ 2147483647 → ((¬ (fw_and (fw_shr us li) (1 : Int)) = 0 → -2147483648 ≤ li + (1 : Int) ∧ li + (1 : Int) ≤ 2147483647 ∧ (jf fw_T (d + 7) 36 91 [(0, .inr (.inl 266)), (1, .inl a), (2, .inl fa), (3, .inl b), (5, .inl dp), (6, .inl us), (7, .inl ne), (8, .inl st_), (9, .inl ma), (10, .inl (li + (1 : Int)))] [] W Post)) ∧ ((fw_and (fw_shr us li) (1 : Int)) = 0 → (0 ≤ b ∧ b < 14 ∧ 0 ≤ li ∧ li < 14) ∧ (∀ (r2 : Int), ((-2147483648 ≤ r2 ∧ r2 ≤ 2147483647 ∧ (True))) → (True) ∧ (∀ (r3 : Int), ((0 ≤ r3 ∧ r3 ≤ 1 ∧ (True))) → ((r3 = 0 → -2147483648 ≤ li + (1 : Int) ∧ li + (1 : Int) ≤ 2147483647 ∧ (jf fw_T (d + 7) 36 91 [(0, .inr (.inl 266)), (1, .inl a), (2, .inl fa), (3, .inl b), (5, .inl dp), (6, .inl us), (7, .inl ne), (8, .inl st_), (9, .inl ma), (10, .inl (li + (1 : Int)))] [] W Post)) ∧ (¬ r3 = 0 → -2147483648 ≤ dp + (1 : Int) ∧ dp + (1 : Int) ≤ 2147483647 ∧ ((0 ≤ ne ∧ ne < 14 ∧ 0 ≤ li ∧ li < 14 ∧ (dp + (1 : Int)) = 11) ∧ (∀ (r4 : Int), ((0 ≤ r4 ∧ r4 ≤ 1 ∧ (True))) → ((r4 = 0 → -2147483648 ≤ li + (1 : Int) ∧ li + (1 : Int) ≤ 2147483647 ∧ (jf fw_T (d + 7) 36 91 [(0, .inr (.inl 266)), (1, .inl a), (2, .inl fa), (3, .inl b), (5, .inl dp), (6, .inl us), (7, .inl ne), (8, .inl st_), (9, .inl ma), (10, .inl (li + (1 : Int)))] [] W Post)) ∧ (¬ r4 = 0 → -2147483648 ≤ li + (1 : Int) ∧ li + (1 : Int) ≤ 2147483647 ∧ (jf fw_T (d + 7) 36 91 [(0, .inr (.inl 266)), (1, .inl a), (2, .inl fa), (3, .inl b), (5, .inl dp), (6, .inl us), (7, .inl ne), (8, .inl st_), (9, .inl li), (10, .inl (li + (1 : Int)))] [] W Post))))))))))))))))))) :
    jf fw_T (d + 7) 36 91 [(0, .inr (.inl 266)), (1, .inl a), (2, .inl fa), (3, .inl b), (5, .inl dp), (6, .inl us), (7, .inl ne), (8, .inl st_), (9, .inl ma), (10, .inl li)] [] W Post := fw_ok (n := 38) (ss := [(47, [0, 1, 2, 3, 5, 6, 7]), (91, [0, 1, 2, 3, 5, 6, 7, 8, 9, 10])]) (hv := []) fr_36_ok fv_like_ok (ct_k_isBL10_ok d) hw_

theorem s_k_isBL10_47 {Post : Option fw_V → fw_W → Prop} {d : Nat} {W : fw_W} {a fa b dp us ne : Int}
    (hw_ : (0 ≤ (fw_g W 12 0) → (fw_g W 12 0) ≤ 14 → (((fw_g W 12 0) ≤ ne → 0 ≤ (1 : Int) ∧ (1 : Int) ≤ 1 ∧ Post (some (.inl (1 : Int))) W) ∧ (ne < (fw_g W 12 0) → (0 ≤ a ∧ a < 14 ∧ 0 ≤ ne ∧ ne < 14) ∧ (∀ (r1 : Int), ((-2147483648 ≤ r1 ∧ r1 ≤ 2147483647 ∧ (True))) → ((r1 = 0 → -2147483648 ≤ ne + (1 : Int) ∧ ne + (1 : Int) ≤ 2147483647 ∧ (jf fw_T (d + 7) 36 47 [(0, .inr (.inl 266)), (1, .inl a), (2, .inl fa), (3, .inl b), (5, .inl dp), (6, .inl us), (7, .inl (ne + (1 : Int)))] [] W Post)) ∧ (¬ r1 = 0 → ((¬ ne = fa → jf fw_T (d + 7) 36 91 [(0, .inr (.inl 266)), (1, .inl a), (2, .inl fa), (3, .inl b), (5, .inl dp), (6, .inl us), (7, .inl ne), (8, .inl r1), (9, .inl (-1 : Int)), (10, .inl (0 : Int))] [] W Post) ∧ (ne = fa → -2147483648 ≤ ne + (1 : Int) ∧ ne + (1 : Int) ≤ 2147483647 ∧ (jf fw_T (d + 7) 36 47 [(0, .inr (.inl 266)), (1, .inl a), (2, .inl fa), (3, .inl b), (5, .inl dp), (6, .inl us), (7, .inl (ne + (1 : Int)))] [] W Post)))))))))) :
    jf fw_T (d + 7) 36 47 [(0, .inr (.inl 266)), (1, .inl a), (2, .inl fa), (3, .inl b), (5, .inl dp), (6, .inl us), (7, .inl ne)] [] W Post := fw_ok (n := 21) (ss := [(47, [0, 1, 2, 3, 5, 6, 7]), (91, [0, 1, 2, 3, 5, 6, 7, 8, 9, 10])]) (hv := []) fr_36_ok fv_like_ok (ct_k_isBL10_ok d) hw_

theorem lm_k_isBL10_91 {Post : Option fw_V → fw_W → Prop} {d : Nat} {W : fw_W} {a fa b fb dp : Int} (hpre : 0 ≤ a ∧ a < 14 ∧ 0 ≤ b ∧ b < 14 ∧ dp = 10) (hP : ∀ (v : Int) , (0 ≤ v ∧ v ≤ 1 ∧ (True)) → Post (some (.inl v)) W) (M47 : Int) (h47 : ∀ (us ne : Int), 0 ≤ ne ∧ dp ≤ 14 → ((fw_g W 12 0) - ne) < M47 → jf fw_T (d + 7) 36 47 [(0, .inr (.inl 266)), (1, .inl a), (2, .inl fa), (3, .inl b), (5, .inl dp), (6, .inl us), (7, .inl ne)] [] W Post) : ∀ (m : Nat) (us ne st_ ma li : Int), (14 - li).toNat = m → 0 ≤ li ∧ li ≤ 14 ∧ 0 ≤ ne ∧ ne < (fw_g W 12 0) ∧ (fw_g W 12 0) ≤ 14 ∧ -1 ≤ ma ∧ ma < 14 ∧ dp ≤ 14 → ((fw_g W 12 0) - ne) ≤ M47 → jf fw_T (d + 7) 36 91 [(0, .inr (.inl 266)), (1, .inl a), (2, .inl fa), (3, .inl b), (5, .inl dp), (6, .inl us), (7, .inl ne), (8, .inl st_), (9, .inl ma), (10, .inl li)] [] W Post := by
  intro m
  induction m using Nat.strongRecOn with
  | ind m ih =>
    intro us ne st_ ma li hm hi e47
    refine jf_rng (fun hrg => ?_)
    have hrg : -2147483648 ≤ a ∧ a ≤ 2147483647 ∧ -2147483648 ≤ fa ∧ fa ≤ 2147483647 ∧ -2147483648 ≤ b ∧ b ≤ 2147483647 ∧ -2147483648 ≤ dp ∧ dp ≤ 2147483647 ∧ -2147483648 ≤ us ∧ us ≤ 2147483647 ∧ -2147483648 ≤ ne ∧ ne ≤ 2147483647 ∧ -2147483648 ≤ st_ ∧ st_ ≤ 2147483647 ∧ -2147483648 ≤ ma ∧ ma ≤ 2147483647 ∧ -2147483648 ≤ li ∧ li ≤ 2147483647 ∧ True := hrg
    refine s_k_isBL10_91 ?_
    repeat' (first
      | (exact True.intro)
      | (exact hpre.1)
      | (refine And.intro ?_ ?_)
      | (refine (h47 _ _ ?_ (by omega)); (first | omega | trivial))
      | (refine (ih _ (by omega) _ _ _ _ _ rfl ?_ (by omega)); (first | omega | trivial))
      | (refine hP _ ?_; (refine ⟨by omega, by omega, ?_⟩; (first | trivial | omega)))
      | omega
      | (intro _))
theorem lm_k_isBL10_47 {Post : Option fw_V → fw_W → Prop} {d : Nat} {W : fw_W} {a fa b fb dp : Int} (hpre : 0 ≤ a ∧ a < 14 ∧ 0 ≤ b ∧ b < 14 ∧ dp = 10) (hP : ∀ (v : Int) , (0 ≤ v ∧ v ≤ 1 ∧ (True)) → Post (some (.inl v)) W)  : ∀ (m : Nat) (us ne : Int), ((fw_g W 12 0) - ne).toNat = m → 0 ≤ ne ∧ dp ≤ 14 → jf fw_T (d + 7) 36 47 [(0, .inr (.inl 266)), (1, .inl a), (2, .inl fa), (3, .inl b), (5, .inl dp), (6, .inl us), (7, .inl ne)] [] W Post := by
  intro m
  induction m using Nat.strongRecOn with
  | ind m ih =>
    intro us ne hm hi
    refine jf_rng (fun hrg => ?_)
    have hrg : -2147483648 ≤ a ∧ a ≤ 2147483647 ∧ -2147483648 ≤ fa ∧ fa ≤ 2147483647 ∧ -2147483648 ≤ b ∧ b ≤ 2147483647 ∧ -2147483648 ≤ dp ∧ dp ≤ 2147483647 ∧ -2147483648 ≤ us ∧ us ≤ 2147483647 ∧ -2147483648 ≤ ne ∧ ne ≤ 2147483647 ∧ True := hrg
    refine s_k_isBL10_47 ?_
    repeat' (first
      | (exact True.intro)
      | (exact hpre.1)
      | (refine And.intro ?_ ?_)
      | (refine (ih _ (by omega) _ _ rfl ?_); (first | omega | trivial))
      | (refine (lm_k_isBL10_91 (a := a) (fa := fa) (b := b) (fb := fb) (dp := dp) hpre hP ((fw_g W 12 0) - ne) (fun a0 a1 hi hl => ih _ (by omega) a0 a1 rfl hi) _ _ _ _ _ _ rfl ?_ (by omega)); (first | omega | trivial))
      | (refine hP _ ?_; (refine ⟨by omega, by omega, ?_⟩; (first | trivial | omega)))
      | omega
      | (intro _))
def x_k_isBL10 : fw_X := fun as W Q => match as with
  | [.inr (.inl s_), .inl a, .inl fa, .inl b, .inl fb, .inl dp] => fw_if (Nat.beq s_ 266) ((0 ≤ a ∧ a < 14 ∧ 0 ≤ b ∧ b < 14 ∧ dp = 10) ∧ (∀ (v : Int), (0 ≤ v ∧ v ≤ 1 ∧ (True)) → Q (some (.inl v)) W))
  | _ => False
theorem x_k_isBL10_ok (d : Nat) (as : List fw_V) (W : fw_W) (Q : Option fw_V → fw_W → Prop) (hx : x_k_isBL10 as W Q) : jf fw_T (d + 7) 36 0 (fw_args 0 as) [] W Q := by
  unfold x_k_isBL10 at hx
  split at hx
  · rename_i s_ a fa b fb dp
    obtain ⟨e_, hpre, hQ⟩ := fw_if_ok hx
    have e_ := Nat.eq_of_beq_eq_true e_
    subst e_
    have hP := hQ
    refine s_k_isBL10_0 ?_
    repeat' (first
      | (exact True.intro)
      | (exact hpre.1)
      | (refine And.intro ?_ ?_)
      | (refine (lm_k_isBL10_47 (a := a) (fa := fa) (b := b) (fb := fb) (dp := dp) hpre hP _ _ _ rfl ?_); (first | omega | trivial))
      | (refine (lm_k_isBL10_91 (a := a) (fa := fa) (b := b) (fb := fb) (dp := dp) hpre hP M47 h47 _ _ _ _ _ _ rfl ?_ (by omega)); (first | omega | trivial))
      | (refine hP _ ?_; (refine ⟨by omega, by omega, ?_⟩; (first | trivial | omega)))
      | omega
      | (intro _))
  · exact hx.elim

def ct_k_isBL9 : List (Nat × fw_X) := [(112, x_k_stA), (113, x_k_stB), (37, x_k_isStreetLike), (36, x_k_isBL10)]
theorem ct_k_isBL9_ok (d : Nat) : fw_cok fw_T (d + 7) ct_k_isBL9 := by
  intro q hq as W Q h
  simp only [ct_k_isBL9, List.mem_cons, List.not_mem_nil, or_false] at hq
  rcases hq with rfl | rfl | rfl | rfl
  · exact x_k_stA_ok (d + 6) as W Q h
  · exact x_k_stB_ok (d + 6) as W Q h
  · exact jc_of (x_k_isStreetLike_ok (d + 6) as W Q h)
  · exact jc_of (x_k_isBL10_ok (d + 0) as W Q h)
theorem s_k_isBL9_0 {Post : Option fw_V → fw_W → Prop} {d : Nat} {W : fw_W} {a fa b fb dp : Int}
    (hw_ : (((14 : Int) < dp → 0 ≤ (0 : Int) ∧ (0 : Int) ≤ 1 ∧ Post (some (.inl (0 : Int))) W) ∧ (dp ≤ (14 : Int) → (True) ∧ (∀ (r1 : Int), ((-2147483648 ≤ r1 ∧ r1 ≤ 2147483647 ∧ (True))) → (True) ∧ (∀ (r2 : Int), ((-2147483648 ≤ r2 ∧ r2 ≤ 2147483647 ∧ (True))) → ((r1 = r2 → ((¬ fb = (-1 : Int) → (-2147483648 ≤ (fw_shl (1 : Int) fb) → (fw_shl (1 : Int) fb) ≤ 2147483647 → jf fw_T (d + 8) 36 47 [(0, .inr (.inl 266)), (1, .inl a), (2, .inl fa), (3, .inl b), (5, .inl dp), (6, .inl (fw_shl (1 : Int) fb)), (7, .inl (0 : Int))] [] W Post)) ∧ (fb = (-1 : Int) → jf fw_T (d + 8) 36 47 [(0, .inr (.inl 266)), (1, .inl a), (2, .inl fa), (3, .inl b), (5, .inl dp), (6, .inl (0 : Int)), (7, .inl (0 : Int))] [] W Post))) ∧ (¬ r1 = r2 → 0 ≤ (0 : Int) ∧ (0 : Int) ≤ 1 ∧ Post (some (.inl (0 : Int))) W))))))) :
    jf fw_T (d + 8) 36 0 [(0, .inr (.inl 266)), (1, .inl a), (2, .inl fa), (3, .inl b), (4, .inl fb), (5, .inl dp)] [] W Post := fw_ok (n := 22) (ss := [(47, [0, 1, 2, 3, 5, 6, 7]), (91, [0, 1, 2, 3, 5, 6, 7, 8, 9, 10])]) (hv := []) fr_36_ok fv_like_ok (ct_k_isBL9_ok d) hw_

theorem s_k_isBL9_91 {Post : Option fw_V → fw_W → Prop} {d : Nat} {W : fw_W} {a fa b dp us ne st_ ma li : Int}
    (hw_ : (∀ v1 : Int, 0 ≤ v1 → v1 ≤ 14 → ((v1 ≤ li → ((¬ ma = (-1 : Int) → (-2147483648 ≤ (fw_shl (1 : Int) ma) → (fw_shl (1 : Int) ma) ≤ 2147483647 → (-2147483648 ≤ (fw_or us (fw_shl (1 : Int) ma)) → (fw_or us (fw_shl (1 : Int) ma)) ≤ 2147483647 → -2147483648 ≤ ne + (1 : Int) ∧ ne + (1 : Int) ≤ 2147483647 ∧ (jf fw_T (d + 8) 36 47 [(0, .inr (.inl 266)), (1, .inl a), (2, .inl fa), (3, .inl b), (5, .inl dp), (6, .inl (fw_or us (fw_shl (1 : Int) ma))), (7, .inl (ne + (1 : Int)))] [] W Post)))) ∧ (ma = (-1 : Int) → 0 ≤ (0 : Int) ∧ (0 : Int) ≤ 1 ∧ Post (some (.inl (0 : Int))) W))) ∧ (li < v1 → ((¬ ma = (-1 : Int) → ((¬ ma = (-1 : Int) → (-2147483648 ≤ (fw_shl (1 : Int) ma) → (fw_shl (1 : Int) ma) ≤ 2147483647 → (-2147483648 ≤ (fw_or us (fw_shl (1 : Int) ma)) → (fw_or us (fw_shl (1 : Int) ma)) ≤ 2147483647 → -2147483648 ≤ ne + (1 : Int) ∧ ne + (1 : Int) ≤ 2147483647 ∧ (jf fw_T (d + 8) 36 47 [(0, .inr (.inl 266)), (1, .inl a), (2, .inl fa), (3, .inl b), (5, .inl dp), (6, .inl (fw_or us (fw_shl (1 : Int) ma))), (7, .inl (ne + (1 : Int)))] [] W Post)))) ∧ (ma = (-1 : Int) → 0 ≤ (0 : Int) ∧ (0 : Int) ≤ 1 ∧ Post (some (.inl (0 : Int))) W))) ∧ (ma = (-1 : Int) → (-2147483648 ≤ (fw_shr us li) → (fw_shr us li) ≤ 2147483647 → (-2147483648 ≤ (fw_and (fw_shr us li) (1 : Int)) → (fw_and (fw_shr us li) (1 : Int)) ≤ 2147483647 → ((¬ (fw_and (fw_shr us li) (1 : Int)) = 0 → -2147483648 ≤ li + (1 : Int) ∧ li + (1 : Int) ≤ 2147483647 ∧ (jf fw_T (d + 8) 36 91 [(0, .inr (.inl 266)), (1, .inl a), (2, .inl fa), (3, .inl b), (5, .inl dp), (6, .inl us), (7, .inl ne), (8, .inl st_), (9, .inl ma), (10, .inl (li + (1 : Int)))] [] W Post)) ∧ ((fw_and (fw_shr us li) (1 : Int)) = 0 → (0 ≤ b ∧ b < 14 ∧ 0 ≤ li ∧ li < 14) ∧ (∀ (r2 : Int), ((-2147483648 ≤ r2 ∧ r2 ≤ 2147483647 ∧ (True))) → (True) ∧ (∀ (r3 : Int), ((0 ≤ r3 ∧ r3 ≤ 1 ∧ (True))) → ((r3 = 0 → -2147483648 ≤ li + (1 : Int) ∧ li + (1 : Int) ≤ 2147483647 ∧ (jf fw_T (d + 8) 36 91 [(0, .inr (.inl 266)), (1, .inl a), (2, .inl fa), (3, .inl b), (5, .inl dp), (6, .inl us), (7, .inl ne), (8, .inl st_), (9, .inl ma), (10, .inl (li + (1 : Int)))] [] W Post)) ∧ (¬ r3 = 0 → -2147483648 ≤ dp + (1 : Int) ∧ dp + (1 : Int) ≤ 2147483647 ∧ ((0 ≤ ne ∧ ne < 14 ∧ 0 ≤ li ∧ li < 14 ∧ (dp + (1 : Int)) = 10) ∧ (∀ (r4 : Int), ((0 ≤ r4 ∧ r4 ≤ 1 ∧ (True))) → ((r4 = 0 → -2147483648 ≤ li + (1 : Int) ∧ li + (1 : Int) ≤ 2147483647 ∧ (jf fw_T (d + 8) 36 91 [(0, .inr (.inl 266)), (1, .inl a), (2, .inl fa), (3, .inl b), (5, .inl dp), (6, .inl us), (7, .inl ne), (8, .inl st_), (9, .inl ma), (10, .inl (li + (1 : Int)))] [] W Post)) ∧ (¬ r4 = 0 → -2147483648 ≤ li + (1 : Int) ∧ li + (1 : Int) ≤ 2147483647 ∧ (jf fw_T (d + 8) 36 91 [(0, .inr (.inl 266)), (1, .inl a), (2, .inl fa), (3, .inl b), (5, .inl dp), (6, .inl us), (7, .inl ne), (8, .inl st_), (9, .inl li), (10, .inl (li + (1 : Int)))] [] W Post))))))))))))))))))) :
    jf fw_T (d + 8) 36 91 [(0, .inr (.inl 266)), (1, .inl a), (2, .inl fa), (3, .inl b), (5, .inl dp), (6, .inl us), (7, .inl ne), (8, .inl st_), (9, .inl ma), (10, .inl li)] [] W Post := fw_ok (n := 38) (ss := [(47, [0, 1, 2, 3, 5, 6, 7]), (91, [0, 1, 2, 3, 5, 6, 7, 8, 9, 10])]) (hv := []) fr_36_ok fv_like_ok (ct_k_isBL9_ok d) hw_

theorem s_k_isBL9_47 {Post : Option fw_V → fw_W → Prop} {d : Nat} {W : fw_W} {a fa b dp us ne : Int}
    (hw_ : (0 ≤ (fw_g W 12 0) → (fw_g W 12 0) ≤ 14 → (((fw_g W 12 0) ≤ ne → 0 ≤ (1 : Int) ∧ (1 : Int) ≤ 1 ∧ Post (some (.inl (1 : Int))) W) ∧ (ne < (fw_g W 12 0) → (0 ≤ a ∧ a < 14 ∧ 0 ≤ ne ∧ ne < 14) ∧ (∀ (r1 : Int), ((-2147483648 ≤ r1 ∧ r1 ≤ 2147483647 ∧ (True))) → ((r1 = 0 → -2147483648 ≤ ne + (1 : Int) ∧ ne + (1 : Int) ≤ 2147483647 ∧ (jf fw_T (d + 8) 36 47 [(0, .inr (.inl 266)), (1, .inl a), (2, .inl fa), (3, .inl b), (5, .inl dp), (6, .inl us), (7, .inl (ne + (1 : Int)))] [] W Post)) ∧ (¬ r1 = 0 → ((¬ ne = fa → jf fw_T (d + 8) 36 91 [(0, .inr (.inl 266)), (1, .inl a), (2, .inl fa), (3, .inl b), (5, .inl dp), (6, .inl us), (7, .inl ne), (8, .inl r1), (9, .inl (-1 : Int)), (10, .inl (0 : Int))] [] W Post) ∧ (ne = fa → -2147483648 ≤ ne + (1 : Int) ∧ ne + (1 : Int) ≤ 2147483647 ∧ (jf fw_T (d + 8) 36 47 [(0, .inr (.inl 266)), (1, .inl a), (2, .inl fa), (3, .inl b), (5, .inl dp), (6, .inl us), (7, .inl (ne + (1 : Int)))] [] W Post)))))))))) :
    jf fw_T (d + 8) 36 47 [(0, .inr (.inl 266)), (1, .inl a), (2, .inl fa), (3, .inl b), (5, .inl dp), (6, .inl us), (7, .inl ne)] [] W Post := fw_ok (n := 21) (ss := [(47, [0, 1, 2, 3, 5, 6, 7]), (91, [0, 1, 2, 3, 5, 6, 7, 8, 9, 10])]) (hv := []) fr_36_ok fv_like_ok (ct_k_isBL9_ok d) hw_

theorem lm_k_isBL9_91 {Post : Option fw_V → fw_W → Prop} {d : Nat} {W : fw_W} {a fa b fb dp : Int} (hpre : 0 ≤ a ∧ a < 14 ∧ 0 ≤ b ∧ b < 14 ∧ dp = 9) (hP : ∀ (v : Int) , (0 ≤ v ∧ v ≤ 1 ∧ (True)) → Post (some (.inl v)) W) (M47 : Int) (h47 : ∀ (us ne : Int), 0 ≤ ne ∧ dp ≤ 14 → ((fw_g W 12 0) - ne) < M47 → jf fw_T (d + 8) 36 47 [(0, .inr (.inl 266)), (1, .inl a), (2, .inl fa), (3, .inl b), (5, .inl dp), (6, .inl us), (7, .inl ne)] [] W Post) : ∀ (m : Nat) (us ne st_ ma li : Int), (14 - li).toNat = m → 0 ≤ li ∧ li ≤ 14 ∧ 0 ≤ ne ∧ ne < (fw_g W 12 0) ∧ (fw_g W 12 0) ≤ 14 ∧ -1 ≤ ma ∧ ma < 14 ∧ dp ≤ 14 → ((fw_g W 12 0) - ne) ≤ M47 → jf fw_T (d + 8) 36 91 [(0, .inr (.inl 266)), (1, .inl a), (2, .inl fa), (3, .inl b), (5, .inl dp), (6, .inl us), (7, .inl ne), (8, .inl st_), (9, .inl ma), (10, .inl li)] [] W Post := by
  intro m
  induction m using Nat.strongRecOn with
  | ind m ih =>
    intro us ne st_ ma li hm hi e47
    refine jf_rng (fun hrg => ?_)
    have hrg : -2147483648 ≤ a ∧ a ≤ 2147483647 ∧ -2147483648 ≤ fa ∧ fa ≤ 2147483647 ∧ -2147483648 ≤ b ∧ b ≤ 2147483647 ∧ -2147483648 ≤ dp ∧ dp ≤ 2147483647 ∧ -2147483648 ≤ us ∧ us ≤ 2147483647 ∧ -2147483648 ≤ ne ∧ ne ≤ 2147483647 ∧ -2147483648 ≤ st_ ∧ st_ ≤ 2147483647 ∧ -2147483648 ≤ ma ∧ ma ≤ 2147483647 ∧ -2147483648 ≤ li ∧ li ≤ 2147483647 ∧ True := hrg
    refine s_k_isBL9_91 ?_
    repeat' (first
      | (exact True.intro)
      | (exact hpre.1)
      | (refine And.intro ?_ ?_)
      | (refine (h47 _ _ ?_ (by omega)); (first | omega | trivial))
      | (refine (ih _ (by omega) _ _ _ _ _ rfl ?_ (by omega)); (first | omega | trivial))
      | (refine hP _ ?_; (refine ⟨by omega, by omega, ?_⟩; (first | trivial | omega)))
      | omega
      | (intro _))
theorem lm_k_isBL9_47 {Post : Option fw_V → fw_W → Prop} {d : Nat} {W : fw_W} {a fa b fb dp : Int} (hpre : 0 ≤ a ∧ a < 14 ∧ 0 ≤ b ∧ b < 14 ∧ dp = 9) (hP : ∀ (v : Int) , (0 ≤ v ∧ v ≤ 1 ∧ (True)) → Post (some (.inl v)) W)  : ∀ (m : Nat) (us ne : Int), ((fw_g W 12 0) - ne).toNat = m → 0 ≤ ne ∧ dp ≤ 14 → jf fw_T (d + 8) 36 47 [(0, .inr (.inl 266)), (1, .inl a), (2, .inl fa), (3, .inl b), (5, .inl dp), (6, .inl us), (7, .inl ne)] [] W Post := by
  intro m
  induction m using Nat.strongRecOn with
  | ind m ih =>
    intro us ne hm hi
    refine jf_rng (fun hrg => ?_)
    have hrg : -2147483648 ≤ a ∧ a ≤ 2147483647 ∧ -2147483648 ≤ fa ∧ fa ≤ 2147483647 ∧ -2147483648 ≤ b ∧ b ≤ 2147483647 ∧ -2147483648 ≤ dp ∧ dp ≤ 2147483647 ∧ -2147483648 ≤ us ∧ us ≤ 2147483647 ∧ -2147483648 ≤ ne ∧ ne ≤ 2147483647 ∧ True := hrg
    refine s_k_isBL9_47 ?_
    repeat' (first
      | (exact True.intro)
      | (exact hpre.1)
      | (refine And.intro ?_ ?_)
      | (refine (ih _ (by omega) _ _ rfl ?_); (first | omega | trivial))
      | (refine (lm_k_isBL9_91 (a := a) (fa := fa) (b := b) (fb := fb) (dp := dp) hpre hP ((fw_g W 12 0) - ne) (fun a0 a1 hi hl => ih _ (by omega) a0 a1 rfl hi) _ _ _ _ _ _ rfl ?_ (by omega)); (first | omega | trivial))
      | (refine hP _ ?_; (refine ⟨by omega, by omega, ?_⟩; (first | trivial | omega)))
      | omega
      | (intro _))
def x_k_isBL9 : fw_X := fun as W Q => match as with
  | [.inr (.inl s_), .inl a, .inl fa, .inl b, .inl fb, .inl dp] => fw_if (Nat.beq s_ 266) ((0 ≤ a ∧ a < 14 ∧ 0 ≤ b ∧ b < 14 ∧ dp = 9) ∧ (∀ (v : Int), (0 ≤ v ∧ v ≤ 1 ∧ (True)) → Q (some (.inl v)) W))
  | _ => False
theorem x_k_isBL9_ok (d : Nat) (as : List fw_V) (W : fw_W) (Q : Option fw_V → fw_W → Prop) (hx : x_k_isBL9 as W Q) : jf fw_T (d + 8) 36 0 (fw_args 0 as) [] W Q := by
  unfold x_k_isBL9 at hx
  split at hx
  · rename_i s_ a fa b fb dp
    obtain ⟨e_, hpre, hQ⟩ := fw_if_ok hx
    have e_ := Nat.eq_of_beq_eq_true e_
    subst e_
    have hP := hQ
    refine s_k_isBL9_0 ?_
    repeat' (first
      | (exact True.intro)
      | (exact hpre.1)
      | (refine And.intro ?_ ?_)
      | (refine (lm_k_isBL9_47 (a := a) (fa := fa) (b := b) (fb := fb) (dp := dp) hpre hP _ _ _ rfl ?_); (first | omega | trivial))
      | (refine (lm_k_isBL9_91 (a := a) (fa := fa) (b := b) (fb := fb) (dp := dp) hpre hP M47 h47 _ _ _ _ _ _ rfl ?_ (by omega)); (first | omega | trivial))
      | (refine hP _ ?_; (refine ⟨by omega, by omega, ?_⟩; (first | trivial | omega)))
      | omega
      | (intro _))
  · exact hx.elim

def ct_k_isBL8 : List (Nat × fw_X) := [(112, x_k_stA), (113, x_k_stB), (37, x_k_isStreetLike), (36, x_k_isBL9)]
theorem ct_k_isBL8_ok (d : Nat) : fw_cok fw_T (d + 8) ct_k_isBL8 := by
  intro q hq as W Q h
  simp only [ct_k_isBL8, List.mem_cons, List.not_mem_nil, or_false] at hq
  rcases hq with rfl | rfl | rfl | rfl
  · exact x_k_stA_ok (d + 7) as W Q h
  · exact x_k_stB_ok (d + 7) as W Q h
  · exact jc_of (x_k_isStreetLike_ok (d + 7) as W Q h)
  · exact jc_of (x_k_isBL9_ok (d + 0) as W Q h)
theorem s_k_isBL8_0 {Post : Option fw_V → fw_W → Prop} {d : Nat} {W : fw_W} {a fa b fb dp : Int}
    (hw_ : (((14 : Int) < dp → 0 ≤ (0 : Int) ∧ (0 : Int) ≤ 1 ∧ Post (some (.inl (0 : Int))) W) ∧ (dp ≤ (14 : Int) → (True) ∧ (∀ (r1 : Int), ((-2147483648 ≤ r1 ∧ r1 ≤ 2147483647 ∧ (True))) → (True) ∧ (∀ (r2 : Int), ((-2147483648 ≤ r2 ∧ r2 ≤ 2147483647 ∧ (True))) → ((r1 = r2 → ((¬ fb = (-1 : Int) → (-2147483648 ≤ (fw_shl (1 : Int) fb) → (fw_shl (1 : Int) fb) ≤ 2147483647 → jf fw_T (d + 9) 36 47 [(0, .inr (.inl 266)), (1, .inl a), (2, .inl fa), (3, .inl b), (5, .inl dp), (6, .inl (fw_shl (1 : Int) fb)), (7, .inl (0 : Int))] [] W Post)) ∧ (fb = (-1 : Int) → jf fw_T (d + 9) 36 47 [(0, .inr (.inl 266)), (1, .inl a), (2, .inl fa), (3, .inl b), (5, .inl dp), (6, .inl (0 : Int)), (7, .inl (0 : Int))] [] W Post))) ∧ (¬ r1 = r2 → 0 ≤ (0 : Int) ∧ (0 : Int) ≤ 1 ∧ Post (some (.inl (0 : Int))) W))))))) :
    jf fw_T (d + 9) 36 0 [(0, .inr (.inl 266)), (1, .inl a), (2, .inl fa), (3, .inl b), (4, .inl fb), (5, .inl dp)] [] W Post := fw_ok (n := 22) (ss := [(47, [0, 1, 2, 3, 5, 6, 7]), (91, [0, 1, 2, 3, 5, 6, 7, 8, 9, 10])]) (hv := []) fr_36_ok fv_like_ok (ct_k_isBL8_ok d) hw_

theorem s_k_isBL8_91 {Post : Option fw_V → fw_W → Prop} {d : Nat} {W : fw_W} {a fa b dp us ne st_ ma li : Int}
    (hw_ : (∀ v1 : Int, 0 ≤ v1 → v1 ≤ 14 → ((v1 ≤ li → ((¬ ma = (-1 : Int) → (-2147483648 ≤ (fw_shl (1 : Int) ma) → (fw_shl (1 : Int) ma) ≤ 2147483647 → (-2147483648 ≤ (fw_or us (fw_shl (1 : Int) ma)) → (fw_or us (fw_shl (1 : Int) ma)) ≤ 2147483647 → -2147483648 ≤ ne + (1 : Int) ∧ ne + (1 : Int) ≤ 2147483647 ∧ (jf fw_T (d + 9) 36 47 [(0, .inr (.inl 266)), (1, .inl a), (2, .inl fa), (3, .inl b), (5, .inl dp), (6, .inl (fw_or us (fw_shl (1 : Int) ma))), (7, .inl (ne + (1 : Int)))] [] W Post)))) ∧ (ma = (-1 : Int) → 0 ≤ (0 : Int) ∧ (0 : Int) ≤ 1 ∧ Post (some (.inl (0 : Int))) W))) ∧ (li < v1 → ((¬ ma = (-1 : Int) → ((¬ ma = (-1 : Int) → (-2147483648 ≤ (fw_shl (1 : Int) ma) → (fw_shl (1 : Int) ma) ≤ 2147483647 → (-2147483648 ≤ (fw_or us (fw_shl (1 : Int) ma)) → (fw_or us (fw_shl (1 : Int) ma)) ≤ 2147483647 → -2147483648 ≤ ne + (1 : Int) ∧ ne + (1 : Int) ≤ 2147483647 ∧ (jf fw_T (d + 9) 36 47 [(0, .inr (.inl 266)), (1, .inl a), (2, .inl fa), (3, .inl b), (5, .inl dp), (6, .inl (fw_or us (fw_shl (1 : Int) ma))), (7, .inl (ne + (1 : Int)))] [] W Post)))) ∧ (ma = (-1 : Int) → 0 ≤ (0 : Int) ∧ (0 : Int) ≤ 1 ∧ Post (some (.inl (0 : Int))) W))) ∧ (ma = (-1 : Int) → (-2147483648 ≤ (fw_shr us li) → (fw_shr us li) ≤ 2147483647 → (-2147483648 ≤ (fw_and (fw_shr us li) (1 : Int)) → (fw_and (fw_shr us li) (1 : Int)) ≤ 2147483647 → ((¬ (fw_and (fw_shr us li) (1 : Int)) = 0 → -2147483648 ≤ li + (1 : Int) ∧ li + (1 : Int) ≤ 2147483647 ∧ (jf fw_T (d + 9) 36 91 [(0, .inr (.inl 266)), (1, .inl a), (2, .inl fa), (3, .inl b), (5, .inl dp), (6, .inl us), (7, .inl ne), (8, .inl st_), (9, .inl ma), (10, .inl (li + (1 : Int)))] [] W Post)) ∧ ((fw_and (fw_shr us li) (1 : Int)) = 0 → (0 ≤ b ∧ b < 14 ∧ 0 ≤ li ∧ li < 14) ∧ (∀ (r2 : Int), ((-2147483648 ≤ r2 ∧ r2 ≤ 2147483647 ∧ (True))) → (True) ∧ (∀ (r3 : Int), ((0 ≤ r3 ∧ r3 ≤ 1 ∧ (True))) → ((r3 = 0 → -2147483648 ≤ li + (1 : Int) ∧ li + (1 : Int) ≤ 2147483647 ∧ (jf fw_T (d + 9) 36 91 [(0, .inr (.inl 266)), (1, .inl a), (2, .inl fa), (3, .inl b), (5, .inl dp), (6, .inl us), (7, .inl ne), (8, .inl st_), (9, .inl ma), (10, .inl (li + (1 : Int)))] [] W Post)) ∧ (¬ r3 = 0 → -2147483648 ≤ dp + (1 : Int) ∧ dp + (1 : Int) ≤ 2147483647 ∧ ((0 ≤ ne ∧ ne < 14 ∧ 0 ≤ li ∧ li < 14 ∧ (dp + (1 : Int)) = 9) ∧ (∀ (r4 : Int), ((0 ≤ r4 ∧ r4 ≤ 1 ∧ (True))) → ((r4 = 0 → -2147483648 ≤ li + (1 : Int) ∧ li + (1 : Int) ≤ 2147483647 ∧ (jf fw_T (d + 9) 36 91 [(0, .inr (.inl 266)), (1, .inl a), (2, .inl fa), (3, .inl b), (5, .inl dp), (6, .inl us), (7, .inl ne), (8, .inl st_), (9, .inl ma), (10, .inl (li + (1 : Int)))] [] W Post)) ∧ (¬ r4 = 0 → -2147483648 ≤ li + (1 : Int) ∧ li + (1 : Int) ≤ 2147483647 ∧ (jf fw_T (d + 9) 36 91 [(0, .inr (.inl 266)), (1, .inl a), (2, .inl fa), (3, .inl b), (5, .inl dp), (6, .inl us), (7, .inl ne), (8, .inl st_), (9, .inl li), (10, .inl (li + (1 : Int)))] [] W Post))))))))))))))))))) :
    jf fw_T (d + 9) 36 91 [(0, .inr (.inl 266)), (1, .inl a), (2, .inl fa), (3, .inl b), (5, .inl dp), (6, .inl us), (7, .inl ne), (8, .inl st_), (9, .inl ma), (10, .inl li)] [] W Post := fw_ok (n := 38) (ss := [(47, [0, 1, 2, 3, 5, 6, 7]), (91, [0, 1, 2, 3, 5, 6, 7, 8, 9, 10])]) (hv := []) fr_36_ok fv_like_ok (ct_k_isBL8_ok d) hw_

theorem s_k_isBL8_47 {Post : Option fw_V → fw_W → Prop} {d : Nat} {W : fw_W} {a fa b dp us ne : Int}
    (hw_ : (0 ≤ (fw_g W 12 0) → (fw_g W 12 0) ≤ 14 → (((fw_g W 12 0) ≤ ne → 0 ≤ (1 : Int) ∧ (1 : Int) ≤ 1 ∧ Post (some (.inl (1 : Int))) W) ∧ (ne < (fw_g W 12 0) → (0 ≤ a ∧ a < 14 ∧ 0 ≤ ne ∧ ne < 14) ∧ (∀ (r1 : Int), ((-2147483648 ≤ r1 ∧ r1 ≤ 2147483647 ∧ (True))) → ((r1 = 0 → -2147483648 ≤ ne + (1 : Int) ∧ ne + (1 : Int) ≤ 2147483647 ∧ (jf fw_T (d + 9) 36 47 [(0, .inr (.inl 266)), (1, .inl a), (2, .inl fa), (3, .inl b), (5, .inl dp), (6, .inl us), (7, .inl (ne + (1 : Int)))] [] W Post)) ∧ (¬ r1 = 0 → ((¬ ne = fa → jf fw_T (d + 9) 36 91 [(0, .inr (.inl 266)), (1, .inl a), (2, .inl fa), (3, .inl b), (5, .inl dp), (6, .inl us), (7, .inl ne), (8, .inl r1), (9, .inl (-1 : Int)), (10, .inl (0 : Int))] [] W Post) ∧ (ne = fa → -2147483648 ≤ ne + (1 : Int) ∧ ne + (1 : Int) ≤ 2147483647 ∧ (jf fw_T (d + 9) 36 47 [(0, .inr (.inl 266)), (1, .inl a), (2, .inl fa), (3, .inl b), (5, .inl dp), (6, .inl us), (7, .inl (ne + (1 : Int)))] [] W Post)))))))))) :
    jf fw_T (d + 9) 36 47 [(0, .inr (.inl 266)), (1, .inl a), (2, .inl fa), (3, .inl b), (5, .inl dp), (6, .inl us), (7, .inl ne)] [] W Post := fw_ok (n := 21) (ss := [(47, [0, 1, 2, 3, 5, 6, 7]), (91, [0, 1, 2, 3, 5, 6, 7, 8, 9, 10])]) (hv := []) fr_36_ok fv_like_ok (ct_k_isBL8_ok d) hw_

theorem lm_k_isBL8_91 {Post : Option fw_V → fw_W → Prop} {d : Nat} {W : fw_W} {a fa b fb dp : Int} (hpre : 0 ≤ a ∧ a < 14 ∧ 0 ≤ b ∧ b < 14 ∧ dp = 8) (hP : ∀ (v : Int) , (0 ≤ v ∧ v ≤ 1 ∧ (True)) → Post (some (.inl v)) W) (M47 : Int) (h47 : ∀ (us ne : Int), 0 ≤ ne ∧ dp ≤ 14 → ((fw_g W 12 0) - ne) < M47 → jf fw_T (d + 9) 36 47 [(0, .inr (.inl 266)), (1, .inl a), (2, .inl fa), (3, .inl b), (5, .inl dp), (6, .inl us), (7, .inl ne)] [] W Post) : ∀ (m : Nat) (us ne st_ ma li : Int), (14 - li).toNat = m → 0 ≤ li ∧ li ≤ 14 ∧ 0 ≤ ne ∧ ne < (fw_g W 12 0) ∧ (fw_g W 12 0) ≤ 14 ∧ -1 ≤ ma ∧ ma < 14 ∧ dp ≤ 14 → ((fw_g W 12 0) - ne) ≤ M47 → jf fw_T (d + 9) 36 91 [(0, .inr (.inl 266)), (1, .inl a), (2, .inl fa), (3, .inl b), (5, .inl dp), (6, .inl us), (7, .inl ne), (8, .inl st_), (9, .inl ma), (10, .inl li)] [] W Post := by
  intro m
  induction m using Nat.strongRecOn with
  | ind m ih =>
    intro us ne st_ ma li hm hi e47
    refine jf_rng (fun hrg => ?_)
    have hrg : -2147483648 ≤ a ∧ a ≤ 2147483647 ∧ -2147483648 ≤ fa ∧ fa ≤ 2147483647 ∧ -2147483648 ≤ b ∧ b ≤ 2147483647 ∧ -2147483648 ≤ dp ∧ dp ≤ 2147483647 ∧ -2147483648 ≤ us ∧ us ≤ 2147483647 ∧ -2147483648 ≤ ne ∧ ne ≤ 2147483647 ∧ -2147483648 ≤ st_ ∧ st_ ≤ 2147483647 ∧ -2147483648 ≤ ma ∧ ma ≤ 2147483647 ∧ -2147483648 ≤ li ∧ li ≤ 2147483647 ∧ True := hrg
    refine s_k_isBL8_91 ?_
    repeat' (first
      | (exact True.intro)
      | (exact hpre.1)
      | (refine And.intro ?_ ?_)
      | (refine (h47 _ _ ?_ (by omega)); (first | omega | trivial))
      | (refine (ih _ (by omega) _ _ _ _ _ rfl ?_ (by omega)); (first | omega | trivial))
      | (refine hP _ ?_; (refine ⟨by omega, by omega, ?_⟩; (first | trivial | omega)))
      | omega
      | (intro _))
theorem lm_k_isBL8_47 {Post : Option fw_V → fw_W → Prop} {d : Nat} {W : fw_W} {a fa b fb dp : Int} (hpre : 0 ≤ a ∧ a < 14 ∧ 0 ≤ b ∧ b < 14 ∧ dp = 8) (hP : ∀ (v : Int) , (0 ≤ v ∧ v ≤ 1 ∧ (True)) → Post (some (.inl v)) W)  : ∀ (m : Nat) (us ne : Int), ((fw_g W 12 0) - ne).toNat = m → 0 ≤ ne ∧ dp ≤ 14 → jf fw_T (d + 9) 36 47 [(0, .inr (.inl 266)), (1, .inl a), (2, .inl fa), (3, .inl b), (5, .inl dp), (6, .inl us), (7, .inl ne)] [] W Post := by
  intro m
  induction m using Nat.strongRecOn with
  | ind m ih =>
    intro us ne hm hi
    refine jf_rng (fun hrg => ?_)
    have hrg : -2147483648 ≤ a ∧ a ≤ 2147483647 ∧ -2147483648 ≤ fa ∧ fa ≤ 2147483647 ∧ -2147483648 ≤ b ∧ b ≤ 2147483647 ∧ -2147483648 ≤ dp ∧ dp ≤ 2147483647 ∧ -2147483648 ≤ us ∧ us ≤ 2147483647 ∧ -2147483648 ≤ ne ∧ ne ≤ 2147483647 ∧ True := hrg
    refine s_k_isBL8_47 ?_
    repeat' (first
      | (exact True.intro)
      | (exact hpre.1)
      | (refine And.intro ?_ ?_)
      | (refine (ih _ (by omega) _ _ rfl ?_); (first | omega | trivial))
      | (refine (lm_k_isBL8_91 (a := a) (fa := fa) (b := b) (fb := fb) (dp := dp) hpre hP ((fw_g W 12 0) - ne) (fun a0 a1 hi hl => ih _ (by omega) a0 a1 rfl hi) _ _ _ _ _ _ rfl ?_ (by omega)); (first | omega | trivial))
      | (refine hP _ ?_; (refine ⟨by omega, by omega, ?_⟩; (first | trivial | omega)))
      | omega
      | (intro _))
def x_k_isBL8 : fw_X := fun as W Q => match as with
  | [.inr (.inl s_), .inl a, .inl fa, .inl b, .inl fb, .inl dp] => fw_if (Nat.beq s_ 266) ((0 ≤ a ∧ a < 14 ∧ 0 ≤ b ∧ b < 14 ∧ dp = 8) ∧ (∀ (v : Int), (0 ≤ v ∧ v ≤ 1 ∧ (True)) → Q (some (.inl v)) W))
  | _ => False
theorem x_k_isBL8_ok (d : Nat) (as : List fw_V) (W : fw_W) (Q : Option fw_V → fw_W → Prop) (hx : x_k_isBL8 as W Q) : jf fw_T (d + 9) 36 0 (fw_args 0 as) [] W Q := by
  unfold x_k_isBL8 at hx
  split at hx
  · rename_i s_ a fa b fb dp
    obtain ⟨e_, hpre, hQ⟩ := fw_if_ok hx
    have e_ := Nat.eq_of_beq_eq_true e_
    subst e_
    have hP := hQ
    refine s_k_isBL8_0 ?_
    repeat' (first
      | (exact True.intro)
      | (exact hpre.1)
      | (refine And.intro ?_ ?_)
      | (refine (lm_k_isBL8_47 (a := a) (fa := fa) (b := b) (fb := fb) (dp := dp) hpre hP _ _ _ rfl ?_); (first | omega | trivial))
      | (refine (lm_k_isBL8_91 (a := a) (fa := fa) (b := b) (fb := fb) (dp := dp) hpre hP M47 h47 _ _ _ _ _ _ rfl ?_ (by omega)); (first | omega | trivial))
      | (refine hP _ ?_; (refine ⟨by omega, by omega, ?_⟩; (first | trivial | omega)))
      | omega
      | (intro _))
  · exact hx.elim

def ct_k_isBL7 : List (Nat × fw_X) := [(112, x_k_stA), (113, x_k_stB), (37, x_k_isStreetLike), (36, x_k_isBL8)]
theorem ct_k_isBL7_ok (d : Nat) : fw_cok fw_T (d + 9) ct_k_isBL7 := by
  intro q hq as W Q h
  simp only [ct_k_isBL7, List.mem_cons, List.not_mem_nil, or_false] at hq
  rcases hq with rfl | rfl | rfl | rfl
  · exact x_k_stA_ok (d + 8) as W Q h
  · exact x_k_stB_ok (d + 8) as W Q h
  · exact jc_of (x_k_isStreetLike_ok (d + 8) as W Q h)
  · exact jc_of (x_k_isBL8_ok (d + 0) as W Q h)
theorem s_k_isBL7_0 {Post : Option fw_V → fw_W → Prop} {d : Nat} {W : fw_W} {a fa b fb dp : Int}
    (hw_ : (((14 : Int) < dp → 0 ≤ (0 : Int) ∧ (0 : Int) ≤ 1 ∧ Post (some (.inl (0 : Int))) W) ∧ (dp ≤ (14 : Int) → (True) ∧ (∀ (r1 : Int), ((-2147483648 ≤ r1 ∧ r1 ≤ 2147483647 ∧ (True))) → (True) ∧ (∀ (r2 : Int), ((-2147483648 ≤ r2 ∧ r2 ≤ 2147483647 ∧ (True))) → ((r1 = r2 → ((¬ fb = (-1 : Int) → (-2147483648 ≤ (fw_shl (1 : Int) fb) → (fw_shl (1 : Int) fb) ≤ 2147483647 → jf fw_T (d + 10) 36 47 [(0, .inr (.inl 266)), (1, .inl a), (2, .inl fa), (3, .inl b), (5, .inl dp), (6, .inl (fw_shl (1 : Int) fb)), (7, .inl (0 : Int))] [] W Post)) ∧ (fb = (-1 : Int) → jf fw_T (d + 10) 36 47 [(0, .inr (.inl 266)), (1, .inl a), (2, .inl fa), (3, .inl b), (5, .inl dp), (6, .inl (0 : Int)), (7, .inl (0 : Int))] [] W Post))) ∧ (¬ r1 = r2 → 0 ≤ (0 : Int) ∧ (0 : Int) ≤ 1 ∧ Post (some (.inl (0 : Int))) W))))))) :
    jf fw_T (d + 10) 36 0 [(0, .inr (.inl 266)), (1, .inl a), (2, .inl fa), (3, .inl b), (4, .inl fb), (5, .inl dp)] [] W Post := fw_ok (n := 22) (ss := [(47, [0, 1, 2, 3, 5, 6, 7]), (91, [0, 1, 2, 3, 5, 6, 7, 8, 9, 10])]) (hv := []) fr_36_ok fv_like_ok (ct_k_isBL7_ok d) hw_

theorem s_k_isBL7_91 {Post : Option fw_V → fw_W → Prop} {d : Nat} {W : fw_W} {a fa b dp us ne st_ ma li : Int}
    (hw_ : (∀ v1 : Int, 0 ≤ v1 → v1 ≤ 14 → ((v1 ≤ li → ((¬ ma = (-1 : Int) → (-2147483648 ≤ (fw_shl (1 : Int) ma) → (fw_shl (1 : Int) ma) ≤ 2147483647 → (-2147483648 ≤ (fw_or us (fw_shl (1 : Int) ma)) → (fw_or us (fw_shl (1 : Int) ma)) ≤ 2147483647 → -2147483648 ≤ ne + (1 : Int) ∧ ne + (1 : Int) ≤ 2147483647 ∧ (jf fw_T (d + 10) 36 47 [(0, .inr (.inl 266)), (1, .inl a), (2, .inl fa), (3, .inl b), (5, .inl dp), (6, .inl (fw_or us (fw_shl (1 : Int) ma))), (7, .inl (ne + (1 : Int)))] [] W Post)))) ∧ (ma = (-1 : Int) → 0 ≤ (0 : Int) ∧ (0 : Int) ≤ 1 ∧ Post (some (.inl (0 : Int))) W))) ∧ (li < v1 → ((¬ ma = (-1 : Int) → ((¬ ma = (-1 : Int) → (-2147483648 ≤ (fw_shl (1 : Int) ma) → (fw_shl (1 : Int) ma) ≤ 2147483647 → (-2147483648 ≤ (fw_or us (fw_shl (1 : Int) ma)) → (fw_or us (fw_shl (1 : Int) ma)) ≤ 2147483647 → -2147483648 ≤ ne + (1 : Int) ∧ ne + (1 : Int) ≤ 2147483647 ∧ (jf fw_T (d + 10) 36 47 [(0, .inr (.inl 266)), (1, .inl a), (2, .inl fa), (3, .inl b), (5, .inl dp), (6, .inl (fw_or us (fw_shl (1 : Int) ma))), (7, .inl (ne + (1 : Int)))] [] W Post)))) ∧ (ma = (-1 : Int) → 0 ≤ (0 : Int) ∧ (0 : Int) ≤ 1 ∧ Post (some (.inl (0 : Int))) W))) ∧ (ma = (-1 : Int) → (-2147483648 ≤ (fw_shr us li) → (fw_shr us li) ≤ 2147483647 → (-2147483648 ≤ (fw_and (fw_shr us li) (1 : Int)) → (fw_and (fw_shr us li) (1 : Int)) ≤ 2147483647 → ((¬ (fw_and (fw_shr us li) (1 : Int)) = 0 → -2147483648 ≤ li + (1 : Int) ∧ li + (1 : Int) ≤ 2147483647 ∧ (jf fw_T (d + 10) 36 91 [(0, .inr (.inl 266)), (1, .inl a), (2, .inl fa), (3, .inl b), (5, .inl dp), (6, .inl us), (7, .inl ne), (8, .inl st_), (9, .inl ma), (10, .inl (li + (1 : Int)))] [] W Post)) ∧ ((fw_and (fw_shr us li) (1 : Int)) = 0 → (0 ≤ b ∧ b < 14 ∧ 0 ≤ li ∧ li < 14) ∧ (∀ (r2 : Int), ((-2147483648 ≤ r2 ∧ r2 ≤ 2147483647 ∧ (True))) → (True) ∧ (∀ (r3 : Int), ((0 ≤ r3 ∧ r3 ≤ 1 ∧ (True))) → ((r3 = 0 → -2147483648 ≤ li + (1 : Int) ∧ li + (1 : Int) ≤ 2147483647 ∧ (jf fw_T (d + 10) 36 91 [(0, .inr (.inl 266)), (1, .inl a), (2, .inl fa), (3, .inl b), (5, .inl dp), (6, .inl us), (7, .inl ne), (8, .inl st_), (9, .inl ma), (10, .inl (li + (1 : Int)))] [] W Post)) ∧ (¬ r3 = 0 → -2147483648 ≤ dp + (1 : Int) ∧ dp + (1 : Int) ≤ 2147483647 ∧ ((0 ≤ ne ∧ ne < 14 ∧ 0 ≤ li ∧ li < 14 ∧ (dp + (1 : Int)) = 8) ∧ (∀ (r4 : Int), ((0 ≤ r4 ∧ r4 ≤ 1 ∧ (True))) → ((r4 = 0 → -2147483648 ≤ li + (1 : Int) ∧ li + (1 : Int) ≤ 2147483647 ∧ (jf fw_T (d + 10) 36 91 [(0, .inr (.inl 266)), (1, .inl a), (2, .inl fa), (3, .inl b), (5, .inl dp), (6, .inl us), (7, .inl ne), (8, .inl st_), (9, .inl ma), (10, .inl (li + (1 : Int)))] [] W Post)) ∧ (¬ r4 = 0 → -2147483648 ≤ li + (1 : Int) ∧ li + (1 : Int) ≤ 2147483647 ∧ (jf fw_T (d + 10) 36 91 [(0, .inr (.inl 266)), (1, .inl a), (2, .inl fa), (3, .inl b), (5, .inl dp), (6, .inl us), (7, .inl ne), (8, .inl st_), (9, .inl li), (10, .inl (li + (1 : Int)))] [] W Post))))))))))))))))))) :
    jf fw_T (d + 10) 36 91 [(0, .inr (.inl 266)), (1, .inl a), (2, .inl fa), (3, .inl b), (5, .inl dp), (6, .inl us), (7, .inl ne), (8, .inl st_), (9, .inl ma), (10, .inl li)] [] W Post := fw_ok (n := 38) (ss := [(47, [0, 1, 2, 3, 5, 6, 7]), (91, [0, 1, 2, 3, 5, 6, 7, 8, 9, 10])]) (hv := []) fr_36_ok fv_like_ok (ct_k_isBL7_ok d) hw_

theorem s_k_isBL7_47 {Post : Option fw_V → fw_W → Prop} {d : Nat} {W : fw_W} {a fa b dp us ne : Int}
    (hw_ : (0 ≤ (fw_g W 12 0) → (fw_g W 12 0) ≤ 14 → (((fw_g W 12 0) ≤ ne → 0 ≤ (1 : Int) ∧ (1 : Int) ≤ 1 ∧ Post (some (.inl (1 : Int))) W) ∧ (ne < (fw_g W 12 0) → (0 ≤ a ∧ a < 14 ∧ 0 ≤ ne ∧ ne < 14) ∧ (∀ (r1 : Int), ((-2147483648 ≤ r1 ∧ r1 ≤ 2147483647 ∧ (True))) → ((r1 = 0 → -2147483648 ≤ ne + (1 : Int) ∧ ne + (1 : Int) ≤ 2147483647 ∧ (jf fw_T (d + 10) 36 47 [(0, .inr (.inl 266)), (1, .inl a), (2, .inl fa), (3, .inl b), (5, .inl dp), (6, .inl us), (7, .inl (ne + (1 : Int)))] [] W Post)) ∧ (¬ r1 = 0 → ((¬ ne = fa → jf fw_T (d + 10) 36 91 [(0, .inr (.inl 266)), (1, .inl a), (2, .inl fa), (3, .inl b), (5, .inl dp), (6, .inl us), (7, .inl ne), (8, .inl r1), (9, .inl (-1 : Int)), (10, .inl (0 : Int))] [] W Post) ∧ (ne = fa → -2147483648 ≤ ne + (1 : Int) ∧ ne + (1 : Int) ≤ 2147483647 ∧ (jf fw_T (d + 10) 36 47 [(0, .inr (.inl 266)), (1, .inl a), (2, .inl fa), (3, .inl b), (5, .inl dp), (6, .inl us), (7, .inl (ne + (1 : Int)))] [] W Post)))))))))) :
    jf fw_T (d + 10) 36 47 [(0, .inr (.inl 266)), (1, .inl a), (2, .inl fa), (3, .inl b), (5, .inl dp), (6, .inl us), (7, .inl ne)] [] W Post := fw_ok (n := 21) (ss := [(47, [0, 1, 2, 3, 5, 6, 7]), (91, [0, 1, 2, 3, 5, 6, 7, 8, 9, 10])]) (hv := []) fr_36_ok fv_like_ok (ct_k_isBL7_ok d) hw_

theorem lm_k_isBL7_91 {Post : Option fw_V → fw_W → Prop} {d : Nat} {W : fw_W} {a fa b fb dp : Int} (hpre : 0 ≤ a ∧ a < 14 ∧ 0 ≤ b ∧ b < 14 ∧ dp = 7) (hP : ∀ (v : Int) , (0 ≤ v ∧ v ≤ 1 ∧ (True)) → Post (some (.inl v)) W) (M47 : Int) (h47 : ∀ (us ne : Int), 0 ≤ ne ∧ dp ≤ 14 → ((fw_g W 12 0) - ne) < M47 → jf fw_T (d + 10) 36 47 [(0, .inr (.inl 266)), (1, .inl a), (2, .inl fa), (3, .inl b), (5, .inl dp), (6, .inl us), (7, .inl ne)] [] W Post) : ∀ (m : Nat) (us ne st_ ma li : Int), (14 - li).toNat = m → 0 ≤ li ∧ li ≤ 14 ∧ 0 ≤ ne ∧ ne < (fw_g W 12 0) ∧ (fw_g W 12 0) ≤ 14 ∧ -1 ≤ ma ∧ ma < 14 ∧ dp ≤ 14 → ((fw_g W 12 0) - ne) ≤ M47 → jf fw_T (d + 10) 36 91 [(0, .inr (.inl 266)), (1, .inl a), (2, .inl fa), (3, .inl b), (5, .inl dp), (6, .inl us), (7, .inl ne), (8, .inl st_), (9, .inl ma), (10, .inl li)] [] W Post := by
  intro m
  induction m using Nat.strongRecOn with
  | ind m ih =>
    intro us ne st_ ma li hm hi e47
    refine jf_rng (fun hrg => ?_)
    have hrg : -2147483648 ≤ a ∧ a ≤ 2147483647 ∧ -2147483648 ≤ fa ∧ fa ≤ 2147483647 ∧ -2147483648 ≤ b ∧ b ≤ 2147483647 ∧ -2147483648 ≤ dp ∧ dp ≤ 2147483647 ∧ -2147483648 ≤ us ∧ us ≤ 2147483647 ∧ -2147483648 ≤ ne ∧ ne ≤ 2147483647 ∧ -2147483648 ≤ st_ ∧ st_ ≤ 2147483647 ∧ -2147483648 ≤ ma ∧ ma ≤ 2147483647 ∧ -2147483648 ≤ li ∧ li ≤ 2147483647 ∧ True := hrg
    refine s_k_isBL7_91 ?_
    repeat' (first
      | (exact True.intro)
      | (exact hpre.1)
      | (refine And.intro ?_ ?_)
      | (refine (h47 _ _ ?_ (by omega)); (first | omega | trivial))
      | (refine (ih _ (by omega) _ _ _ _ _ rfl ?_ (by omega)); (first | omega | trivial))
      | (refine hP _ ?_; (refine ⟨by omega, by omega, ?_⟩; (first | trivial | omega)))
      | omega
      | (intro _))
theorem lm_k_isBL7_47 {Post : Option fw_V → fw_W → Prop} {d : Nat} {W : fw_W} {a fa b fb dp : Int} (hpre : 0 ≤ a ∧ a < 14 ∧ 0 ≤ b ∧ b < 14 ∧ dp = 7) (hP : ∀ (v : Int) , (0 ≤ v ∧ v ≤ 1 ∧ (True)) → Post (some (.inl v)) W)  : ∀ (m : Nat) (us ne : Int), ((fw_g W 12 0) - ne).toNat = m → 0 ≤ ne ∧ dp ≤ 14 → jf fw_T (d + 10) 36 47 [(0, .inr (.inl 266)), (1, .inl a), (2, .inl fa), (3, .inl b), (5, .inl dp), (6, .inl us), (7, .inl ne)] [] W Post := by
  intro m
  induction m using Nat.strongRecOn with
  | ind m ih =>
    intro us ne hm hi
    refine jf_rng (fun hrg => ?_)
    have hrg : -2147483648 ≤ a ∧ a ≤ 2147483647 ∧ -2147483648 ≤ fa ∧ fa ≤ 2147483647 ∧ -2147483648 ≤ b ∧ b ≤ 2147483647 ∧ -2147483648 ≤ dp ∧ dp ≤ 2147483647 ∧ -2147483648 ≤ us ∧ us ≤ 2147483647 ∧ -2147483648 ≤ ne ∧ ne ≤ 2147483647 ∧ True := hrg
    refine s_k_isBL7_47 ?_
    repeat' (first
      | (exact True.intro)
      | (exact hpre.1)
      | (refine And.intro ?_ ?_)
      | (refine (ih _ (by omega) _ _ rfl ?_); (first | omega | trivial))
      | (refine (lm_k_isBL7_91 (a := a) (fa := fa) (b := b) (fb := fb) (dp := dp) hpre hP ((fw_g W 12 0) - ne) (fun a0 a1 hi hl => ih _ (by omega) a0 a1 rfl hi) _ _ _ _ _ _ rfl ?_ (by omega)); (first | omega | trivial))
      | (refine hP _ ?_; (refine ⟨by omega, by omega, ?_⟩; (first | trivial | omega)))
      | omega
      | (intro _))
def x_k_isBL7 : fw_X := fun as W Q => match as with
  | [.inr (.inl s_), .inl a, .inl fa, .inl b, .inl fb, .inl dp] => fw_if (Nat.beq s_ 266) ((0 ≤ a ∧ a < 14 ∧ 0 ≤ b ∧ b < 14 ∧ dp = 7) ∧ (∀ (v : Int), (0 ≤ v ∧ v ≤ 1 ∧ (True)) → Q (some (.inl v)) W))
  | _ => False
theorem x_k_isBL7_ok (d : Nat) (as : List fw_V) (W : fw_W) (Q : Option fw_V → fw_W → Prop) (hx : x_k_isBL7 as W Q) : jf fw_T (d + 10) 36 0 (fw_args 0 as) [] W Q := by
  unfold x_k_isBL7 at hx
  split at hx
  · rename_i s_ a fa b fb dp
    obtain ⟨e_, hpre, hQ⟩ := fw_if_ok hx
    have e_ := Nat.eq_of_beq_eq_true e_
    subst e_
    have hP := hQ
    refine s_k_isBL7_0 ?_
    repeat' (first
      | (exact True.intro)
      | (exact hpre.1)
      | (refine And.intro ?_ ?_)
      | (refine (lm_k_isBL7_47 (a := a) (fa := fa) (b := b) (fb := fb) (dp := dp) hpre hP _ _ _ rfl ?_); (first | omega | trivial))
      | (refine (lm_k_isBL7_91 (a := a) (fa := fa) (b := b) (fb := fb) (dp := dp) hpre hP M47 h47 _ _ _ _ _ _ rfl ?_ (by omega)); (first | omega | trivial))
      | (refine hP _ ?_; (refine ⟨by omega, by omega, ?_⟩; (first | trivial | omega)))
      | omega
      | (intro _))
  · exact hx.elim

def ct_k_isBL6 : List (Nat × fw_X) := [(112, x_k_stA), (113, x_k_stB), (37, x_k_isStreetLike), (36, x_k_isBL7)]
theorem ct_k_isBL6_ok (d : Nat) : fw_cok fw_T (d + 10) ct_k_isBL6 := by
  intro q hq as W Q h
  simp only [ct_k_isBL6, List.mem_cons, List.not_mem_nil, or_false] at hq
  rcases hq with rfl | rfl | rfl | rfl
  · exact x_k_stA_ok (d + 9) as W Q h
  · exact x_k_stB_ok (d + 9) as W Q h
  · exact jc_of (x_k_isStreetLike_ok (d + 9) as W Q h)
  · exact jc_of (x_k_isBL7_ok (d + 0) as W Q h)
theorem s_k_isBL6_0 {Post : Option fw_V → fw_W → Prop} {d : Nat} {W : fw_W} {a fa b fb dp : Int}
    (hw_ : (((14 : Int) < dp → 0 ≤ (0 : Int) ∧ (0 : Int) ≤ 1 ∧ Post (some (.inl (0 : Int))) W) ∧ (dp ≤ (14 : Int) → (True) ∧ (∀ (r1 : Int), ((-2147483648 ≤ r1 ∧ r1 ≤ 2147483647 ∧ (True))) → (True) ∧ (∀ (r2 : Int), ((-2147483648 ≤ r2 ∧ r2 ≤ 2147483647 ∧ (True))) → ((r1 = r2 → ((¬ fb = (-1 : Int) → (-2147483648 ≤ (fw_shl (1 : Int) fb) → (fw_shl (1 : Int) fb) ≤ 2147483647 → jf fw_T (d + 11) 36 47 [(0, .inr (.inl 266)), (1, .inl a), (2, .inl fa), (3, .inl b), (5, .inl dp), (6, .inl (fw_shl (1 : Int) fb)), (7, .inl (0 : Int))] [] W Post)) ∧ (fb = (-1 : Int) → jf fw_T (d + 11) 36 47 [(0, .inr (.inl 266)), (1, .inl a), (2, .inl fa), (3, .inl b), (5, .inl dp), (6, .inl (0 : Int)), (7, .inl (0 : Int))] [] W Post))) ∧ (¬ r1 = r2 → 0 ≤ (0 : Int) ∧ (0 : Int) ≤ 1 ∧ Post (some (.inl (0 : Int))) W))))))) :
    jf fw_T (d + 11) 36 0 [(0, .inr (.inl 266)), (1, .inl a), (2, .inl fa), (3, .inl b), (4, .inl fb), (5, .inl dp)] [] W Post := fw_ok (n := 22) (ss := [(47, [0, 1, 2, 3, 5, 6, 7]), (91, [0, 1, 2, 3, 5, 6, 7, 8, 9, 10])]) (hv := []) fr_36_ok fv_like_ok (ct_k_isBL6_ok d) hw_

theorem s_k_isBL6_91 {Post : Option fw_V → fw_W → Prop} {d : Nat} {W : fw_W} {a fa b dp us ne st_ ma li : Int}
    (hw_ : (∀ v1 : Int, 0 ≤ v1 → v1 ≤ 14 → ((v1 ≤ li → ((¬ ma = (-1 : Int) → (-2147483648 ≤ (fw_shl (1 : Int) ma) → (fw_shl (1 : Int) ma) ≤ 2147483647 → (-2147483648 ≤ (fw_or us (fw_shl (1 : Int) ma)) → (fw_or us (fw_shl (1 : Int) ma)) ≤ 2147483647 → -2147483648 ≤ ne + (1 : Int) ∧ ne + (1 : Int) ≤ 2147483647 ∧ (jf fw_T (d + 11) 36 47 [(0, .inr (.inl 266)), (1, .inl a), (2, .inl fa), (3, .inl b), (5, .inl dp), (6, .inl (fw_or us (fw_shl (1 : Int) ma))), (7, .inl (ne + (1 : Int)))] [] W Post)))) ∧ (ma = (-1 : Int) → 0 ≤ (0 : Int) ∧ (0 : Int) ≤ 1 ∧ Post (some (.inl (0 : Int))) W))) ∧ (li < v1 → ((¬ ma = (-1 : Int) → ((¬ ma = (-1 : Int) → (-2147483648 ≤ (fw_shl (1 : Int) ma) → (fw_shl (1 : Int) ma) ≤ 2147483647 → (-2147483648 ≤ (fw_or us (fw_shl (1 : Int) ma)) → (fw_or us (fw_shl (1 : Int) ma)) ≤ 2147483647 → -2147483648 ≤ ne + (1 : Int) ∧ ne + (1 : Int) ≤ 2147483647 ∧ (jf fw_T (d + 11) 36 47 [(0, .inr (.inl 266)), (1, .inl a), (2, .inl fa), (3, .inl b), (5, .inl dp), (6, .inl (fw_or us (fw_shl (1 : Int) ma))), (7, .inl (ne + (1 : Int)))] [] W Post)))) ∧ (ma = (-1 : Int) → 0 ≤ (0 : Int) ∧ (0 : Int) ≤ 1 ∧ Post (some (.inl (0 : Int))) W))) ∧ (ma = (-1 : Int) → (-2147483648 ≤ (fw_shr us li) → (fw_shr us li) ≤ 2147483647 → (-2147483648 ≤ (fw_and (fw_shr us li) (1 : Int)) → (fw_and (fw_shr us li) (1 : Int)) ≤ 2147483647 → ((¬ (fw_and (fw_shr us li) (1 : Int)) = 0 → -2147483648 ≤ li + (1 : Int) ∧ li + (1 : Int) ≤ 2147483647 ∧ (jf fw_T (d + 11) 36 91 [(0, .inr (.inl 266)), (1, .inl a), (2, .inl fa), (3, .inl b), (5, .inl dp), (6, .inl us), (7, .inl ne), (8, .inl st_), (9, .inl ma), (10, .inl (li + (1 : Int)))] [] W Post)) ∧ ((fw_and (fw_shr us li) (1 : Int)) = 0 → (0 ≤ b ∧ b < 14 ∧ 0 ≤ li ∧ li < 14) ∧ (∀ (r2 : Int), ((-2147483648 ≤ r2 ∧ r2 ≤ 2147483647 ∧ (True))) → (True) ∧ (∀ (r3 : Int), ((0 ≤ r3 ∧ r3 ≤ 1 ∧ (True))) → ((r3 = 0 → -2147483648 ≤ li + (1 : Int) ∧ li + (1 : Int) ≤ 2147483647 ∧ (jf fw_T (d + 11) 36 91 [(0, .inr (.inl 266)), (1, .inl a), (2, .inl fa), (3, .inl b), (5, .inl dp), (6, .inl us), (7, .inl ne), (8, .inl st_), (9, .inl ma), (10, .inl (li + (1 : Int)))] [] W Post)) ∧ (¬ r3 = 0 → -2147483648 ≤ dp + (1 : Int) ∧ dp + (1 : Int) ≤ 2147483647 ∧ ((0 ≤ ne ∧ ne < 14 ∧ 0 ≤ li ∧ li < 14 ∧ (dp + (1 : Int)) = 7) ∧ (∀ (r4 : Int), ((0 ≤ r4 ∧ r4 ≤ 1 ∧ (True))) → ((r4 = 0 → -2147483648 ≤ li + (1 : Int) ∧ li + (1 : Int) ≤ 2147483647 ∧ (jf fw_T (d + 11) 36 91 [(0, .inr (.inl 266)), (1, .inl a), (2, .inl fa), (3, .inl b), (5, .inl dp), (6, .inl us), (7, .inl ne), (8, .inl st_), (9, .inl ma), (10, .inl (li + (1 : Int)))] [] W Post)) ∧ (¬ r4 = 0 → -2147483648 ≤ li + (1 : Int) ∧ li + (1 : Int) ≤ 2147483647 ∧ (jf fw_T (d + 11) 36 91 [(0, .inr (.inl 266)), (1, .inl a), (2, .inl fa), (3, .inl b), (5, .inl dp), (6, .inl us), (7, .inl ne), (8, .inl st_), (9, .inl li), (10, .inl (li + (1 : Int)))] [] W Post))))))))))))))))))) :
    jf fw_T (d + 11) 36 91 [(0, .inr (.inl 266)), (1, .inl a), (2, .inl fa), (3, .inl b), (5, .inl dp), (6, .inl us), (7, .inl ne), (8, .inl st_), (9, .inl ma), (10, .inl li)] [] W Post := fw_ok (n := 38) (ss := [(47, [0, 1, 2, 3, 5, 6, 7]), (91, [0, 1, 2, 3, 5, 6, 7, 8, 9, 10])]) (hv := []) fr_36_ok fv_like_ok (ct_k_isBL6_ok d) hw_

theorem s_k_isBL6_47 {Post : Option fw_V → fw_W → Prop} {d : Nat} {W : fw_W} {a fa b dp us ne : Int}
    (hw_ : (0 ≤ (fw_g W 12 0) → (fw_g W 12 0) ≤ 14 → (((fw_g W 12 0) ≤ ne → 0 ≤ (1 : Int) ∧ (1 : Int) ≤ 1 ∧ Post (some (.inl (1 : Int))) W) ∧ (ne < (fw_g W 12 0) → (0 ≤ a ∧ a < 14 ∧ 0 ≤ ne ∧ ne < 14) ∧ (∀ (r1 : Int), ((-2147483648 ≤ r1 ∧ r1 ≤ 2147483647 ∧ (True))) → ((r1 = 0 → -2147483648 ≤ ne + (1 : Int) ∧ ne + (1 : Int) ≤ 2147483647 ∧ (jf fw_T (d + 11) 36 47 [(0, .inr (.inl 266)), (1, .inl a), (2, .inl fa), (3, .inl b), (5, .inl dp), (6, .inl us), (7, .inl (ne + (1 : Int)))] [] W Post)) ∧ (¬ r1 = 0 → ((¬ ne = fa → jf fw_T (d + 11) 36 91 [(0, .inr (.inl 266)), (1, .inl a), (2, .inl fa), (3, .inl b), (5, .inl dp), (6, .inl us), (7, .inl ne), (8, .inl r1), (9, .inl (-1 : Int)), (10, .inl (0 : Int))] [] W Post) ∧ (ne = fa → -2147483648 ≤ ne + (1 : Int) ∧ ne + (1 : Int) ≤ 2147483647 ∧ (jf fw_T (d + 11) 36 47 [(0, .inr (.inl 266)), (1, .inl a), (2, .inl fa), (3, .inl b), (5, .inl dp), (6, .inl us), (7, .inl (ne + (1 : Int)))] [] W Post)))))))))) :
    jf fw_T (d + 11) 36 47 [(0, .inr (.inl 266)), (1, .inl a), (2, .inl fa), (3, .inl b), (5, .inl dp), (6, .inl us), (7, .inl ne)] [] W Post := fw_ok (n := 21) (ss := [(47, [0, 1, 2, 3, 5, 6, 7]), (91, [0, 1, 2, 3, 5, 6, 7, 8, 9, 10])]) (hv := []) fr_36_ok fv_like_ok (ct_k_isBL6_ok d) hw_

theorem lm_k_isBL6_91 {Post : Option fw_V → fw_W → Prop} {d : Nat} {W : fw_W} {a fa b fb dp : Int} (hpre : 0 ≤ a ∧ a < 14 ∧ 0 ≤ b ∧ b < 14 ∧ dp = 6) (hP : ∀ (v : Int) , (0 ≤ v ∧ v ≤ 1 ∧ (True)) → Post (some (.inl v)) W) (M47 : Int) (h47 : ∀ (us ne : Int), 0 ≤ ne ∧ dp ≤ 14 → ((fw_g W 12 0) - ne) < M47 → jf fw_T (d + 11) 36 47 [(0, .inr (.inl 266)), (1, .inl a), (2, .inl fa), (3, .inl b), (5, .inl dp), (6, .inl us), (7, .inl ne)] [] W Post) : ∀ (m : Nat) (us ne st_ ma li : Int), (14 - li).toNat = m → 0 ≤ li ∧ li ≤ 14 ∧ 0 ≤ ne ∧ ne < (fw_g W 12 0) ∧ (fw_g W 12 0) ≤ 14 ∧ -1 ≤ ma ∧ ma < 14 ∧ dp ≤ 14 → ((fw_g W 12 0) - ne) ≤ M47 → jf fw_T (d + 11) 36 91 [(0, .inr (.inl 266)), (1, .inl a), (2, .inl fa), (3, .inl b), (5, .inl dp), (6, .inl us), (7, .inl ne), (8, .inl st_), (9, .inl ma), (10, .inl li)] [] W Post := by
  intro m
  induction m using Nat.strongRecOn with
  | ind m ih =>
    intro us ne st_ ma li hm hi e47
    refine jf_rng (fun hrg => ?_)
    have hrg : -2147483648 ≤ a ∧ a ≤ 2147483647 ∧ -2147483648 ≤ fa ∧ fa ≤ 2147483647 ∧ -2147483648 ≤ b ∧ b ≤ 2147483647 ∧ -2147483648 ≤ dp ∧ dp ≤ 2147483647 ∧ -2147483648 ≤ us ∧ us ≤ 2147483647 ∧ -2147483648 ≤ ne ∧ ne ≤ 2147483647 ∧ -2147483648 ≤ st_ ∧ st_ ≤ 2147483647 ∧ -2147483648 ≤ ma ∧ ma ≤ 2147483647 ∧ -2147483648 ≤ li ∧ li ≤ 2147483647 ∧ True := hrg
    refine s_k_isBL6_91 ?_
    repeat' (first
      | (exact True.intro)
      | (exact hpre.1)
      | (refine And.intro ?_ ?_)
      | (refine (h47 _ _ ?_ (by omega)); (first | omega | trivial))
      | (refine (ih _ (by omega) _ _ _ _ _ rfl ?_ (by omega)); (first | omega | trivial))
      | (refine hP _ ?_; (refine ⟨by omega, by omega, ?_⟩; (first | trivial | omega)))
      | omega
      | (intro _))
theorem lm_k_isBL6_47 {Post : Option fw_V → fw_W → Prop} {d : Nat} {W : fw_W} {a fa b fb dp : Int} (hpre : 0 ≤ a ∧ a < 14 ∧ 0 ≤ b ∧ b < 14 ∧ dp = 6) (hP : ∀ (v : Int) , (0 ≤ v ∧ v ≤ 1 ∧ (True)) → Post (some (.inl v)) W)  : ∀ (m : Nat) (us ne : Int), ((fw_g W 12 0) - ne).toNat = m → 0 ≤ ne ∧ dp ≤ 14 → jf fw_T (d + 11) 36 47 [(0, .inr (.inl 266)), (1, .inl a), (2, .inl fa), (3, .inl b), (5, .inl dp), (6, .inl us), (7, .inl ne)] [] W Post := by
  intro m
  induction m using Nat.strongRecOn with
  | ind m ih =>
    intro us ne hm hi
    refine jf_rng (fun hrg => ?_)
    have hrg : -2147483648 ≤ a ∧ a ≤ 2147483647 ∧ -2147483648 ≤ fa ∧ fa ≤ 2147483647 ∧ -2147483648 ≤ b ∧ b ≤ 2147483647 ∧ -2147483648 ≤ dp ∧ dp ≤ 2147483647 ∧ -2147483648 ≤ us ∧ us ≤ 2147483647 ∧ -2147483648 ≤ ne ∧ ne ≤ 2147483647 ∧ True := hrg
    refine s_k_isBL6_47 ?_
    repeat' (first
      | (exact True.intro)
      | (exact hpre.1)
      | (refine And.intro ?_ ?_)
      | (refine (ih _ (by omega) _ _ rfl ?_); (first | omega | trivial))
      | (refine (lm_k_isBL6_91 (a := a) (fa := fa) (b := b) (fb := fb) (dp := dp) hpre hP ((fw_g W 12 0) - ne) (fun a0 a1 hi hl => ih _ (by omega) a0 a1 rfl hi) _ _ _ _ _ _ rfl ?_ (by omega)); (first | omega | trivial))
      | (refine hP _ ?_; (refine ⟨by omega, by omega, ?_⟩; (first | trivial | omega)))
      | omega
      | (intro _))
def x_k_isBL6 : fw_X := fun as W Q => match as with
  | [.inr (.inl s_), .inl a, .inl fa, .inl b, .inl fb, .inl dp] => fw_if (Nat.beq s_ 266) ((0 ≤ a ∧ a < 14 ∧ 0 ≤ b ∧ b < 14 ∧ dp = 6) ∧ (∀ (v : Int), (0 ≤ v ∧ v ≤ 1 ∧ (True)) → Q (some (.inl v)) W))
  | _ => False
theorem x_k_isBL6_ok (d : Nat) (as : List fw_V) (W : fw_W) (Q : Option fw_V → fw_W → Prop) (hx : x_k_isBL6 as W Q) : jf fw_T (d + 11) 36 0 (fw_args 0 as) [] W Q := by
  unfold x_k_isBL6 at hx
  split at hx
  · rename_i s_ a fa b fb dp
    obtain ⟨e_, hpre, hQ⟩ := fw_if_ok hx
    have e_ := Nat.eq_of_beq_eq_true e_
    subst e_
    have hP := hQ
    refine s_k_isBL6_0 ?_
    repeat' (first
      | (exact True.intro)
      | (exact hpre.1)
      | (refine And.intro ?_ ?_)
      | (refine (lm_k_isBL6_47 (a := a) (fa := fa) (b := b) (fb := fb) (dp := dp) hpre hP _ _ _ rfl ?_); (first | omega | trivial))
      | (refine (lm_k_isBL6_91 (a := a) (fa := fa) (b := b) (fb := fb) (dp := dp) hpre hP M47 h47 _ _ _ _ _ _ rfl ?_ (by omega)); (first | omega | trivial))
      | (refine hP _ ?_; (refine ⟨by omega, by omega, ?_⟩; (first | trivial | omega)))
      | omega
      | (intro _))
  · exact hx.elim

def ct_k_isBL5 : List (Nat × fw_X) := [(112, x_k_stA), (113, x_k_stB), (37, x_k_isStreetLike), (36, x_k_isBL6)]
theorem ct_k_isBL5_ok (d : Nat) : fw_cok fw_T (d + 11) ct_k_isBL5 := by
  intro q hq as W Q h
  simp only [ct_k_isBL5, List.mem_cons, List.not_mem_nil, or_false] at hq
  rcases hq with rfl | rfl | rfl | rfl
  · exact x_k_stA_ok (d + 10) as W Q h
  · exact x_k_stB_ok (d + 10) as W Q h
  · exact jc_of (x_k_isStreetLike_ok (d + 10) as W Q h)
  · exact jc_of (x_k_isBL6_ok (d + 0) as W Q h)
theorem s_k_isBL5_0 {Post : Option fw_V → fw_W → Prop} {d : Nat} {W : fw_W} {a fa b fb dp : Int}
    (hw_ : (((14 : Int) < dp → 0 ≤ (0 : Int) ∧ (0 : Int) ≤ 1 ∧ Post (some (.inl (0 : Int))) W) ∧ (dp ≤ (14 : Int) → (True) ∧ (∀ (r1 : Int), ((-2147483648 ≤ r1 ∧ r1 ≤ 2147483647 ∧ (True))) → (True) ∧ (∀ (r2 : Int), ((-2147483648 ≤ r2 ∧ r2 ≤ 2147483647 ∧ (True))) → ((r1 = r2 → ((¬ fb = (-1 : Int) → (-2147483648 ≤ (fw_shl (1 : Int) fb) → (fw_shl (1 : Int) fb) ≤ 2147483647 → jf fw_T (d + 12) 36 47 [(0, .inr (.inl 266)), (1, .inl a), (2, .inl fa), (3, .inl b), (5, .inl dp), (6, .inl (fw_shl (1 : Int) fb)), (7, .inl (0 : Int))] [] W Post)) ∧ (fb = (-1 : Int) → jf fw_T (d + 12) 36 47 [(0, .inr (.inl 266)), (1, .inl a), (2, .inl fa), (3, .inl b), (5, .inl dp), (6, .inl (0 : Int)), (7, .inl (0 : Int))] [] W Post))) ∧ (¬ r1 = r2 → 0 ≤ (0 : Int) ∧ (0 : Int) ≤ 1 ∧ Post (some (.inl (0 : Int))) W))))))) :
    jf fw_T (d + 12) 36 0 [(0, .inr (.inl 266)), (1, .inl a), (2, .inl fa), (3, .inl b), (4, .inl fb), (5, .inl dp)] [] W Post := fw_ok (n := 22) (ss := [(47, [0, 1, 2, 3, 5, 6, 7]), (91, [0, 1, 2, 3, 5, 6, 7, 8, 9, 10])]) (hv := []) fr_36_ok fv_like_ok (ct_k_isBL5_ok d) hw_

theorem s_k_isBL5_91 {Post : Option fw_V → fw_W → Prop} {d : Nat} {W : fw_W} {a fa b dp us ne st_ ma li : Int}
    (hw_ : (∀ v1 : Int, 0 ≤ v1 → v1 ≤ 14 → ((v1 ≤ li → ((¬ ma = (-1 : Int) → (-2147483648 ≤ (fw_shl (1 : Int) ma) → (fw_shl (1 : Int) ma) ≤ 2147483647 → (-2147483648 ≤ (fw_or us (fw_shl (1 : Int) ma)) → (fw_or us (fw_shl (1 : Int) ma)) ≤ 2147483647 → -2147483648 ≤ ne + (1 : Int) ∧ ne + (1 : Int) ≤ 2147483647 ∧ (jf fw_T (d + 12) 36 47 [(0, .inr (.inl 266)), (1, .inl a), (2, .inl fa), (3, .inl b), (5, .inl dp), (6, .inl (fw_or us (fw_shl (1 : Int) ma))), (7, .inl (ne + (1 : Int)))] [] W Post)))) ∧ (ma = (-1 : Int) → 0 ≤ (0 : Int) ∧ (0 : Int) ≤ 1 ∧ Post (some (.inl (0 : Int))) W))) ∧ (li < v1 → ((¬ ma = (-1 : Int) → ((¬ ma = (-1 : Int) → (-2147483648 ≤ (fw_shl (1 : Int) ma) → (fw_shl (1 : Int) ma) ≤ 2147483647 → (-2147483648 ≤ (fw_or us (fw_shl (1 : Int) ma)) → (fw_or us (fw_shl (1 : Int) ma)) ≤ 2147483647 → -2147483648 ≤ ne + (1 : Int) ∧ ne + (1 : Int) ≤ 2147483647 ∧ (jf fw_T (d + 12) 36 47 [(0, .inr (.inl 266)), (1, .inl a), (2, .inl fa), (3, .inl b), (5, .inl dp), (6, .inl (fw_or us (fw_shl (1 : Int) ma))), (7, .inl (ne + (1 : Int)))] [] W Post)))) ∧ (ma = (-1 : Int) → 0 ≤ (0 : Int) ∧ (0 : Int) ≤ 1 ∧ Post (some (.inl (0 : Int))) W))) ∧ (ma = (-1 : Int) → (-2147483648 ≤ (fw_shr us li) → (fw_shr us li) ≤ 2147483647 → (-2147483648 ≤ (fw_and (fw_shr us li) (1 : Int)) → (fw_and (fw_shr us li) (1 : Int)) ≤ 2147483647 → ((¬ (fw_and (fw_shr us li) (1 : Int)) = 0 → -2147483648 ≤ li + (1 : Int) ∧ li + (1 : Int) ≤ 2147483647 ∧ (jf fw_T (d + 12) 36 91 [(0, .inr (.inl 266)), (1, .inl a), (2, .inl fa), (3, .inl b), (5, .inl dp), (6, .inl us), (7, .inl ne), (8, .inl st_), (9, .inl ma), (10, .inl (li + (1 : Int)))] [] W Post)) ∧ ((fw_and (fw_shr us li) (1 : Int)) = 0 → (0 ≤ b ∧ b < 14 ∧ 0 ≤ li ∧ li < 14) ∧ (∀ (r2 : Int), ((-2147483648 ≤ r2 ∧ r2 ≤ 2147483647 ∧ (True))) → (True) ∧ (∀ (r3 : Int), ((0 ≤ r3 ∧ r3 ≤ 1 ∧ (True))) → ((r3 = 0 → -2147483648 ≤ li + (1 : Int) ∧ li + (1 : Int) ≤ 2147483647 ∧ (jf fw_T (d + 12) 36 91 [(0, .inr (.inl 266)), (1, .inl a), (2, .inl fa), (3, .inl b), (5, .inl dp), (6, .inl us), (7, .inl ne), (8, .inl st_), (9, .inl ma), (10, .inl (li + (1 : Int)))] [] W Post)) ∧ (¬ r3 = 0 → -2147483648 ≤ dp + (1 : Int) ∧ dp + (1 : Int) ≤ 2147483647 ∧ ((0 ≤ ne ∧ ne < 14 ∧ 0 ≤ li ∧ li < 14 ∧ (dp + (1 : Int)) = 6) ∧ (∀ (r4 : Int), ((0 ≤ r4 ∧ r4 ≤ 1 ∧ (True))) → ((r4 = 0 → -2147483648 ≤ li + (1 : Int) ∧ li + (1 : Int) ≤ 2147483647 ∧ (jf fw_T (d + 12) 36 91 [(0, .inr (.inl 266)), (1, .inl a), (2, .inl fa), (3, .inl b), (5, .inl dp), (6, .inl us), (7, .inl ne), (8, .inl st_), (9, .inl ma), (10, .inl (li + (1 : Int)))] [] W Post)) ∧ (¬ r4 = 0 → -2147483648 ≤ li + (1 : Int) ∧ li + (1 : Int) ≤ 2147483647 ∧ (jf fw_T (d + 12) 36 91 [(0, .inr (.inl 266)), (1, .inl a), (2, .inl fa), (3, .inl b), (5, .inl dp), (6, .inl us), (7, .inl ne), (8, .inl st_), (9, .inl li), (10, .inl (li + (1 : Int)))] [] W Post))))))))))))))))))) :
    jf fw_T (d + 12) 36 91 [(0, .inr (.inl 266)), (1, .inl a), (2, .inl fa), (3, .inl b), (5, .inl dp), (6, .inl us), (7, .inl ne), (8, .inl st_), (9, .inl ma), (10, .inl li)] [] W Post := fw_ok (n := 38) (ss := [(47, [0, 1, 2, 3, 5, 6, 7]), (91, [0, 1, 2, 3, 5, 6, 7, 8, 9, 10])]) (hv := []) fr_36_ok fv_like_ok (ct_k_isBL5_ok d) hw_

theorem s_k_isBL5_47 {Post : Option fw_V → fw_W → Prop} {d : Nat} {W : fw_W} {a fa b dp us ne : Int}
    (hw_ : (0 ≤ (fw_g W 12 0) → (fw_g W 12 0) ≤ 14 → (((fw_g W 12 0) ≤ ne → 0 ≤ (1 : Int) ∧ (1 : Int) ≤ 1 ∧ Post (some (.inl (1 : Int))) W) ∧ (ne < (fw_g W 12 0) → (0 ≤ a ∧ a < 14 ∧ 0 ≤ ne ∧ ne < 14) ∧ (∀ (r1 : Int), ((-2147483648 ≤ r1 ∧ r1 ≤ 2147483647 ∧ (True))) → ((r1 = 0 → -2147483648 ≤ ne + (1 : Int) ∧ ne + (1 : Int) ≤ 2147483647 ∧ (jf fw_T (d + 12) 36 47 [(0, .inr (.inl 266)), (1, .inl a), (2, .inl fa), (3, .inl b), (5, .inl dp), (6, .inl us), (7, .inl (ne + (1 : Int)))] [] W Post)) ∧ (¬ r1 = 0 → ((¬ ne = fa → jf fw_T (d + 12) 36 91 [(0, .inr (.inl 266)), (1, .inl a), (2, .inl fa), (3, .inl b), (5, .inl dp), (6, .inl us), (7, .inl ne), (8, .inl r1), (9, .inl (-1 : Int)), (10, .inl (0 : Int))] [] W Post) ∧ (ne = fa → -2147483648 ≤ ne + (1 : Int) ∧ ne + (1 : Int) ≤ 2147483647 ∧ (jf fw_T (d + 12) 36 47 [(0, .inr (.inl 266)), (1, .inl a), (2, .inl fa), (3, .inl b), (5, .inl dp), (6, .inl us), (7, .inl (ne + (1 : Int)))] [] W Post)))))))))) :
    jf fw_T (d + 12) 36 47 [(0, .inr (.inl 266)), (1, .inl a), (2, .inl fa), (3, .inl b), (5, .inl dp), (6, .inl us), (7, .inl ne)] [] W Post := fw_ok (n := 21) (ss := [(47, [0, 1, 2, 3, 5, 6, 7]), (91, [0, 1, 2, 3, 5, 6, 7, 8, 9, 10])]) (hv := []) fr_36_ok fv_like_ok (ct_k_isBL5_ok d) hw_

theorem lm_k_isBL5_91 {Post : Option fw_V → fw_W → Prop} {d : Nat} {W : fw_W} {a fa b fb dp : Int} (hpre : 0 ≤ a ∧ a < 14 ∧ 0 ≤ b ∧ b < 14 ∧ dp = 5) (hP : ∀ (v : Int) , (0 ≤ v ∧ v ≤ 1 ∧ (True)) → Post (some (.inl v)) W) (M47 : Int) (h47 : ∀ (us ne : Int), 0 ≤ ne ∧ dp ≤ 14 → ((fw_g W 12 0) - ne) < M47 → jf fw_T (d + 12) 36 47 [(0, .inr (.inl 266)), (1, .inl a), (2, .inl fa), (3, .inl b), (5, .inl dp), (6, .inl us), (7, .inl ne)] [] W Post) : ∀ (m : Nat) (us ne st_ ma li : Int), (14 - li).toNat = m → 0 ≤ li ∧ li ≤ 14 ∧ 0 ≤ ne ∧ ne < (fw_g W 12 0) ∧ (fw_g W 12 0) ≤ 14 ∧ -1 ≤ ma ∧ ma < 14 ∧ dp ≤ 14 → ((fw_g W 12 0) - ne) ≤ M47 → jf fw_T (d + 12) 36 91 [(0, .inr (.inl 266)), (1, .inl a), (2, .inl fa), (3, .inl b), (5, .inl dp), (6, .inl us), (7, .inl ne), (8, .inl st_), (9, .inl ma), (10, .inl li)] [] W Post := by
  intro m
  induction m using Nat.strongRecOn with
  | ind m ih =>
    intro us ne st_ ma li hm hi e47
    refine jf_rng (fun hrg => ?_)
    have hrg : -2147483648 ≤ a ∧ a ≤ 2147483647 ∧ -2147483648 ≤ fa ∧ fa ≤ 2147483647 ∧ -2147483648 ≤ b ∧ b ≤ 2147483647 ∧ -2147483648 ≤ dp ∧ dp ≤ 2147483647 ∧ -2147483648 ≤ us ∧ us ≤ 2147483647 ∧ -2147483648 ≤ ne ∧ ne ≤ 2147483647 ∧ -2147483648 ≤ st_ ∧ st_ ≤ 2147483647 ∧ -2147483648 ≤ ma ∧ ma ≤ 2147483647 ∧ -2147483648 ≤ li ∧ li ≤ 2147483647 ∧ True := hrg
    refine s_k_isBL5_91 ?_
    repeat' (first
      | (exact True.intro)
      | (exact hpre.1)
      | (refine And.intro ?_ ?_)
      | (refine (h47 _ _ ?_ (by omega)); (first | omega | trivial))
      | (refine (ih _ (by omega) _ _ _ _ _ rfl ?_ (by omega)); (first | omega | trivial))
      | (refine hP _ ?_; (refine ⟨by omega, by omega, ?_⟩; (first | trivial | omega)))
      | omega
      | (intro _))
theorem lm_k_isBL5_47 {Post : Option fw_V → fw_W → Prop} {d : Nat} {W : fw_W} {a fa b fb dp : Int} (hpre : 0 ≤ a ∧ a < 14 ∧ 0 ≤ b ∧ b < 14 ∧ dp = 5) (hP : ∀ (v : Int) , (0 ≤ v ∧ v ≤ 1 ∧ (True)) → Post (some (.inl v)) W)  : ∀ (m : Nat) (us ne : Int), ((fw_g W 12 0) - ne).toNat = m → 0 ≤ ne ∧ dp ≤ 14 → jf fw_T (d + 12) 36 47 [(0, .inr (.inl 266)), (1, .inl a), (2, .inl fa), (3, .inl b), (5, .inl dp), (6, .inl us), (7, .inl ne)] [] W Post := by
  intro m
  induction m using Nat.strongRecOn with
  | ind m ih =>
    intro us ne hm hi
    refine jf_rng (fun hrg => ?_)
    have hrg : -2147483648 ≤ a ∧ a ≤ 2147483647 ∧ -2147483648 ≤ fa ∧ fa ≤ 2147483647 ∧ -2147483648 ≤ b ∧ b ≤ 2147483647 ∧ -2147483648 ≤ dp ∧ dp ≤ 2147483647 ∧ -2147483648 ≤ us ∧ us ≤ 2147483647 ∧ -2147483648 ≤ ne ∧ ne ≤ 2147483647 ∧ True := hrg
    refine s_k_isBL5_47 ?_
    repeat' (first
      | (exact True.intro)
      | (exact hpre.1)
      | (refine And.intro ?_ ?_)
      | (refine (ih _ (by omega) _ _ rfl ?_); (first | omega | trivial))
      | (refine (lm_k_isBL5_91 (a := a) (fa := fa) (b := b) (fb := fb) (dp := dp) hpre hP ((fw_g W 12 0) - ne) (fun a0 a1 hi hl => ih _ (by omega) a0 a1 rfl hi) _ _ _ _ _ _ rfl ?_ (by omega)); (first | omega | trivial))
      | (refine hP _ ?_; (refine ⟨by omega, by omega, ?_⟩; (first | trivial | omega)))
      | omega
      | (intro _))
def x_k_isBL5 : fw_X := fun as W Q => match as with
  | [.inr (.inl s_), .inl a, .inl fa, .inl b, .inl fb, .inl dp] => fw_if (Nat.beq s_ 266) ((0 ≤ a ∧ a < 14 ∧ 0 ≤ b ∧ b < 14 ∧ dp = 5) ∧ (∀ (v : Int), (0 ≤ v ∧ v ≤ 1 ∧ (True)) → Q (some (.inl v)) W))
  | _ => False
theorem x_k_isBL5_ok (d : Nat) (as : List fw_V) (W : fw_W) (Q : Option fw_V → fw_W → Prop) (hx : x_k_isBL5 as W Q) : jf fw_T (d + 12) 36 0 (fw_args 0 as) [] W Q := by
  unfold x_k_isBL5 at hx
  split at hx
  · rename_i s_ a fa b fb dp
    obtain ⟨e_, hpre, hQ⟩ := fw_if_ok hx
    have e_ := Nat.eq_of_beq_eq_true e_
    subst e_
    have hP := hQ
    refine s_k_isBL5_0 ?_
    repeat' (first
      | (exact True.intro)
      | (exact hpre.1)
      | (refine And.intro ?_ ?_)
      | (refine (lm_k_isBL5_47 (a := a) (fa := fa) (b := b) (fb := fb) (dp := dp) hpre hP _ _ _ rfl ?_); (first | omega | trivial))
      | (refine (lm_k_isBL5_91 (a := a) (fa := fa) (b := b) (fb := fb) (dp := dp) hpre hP M47 h47 _ _ _ _ _ _ rfl ?_ (by omega)); (first | omega | trivial))
      | (refine hP _ ?_; (refine ⟨by omega, by omega, ?_⟩; (first | trivial | omega)))
      | omega
      | (intro _))
  · exact hx.elim

def ct_k_isBL4 : List (Nat × fw_X) := [(112, x_k_stA), (113, x_k_stB), (37, x_k_isStreetLike), (36, x_k_isBL5)]
theorem ct_k_isBL4_ok (d : Nat) : fw_cok fw_T (d + 12) ct_k_isBL4 := by
  intro q hq as W Q h
  simp only [ct_k_isBL4, List.mem_cons, List.not_mem_nil, or_false] at hq
  rcases hq with rfl | rfl | rfl | rfl
  · exact x_k_stA_ok (d + 11) as W Q h
  · exact x_k_stB_ok (d + 11) as W Q h
  · exact jc_of (x_k_isStreetLike_ok (d + 11) as W Q h)
  · exact jc_of (x_k_isBL5_ok (d + 0) as W Q h)
theorem s_k_isBL4_0 {Post : Option fw_V → fw_W → Prop} {d : Nat} {W : fw_W} {a fa b fb dp : Int}
    (hw_ : (((14 : Int) < dp → 0 ≤ (0 : Int) ∧ (0 : Int) ≤ 1 ∧ Post (some (.inl (0 : Int))) W) ∧ (dp ≤ (14 : Int) → (True) ∧ (∀ (r1 : Int), ((-2147483648 ≤ r1 ∧ r1 ≤ 2147483647 ∧ (True))) → (True) ∧ (∀ (r2 : Int), ((-2147483648 ≤ r2 ∧ r2 ≤ 2147483647 ∧ (True))) → ((r1 = r2 → ((¬ fb = (-1 : Int) → (-2147483648 ≤ (fw_shl (1 : Int) fb) → (fw_shl (1 : Int) fb) ≤ 2147483647 → jf fw_T (d + 13) 36 47 [(0, .inr (.inl 266)), (1, .inl a), (2, .inl fa), (3, .inl b), (5, .inl dp), (6, .inl (fw_shl (1 : Int) fb)), (7, .inl (0 : Int))] [] W Post)) ∧ (fb = (-1 : Int) → jf fw_T (d + 13) 36 47 [(0, .inr (.inl 266)), (1, .inl a), (2, .inl fa), (3, .inl b), (5, .inl dp), (6, .inl (0 : Int)), (7, .inl (0 : Int))] [] W Post))) ∧ (¬ r1 = r2 → 0 ≤ (0 : Int) ∧ (0 : Int) ≤ 1 ∧ Post (some (.inl (0 : Int))) W))))))) :
    jf fw_T (d + 13) 36 0 [(0, .inr (.inl 266)), (1, .inl a), (2, .inl fa), (3, .inl b), (4, .inl fb), (5, .inl dp)] [] W Post := fw_ok (n := 22) (ss := [(47, [0, 1, 2, 3, 5, 6, 7]), (91, [0, 1, 2, 3, 5, 6, 7, 8, 9, 10])]) (hv := []) fr_36_ok fv_like_ok (ct_k_isBL4_ok d) hw_

theorem s_k_isBL4_91 {Post : Option fw_V → fw_W → Prop} {d : Nat} {W : fw_W} {a fa b dp us ne st_ ma li : Int}
    (hw_ : (∀ v1 : Int, 0 ≤ v1 → v1 ≤ 14 → ((v1 ≤ li → ((¬ ma = (-1 : Int) → (-2147483648 ≤ (fw_shl (1 : Int) ma) → (fw_shl (1 : Int) ma) ≤ 2147483647 → (-2147483648 ≤ (fw_or us (fw_shl (1 : Int) ma)) → (fw_or us (fw_shl (1 : Int) ma)) ≤ 2147483647 → -2147483648 ≤ ne + (1 : Int) ∧ ne + (1 : Int) ≤ 2147483647 ∧ (jf fw_T (d + 13) 36 47 [(0, .inr (.inl 266)), (1, .inl a), (2, .inl fa), (3, .inl b), (5, .inl dp), (6, .inl (fw_or us (fw_shl (1 : Int) ma))), (7, .inl (ne + (1 : Int)))] [] W Post)))) ∧ (ma = (-1 : Int) → 0 ≤ (0 : Int) ∧ (0 : Int) ≤ 1 ∧ Post (some (.inl (0 : Int))) W))) ∧ (li < v1 → ((¬ ma = (-1 : Int) → ((¬ ma = (-1 : Int) → (-2147483648 ≤ (fw_shl (1 : Int) ma) → (fw_shl (1 : Int) ma) ≤ 2147483647 → (-2147483648 ≤ (fw_or us (fw_shl (1 : Int) ma)) → (fw_or us (fw_shl (1 : Int) ma)) ≤ 2147483647 → -2147483648 ≤ ne + (1 : Int) ∧ ne + (1 : Int) ≤ 2147483647 ∧ (jf fw_T (d + 13) 36 47 [(0, .inr (.inl 266)), (1, .inl a), (2, .inl fa), (3, .inl b), (5, .inl dp), (6, .inl (fw_or us (fw_shl (1 : Int) ma))), (7, .inl (ne + (1 : Int)))] [] W Post)))) ∧ (ma = (-1 : Int) → 0 ≤ (0 : Int) ∧ (0 : Int) ≤ 1 ∧ Post (some (.inl (0 : Int))) W))) ∧ (ma = (-1 : Int) → (-2147483648 ≤ (fw_shr us li) → (fw_shr us li) ≤ 2147483647 → (-2147483648 ≤ (fw_and (fw_shr us li) (1 : Int)) → (fw_and (fw_shr us li) (1 : Int)) ≤ 2147483647 → ((¬ (fw_and (fw_shr us li) (1 : Int)) = 0 → -2147483648 ≤ li + (1 : Int) ∧ li + (1 : Int) ≤ 2147483647 ∧ (jf fw_T (d + 13) 36 91 [(0, .inr (.inl 266)), (1, .inl a), (2, .inl fa), (3, .inl b), (5, .inl dp), (6, .inl us), (7, .inl ne), (8, .inl st_), (9, .inl ma), (10, .inl (li + (1 : Int)))] [] W Post)) ∧ ((fw_and (fw_shr us li) (1 : Int)) = 0 → (0 ≤ b ∧ b < 14 ∧ 0 ≤ li ∧ li < 14) ∧ (∀ (r2 : Int), ((-2147483648 ≤ r2 ∧ r2 ≤ 2147483647 ∧ (True))) → (True) ∧ (∀ (r3 : Int), ((0 ≤ r3 ∧ r3 ≤ 1 ∧ (True))) → ((r3 = 0 → -2147483648 ≤ li + (1 : Int) ∧ li + (1 : Int) ≤ 2147483647 ∧ (jf fw_T (d + 13) 36 91 [(0, .inr (.inl 266)), (1, .inl a), (2, .inl fa), (3, .inl b), (5, .inl dp), (6, .inl us), (7, .inl ne), (8, .inl st_), (9, .inl ma), (10, .inl (li + (1 : Int)))] [] W Post)) ∧ (¬ r3 = 0 → -2147483648 ≤ dp + (1 : Int) ∧ dp + (1 : Int) ≤ 2147483647 ∧ ((0 ≤ ne ∧ ne < 14 ∧ 0 ≤ li ∧ li < 14 ∧ (dp + (1 : Int)) = 5) ∧ (∀ (r4 : Int), ((0 ≤ r4 ∧ r4 ≤ 1 ∧ (True))) → ((r4 = 0 → -2147483648 ≤ li + (1 : Int) ∧ li + (1 : Int) ≤ 2147483647 ∧ (jf fw_T (d + 13) 36 91 [(0, .inr (.inl 266)), (1, .inl a), (2, .inl fa), (3, .inl b), (5, .inl dp), (6, .inl us), (7, .inl ne), (8, .inl st_), (9, .inl ma), (10, .inl (li + (1 : Int)))] [] W Post)) ∧ (¬ r4 = 0 → -2147483648 ≤ li + (1 : Int) ∧ li + (1 : Int) ≤ 2147483647 ∧ (jf fw_T (d + 13) 36 91 [(0, .inr (.inl 266)), (1, .inl a), (2, .inl fa), (3, .inl b), (5, .inl dp), (6, .inl us), (7, .inl ne), (8, .inl st_), (9, .inl li), (10, .inl (li + (1 : Int)))] [] W Post))))))))))))))))))) :
    jf fw_T (d + 13) 36 91 [(0, .inr (.inl 266)), (1, .inl a), (2, .inl fa), (3, .inl b), (5, .inl dp), (6, .inl us), (7, .inl ne), (8, .inl st_), (9, .inl ma), (10, .inl li)] [] W Post := fw_ok (n := 38) (ss := [(47, [0, 1, 2, 3, 5, 6, 7]), (91, [0, 1, 2, 3, 5, 6, 7, 8, 9, 10])]) (hv := []) fr_36_ok fv_like_ok (ct_k_isBL4_ok d) hw_

theorem s_k_isBL4_47 {Post : Option fw_V → fw_W → Prop} {d : Nat} {W : fw_W} {a fa b dp us ne : Int}
    (hw_ : (0 ≤ (fw_g W 12 0) → (fw_g W 12 0) ≤ 14 → (((fw_g W 12 0) ≤ ne → 0 ≤ (1 : Int) ∧ (1 : Int) ≤ 1 ∧ Post (some (.inl (1 : Int))) W) ∧ (ne < (fw_g W 12 0) → (0 ≤ a ∧ a < 14 ∧ 0 ≤ ne ∧ ne < 14) ∧ (∀ (r1 : Int), ((-2147483648 ≤ r1 ∧ r1 ≤ 2147483647 ∧ (True))) → ((r1 = 0 → -2147483648 ≤ ne + (1 : Int) ∧ ne + (1 : Int) ≤ 2147483647 ∧ (jf fw_T (d + 13) 36 47 [(0, .inr (.inl 266)), (1, .inl a), (2, .inl fa), (3, .inl b), (5, .inl dp), (6, .inl us), (7, .inl (ne + (1 : Int)))] [] W Post)) ∧ (¬ r1 = 0 → ((¬ ne = fa → jf fw_T (d + 13) 36 91 [(0, .inr (.inl 266)), (1, .inl a), (2, .inl fa), (3, .inl b), (5, .inl dp), (6, .inl us), (7, .inl ne), (8, .inl r1), (9, .inl (-1 : Int)), (10, .inl (0 : Int))] [] W Post) ∧ (ne = fa → -2147483648 ≤ ne + (1 : Int) ∧ ne + (1 : Int) ≤ 2147483647 ∧ (jf fw_T (d + 13) 36 47 [(0, .inr (.inl 266)), (1, .inl a), (2, .inl fa), (3, .inl b), (5, .inl dp), (6, .inl us), (7, .inl (ne + (1 : Int)))] [] W Post)))))))))) :
    jf fw_T (d + 13) 36 47 [(0, .inr (.inl 266)), (1, .inl a), (2, .inl fa), (3, .inl b), (5, .inl dp), (6, .inl us), (7, .inl ne)] [] W Post := fw_ok (n := 21) (ss := [(47, [0, 1, 2, 3, 5, 6, 7]), (91, [0, 1, 2, 3, 5, 6, 7, 8, 9, 10])]) (hv := []) fr_36_ok fv_like_ok (ct_k_isBL4_ok d) hw_

theorem lm_k_isBL4_91 {Post : Option fw_V → fw_W → Prop} {d : Nat} {W : fw_W} {a fa b fb dp : Int} (hpre : 0 ≤ a ∧ a < 14 ∧ 0 ≤ b ∧ b < 14 ∧ dp = 4) (hP : ∀ (v : Int) , (0 ≤ v ∧ v ≤ 1 ∧ (True)) → Post (some (.inl v)) W) (M47 : Int) (h47 : ∀ (us ne : Int), 0 ≤ ne ∧ dp ≤ 14 → ((fw_g W 12 0) - ne) < M47 → jf fw_T (d + 13) 36 47 [(0, .inr (.inl 266)), (1, .inl a), (2, .inl fa), (3, .inl b), (5, .inl dp), (6, .inl us), (7, .inl ne)] [] W Post) : ∀ (m : Nat) (us ne st_ ma li : Int), (14 - li).toNat = m → 0 ≤ li ∧ li ≤ 14 ∧ 0 ≤ ne ∧ ne < (fw_g W 12 0) ∧ (fw_g W 12 0) ≤ 14 ∧ -1 ≤ ma ∧ ma < 14 ∧ dp ≤ 14 → ((fw_g W 12 0) - ne) ≤ M47 → jf fw_T (d + 13) 36 91 [(0, .inr (.inl 266)), (1, .inl a), (2, .inl fa), (3, .inl b), (5, .inl dp), (6, .inl us), (7, .inl ne), (8, .inl st_), (9, .inl ma), (10, .inl li)] [] W Post := by
  intro m
  induction m using Nat.strongRecOn with
  | ind m ih =>
    intro us ne st_ ma li hm hi e47
    refine jf_rng (fun hrg => ?_)
    have hrg : -2147483648 ≤ a ∧ a ≤ 2147483647 ∧ -2147483648 ≤ fa ∧ fa ≤ 2147483647 ∧ -2147483648 ≤ b ∧ b ≤ 2147483647 ∧ -2147483648 ≤ dp ∧ dp ≤ 2147483647 ∧ -2147483648 ≤ us ∧ us ≤ 2147483647 ∧ -2147483648 ≤ ne ∧ ne ≤ 2147483647 ∧ -2147483648 ≤ st_ ∧ st_ ≤ 2147483647 ∧ -2147483648 ≤ ma ∧ ma ≤ 2147483647 ∧ -2147483648 ≤ li ∧ li ≤ 2147483647 ∧ True := hrg
    refine s_k_isBL4_91 ?_
    repeat' (first
      | (exact True.intro)
      | (exact hpre.1)
      | (refine And.intro ?_ ?_)
      | (refine (h47 _ _ ?_ (by omega)); (first | omega | trivial))
      | (refine (ih _ (by omega) _ _ _ _ _ rfl ?_ (by omega)); (first | omega | trivial))
      | (refine hP _ ?_; (refine ⟨by omega, by omega, ?_⟩; (first | trivial | omega)))
      | omega
      | (intro _))
theorem lm_k_isBL4_47 {Post : Option fw_V → fw_W → Prop} {d : Nat} {W : fw_W} {a fa b fb dp : Int} (hpre : 0 ≤ a ∧ a < 14 ∧ 0 ≤ b ∧ b < 14 ∧ dp = 4) (hP : ∀ (v : Int) , (0 ≤ v ∧ v ≤ 1 ∧ (True)) → Post (some (.inl v)) W)  : ∀ (m : Nat) (us ne : Int), ((fw_g W 12 0) - ne).toNat = m → 0 ≤ ne ∧ dp ≤ 14 → jf fw_T (d + 13) 36 47 [(0, .inr (.inl 266)), (1, .inl a), (2, .inl fa), (3, .inl b), (5, .inl dp), (6, .inl us), (7, .inl ne)] [] W Post := by
  intro m
  induction m using Nat.strongRecOn with
  | ind m ih =>
    intro us ne hm hi
    refine jf_rng (fun hrg => ?_)
    have hrg : -2147483648 ≤ a ∧ a ≤ 2147483647 ∧ -2147483648 ≤ fa ∧ fa ≤ 2147483647 ∧ -2147483648 ≤ b ∧ b ≤ 2147483647 ∧ -2147483648 ≤ dp ∧ dp ≤ 2147483647 ∧ -2147483648 ≤ us ∧ us ≤ 2147483647 ∧ -2147483648 ≤ ne ∧ ne ≤ 2147483647 ∧ True := hrg
    refine s_k_isBL4_47 ?_
    repeat' (first
      | (exact True.intro)
      | (exact hpre.1)
      | (refine And.intro ?_ ?_)
      | (refine (ih _ (by omega) _ _ rfl ?_); (first | omega | trivial))
      | (refine (lm_k_isBL4_91 (a := a) (fa := fa) (b := b) (fb := fb) (dp := dp) hpre hP ((fw_g W 12 0) - ne) (fun a0 a1 hi hl => ih _ (by omega) a0 a1 rfl hi) _ _ _ _ _ _ rfl ?_ (by omega)); (first | omega | trivial))
      | (refine hP _ ?_; (refine ⟨by omega, by omega, ?_⟩; (first | trivial | omega)))
      | omega
      | (intro _))
def x_k_isBL4 : fw_X := fun as W Q => match as with
  | [.inr (.inl s_), .inl a, .inl fa, .inl b, .inl fb, .inl dp] => fw_if (Nat.beq s_ 266) ((0 ≤ a ∧ a < 14 ∧ 0 ≤ b ∧ b < 14 ∧ dp = 4) ∧ (∀ (v : Int), (0 ≤ v ∧ v ≤ 1 ∧ (True)) → Q (some (.inl v)) W))
  | _ => False
theorem x_k_isBL4_ok (d : Nat) (as : List fw_V) (W : fw_W) (Q : Option fw_V → fw_W → Prop) (hx : x_k_isBL4 as W Q) : jf fw_T (d + 13) 36 0 (fw_args 0 as) [] W Q := by
  unfold x_k_isBL4 at hx
  split at hx
  · rename_i s_ a fa b fb dp
    obtain ⟨e_, hpre, hQ⟩ := fw_if_ok hx
    have e_ := Nat.eq_of_beq_eq_true e_
    subst e_
    have hP := hQ
    refine s_k_isBL4_0 ?_
    repeat' (first
      | (exact True.intro)
      | (exact hpre.1)
      | (refine And.intro ?_ ?_)
      | (refine (lm_k_isBL4_47 (a := a) (fa := fa) (b := b) (fb := fb) (dp := dp) hpre hP _ _ _ rfl ?_); (first | omega | trivial))
      | (refine (lm_k_isBL4_91 (a := a) (fa := fa) (b := b) (fb := fb) (dp := dp) hpre hP M47 h47 _ _ _ _ _ _ rfl ?_ (by omega)); (first | omega | trivial))
      | (refine hP _ ?_; (refine ⟨by omega, by omega, ?_⟩; (first | trivial | omega)))
      | omega
      | (intro _))
  · exact hx.elim

def ct_k_isBL3 : List (Nat × fw_X) := [(112, x_k_stA), (113, x_k_stB), (37, x_k_isStreetLike), (36, x_k_isBL4)]
theorem ct_k_isBL3_ok (d : Nat) : fw_cok fw_T (d + 13) ct_k_isBL3 := by
  intro q hq as W Q h
  simp only [ct_k_isBL3, List.mem_cons, List.not_mem_nil, or_false] at hq
  rcases hq with rfl | rfl | rfl | rfl
  · exact x_k_stA_ok (d + 12) as W Q h
  · exact x_k_stB_ok (d + 12) as W Q h
  · exact jc_of (x_k_isStreetLike_ok (d + 12) as W Q h)
  · exact jc_of (x_k_isBL4_ok (d + 0) as W Q h)
theorem s_k_isBL3_0 {Post : Option fw_V → fw_W → Prop} {d : Nat} {W : fw_W} {a fa b fb dp : Int}
    (hw_ : (((14 : Int) < dp → 0 ≤ (0 : Int) ∧ (0 : Int) ≤ 1 ∧ Post (some (.inl (0 : Int))) W) ∧ (dp ≤ (14 : Int) → (True) ∧ (∀ (r1 : Int), ((-2147483648 ≤ r1 ∧ r1 ≤ 2147483647 ∧ (True))) → (True) ∧ (∀ (r2 : Int), ((-2147483648 ≤ r2 ∧ r2 ≤ 2147483647 ∧ (True))) → ((r1 = r2 → ((¬ fb = (-1 : Int) → (-2147483648 ≤ (fw_shl (1 : Int) fb) → (fw_shl (1 : Int) fb) ≤ 2147483647 → jf fw_T (d + 14) 36 47 [(0, .inr (.inl 266)), (1, .inl a), (2, .inl fa), (3, .inl b), (5, .inl dp), (6, .inl (fw_shl (1 : Int) fb)), (7, .inl (0 : Int))] [] W Post)) ∧ (fb = (-1 : Int) → jf fw_T (d + 14) 36 47 [(0, .inr (.inl 266)), (1, .inl a), (2, .inl fa), (3, .inl b), (5, .inl dp), (6, .inl (0 : Int)), (7, .inl (0 : Int))] [] W Post))) ∧ (¬ r1 = r2 → 0 ≤ (0 : Int) ∧ (0 : Int) ≤ 1 ∧ Post (some (.inl (0 : Int))) W))))))) :
    jf fw_T (d + 14) 36 0 [(0, .inr (.inl 266)), (1, .inl a), (2, .inl fa), (3, .inl b), (4, .inl fb), (5, .inl dp)] [] W Post := fw_ok (n := 22) (ss := [(47, [0, 1, 2, 3, 5, 6, 7]), (91, [0, 1, 2, 3, 5, 6, 7, 8, 9, 10])]) (hv := []) fr_36_ok fv_like_ok (ct_k_isBL3_ok d) hw_

theorem s_k_isBL3_91 {Post : Option fw_V → fw_W → Prop} {d : Nat} {W : fw_W} {a fa b dp us ne st_ ma li : Int}
    (hw_ : (∀ v1 : Int, 0 ≤ v1 → v1 ≤ 14 → ((v1 ≤ li → ((¬ ma = (-1 : Int) → (-2147483648 ≤ (fw_shl (1 : Int) ma) → (fw_shl (1 : Int) ma) ≤ 2147483647 → (-2147483648 ≤ (fw_or us (fw_shl (1 : Int) ma)) → (fw_or us (fw_shl (1 : Int) ma)) ≤ 2147483647 → -2147483648 ≤ ne + (1 : Int) ∧ ne + (1 : Int) ≤ 2147483647 ∧ (jf fw_T (d + 14) 36 47 [(0, .inr (.inl 266)), (1, .inl a), (2, .inl fa), (3, .inl b), (5, .inl dp), (6, .inl (fw_or us (fw_shl (1 : Int) ma))), (7, .inl (ne + (1 : Int)))] [] W Post)))) ∧ (ma = (-1 : Int) → 0 ≤ (0 : Int) ∧ (0 : Int) ≤ 1 ∧ Post (some (.inl (0 : Int))) W))) ∧ (li < v1 → ((¬ ma = (-1 : Int) → ((¬ ma = (-1 : Int) → (-2147483648 ≤ (fw_shl (1 : Int) ma) → (fw_shl (1 : Int) ma) ≤ 2147483647 → (-2147483648 ≤ (fw_or us (fw_shl (1 : Int) ma)) → (fw_or us (fw_shl (1 : Int) ma)) ≤ 2147483647 → -2147483648 ≤ ne + (1 : Int) ∧ ne + (1 : Int) ≤ 2147483647 ∧ (jf fw_T (d + 14) 36 47 [(0, .inr (.inl 266)), (1, .inl a), (2, .inl fa), (3, .inl b), (5, .inl dp), (6, .inl (fw_or us (fw_shl (1 : Int) ma))), (7, .inl (ne + (1 : Int)))] [] W Post)))) ∧ (ma = (-1 : Int) → 0 ≤ (0 : Int) ∧ (0 : Int) ≤ 1 ∧ Post (some (.inl (0 : Int))) W))) ∧ (ma = (-1 : Int) → (-2147483648 ≤ (fw_shr us li) → (fw_shr us li) ≤ 2147483647 → (-2147483648 ≤ (fw_and (fw_shr us li) (1 : Int)) → (fw_and (fw_shr us li) (1 : Int)) ≤ 2147483647 → ((¬ (fw_and (fw_shr us li) (1 : Int)) = 0 → -2147483648 ≤ li + (1 : Int) ∧ li + (1 : Int) ≤ 2147483647 ∧ (jf fw_T (d + 14) 36 91 [(0, .inr (.inl 266)), (1, .inl a), (2, .inl fa), (3, .inl b), (5, .inl dp), (6, .inl us), (7, .inl ne), (8, .inl st_), (9, .inl ma), (10, .inl (li + (1 : Int)))] [] W Post)) ∧ ((fw_and (fw_shr us li) (1 : Int)) = 0 → (0 ≤ b ∧ b < 14 ∧ 0 ≤ li ∧ li < 14) ∧ (∀ (r2 : Int), ((-2147483648 ≤ r2 ∧ r2 ≤ 2147483647 ∧ (True))) → (True) ∧ (∀ (r3 : Int), ((0 ≤ r3 ∧ r3 ≤ 1 ∧ (True))) → ((r3 = 0 → -2147483648 ≤ li + (1 : Int) ∧ li + (1 : Int) ≤ 2147483647 ∧ (jf fw_T (d + 14) 36 91 [(0, .inr (.inl 266)), (1, .inl a), (2, .inl fa), (3, .inl b), (5, .inl dp), (6, .inl us), (7, .inl ne), (8, .inl st_), (9, .inl ma), (10, .inl (li + (1 : Int)))] [] W Post)) ∧ (¬ r3 = 0 → -2147483648 ≤ dp + (1 : Int) ∧ dp + (1 : Int) ≤ 2147483647 ∧ ((0 ≤ ne ∧ ne < 14 ∧ 0 ≤ li ∧ li < 14 ∧ (dp + (1 : Int)) = 4) ∧ (∀ (r4 : Int), ((0 ≤ r4 ∧ r4 ≤ 1 ∧ (True))) → ((r4 = 0 → -2147483648 ≤ li + (1 : Int) ∧ li + (1 : Int) ≤ 2147483647 ∧ (jf fw_T (d + 14) 36 91 [(0, .inr (.inl 266)), (1, .inl a), (2, .inl fa), (3, .inl b), (5, .inl dp), (6, .inl us), (7, .inl ne), (8, .inl st_), (9, .inl ma), (10, .inl (li + (1 : Int)))] [] W Post)) ∧ (¬ r4 = 0 → -2147483648 ≤ li + (1 : Int) ∧ li + (1 : Int) ≤ 2147483647 ∧ (jf fw_T (d + 14) 36 91 [(0, .inr (.inl 266)), (1, .inl a), (2, .inl fa), (3, .inl b), (5, .inl dp), (6, .inl us), (7, .inl ne), (8, .inl st_), (9, .inl li), (10, .inl (li + (1 : Int)))] [] W Post))))))))))))))))))) :
    jf fw_T (d + 14) 36 91 [(0, .inr (.inl 266)), (1, .inl a), (2, .inl fa), (3, .inl b), (5, .inl dp), (6, .inl us), (7, .inl ne), (8, .inl st_), (9, .inl ma), (10, .inl li)] [] W Post := fw_ok (n := 38) (ss := [(47, [0, 1, 2, 3, 5, 6, 7]), (91, [0, 1, 2, 3, 5, 6, 7, 8, 9, 10])]) (hv := []) fr_36_ok fv_like_ok (ct_k_isBL3_ok d) hw_

theorem s_k_isBL3_47 {Post : Option fw_V → fw_W → Prop} {d : Nat} {W : fw_W} {a fa b dp us ne : Int}
    (hw_ : (0 ≤ (fw_g W 12 0) → (fw_g W 12 0) ≤ 14 → (((fw_g W 12 0) ≤ ne → 0 ≤ (1 : Int) ∧ (1 : Int) ≤ 1 ∧ Post (some (.inl (1 : Int))) W) ∧ (ne < (fw_g W 12 0) → (0 ≤ a ∧ a < 14 ∧ 0 ≤ ne ∧ ne < 14) ∧ (∀ (r1 : Int), ((-2147483648 ≤ r1 ∧ r1 ≤ 2147483647 ∧ (True))) → ((r1 = 0 → -2147483648 ≤ ne + (1 : Int) ∧ ne + (1 : Int) ≤ 2147483647 ∧ (jf fw_T (d + 14) 36 47 [(0, .inr (.inl 266)), (1, .inl a), (2, .inl fa), (3, .inl b), (5, .inl dp), (6, .inl us), (7, .inl (ne + (1 : Int)))] [] W Post)) ∧ (¬ r1 = 0 → ((¬ ne = fa → jf fw_T (d + 14) 36 91 [(0, .inr (.inl 266)), (1, .inl a), (2, .inl fa), (3, .inl b), (5, .inl dp), (6, .inl us), (7, .inl ne), (8, .inl r1), (9, .inl (-1 : Int)), (10, .inl (0 : Int))] [] W Post) ∧ (ne = fa → -2147483648 ≤ ne + (1 : Int) ∧ ne + (1 : Int) ≤ 2147483647 ∧ (jf fw_T (d + 14) 36 47 [(0, .inr (.inl 266)), (1, .inl a), (2, .inl fa), (3, .inl b), (5, .inl dp), (6, .inl us), (7, .inl (ne + (1 : Int)))] [] W Post)))))))))) :
    jf fw_T (d + 14) 36 47 [(0, .inr (.inl 266)), (1, .inl a), (2, .inl fa), (3, .inl b), (5, .inl dp), (6, .inl us), (7, .inl ne)] [] W Post := fw_ok (n := 21) (ss := [(47, [0, 1, 2, 3, 5, 6, 7]), (91, [0, 1, 2, 3, 5, 6, 7, 8, 9, 10])]) (hv := []) fr_36_ok fv_like_ok (ct_k_isBL3_ok d) hw_

theorem lm_k_isBL3_91 {Post : Option fw_V → fw_W → Prop} {d : Nat} {W : fw_W} {a fa b fb dp : Int} (hpre : 0 ≤ a ∧ a < 14 ∧ 0 ≤ b ∧ b < 14 ∧ dp = 3) (hP : ∀ (v : Int) , (0 ≤ v ∧ v ≤ 1 ∧ (True)) → Post (some (.inl v)) W) (M47 : Int) (h47 : ∀ (us ne : Int), 0 ≤ ne ∧ dp ≤ 14 → ((fw_g W 12 0) - ne) < M47 → jf fw_T (d + 14) 36 47 [(0, .inr (.inl 266)), (1, .inl a), (2, .inl fa), (3, .inl b), (5, .inl dp), (6, .inl us), (7, .inl ne)] [] W Post) : ∀ (m : Nat) (us ne st_ ma li : Int), (14 - li).toNat = m → 0 ≤ li ∧ li ≤ 14 ∧ 0 ≤ ne ∧ ne < (fw_g W 12 0) ∧ (fw_g W 12 0) ≤ 14 ∧ -1 ≤ ma ∧ ma < 14 ∧ dp ≤ 14 → ((fw_g W 12 0) - ne) ≤ M47 → jf fw_T (d + 14) 36 91 [(0, .inr (.inl 266)), (1, .inl a), (2, .inl fa), (3, .inl b), (5, .inl dp), (6, .inl us), (7, .inl ne), (8, .inl st_), (9, .inl ma), (10, .inl li)] [] W Post := by
  intro m
  induction m using Nat.strongRecOn with
  | ind m ih =>
    intro us ne st_ ma li hm hi e47
    refine jf_rng (fun hrg => ?_)
    have hrg : -2147483648 ≤ a ∧ a ≤ 2147483647 ∧ -2147483648 ≤ fa ∧ fa ≤ 2147483647 ∧ -2147483648 ≤ b ∧ b ≤ 2147483647 ∧ -2147483648 ≤ dp ∧ dp ≤ 2147483647 ∧ -2147483648 ≤ us ∧ us ≤ 2147483647 ∧ -2147483648 ≤ ne ∧ ne ≤ 2147483647 ∧ -2147483648 ≤ st_ ∧ st_ ≤ 2147483647 ∧ -2147483648 ≤ ma ∧ ma ≤ 2147483647 ∧ -2147483648 ≤ li ∧ li ≤ 2147483647 ∧ True := hrg
    refine s_k_isBL3_91 ?_
    repeat' (first
      | (exact True.intro)
      | (exact hpre.1)
      | (refine And.intro ?_ ?_)
      | (refine (h47 _ _ ?_ (by omega)); (first | omega | trivial))
      | (refine (ih _ (by omega) _ _ _ _ _ rfl ?_ (by omega)); (first | omega | trivial))
      | (refine hP _ ?_; (refine ⟨by omega, by omega, ?_⟩; (first | trivial | omega)))
      | omega
      | (intro _))
theorem lm_k_isBL3_47 {Post : Option fw_V → fw_W → Prop} {d : Nat} {W : fw_W} {a fa b fb dp : Int} (hpre : 0 ≤ a ∧ a < 14 ∧ 0 ≤ b ∧ b < 14 ∧ dp = 3) (hP : ∀ (v : Int) , (0 ≤ v ∧ v ≤ 1 ∧ (True)) → Post (some (.inl v)) W)  : ∀ (m : Nat) (us ne : Int), ((fw_g W 12 0) - ne).toNat = m → 0 ≤ ne ∧ dp ≤ 14 → jf fw_T (d + 14) 36 47 [(0, .inr (.inl 266)), (1, .inl a), (2, .inl fa), (3, .inl b), (5, .inl dp), (6, .inl us), (7, .inl ne)] [] W Post := by
  intro m
  induction m using Nat.strongRecOn with
  | ind m ih =>
    intro us ne hm hi
    refine jf_rng (fun hrg => ?_)
    have hrg : -2147483648 ≤ a ∧ a ≤ 2147483647 ∧ -2147483648 ≤ fa ∧ fa ≤ 2147483647 ∧ -2147483648 ≤ b ∧ b ≤ 2147483647 ∧ -2147483648 ≤ dp ∧ dp ≤ 2147483647 ∧ -2147483648 ≤ us ∧ us ≤ 2147483647 ∧ -2147483648 ≤ ne ∧ ne ≤ 2147483647 ∧ True := hrg
    refine s_k_isBL3_47 ?_
    repeat' (first
      | (exact True.intro)
      | (exact hpre.1)
      | (refine And.intro ?_ ?_)
      | (refine (ih _ (by omega) _ _ rfl ?_); (first | omega | trivial))
      | (refine (lm_k_isBL3_91 (a := a) (fa := fa) (b := b) (fb := fb) (dp := dp) hpre hP ((fw_g W 12 0) - ne) (fun a0 a1 hi hl => ih _ (by omega) a0 a1 rfl hi) _ _ _ _ _ _ rfl ?_ (by omega)); (first | omega | trivial))
      | (refine hP _ ?_; (refine ⟨by omega, by omega, ?_⟩; (first | trivial | omega)))
      | omega
      | (intro _))
def x_k_isBL3 : fw_X := fun as W Q => match as with
  | [.inr (.inl s_), .inl a, .inl fa, .inl b, .inl fb, .inl dp] => fw_if (Nat.beq s_ 266) ((0 ≤ a ∧ a < 14 ∧ 0 ≤ b ∧ b < 14 ∧ dp = 3) ∧ (∀ (v : Int), (0 ≤ v ∧ v ≤ 1 ∧ (True)) → Q (some (.inl v)) W))
  | _ => False
theorem x_k_isBL3_ok (d : Nat) (as : List fw_V) (W : fw_W) (Q : Option fw_V → fw_W → Prop) (hx : x_k_isBL3 as W Q) : jf fw_T (d + 14) 36 0 (fw_args 0 as) [] W Q := by
  unfold x_k_isBL3 at hx
  split at hx
  · rename_i s_ a fa b fb dp
    obtain ⟨e_, hpre, hQ⟩ := fw_if_ok hx
    have e_ := Nat.eq_of_beq_eq_true e_
    subst e_
    have hP := hQ
    refine s_k_isBL3_0 ?_
    repeat' (first
      | (exact True.intro)
      | (exact hpre.1)
      | (refine And.intro ?_ ?_)
      | (refine (lm_k_isBL3_47 (a := a) (fa := fa) (b := b) (fb := fb) (dp := dp) hpre hP _ _ _ rfl ?_); (first | omega | trivial))
      | (refine (lm_k_isBL3_91 (a := a) (fa := fa) (b := b) (fb := fb) (dp := dp) hpre hP M47 h47 _ _ _ _ _ _ rfl ?_ (by omega)); (first | omega | trivial))
      | (refine hP _ ?_; (refine ⟨by omega, by omega, ?_⟩; (first | trivial | omega)))
      | omega
      | (intro _))
  · exact hx.elim

def ct_k_isBL2 : List (Nat × fw_X) := [(112, x_k_stA), (113, x_k_stB), (37, x_k_isStreetLike), (36, x_k_isBL3)]
theorem ct_k_isBL2_ok (d : Nat) : fw_cok fw_T (d + 14) ct_k_isBL2 := by
  intro q hq as W Q h
  simp only [ct_k_isBL2, List.mem_cons, List.not_mem_nil, or_false] at hq
  rcases hq with rfl | rfl | rfl | rfl
  · exact x_k_stA_ok (d + 13) as W Q h
  · exact x_k_stB_ok (d + 13) as W Q h
  · exact jc_of (x_k_isStreetLike_ok (d + 13) as W Q h)
  · exact jc_of (x_k_isBL3_ok (d + 0) as W Q h)
theorem s_k_isBL2_0 {Post : Option fw_V → fw_W → Prop} {d : Nat} {W : fw_W} {a fa b fb dp : Int}
    (hw_ : (((14 : Int) < dp → 0 ≤ (0 : Int) ∧ (0 : Int) ≤ 1 ∧ Post (some (.inl (0 : Int))) W) ∧ (dp ≤ (14 : Int) → (True) ∧ (∀ (r1 : Int), ((-2147483648 ≤ r1 ∧ r1 ≤ 2147483647 ∧ (True))) → (True) ∧ (∀ (r2 : Int), ((-2147483648 ≤ r2 ∧ r2 ≤ 2147483647 ∧ (True))) → ((r1 = r2 → ((¬ fb = (-1 : Int) → (-2147483648 ≤ (fw_shl (1 : Int) fb) → (fw_shl (1 : Int) fb) ≤ 2147483647 → jf fw_T (d + 15) 36 47 [(0, .inr (.inl 266)), (1, .inl a), (2, .inl fa), (3, .inl b), (5, .inl dp), (6, .inl (fw_shl (1 : Int) fb)), (7, .inl (0 : Int))] [] W Post)) ∧ (fb = (-1 : Int) → jf fw_T (d + 15) 36 47 [(0, .inr (.inl 266)), (1, .inl a), (2, .inl fa), (3, .inl b), (5, .inl dp), (6, .inl (0 : Int)), (7, .inl (0 : Int))] [] W Post))) ∧ (¬ r1 = r2 → 0 ≤ (0 : Int) ∧ (0 : Int) ≤ 1 ∧ Post (some (.inl (0 : Int))) W))))))) :
    jf fw_T (d + 15) 36 0 [(0, .inr (.inl 266)), (1, .inl a), (2, .inl fa), (3, .inl b), (4, .inl fb), (5, .inl dp)] [] W Post := fw_ok (n := 22) (ss := [(47, [0, 1, 2, 3, 5, 6, 7]), (91, [0, 1, 2, 3, 5, 6, 7, 8, 9, 10])]) (hv := []) fr_36_ok fv_like_ok (ct_k_isBL2_ok d) hw_

theorem s_k_isBL2_91 {Post : Option fw_V → fw_W → Prop} {d : Nat} {W : fw_W} {a fa b dp us ne st_ ma li : Int}
    (hw_ : (∀ v1 : Int, 0 ≤ v1 → v1 ≤ 14 → ((v1 ≤ li → ((¬ ma = (-1 : Int) → (-2147483648 ≤ (fw_shl (1 : Int) ma) → (fw_shl (1 : Int) ma) ≤ 2147483647 → (-2147483648 ≤ (fw_or us (fw_shl (1 : Int) ma)) → (fw_or us (fw_shl (1 : Int) ma)) ≤ 2147483647 → -2147483648 ≤ ne + (1 : Int) ∧ ne + (1 : Int) ≤ 2147483647 ∧ (jf fw_T (d + 15) 36 47 [(0, .inr (.inl 266)), (1, .inl a), (2, .inl fa), (3, .inl b), (5, .inl dp), (6, .inl (fw_or us (fw_shl (1 : Int) ma))), (7, .inl (ne + (1 : Int)))] [] W Post)))) ∧ (ma = (-1 : Int) → 0 ≤ (0 : Int) ∧ (0 : Int) ≤ 1 ∧ Post (some (.inl (0 : Int))) W))) ∧ (li < v1 → ((¬ ma = (-1 : Int) → ((¬ ma = (-1 : Int) → (-2147483648 ≤ (fw_shl (1 : Int) ma) → (fw_shl (1 : Int) ma) ≤ 2147483647 → (-2147483648 ≤ (fw_or us (fw_shl (1 : Int) ma)) → (fw_or us (fw_shl (1 : Int) ma)) ≤ 2147483647 → -2147483648 ≤ ne + (1 : Int) ∧ ne + (1 : Int) ≤ 2147483647 ∧ (jf fw_T (d + 15) 36 47 [(0, .inr (.inl 266)), (1, .inl a), (2, .inl fa), (3, .inl b), (5, .inl dp), (6, .inl (fw_or us (fw_shl (1 : Int) ma))), (7, .inl (ne + (1 : Int)))] [] W Post)))) ∧ (ma = (-1 : Int) → 0 ≤ (0 : Int) ∧ (0 : Int) ≤ 1 ∧ Post (some (.inl (0 : Int))) W))) ∧ (ma = (-1 : Int) → (-2147483648 ≤ (fw_shr us li) → (fw_shr us li) ≤ 2147483647 → (-2147483648 ≤ (fw_and (fw_shr us li) (1 : Int)) → (fw_and (fw_shr us li) (1 : Int)) ≤ 2147483647 → ((¬ (fw_and (fw_shr us li) (1 : Int)) = 0 → -2147483648 ≤ li + (1 : Int) ∧ li + (1 : Int) ≤ 2147483647 ∧ (jf fw_T (d + 15) 36 91 [(0, .inr (.inl 266)), (1, .inl a), (2, .inl fa), (3, .inl b), (5, .inl dp), (6, .inl us), (7, .inl ne), (8, .inl st_), (9, .inl ma), (10, .inl (li + (1 : Int)))] [] W Post)) ∧ ((fw_and (fw_shr us li) (1 : Int)) = 0 → (0 ≤ b ∧ b < 14 ∧ 0 ≤ li ∧ li < 14) ∧ (∀ (r2 : Int), ((-2147483648 ≤ r2 ∧ r2 ≤ 2147483647 ∧ (True))) → (True) ∧ (∀ (r3 : Int), ((0 ≤ r3 ∧ r3 ≤ 1 ∧ (True))) → ((r3 = 0 → -2147483648 ≤ li + (1 : Int) ∧ li + (1 : Int) ≤ 2147483647 ∧ (jf fw_T (d + 15) 36 91 [(0, .inr (.inl 266)), (1, .inl a), (2, .inl fa), (3, .inl b), (5, .inl dp), (6, .inl us), (7, .inl ne), (8, .inl st_), (9, .inl ma), (10, .inl (li + (1 : Int)))] [] W Post)) ∧ (¬ r3 = 0 → -2147483648 ≤ dp + (1 : Int) ∧ dp + (1 : Int) ≤ 2147483647 ∧ ((0 ≤ ne ∧ ne < 14 ∧ 0 ≤ li ∧ li < 14 ∧ (dp + (1 : Int)) = 3) ∧ (∀ (r4 : Int), ((0 ≤ r4 ∧ r4 ≤ 1 ∧ (True))) → ((r4 = 0 → -2147483648 ≤ li + (1 : Int) ∧ li + (1 : Int) ≤ 2147483647 ∧ (jf fw_T (d + 15) 36 91 [(0, .inr (.inl 266)), (1, .inl a), (2, .inl fa), (3, .inl b), (5, .inl dp), (6, .inl us), (7, .inl ne), (8, .inl st_), (9, .inl ma), (10, .inl (li + (1 : Int)))] [] W Post)) ∧ (¬ r4 = 0 → -2147483648 ≤ li + (1 : Int) ∧ li + (1 : Int) ≤ 2147483647 ∧ (jf fw_T (d + 15) 36 91 [(0, .inr (.inl 266)), (1, .inl a), (2, .inl fa), (3, .inl b), (5, .inl dp), (6, .inl us), (7, .inl ne), (8, .inl st_), (9, .inl li), (10, .inl (li + (1 : Int)))] [] W Post))))))))))))))))))) :
    jf fw_T (d + 15) 36 91 [(0, .inr (.inl 266)), (1, .inl a), (2, .inl fa), (3, .inl b), (5, .inl dp), (6, .inl us), (7, .inl ne), (8, .inl st_), (9, .inl ma), (10, .inl li)] [] W Post := fw_ok (n := 38) (ss := [(47, [0, 1, 2, 3, 5, 6, 7]), (91, [0, 1, 2, 3, 5, 6, 7, 8, 9, 10])]) (hv := []) fr_36_ok fv_like_ok (ct_k_isBL2_ok d) hw_

theorem s_k_isBL2_47 {Post : Option fw_V → fw_W → Prop} {d : Nat} {W : fw_W} {a fa b dp us ne : Int}
    (hw_ : (0 ≤ (fw_g W 12 0) → (fw_g W 12 0) ≤ 14 → (((fw_g W 12 0) ≤ ne → 0 ≤ (1 : Int) ∧ (1 : Int) ≤ 1 ∧ Post (some (.inl (1 : Int))) W) ∧ (ne < (fw_g W 12 0) → (0 ≤ a ∧ a < 14 ∧ 0 ≤ ne ∧ ne < 14) ∧ (∀ (r1 : Int), ((-2147483648 ≤ r1 ∧ r1 ≤ 2147483647 ∧ (True))) → ((r1 = 0 → -2147483648 ≤ ne + (1 : Int) ∧ ne + (1 : Int) ≤ 2147483647 ∧ (jf fw_T (d + 15) 36 47 [(0, .inr (.inl 266)), (1, .inl a), (2, .inl fa), (3, .inl b), (5, .inl dp), (6, .inl us), (7, .inl (ne + (1 : Int)))] [] W Post)) ∧ (¬ r1 = 0 → ((¬ ne = fa → jf fw_T (d + 15) 36 91 [(0, .inr (.inl 266)), (1, .inl a), (2, .inl fa), (3, .inl b), (5, .inl dp), (6, .inl us), (7, .inl ne), (8, .inl r1), (9, .inl (-1 : Int)), (10, .inl (0 : Int))] [] W Post) ∧ (ne = fa → -2147483648 ≤ ne + (1 : Int) ∧ ne + (1 : Int) ≤ 2147483647 ∧ (jf fw_T (d + 15) 36 47 [(0, .inr (.inl 266)), (1, .inl a), (2, .inl fa), (3, .inl b), (5, .inl dp), (6, .inl us), (7, .inl (ne + (1 : Int)))] [] W Post)))))))))) :
    jf fw_T (d + 15) 36 47 [(0, .inr (.inl 266)), (1, .inl a), (2, .inl fa), (3, .inl b), (5, .inl dp), (6, .inl us), (7, .inl ne)] [] W Post := fw_ok (n := 21) (ss := [(47, [0, 1, 2, 3, 5, 6, 7]), (91, [0, 1, 2, 3, 5, 6, 7, 8, 9, 10])]) (hv := []) fr_36_ok fv_like_ok (ct_k_isBL2_ok d) hw_

theorem lm_k_isBL2_91 {Post : Option fw_V → fw_W → Prop} {d : Nat} {W : fw_W} {a fa b fb dp : Int} (hpre : 0 ≤ a ∧ a < 14 ∧ 0 ≤ b ∧ b < 14 ∧ dp = 2) (hP : ∀ (v : Int) , (0 ≤ v ∧ v ≤ 1 ∧ (True)) → Post (some (.inl v)) W) (M47 : Int) (h47 : ∀ (us ne : Int), 0 ≤ ne ∧ dp ≤ 14 → ((fw_g W 12 0) - ne) < M47 → jf fw_T (d + 15) 36 47 [(0, .inr (.inl 266)), (1, .inl a), (2, .inl fa), (3, .inl b), (5, .inl dp), (6, .inl us), (7, .inl ne)] [] W Post) : ∀ (m : Nat) (us ne st_ ma li : Int), (14 - li).toNat = m → 0 ≤ li ∧ li ≤ 14 ∧ 0 ≤ ne ∧ ne < (fw_g W 12 0) ∧ (fw_g W 12 0) ≤ 14 ∧ -1 ≤ ma ∧ ma < 14 ∧ dp ≤ 14 → ((fw_g W 12 0) - ne) ≤ M47 → jf fw_T (d + 15) 36 91 [(0, .inr (.inl 266)), (1, .inl a), (2, .inl fa), (3, .inl b), (5, .inl dp), (6, .inl us), (7, .inl ne), (8, .inl st_), (9, .inl ma), (10, .inl li)] [] W Post := by
  intro m
  induction m using Nat.strongRecOn with
  | ind m ih =>
    intro us ne st_ ma li hm hi e47
    refine jf_rng (fun hrg => ?_)
    have hrg : -2147483648 ≤ a ∧ a ≤ 2147483647 ∧ -2147483648 ≤ fa ∧ fa ≤ 2147483647 ∧ -2147483648 ≤ b ∧ b ≤ 2147483647 ∧ -2147483648 ≤ dp ∧ dp ≤ 2147483647 ∧ -2147483648 ≤ us ∧ us ≤ 2147483647 ∧ -2147483648 ≤ ne ∧ ne ≤ 2147483647 ∧ -2147483648 ≤ st_ ∧ st_ ≤ 2147483647 ∧ -2147483648 ≤ ma ∧ ma ≤ 2147483647 ∧ -2147483648 ≤ li ∧ li ≤ 2147483647 ∧ True := hrg
    refine s_k_isBL2_91 ?_
    repeat' (first
      | (exact True.intro)
      | (exact hpre.1)
      | (refine And.intro ?_ ?_)
      | (refine (h47 _ _ ?_ (by omega)); (first | omega | trivial))
      | (refine (ih _ (by omega) _ _ _ _ _ rfl ?_ (by omega)); (first | omega | trivial))
      | (refine hP _ ?_; (refine ⟨by omega, by omega, ?_⟩; (first | trivial | omega)))
      | omega
      | (intro _))
theorem lm_k_isBL2_47 {Post : Option fw_V → fw_W → Prop} {d : Nat} {W : fw_W} {a fa b fb dp : Int} (hpre : 0 ≤ a ∧ a < 14 ∧ 0 ≤ b ∧ b < 14 ∧ dp = 2) (hP : ∀ (v : Int) , (0 ≤ v ∧ v ≤ 1 ∧ (True)) → Post (some (.inl v)) W)  : ∀ (m : Nat) (us ne : Int), ((fw_g W 12 0) - ne).toNat = m → 0 ≤ ne ∧ dp ≤ 14 → jf fw_T (d + 15) 36 47 [(0, .inr (.inl 266)), (1, .inl a), (2, .inl fa), (3, .inl b), (5, .inl dp), (6, .inl us), (7, .inl ne)] [] W Post := by
  intro m
  induction m using Nat.strongRecOn with
  | ind m ih =>
    intro us ne hm hi
    refine jf_rng (fun hrg => ?_)
    have hrg : -2147483648 ≤ a ∧ a ≤ 2147483647 ∧ -2147483648 ≤ fa ∧ fa ≤ 2147483647 ∧ -2147483648 ≤ b ∧ b ≤ 2147483647 ∧ -2147483648 ≤ dp ∧ dp ≤ 2147483647 ∧ -2147483648 ≤ us ∧ us ≤ 2147483647 ∧ -2147483648 ≤ ne ∧ ne ≤ 2147483647 ∧ True := hrg
    refine s_k_isBL2_47 ?_
    repeat' (first
      | (exact True.intro)
      | (exact hpre.1)
      | (refine And.intro ?_ ?_)
      | (refine (ih _ (by omega) _ _ rfl ?_); (first | omega | trivial))
      | (refine (lm_k_isBL2_91 (a := a) (fa := fa) (b := b) (fb := fb) (dp := dp) hpre hP ((fw_g W 12 0) - ne) (fun a0 a1 hi hl => ih _ (by omega) a0 a1 rfl hi) _ _ _ _ _ _ rfl ?_ (by omega)); (first | omega | trivial))
      | (refine hP _ ?_; (refine ⟨by omega, by omega, ?_⟩; (first | trivial | omega)))
      | omega
      | (intro _))
def x_k_isBL2 : fw_X := fun as W Q => match as with
  | [.inr (.inl s_), .inl a, .inl fa, .inl b, .inl fb, .inl dp] => fw_if (Nat.beq s_ 266) ((0 ≤ a ∧ a < 14 ∧ 0 ≤ b ∧ b < 14 ∧ dp = 2) ∧ (∀ (v : Int), (0 ≤ v ∧ v ≤ 1 ∧ (True)) → Q (some (.inl v)) W))
  | _ => False
theorem x_k_isBL2_ok (d : Nat) (as : List fw_V) (W : fw_W) (Q : Option fw_V → fw_W → Prop) (hx : x_k_isBL2 as W Q) : jf fw_T (d + 15) 36 0 (fw_args 0 as) [] W Q := by
  unfold x_k_isBL2 at hx
  split at hx
  · rename_i s_ a fa b fb dp
    obtain ⟨e_, hpre, hQ⟩ := fw_if_ok hx
    have e_ := Nat.eq_of_beq_eq_true e_
    subst e_
    have hP := hQ
    refine s_k_isBL2_0 ?_
    repeat' (first
      | (exact True.intro)
      | (exact hpre.1)
      | (refine And.intro ?_ ?_)
      | (refine (lm_k_isBL2_47 (a := a) (fa := fa) (b := b) (fb := fb) (dp := dp) hpre hP _ _ _ rfl ?_); (first | omega | trivial))
      | (refine (lm_k_isBL2_91 (a := a) (fa := fa) (b := b) (fb := fb) (dp := dp) hpre hP M47 h47 _ _ _ _ _ _ rfl ?_ (by omega)); (first | omega | trivial))
      | (refine hP _ ?_; (refine ⟨by omega, by omega, ?_⟩; (first | trivial | omega)))
      | omega
      | (intro _))
  · exact hx.elim

def ct_k_isBL1 : List (Nat × fw_X) := [(112, x_k_stA), (113, x_k_stB), (37, x_k_isStreetLike), (36, x_k_isBL2)]
theorem ct_k_isBL1_ok (d : Nat) : fw_cok fw_T (d + 15) ct_k_isBL1 := by
  intro q hq as W Q h
  simp only [ct_k_isBL1, List.mem_cons, List.not_mem_nil, or_false] at hq
  rcases hq with rfl | rfl | rfl | rfl
  · exact x_k_stA_ok (d + 14) as W Q h
  · exact x_k_stB_ok (d + 14) as W Q h
  · exact jc_of (x_k_isStreetLike_ok (d + 14) as W Q h)
  · exact jc_of (x_k_isBL2_ok (d + 0) as W Q h)
theorem s_k_isBL1_0 {Post : Option fw_V → fw_W → Prop} {d : Nat} {W : fw_W} {a fa b fb dp : Int}
    (hw_ : (((14 : Int) < dp → 0 ≤ (0 : Int) ∧ (0 : Int) ≤ 1 ∧ Post (some (.inl (0 : Int))) W) ∧ (dp ≤ (14 : Int) → (True) ∧ (∀ (r1 : Int), ((-2147483648 ≤ r1 ∧ r1 ≤ 2147483647 ∧ (True))) → (True) ∧ (∀ (r2 : Int), ((-2147483648 ≤ r2 ∧ r2 ≤ 2147483647 ∧ (True))) → ((r1 = r2 → ((¬ fb = (-1 : Int) → (-2147483648 ≤ (fw_shl (1 : Int) fb) → (fw_shl (1 : Int) fb) ≤ 2147483647 → jf fw_T (d + 16) 36 47 [(0, .inr (.inl 266)), (1, .inl a), (2, .inl fa), (3, .inl b), (5, .inl dp), (6, .inl (fw_shl (1 : Int) fb)), (7, .inl (0 : Int))] [] W Post)) ∧ (fb = (-1 : Int) → jf fw_T (d + 16) 36 47 [(0, .inr (.inl 266)), (1, .inl a), (2, .inl fa), (3, .inl b), (5, .inl dp), (6, .inl (0 : Int)), (7, .inl (0 : Int))] [] W Post))) ∧ (¬ r1 = r2 → 0 ≤ (0 : Int) ∧ (0 : Int) ≤ 1 ∧ Post (some (.inl (0 : Int))) W))))))) :
    jf fw_T (d + 16) 36 0 [(0, .inr (.inl 266)), (1, .inl a), (2, .inl fa), (3, .inl b), (4, .inl fb), (5, .inl dp)] [] W Post := fw_ok (n := 22) (ss := [(47, [0, 1, 2, 3, 5, 6, 7]), (91, [0, 1, 2, 3, 5, 6, 7, 8, 9, 10])]) (hv := []) fr_36_ok fv_like_ok (ct_k_isBL1_ok d) hw_

theorem s_k_isBL1_91 {Post : Option fw_V → fw_W → Prop} {d : Nat} {W : fw_W} {a fa b dp us ne st_ ma li : Int}
    (hw_ : (∀ v1 : Int, 0 ≤ v1 → v1 ≤ 14 → ((v1 ≤ li → ((¬ ma = (-1 : Int) → (-2147483648 ≤ (fw_shl (1 : Int) ma) → (fw_shl (1 : Int) ma) ≤ 2147483647 → (-2147483648 ≤ (fw_or us (fw_shl (1 : Int) ma)) → (fw_or us (fw_shl (1 : Int) ma)) ≤ 2147483647 → -2147483648 ≤ ne + (1 : Int) ∧ ne + (1 : Int) ≤ 2147483647 ∧ (jf fw_T (d + 16) 36 47 [(0, .inr (.inl 266)), (1, .inl a), (2, .inl fa), (3, .inl b), (5, .inl dp), (6, .inl (fw_or us (fw_shl (1 : Int) ma))), (7, .inl (ne + (1 : Int)))] [] W Post)))) ∧ (ma = (-1 : Int) → 0 ≤ (0 : Int) ∧ (0 : Int) ≤ 1 ∧ Post (some (.inl (0 : Int))) W))) ∧ (li < v1 → ((¬ ma = (-1 : Int) → ((¬ ma = (-1 : Int) → (-2147483648 ≤ (fw_shl (1 : Int) ma) → (fw_shl (1 : Int) ma) ≤ 2147483647 → (-2147483648 ≤ (fw_or us (fw_shl (1 : Int) ma)) → (fw_or us (fw_shl (1 : Int) ma)) ≤ 2147483647 → -2147483648 ≤ ne + (1 : Int) ∧ ne + (1 : Int) ≤ 2147483647 ∧ (jf fw_T (d + 16) 36 47 [(0, .inr (.inl 266)), (1, .inl a), (2, .inl fa), (3, .inl b), (5, .inl dp), (6, .inl (fw_or us (fw_shl (1 : Int) ma))), (7, .inl (ne + (1 : Int)))] [] W Post)))) ∧ (ma = (-1 : Int) → 0 ≤ (0 : Int) ∧ (0 : Int) ≤ 1 ∧ Post (some (.inl (0 : Int))) W))) ∧ (ma = (-1 : Int) → (-2147483648 ≤ (fw_shr us li) → (fw_shr us li) ≤ 2147483647 → (-2147483648 ≤ (fw_and (fw_shr us li) (1 : Int)) → (fw_and (fw_shr us li) (1 : Int)) ≤ 2147483647 → ((¬ (fw_and (fw_shr us li) (1 : Int)) = 0 → -2147483648 ≤ li + (1 : Int) ∧ li + (1 : Int) ≤ 2147483647 ∧ (jf fw_T (d + 16) 36 91 [(0, .inr (.inl 266)), (1, .inl a), (2, .inl fa), (3, .inl b), (5, .inl dp), (6, .inl us), (7, .inl ne), (8, .inl st_), (9, .inl ma), (10, .inl (li + (1 : Int)))] [] W Post)) ∧ ((fw_and (fw_shr us li) (1 : Int)) = 0 → (0 ≤ b ∧ b < 14 ∧ 0 ≤ li ∧ li < 14) ∧ (∀ (r2 : Int), ((-2147483648 ≤ r2 ∧ r2 ≤ 2147483647 ∧ (True))) → (True) ∧ (∀ (r3 : Int), ((0 ≤ r3 ∧ r3 ≤ 1 ∧ (True))) → ((r3 = 0 → -2147483648 ≤ li + (1 : Int) ∧ li + (1 : Int) ≤ 2147483647 ∧ (jf fw_T (d + 16) 36 91 [(0, .inr (.inl 266)), (1, .inl a), (2, .inl fa), (3, .inl b), (5, .inl dp), (6, .inl us), (7, .inl ne), (8, .inl st_), (9, .inl ma), (10, .inl (li + (1 : Int)))] [] W Post)) ∧ (¬ r3 = 0 → -2147483648 ≤ dp + (1 : Int) ∧ dp + (1 : Int) ≤ 2147483647 ∧ ((0 ≤ ne ∧ ne < 14 ∧ 0 ≤ li ∧ li < 14 ∧ (dp + (1 : Int)) = 2) ∧ (∀ (r4 : Int), ((0 ≤ r4 ∧ r4 ≤ 1 ∧ (True))) → ((r4 = 0 → -2147483648 ≤ li + (1 : Int) ∧ li + (1 : Int) ≤ 2147483647 ∧ (jf fw_T (d + 16) 36 91 [(0, .inr (.inl 266)), (1, .inl a), (2, .inl fa), (3, .inl b), (5, .inl dp), (6, .inl us), (7, .inl ne), (8, .inl st_), (9, .inl ma), (10, .inl (li + (1 : Int)))] [] W Post)) ∧ (¬ r4 = 0 → -2147483648 ≤ li + (1 : Int) ∧ li + (1 : Int) ≤ 2147483647 ∧ (jf fw_T (d + 16) 36 91 [(0, .inr (.inl 266)), (1, .inl a), (2, .inl fa), (3, .inl b), (5, .inl dp), (6, .inl us), (7, .inl ne), (8, .inl st_), (9, .inl li), (10, .inl (li + (1 : Int)))] [] W Post))))))))))))))))))) :
    jf fw_T (d + 16) 36 91 [(0, .inr (.inl 266)), (1, .inl a), (2, .inl fa), (3, .inl b), (5, .inl dp), (6, .inl us), (7, .inl ne), (8, .inl st_), (9, .inl ma), (10, .inl li)] [] W Post := fw_ok (n := 38) (ss := [(47, [0, 1, 2, 3, 5, 6, 7]), (91, [0, 1, 2, 3, 5, 6, 7, 8, 9, 10])]) (hv := []) fr_36_ok fv_like_ok (ct_k_isBL1_ok d) hw_

theorem s_k_isBL1_47 {Post : Option fw_V → fw_W → Prop} {d : Nat} {W : fw_W} {a fa b dp us ne : Int}
    (hw_ : (0 ≤ (fw_g W 12 0) → (fw_g W 12 0) ≤ 14 → (((fw_g W 12 0) ≤ ne → 0 ≤ (1 : Int) ∧ (1 : Int) ≤ 1 ∧ Post (some (.inl (1 : Int))) W) ∧ (ne < (fw_g W 12 0) → (0 ≤ a ∧ a < 14 ∧ 0 ≤ ne ∧ ne < 14) ∧ (∀ (r1 : Int), ((-2147483648 ≤ r1 ∧ r1 ≤ 2147483647 ∧ (True))) → ((r1 = 0 → -2147483648 ≤ ne + (1 : Int) ∧ ne + (1 : Int) ≤ 2147483647 ∧ (jf fw_T (d + 16) 36 47 [(0, .inr (.inl 266)), (1, .inl a), (2, .inl fa), (3, .inl b), (5, .inl dp), (6, .inl us), (7, .inl (ne + (1 : Int)))] [] W Post)) ∧ (¬ r1 = 0 → ((¬ ne = fa → jf fw_T (d + 16) 36 91 [(0, .inr (.inl 266)), (1, .inl a), (2, .inl fa), (3, .inl b), (5, .inl dp), (6, .inl us), (7, .inl ne), (8, .inl r1), (9, .inl (-1 : Int)), (10, .inl (0 : Int))] [] W Post) ∧ (ne = fa → -2147483648 ≤ ne + (1 : Int) ∧ ne + (1 : Int) ≤ 2147483647 ∧ (jf fw_T (d + 16) 36 47 [(0, .inr (.inl 266)), (1, .inl a), (2, .inl fa), (3, .inl b), (5, .inl dp), (6, .inl us), (7, .inl (ne + (1 : Int)))] [] W Post)))))))))) :
    jf fw_T (d + 16) 36 47 [(0, .inr (.inl 266)), (1, .inl a), (2, .inl fa), (3, .inl b), (5, .inl dp), (6, .inl us), (7, .inl ne)] [] W Post := fw_ok (n := 21) (ss := [(47, [0, 1, 2, 3, 5, 6, 7]), (91, [0, 1, 2, 3, 5, 6, 7, 8, 9, 10])]) (hv := []) fr_36_ok fv_like_ok (ct_k_isBL1_ok d) hw_

theorem lm_k_isBL1_91 {Post : Option fw_V → fw_W → Prop} {d : Nat} {W : fw_W} {a fa b fb dp : Int} (hpre : 0 ≤ a ∧ a < 14 ∧ 0 ≤ b ∧ b < 14 ∧ dp = 1) (hP : ∀ (v : Int) , (0 ≤ v ∧ v ≤ 1 ∧ (True)) → Post (some (.inl v)) W) (M47 : Int) (h47 : ∀ (us ne : Int), 0 ≤ ne ∧ dp ≤ 14 → ((fw_g W 12 0) - ne) < M47 → jf fw_T (d + 16) 36 47 [(0, .inr (.inl 266)), (1, .inl a), (2, .inl fa), (3, .inl b), (5, .inl dp), (6, .inl us), (7, .inl ne)] [] W Post) : ∀ (m : Nat) (us ne st_ ma li : Int), (14 - li).toNat = m → 0 ≤ li ∧ li ≤ 14 ∧ 0 ≤ ne ∧ ne < (fw_g W 12 0) ∧ (fw_g W 12 0) ≤ 14 ∧ -1 ≤ ma ∧ ma < 14 ∧ dp ≤ 14 → ((fw_g W 12 0) - ne) ≤ M47 → jf fw_T (d + 16) 36 91 [(0, .inr (.inl 266)), (1, .inl a), (2, .inl fa), (3, .inl b), (5, .inl dp), (6, .inl us), (7, .inl ne), (8, .inl st_), (9, .inl ma), (10, .inl li)] [] W Post := by
  intro m
  induction m using Nat.strongRecOn with
  | ind m ih =>
    intro us ne st_ ma li hm hi e47
    refine jf_rng (fun hrg => ?_)
    have hrg : -2147483648 ≤ a ∧ a ≤ 2147483647 ∧ -2147483648 ≤ fa ∧ fa ≤ 2147483647 ∧ -2147483648 ≤ b ∧ b ≤ 2147483647 ∧ -2147483648 ≤ dp ∧ dp ≤ 2147483647 ∧ -2147483648 ≤ us ∧ us ≤ 2147483647 ∧ -2147483648 ≤ ne ∧ ne ≤ 2147483647 ∧ -2147483648 ≤ st_ ∧ st_ ≤ 2147483647 ∧ -2147483648 ≤ ma ∧ ma ≤ 2147483647 ∧ -2147483648 ≤ li ∧ li ≤ 2147483647 ∧ True := hrg
    refine s_k_isBL1_91 ?_
    repeat' (first
      | (exact True.intro)
      | (exact hpre.1)
      | (refine And.intro ?_ ?_)
      | (refine (h47 _ _ ?_ (by omega)); (first | omega | trivial))
      | (refine (ih _ (by omega) _ _ _ _ _ rfl ?_ (by omega)); (first | omega | trivial))
      | (refine hP _ ?_; (refine ⟨by omega, by omega, ?_⟩; (first | trivial | omega)))
      | omega
      | (intro _))
theorem lm_k_isBL1_47 {Post : Option fw_V → fw_W → Prop} {d : Nat} {W : fw_W} {a fa b fb dp : Int} (hpre : 0 ≤ a ∧ a < 14 ∧ 0 ≤ b ∧ b < 14 ∧ dp = 1) (hP : ∀ (v : Int) , (0 ≤ v ∧ v ≤ 1 ∧ (True)) → Post (some (.inl v)) W)  : ∀ (m : Nat) (us ne : Int), ((fw_g W 12 0) - ne).toNat = m → 0 ≤ ne ∧ dp ≤ 14 → jf fw_T (d + 16) 36 47 [(0, .inr (.inl 266)), (1, .inl a), (2, .inl fa), (3, .inl b), (5, .inl dp), (6, .inl us), (7, .inl ne)] [] W Post := by
  intro m
  induction m using Nat.strongRecOn with
  | ind m ih =>
    intro us ne hm hi
    refine jf_rng (fun hrg => ?_)
    have hrg : -2147483648 ≤ a ∧ a ≤ 2147483647 ∧ -2147483648 ≤ fa ∧ fa ≤ 2147483647 ∧ -2147483648 ≤ b ∧ b ≤ 2147483647 ∧ -2147483648 ≤ dp ∧ dp ≤ 2147483647 ∧ -2147483648 ≤ us ∧ us ≤ 2147483647 ∧ -2147483648 ≤ ne ∧ ne ≤ 2147483647 ∧ True := hrg
    refine s_k_isBL1_47 ?_
    repeat' (first
      | (exact True.intro)
      | (exact hpre.1)
      | (refine And.intro ?_ ?_)
      | (refine (ih _ (by omega) _ _ rfl ?_); (first | omega | trivial))
      | (refine (lm_k_isBL1_91 (a := a) (fa := fa) (b := b) (fb := fb) (dp := dp) hpre hP ((fw_g W 12 0) - ne) (fun a0 a1 hi hl => ih _ (by omega) a0 a1 rfl hi) _ _ _ _ _ _ rfl ?_ (by omega)); (first | omega | trivial))
      | (refine hP _ ?_; (refine ⟨by omega, by omega, ?_⟩; (first | trivial | omega)))
      | omega
      | (intro _))
def x_k_isBL1 : fw_X := fun as W Q => match as with
  | [.inr (.inl s_), .inl a, .inl fa, .inl b, .inl fb, .inl dp] => fw_if (Nat.beq s_ 266) ((0 ≤ a ∧ a < 14 ∧ 0 ≤ b ∧ b < 14 ∧ dp = 1) ∧ (∀ (v : Int), (0 ≤ v ∧ v ≤ 1 ∧ (True)) → Q (some (.inl v)) W))
  | _ => False
theorem x_k_isBL1_ok (d : Nat) (as : List fw_V) (W : fw_W) (Q : Option fw_V → fw_W → Prop) (hx : x_k_isBL1 as W Q) : jf fw_T (d + 16) 36 0 (fw_args 0 as) [] W Q := by
  unfold x_k_isBL1 at hx
  split at hx
  · rename_i s_ a fa b fb dp
    obtain ⟨e_, hpre, hQ⟩ := fw_if_ok hx
    have e_ := Nat.eq_of_beq_eq_true e_
    subst e_
    have hP := hQ
    refine s_k_isBL1_0 ?_
    repeat' (first
      | (exact True.intro)
      | (exact hpre.1)
      | (refine And.intro ?_ ?_)
      | (refine (lm_k_isBL1_47 (a := a) (fa := fa) (b := b) (fb := fb) (dp := dp) hpre hP _ _ _ rfl ?_); (first | omega | trivial))
      | (refine (lm_k_isBL1_91 (a := a) (fa := fa) (b := b) (fb := fb) (dp := dp) hpre hP M47 h47 _ _ _ _ _ _ rfl ?_ (by omega)); (first | omega | trivial))
      | (refine hP _ ?_; (refine ⟨by omega, by omega, ?_⟩; (first | trivial | omega)))
      | omega
      | (intro _))
  · exact hx.elim

def ct_k_isBL0 : List (Nat × fw_X) := [(112, x_k_stA), (113, x_k_stB), (37, x_k_isStreetLike), (36, x_k_isBL1)]
theorem ct_k_isBL0_ok (d : Nat) : fw_cok fw_T (d + 16) ct_k_isBL0 := by
  intro q hq as W Q h
  simp only [ct_k_isBL0, List.mem_cons, List.not_mem_nil, or_false] at hq
  rcases hq with rfl | rfl | rfl | rfl
  · exact x_k_stA_ok (d + 15) as W Q h
  · exact x_k_stB_ok (d + 15) as W Q h
  · exact jc_of (x_k_isStreetLike_ok (d + 15) as W Q h)
  · exact jc_of (x_k_isBL1_ok (d + 0) as W Q h)
theorem s_k_isBL0_0 {Post : Option fw_V → fw_W → Prop} {d : Nat} {W : fw_W} {a fa b fb dp : Int}
    (hw_ : (((14 : Int) < dp → 0 ≤ (0 : Int) ∧ (0 : Int) ≤ 1 ∧ Post (some (.inl (0 : Int))) W) ∧ (dp ≤ (14 : Int) → (True) ∧ (∀ (r1 : Int), ((-2147483648 ≤ r1 ∧ r1 ≤ 2147483647 ∧ (True))) → (True) ∧ (∀ (r2 : Int), ((-2147483648 ≤ r2 ∧ r2 ≤ 2147483647 ∧ (True))) → ((r1 = r2 → ((¬ fb = (-1 : Int) → (-2147483648 ≤ (fw_shl (1 : Int) fb) → (fw_shl (1 : Int) fb) ≤ 2147483647 → jf fw_T (d + 17) 36 47 [(0, .inr (.inl 266)), (1, .inl a), (2, .inl fa), (3, .inl b), (5, .inl dp), (6, .inl (fw_shl (1 : Int) fb)), (7, .inl (0 : Int))] [] W Post)) ∧ (fb = (-1 : Int) → jf fw_T (d + 17) 36 47 [(0, .inr (.inl 266)), (1, .inl a), (2, .inl fa), (3, .inl b), (5, .inl dp), (6, .inl (0 : Int)), (7, .inl (0 : Int))] [] W Post))) ∧ (¬ r1 = r2 → 0 ≤ (0 : Int) ∧ (0 : Int) ≤ 1 ∧ Post (some (.inl (0 : Int))) W))))))) :
    jf fw_T (d + 17) 36 0 [(0, .inr (.inl 266)), (1, .inl a), (2, .inl fa), (3, .inl b), (4, .inl fb), (5, .inl dp)] [] W Post := fw_ok (n := 22) (ss := [(47, [0, 1, 2, 3, 5, 6, 7]), (91, [0, 1, 2, 3, 5, 6, 7, 8, 9, 10])]) (hv := []) fr_36_ok fv_like_ok (ct_k_isBL0_ok d) hw_

theorem s_k_isBL0_91 {Post : Option fw_V → fw_W → Prop} {d : Nat} {W : fw_W} {a fa b dp us ne st_ ma li : Int}
    (hw_ : (∀ v1 : Int, 0 ≤ v1 → v1 ≤ 14 → ((v1 ≤ li → ((¬ ma = (-1 : Int) → (-2147483648 ≤ (fw_shl (1 : Int) ma) → (fw_shl (1 : Int) ma) ≤ 2147483647 → (-2147483648 ≤ (fw_or us (fw_shl (1 : Int) ma)) → (fw_or us (fw_shl (1 : Int) ma)) ≤ 2147483647 → -2147483648 ≤ ne + (1 : Int) ∧ ne + (1 : Int) ≤ 2147483647 ∧ (jf fw_T (d + 17) 36 47 [(0, .inr (.inl 266)), (1, .inl a), (2, .inl fa), (3, .inl b), (5, .inl dp), (6, .inl (fw_or us (fw_shl (1 : Int) ma))), (7, .inl (ne + (1 : Int)))] [] W Post)))) ∧ (ma = (-1 : Int) → 0 ≤ (0 : Int) ∧ (0 : Int) ≤ 1 ∧ Post (some (.inl (0 : Int))) W))) ∧ (li < v1 → ((¬ ma = (-1 : Int) → ((¬ ma = (-1 : Int) → (-2147483648 ≤ (fw_shl (1 : Int) ma) → (fw_shl (1 : Int) ma) ≤ 2147483647 → (-2147483648 ≤ (fw_or us (fw_shl (1 : Int) ma)) → (fw_or us (fw_shl (1 : Int) ma)) ≤ 2147483647 → -2147483648 ≤ ne + (1 : Int) ∧ ne + (1 : Int) ≤ 2147483647 ∧ (jf fw_T (d + 17) 36 47 [(0, .inr (.inl 266)), (1, .inl a), (2, .inl fa), (3, .inl b), (5, .inl dp), (6, .inl (fw_or us (fw_shl (1 : Int) ma))), (7, .inl (ne + (1 : Int)))] [] W Post)))) ∧ (ma = (-1 : Int) → 0 ≤ (0 : Int) ∧ (0 : Int) ≤ 1 ∧ Post (some (.inl (0 : Int))) W))) ∧ (ma = (-1 : Int) → (-2147483648 ≤ (fw_shr us li) → (fw_shr us li) ≤ 2147483647 → (-2147483648 ≤ (fw_and (fw_shr us li) (1 : Int)) → (fw_and (fw_shr us li) (1 : Int)) ≤ 2147483647 → ((¬ (fw_and (fw_shr us li) (1 : Int)) = 0 → -2147483648 ≤ li + (1 : Int) ∧ li + (1 : Int) ≤ 2147483647 ∧ (jf fw_T (d + 17) 36 91 [(0, .inr (.inl 266)), (1, .inl a), (2, .inl fa), (3, .inl b), (5, .inl dp), (6, .inl us), (7, .inl ne), (8, .inl st_), (9, .inl ma), (10, .inl (li + (1 : Int)))] [] W Post)) ∧ ((fw_and (fw_shr us li) (1 : Int)) = 0 → (0 ≤ b ∧ b < 14 ∧ 0 ≤ li ∧ li < 14) ∧ (∀ (r2 : Int), ((-2147483648 ≤ r2 ∧ r2 ≤ 2147483647 ∧ (True))) → (True) ∧ (∀ (r3 : Int), ((0 ≤ r3 ∧ r3 ≤ 1 ∧ (True))) → ((r3 = 0 → -2147483648 ≤ li + (1 : Int) ∧ li + (1 : Int) ≤ 2147483647 ∧ (jf fw_T (d + 17) 36 91 [(0, .inr (.inl 266)), (1, .inl a), (2, .inl fa), (3, .inl b), (5, .inl dp), (6, .inl us), (7, .inl ne), (8, .inl st_), (9, .inl ma), (10, .inl (li + (1 : Int)))] [] W Post)) ∧ (¬ r3 = 0 → -2147483648 ≤ dp + (1 : Int) ∧ dp + (1 : Int) ≤ 2147483647 ∧ ((0 ≤ ne ∧ ne < 14 ∧ 0 ≤ li ∧ li < 14 ∧ (dp + (1 : Int)) = 1) ∧ (∀ (r4 : Int), ((0 ≤ r4 ∧ r4 ≤ 1 ∧ (True))) → ((r4 = 0 → -2147483648 ≤ li + (1 : Int) ∧ li + (1 : Int) ≤ 2147483647 ∧ (jf fw_T (d + 17) 36 91 [(0, .inr (.inl 266)), (1, .inl a), (2, .inl fa), (3, .inl b), (5, .inl dp), (6, .inl us), (7, .inl ne), (8, .inl st_), (9, .inl ma), (10, .inl (li + (1 : Int)))] [] W Post)) ∧ (¬ r4 = 0 → -2147483648 ≤ li + (1 : Int) ∧ li + (1 : Int) ≤ 2147483647 ∧ (jf fw_T (d + 17) 36 91 [(0, .inr (.inl 266)), (1, .inl a), (2, .inl fa), (3, .inl b), (5, .inl dp), (6, .inl us), (7, .inl ne), (8, .inl st_), (9, .inl li), (10, .inl (li + (1 : Int)))] [] W Post))))))))))))))))))) :
    jf fw_T (d + 17) 36 91 [(0, .inr (.inl 266)), (1, .inl a), (2, .inl fa), (3, .inl b), (5, .inl dp), (6, .inl us), (7, .inl ne), (8, .inl st_), (9, .inl ma), (10, .inl li)] [] W Post := fw_ok (n := 38) (ss := [(47, [0, 1, 2, 3, 5, 6, 7]), (91, [0, 1, 2, 3, 5, 6, 7, 8, 9, 10])]) (hv := []) fr_36_ok fv_like_ok (ct_k_isBL0_ok d) hw_

theorem s_k_isBL0_47 {Post : Option fw_V → fw_W → Prop} {d : Nat} {W : fw_W} {a fa b dp us ne : Int}
    (hw_ : (0 ≤ (fw_g W 12 0) → (fw_g W 12 0) ≤ 14 → (((fw_g W 12 0) ≤ ne → 0 ≤ (1 : Int) ∧ (1 : Int) ≤ 1 ∧ Post (some (.inl (1 : Int))) W) ∧ (ne < (fw_g W 12 0) → (0 ≤ a ∧ a < 14 ∧ 0 ≤ ne ∧ ne < 14) ∧ (∀ (r1 : Int), ((-2147483648 ≤ r1 ∧ r1 ≤ 2147483647 ∧ (True))) → ((r1 = 0 → -2147483648 ≤ ne + (1 : Int) ∧ ne + (1 : Int) ≤ 2147483647 ∧ (jf fw_T (d + 17) 36 47 [(0, .inr (.inl 266)), (1, .inl a), (2, .inl fa), (3, .inl b), (5, .inl dp), (6, .inl us), (7, .inl (ne + (1 : Int)))] [] W Post)) ∧ (¬ r1 = 0 → ((¬ ne = fa → jf fw_T (d + 17) 36 91 [(0, .inr (.inl 266)), (1, .inl a), (2, .inl fa), (3, .inl b), (5, .inl dp), (6, .inl us), (7, .inl ne), (8, .inl r1), (9, .inl (-1 : Int)), (10, .inl (0 : Int))] [] W Post) ∧ (ne = fa → -2147483648 ≤ ne + (1 : Int) ∧ ne + (1 : Int) ≤ 2147483647 ∧ (jf fw_T (d + 17) 36 47 [(0, .inr (.inl 266)), (1, .inl a), (2, .inl fa), (3, .inl b), (5, .inl dp), (6, .inl us), (7, .inl (ne + (1 : Int)))] [] W Post)))))))))) :
    jf fw_T (d + 17) 36 47 [(0, .inr (.inl 266)), (1, .inl a), (2, .inl fa), (3, .inl b), (5, .inl dp), (6, .inl us), (7, .inl ne)] [] W Post := fw_ok (n := 21) (ss := [(47, [0, 1, 2, 3, 5, 6, 7]), (91, [0, 1, 2, 3, 5, 6, 7, 8, 9, 10])]) (hv := []) fr_36_ok fv_like_ok (ct_k_isBL0_ok d) hw_

theorem lm_k_isBL0_91 {Post : Option fw_V → fw_W → Prop} {d : Nat} {W : fw_W} {a fa b fb dp : Int} (hpre : 0 ≤ a ∧ a < 14 ∧ 0 ≤ b ∧ b < 14 ∧ dp = 0) (hP : ∀ (v : Int) , (0 ≤ v ∧ v ≤ 1 ∧ (True)) → Post (some (.inl v)) W) (M47 : Int) (h47 : ∀ (us ne : Int), 0 ≤ ne ∧ dp ≤ 14 → ((fw_g W 12 0) - ne) < M47 → jf fw_T (d + 17) 36 47 [(0, .inr (.inl 266)), (1, .inl a), (2, .inl fa), (3, .inl b), (5, .inl dp), (6, .inl us), (7, .inl ne)] [] W Post) : ∀ (m : Nat) (us ne st_ ma li : Int), (14 - li).toNat = m → 0 ≤ li ∧ li ≤ 14 ∧ 0 ≤ ne ∧ ne < (fw_g W 12 0) ∧ (fw_g W 12 0) ≤ 14 ∧ -1 ≤ ma ∧ ma < 14 ∧ dp ≤ 14 → ((fw_g W 12 0) - ne) ≤ M47 → jf fw_T (d + 17) 36 91 [(0, .inr (.inl 266)), (1, .inl a), (2, .inl fa), (3, .inl b), (5, .inl dp), (6, .inl us), (7, .inl ne), (8, .inl st_), (9, .inl ma), (10, .inl li)] [] W Post := by
  intro m
  induction m using Nat.strongRecOn with
  | ind m ih =>
    intro us ne st_ ma li hm hi e47
    refine jf_rng (fun hrg => ?_)
    have hrg : -2147483648 ≤ a ∧ a ≤ 2147483647 ∧ -2147483648 ≤ fa ∧ fa ≤ 2147483647 ∧ -2147483648 ≤ b ∧ b ≤ 2147483647 ∧ -2147483648 ≤ dp ∧ dp ≤ 2147483647 ∧ -2147483648 ≤ us ∧ us ≤ 2147483647 ∧ -2147483648 ≤ ne ∧ ne ≤ 2147483647 ∧ -2147483648 ≤ st_ ∧ st_ ≤ 2147483647 ∧ -2147483648 ≤ ma ∧ ma ≤ 2147483647 ∧ -2147483648 ≤ li ∧ li ≤ 2147483647 ∧ True := hrg
    refine s_k_isBL0_91 ?_
    repeat' (first
      | (exact True.intro)
      | (exact hpre.1)
      | (refine And.intro ?_ ?_)
      | (refine (h47 _ _ ?_ (by omega)); (first | omega | trivial))
      | (refine (ih _ (by omega) _ _ _ _ _ rfl ?_ (by omega)); (first | omega | trivial))
      | (refine hP _ ?_; (refine ⟨by omega, by omega, ?_⟩; (first | trivial | omega)))
      | omega
      | (intro _))
theorem lm_k_isBL0_47 {Post : Option fw_V → fw_W → Prop} {d : Nat} {W : fw_W} {a fa b fb dp : Int} (hpre : 0 ≤ a ∧ a < 14 ∧ 0 ≤ b ∧ b < 14 ∧ dp = 0) (hP : ∀ (v : Int) , (0 ≤ v ∧ v ≤ 1 ∧ (True)) → Post (some (.inl v)) W)  : ∀ (m : Nat) (us ne : Int), ((fw_g W 12 0) - ne).toNat = m → 0 ≤ ne ∧ dp ≤ 14 → jf fw_T (d + 17) 36 47 [(0, .inr (.inl 266)), (1, .inl a), (2, .inl fa), (3, .inl b), (5, .inl dp), (6, .inl us), (7, .inl ne)] [] W Post := by
  intro m
  induction m using Nat.strongRecOn with
  | ind m ih =>
    intro us ne hm hi
    refine jf_rng (fun hrg => ?_)
    have hrg : -2147483648 ≤ a ∧ a ≤ 2147483647 ∧ -2147483648 ≤ fa ∧ fa ≤ 2147483647 ∧ -2147483648 ≤ b ∧ b ≤ 2147483647 ∧ -2147483648 ≤ dp ∧ dp ≤ 2147483647 ∧ -2147483648 ≤ us ∧ us ≤ 2147483647 ∧ -2147483648 ≤ ne ∧ ne ≤ 2147483647 ∧ True := hrg
    refine s_k_isBL0_47 ?_
    repeat' (first
      | (exact True.intro)
      | (exact hpre.1)
      | (refine And.intro ?_ ?_)
      | (refine (ih _ (by omega) _ _ rfl ?_); (first | omega | trivial))
      | (refine (lm_k_isBL0_91 (a := a) (fa := fa) (b := b) (fb := fb) (dp := dp) hpre hP ((fw_g W 12 0) - ne) (fun a0 a1 hi hl => ih _ (by omega) a0 a1 rfl hi) _ _ _ _ _ _ rfl ?_ (by omega)); (first | omega | trivial))
      | (refine hP _ ?_; (refine ⟨by omega, by omega, ?_⟩; (first | trivial | omega)))
      | omega
      | (intro _))
def x_k_isBL0 : fw_X := fun as W Q => match as with
  | [.inr (.inl s_), .inl a, .inl fa, .inl b, .inl fb, .inl dp] => fw_if (Nat.beq s_ 266) ((0 ≤ a ∧ a < 14 ∧ 0 ≤ b ∧ b < 14 ∧ dp = 0) ∧ (∀ (v : Int), (0 ≤ v ∧ v ≤ 1 ∧ (True)) → Q (some (.inl v)) W))
  | _ => False
theorem x_k_isBL0_ok (d : Nat) (as : List fw_V) (W : fw_W) (Q : Option fw_V → fw_W → Prop) (hx : x_k_isBL0 as W Q) : jf fw_T (d + 17) 36 0 (fw_args 0 as) [] W Q := by
  unfold x_k_isBL0 at hx
  split at hx
  · rename_i s_ a fa b fb dp
    obtain ⟨e_, hpre, hQ⟩ := fw_if_ok hx
    have e_ := Nat.eq_of_beq_eq_true e_
    subst e_
    have hP := hQ
    refine s_k_isBL0_0 ?_
    repeat' (first
      | (exact True.intro)
      | (exact hpre.1)
      | (refine And.intro ?_ ?_)
      | (refine (lm_k_isBL0_47 (a := a) (fa := fa) (b := b) (fb := fb) (dp := dp) hpre hP _ _ _ rfl ?_); (first | omega | trivial))
      | (refine (lm_k_isBL0_91 (a := a) (fa := fa) (b := b) (fb := fb) (dp := dp) hpre hP M47 h47 _ _ _ _ _ _ rfl ?_ (by omega)); (first | omega | trivial))
      | (refine hP _ ?_; (refine ⟨by omega, by omega, ?_⟩; (first | trivial | omega)))
      | omega
      | (intro _))
  · exact hx.elim

