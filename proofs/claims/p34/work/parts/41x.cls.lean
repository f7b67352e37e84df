/-! carts: states of four bits a cart -/
theorem fw_and_c (x y : Int) : fw_and x y = fw_and y x := by
  unfold fw_and
  rw [Int32.and_comm]
theorem fw_and_l {x : Int} (y : Int) (h0 : 0 ≤ x) (h1 : x ≤ 2147483647) : 0 ≤ fw_and x y ∧ fw_and x y ≤ x := by
  rw [fw_and_c]
  exact fw_and_b y h0 h1
theorem fl_sh5 {x : Int} (h0 : 0 ≤ x) (h1 : x ≤ 65535) : 0 ≤ fw_shr x 5 ∧ fw_shr x 5 < 2048 := by
  rw [fw_shr_nat h0 (by omega) (by omega) (by omega)]
  have : x.toNat / 2 ^ (5 : Int).toNat < 2048 := by
    rw [show (2 : Nat) ^ (5 : Int).toNat = 32 from rfl]
    omega
  exact ⟨Int.natCast_nonneg _, Int.ofNat_lt.mpr this⟩
theorem fl_shl {n : Int} {k : Nat} (m : Int) (hk : (k : Int) = m) (k1 : k < 32) (h0 : 0 ≤ n) (h1 : n.toNat * 2 ^ k < 2147483648) : fw_shl n m = ((n.toNat * 2 ^ k : Nat) : Int) := by
  have := fw_shl_nat (n := n.toNat) (k := k) k1 h1
  rw [Int.toNat_of_nonneg h0, hk] at this
  exact this
theorem fl_q {f s : Int} (f0 : 0 ≤ f) (f1 : f ≤ 63) (s0 : 0 ≤ s) (s1 : s ≤ 65535) : 0 ≤ fw_or (fw_shl f 16) s ∧ fw_or (fw_shl f 16) s ≤ 4194303 := by
  have e : fw_shl f 16 = ((f.toNat * 2 ^ 16 : Nat) : Int) := fl_shl (k := 16) 16 rfl (by omega) f0 (by omega)
  have := fw_or_b 22 (by omega) (x := fw_shl f 16) (y := s) (by rw [e]; omega) (by rw [e]; omega) s0 (by omega)
  omega
theorem fl_u {x : Int} (h0 : 0 ≤ x) (h1 : x ≤ 4194303) : 0 ≤ fw_ushr x 16 ∧ fw_ushr x 16 ≤ 63 := by
  obtain ⟨e1, e2⟩ := fw_of h0 (by omega)
  have e3 : ((Int32.ofInt 16).toUInt32 &&& Int32.toUInt32 31) = 16 := by decide
  unfold fw_ushr
  rw [e3]
  have e4 : ((Int32.ofInt x).toUInt32 >>> (16 : UInt32)).toNat = x.toNat / 65536 := by
    rw [UInt32.toNat_shiftRight]
    show (Int32.ofInt x).toBitVec.toNat >>> (16 % 32) = _
    rw [e2, Nat.shiftRight_eq_div_pow]
  have e5 : (((Int32.ofInt x).toUInt32 >>> (16 : UInt32)).toInt32).toInt = ((x.toNat / 65536 : Nat) : Int) := by
    show (((Int32.ofInt x).toUInt32 >>> (16 : UInt32)).toBitVec).toInt = _
    rw [BitVec.toInt_eq_toNat_of_lt]
    · show (((((Int32.ofInt x).toUInt32 >>> (16 : UInt32)).toNat : Nat)) : Int) = _
      rw [e4]
    · show 2 * (((Int32.ofInt x).toUInt32 >>> (16 : UInt32)).toNat) < 2 ^ 32
      rw [e4]
      omega
  rw [e5]
  omega
theorem fl_n {n c s : Int} (n0 : 0 ≤ n) (n1 : n ≤ 13) (c0 : 0 ≤ c) (c1 : c ≤ 3) (hs : s = 4 * c) : 0 ≤ fw_shl n s ∧ fw_shl n s < 65536 := by
  have hc : c = 0 ∨ c = 1 ∨ c = 2 ∨ c = 3 := by omega
  rcases hc with rfl | rfl | rfl | rfl
  · rw [fl_shl (k := 0) s (by omega) (by omega) n0 (by omega)]; omega
  · rw [fl_shl (k := 4) s (by omega) (by omega) n0 (by omega)]; omega
  · rw [fl_shl (k := 8) s (by omega) (by omega) n0 (by omega)]; omega
  · rw [fl_shl (k := 12) s (by omega) (by omega) n0 (by omega)]; omega
theorem fl_or {a b : Int} (a0 : 0 ≤ a) (a1 : a ≤ 65535) (b0 : 0 ≤ b) (b1 : b < 65536) : 0 ≤ fw_or a b ∧ fw_or a b ≤ 65535 := by
  have := fw_or_b 16 (by omega) a0 (by omega : a < 2 ^ 16) b0 (by omega : b < 2 ^ 16)
  omega
theorem fl_f {c n : Int} (c0 : 0 ≤ c) (c1 : c ≤ 3) (n0 : 0 ≤ n) (n1 : n ≤ 13) : 0 ≤ fw_or (fw_shl c 4) n ∧ fw_or (fw_shl c 4) n ≤ 63 := by
  have e : fw_shl c 4 = ((c.toNat * 2 ^ 4 : Nat) : Int) := fl_shl (k := 4) 4 rfl (by omega) c0 (by omega)
  have := fw_or_b 6 (by omega) (x := fw_shl c 4) (y := n) (by rw [e]; omega) (by rw [e]; omega) n0 (by omega)
  omega
theorem fl_o {e z : Int} : 0 ≤ fw_and (fw_and e 65535) z ∧ fw_and (fw_and e 65535) z ≤ 65535 := by
  have a := fw_and_b e (y := 65535) (by omega) (by omega)
  have b := fw_and_l z a.1 (by omega)
  omega

def fv_fleetq : List (Nat × ai_C) := [(16, .inr (.inr (.inr (2, [.inl (0, 4, true), .inr (.inl [12]), .inr (.inl [17]), .inr (.inl [18]), .inr (.inl [19]), .inr (.inl [34]), .inr (.inl [35]), .inr (.inl [36]), .inl (0, 20000, true), .inl (0, 65535, true), .inl (-2147483648, 2147483647, true)])))), (17, .inl (.int, 4, 0, 13, true)), (18, .inl (.int, 4, 0, 13, true)), (34, .inl (.int, 14, 0, 14, true)), (35, .inl (.int, 20000, 0, 4194303, true)), (36, .inl (.int, 2048, -2147483648, 2147483647, true)), (12, .inr (.inr (.inr (9, [.inl (0, 14, true), .inl (0, 999, true), .inr (.inl [13]), .inr (.inl [14]), .inr (.inl [15])])))), (13, .inl (.int, 14, -1, 13, true)), (14, .inl (.int, 14, 0, 99, true)), (15, .inl (.int, 14, 0, 99, true))]
def fg_fleetq_G : fw_G := [(19, 14, 14, 0, 13)]
theorem fv_fleetq_ok : fw_view fw_T fv_fleetq fg_fleetq_G := fw_vb_ok (by decide +kernel)
def fr_27 : fw_P := [(0, 0, 0, 0, 0), (1, 3, 2, 0, 0), (2, 0, 0, 0, 0), (3, 3, 3, 0, 0), (4, 1, 3, 0, 0), (5, 2, 0, 0, 0), (6, 50, 2, 0, 0), (9, 13, 28, 0, 0), (12, 1, 2, 0, 0), (13, 2, 1, 0, 0), (14, 1, 3, 0, 0), (15, 52, 0, 0, 0), (16, 0, 0, 0, 4), (17, 1, 3, 0, 0), (18, 32, 0, 0, 0), (19, 39, 0, 0, 0), (20, 37, 0, 0, 0), (21, 3, 2, 0, 0), (22, 5, 3, 0, 1), (25, 6, 4, 0, 0), (28, 1, 2, 0, 0), (29, 70, 0, 0, 0)]
theorem fr_27_ok : fw_mk 27 4 2 (some .int) fr_27 = true := by decide +kernel
theorem s_k_pack17_0 {Post : Option fw_V → fw_W → Prop} {d : Nat} {W : fw_W}
    (hw_ : jf fw_T (d + 1) 27 4 [(0, .inr (.inl 16)), (1, .inr (.inl 17)), (2, .inl (0 : Int)), (3, .inl (0 : Int))] [] W Post) :
    jf fw_T (d + 1) 27 0 [(0, .inr (.inl 16)), (1, .inr (.inl 17))] [] W Post := fw_ok (n := 5) (ss := [(4, [0, 1, 2, 3])]) (hv := []) fr_27_ok fv_fleetq_ok (fw_c0 _ _) hw_

theorem s_k_pack17_4 {Post : Option fw_V → fw_W → Prop} {d : Nat} {W : fw_W} {st ca : Int}
    (hw_ : (0 ≤ (fw_g W 16 0) → (fw_g W 16 0) ≤ 4 → (((fw_g W 16 0) ≤ ca → (-2147483648 ≤ st → st ≤ 2147483647 → Post (some (.inl st)) W)) ∧ (ca < (fw_g W 16 0) → 0 ≤ ca ∧ ca < 4 ∧ (0 ≤ (fw_g W 17 ca) → (fw_g W 17 ca) ≤ 13 → -2147483648 ≤ (4 : Int) * ca ∧ (4 : Int) * ca ≤ 2147483647 ∧ ((-2147483648 ≤ (fw_shl (fw_g W 17 ca) ((4 : Int) * ca)) → (fw_shl (fw_g W 17 ca) ((4 : Int) * ca)) ≤ 2147483647 → (-2147483648 ≤ (fw_or st (fw_shl (fw_g W 17 ca) ((4 : Int) * ca))) → (fw_or st (fw_shl (fw_g W 17 ca) ((4 : Int) * ca))) ≤ 2147483647 → -2147483648 ≤ ca + (1 : Int) ∧ ca + (1 : Int) ≤ 2147483647 ∧ (jf fw_T (d + 1) 27 4 [(0, .inr (.inl 16)), (1, .inr (.inl 17)), (2, .inl (fw_or st (fw_shl (fw_g W 17 ca) ((4 : Int) * ca)))), (3, .inl (ca + (1 : Int)))] [] W Post))))))))) :
    jf fw_T (d + 1) 27 4 [(0, .inr (.inl 16)), (1, .inr (.inl 17)), (2, .inl st), (3, .inl ca)] [] W Post := fw_ok (n := 17) (ss := [(4, [0, 1, 2, 3])]) (hv := []) fr_27_ok fv_fleetq_ok (fw_c0 _ _) hw_

theorem lm_k_pack17_4 {Post : Option fw_V → fw_W → Prop} {d : Nat} {W : fw_W} (hpre : True) (hP : ∀ (v : Int) , (-2147483648 ≤ v ∧ v ≤ 2147483647 ∧ (0 ≤ v ∧ v ≤ 65535)) → Post (some (.inl v)) W)  : ∀ (m : Nat) (st ca : Int), ((fw_g W 16 0) - ca).toNat = m → 0 ≤ ca ∧ 0 ≤ st ∧ st ≤ 65535 → jf fw_T (d + 1) 27 4 [(0, .inr (.inl 16)), (1, .inr (.inl 17)), (2, .inl st), (3, .inl ca)] [] W Post := by
  intro m
  induction m using Nat.strongRecOn with
  | ind m ih =>
    intro st ca hm hi
    refine jf_rng (fun hrg => ?_)
    have hrg : -2147483648 ≤ st ∧ st ≤ 2147483647 ∧ -2147483648 ≤ ca ∧ ca ≤ 2147483647 ∧ True := hrg
    refine s_k_pack17_4 ?_
    repeat' (first
      | (exact True.intro)
      | (exact hpre.1)
      | (refine And.intro ?_ ?_)
      | (refine (ih _ (by omega) _ _ rfl ?_); (
        have n1 := fl_n (n := (fw_g W 17 ca)) (c := ca) (s := 4 * ca) (by omega) (by omega) (by omega) (by omega) rfl
        have n2 := fl_or (a := st) (b := fw_shl ((fw_g W 17 ca)) (4 * ca)) (by omega) (by omega) n1.1 n1.2
        omega))
      | (refine hP _ ?_; (refine ⟨by omega, by omega, ?_⟩; (omega)))
      | omega
      | (intro _))
def x_k_pack17 : fw_X := fun as W Q => match as with
  | [.inr (.inl s_), .inr (.inl r0_)] => fw_if (Nat.beq s_ 16) (fw_if (Nat.beq r0_ 17) ((True) ∧ (∀ (v : Int), (-2147483648 ≤ v ∧ v ≤ 2147483647 ∧ (0 ≤ v ∧ v ≤ 65535)) → Q (some (.inl v)) W)))
  | _ => False
theorem x_k_pack17_ok (d : Nat) (as : List fw_V) (W : fw_W) (Q : Option fw_V → fw_W → Prop) (hx : x_k_pack17 as W Q) : jf fw_T (d + 1) 27 0 (fw_args 0 as) [] W Q := by
  unfold x_k_pack17 at hx
  split at hx
  · rename_i s_ r0_
    obtain ⟨e0_, hx0⟩ := fw_if_ok hx
    have e0_ := Nat.eq_of_beq_eq_true e0_
    clear hx
    subst e0_
    obtain ⟨e1_, hx1⟩ := fw_if_ok hx0
    have e1_ := Nat.eq_of_beq_eq_true e1_
    clear hx0
    subst e1_
    obtain ⟨hpre, hQ⟩ := hx1
    have hP := hQ
    refine s_k_pack17_0 ?_
    repeat' (first
      | (exact True.intro)
      | (exact hpre.1)
      | (refine And.intro ?_ ?_)
      | (refine (lm_k_pack17_4 hpre hP _ _ _ rfl ?_); (first | omega | trivial))
      | (refine hP _ ?_; (refine ⟨by omega, by omega, ?_⟩; (omega)))
      | omega
      | (intro _))
  · exact hx.elim

theorem s_k_pack18_0 {Post : Option fw_V → fw_W → Prop} {d : Nat} {W : fw_W}
    (hw_ : jf fw_T (d + 1) 27 4 [(0, .inr (.inl 16)), (1, .inr (.inl 18)), (2, .inl (0 : Int)), (3, .inl (0 : Int))] [] W Post) :
    jf fw_T (d + 1) 27 0 [(0, .inr (.inl 16)), (1, .inr (.inl 18))] [] W Post := fw_ok (n := 5) (ss := [(4, [0, 1, 2, 3])]) (hv := []) fr_27_ok fv_fleetq_ok (fw_c0 _ _) hw_

theorem s_k_pack18_4 {Post : Option fw_V → fw_W → Prop} {d : Nat} {W : fw_W} {st ca : Int}
    (hw_ : (0 ≤ (fw_g W 16 0) → (fw_g W 16 0) ≤ 4 → (((fw_g W 16 0) ≤ ca → (-2147483648 ≤ st → st ≤ 2147483647 → Post (some (.inl st)) W)) ∧ (ca < (fw_g W 16 0) → 0 ≤ ca ∧ ca < 4 ∧ (0 ≤ (fw_g W 18 ca) → (fw_g W 18 ca) ≤ 13 → -2147483648 ≤ (4 : Int) * ca ∧ (4 : Int) * ca ≤ 2147483647 ∧ ((-2147483648 ≤ (fw_shl (fw_g W 18 ca) ((4 : Int) * ca)) → (fw_shl (fw_g W 18 ca) ((4 : Int) * ca)) ≤ 2147483647 → (-2147483648 ≤ (fw_or st (fw_shl (fw_g W 18 ca) ((4 : Int) * ca))) → (fw_or st (fw_shl (fw_g W 18 ca) ((4 : Int) * ca))) ≤ 2147483647 → -2147483648 ≤ ca + (1 : Int) ∧ ca + (1 : Int) ≤ 2147483647 ∧ (jf fw_T (d + 1) 27 4 [(0, .inr (.inl 16)), (1, .inr (.inl 18)), (2, .inl (fw_or st (fw_shl (fw_g W 18 ca) ((4 : Int) * ca)))), (3, .inl (ca + (1 : Int)))] [] W Post))))))))) :
    jf fw_T (d + 1) 27 4 [(0, .inr (.inl 16)), (1, .inr (.inl 18)), (2, .inl st), (3, .inl ca)] [] W Post := fw_ok (n := 17) (ss := [(4, [0, 1, 2, 3])]) (hv := []) fr_27_ok fv_fleetq_ok (fw_c0 _ _) hw_

theorem lm_k_pack18_4 {Post : Option fw_V → fw_W → Prop} {d : Nat} {W : fw_W} (hpre : True) (hP : ∀ (v : Int) , (-2147483648 ≤ v ∧ v ≤ 2147483647 ∧ (0 ≤ v ∧ v ≤ 65535)) → Post (some (.inl v)) W)  : ∀ (m : Nat) (st ca : Int), ((fw_g W 16 0) - ca).toNat = m → 0 ≤ ca ∧ 0 ≤ st ∧ st ≤ 65535 → jf fw_T (d + 1) 27 4 [(0, .inr (.inl 16)), (1, .inr (.inl 18)), (2, .inl st), (3, .inl ca)] [] W Post := by
  intro m
  induction m using Nat.strongRecOn with
  | ind m ih =>
    intro st ca hm hi
    refine jf_rng (fun hrg => ?_)
    have hrg : -2147483648 ≤ st ∧ st ≤ 2147483647 ∧ -2147483648 ≤ ca ∧ ca ≤ 2147483647 ∧ True := hrg
    refine s_k_pack18_4 ?_
    repeat' (first
      | (exact True.intro)
      | (exact hpre.1)
      | (refine And.intro ?_ ?_)
      | (refine (ih _ (by omega) _ _ rfl ?_); (
        have n1 := fl_n (n := (fw_g W 18 ca)) (c := ca) (s := 4 * ca) (by omega) (by omega) (by omega) (by omega) rfl
        have n2 := fl_or (a := st) (b := fw_shl ((fw_g W 18 ca)) (4 * ca)) (by omega) (by omega) n1.1 n1.2
        omega))
      | (refine hP _ ?_; (refine ⟨by omega, by omega, ?_⟩; (omega)))
      | omega
      | (intro _))
def x_k_pack18 : fw_X := fun as W Q => match as with
  | [.inr (.inl s_), .inr (.inl r0_)] => fw_if (Nat.beq s_ 16) (fw_if (Nat.beq r0_ 18) ((True) ∧ (∀ (v : Int), (-2147483648 ≤ v ∧ v ≤ 2147483647 ∧ (0 ≤ v ∧ v ≤ 65535)) → Q (some (.inl v)) W)))
  | _ => False
theorem x_k_pack18_ok (d : Nat) (as : List fw_V) (W : fw_W) (Q : Option fw_V → fw_W → Prop) (hx : x_k_pack18 as W Q) : jf fw_T (d + 1) 27 0 (fw_args 0 as) [] W Q := by
  unfold x_k_pack18 at hx
  split at hx
  · rename_i s_ r0_
    obtain ⟨e0_, hx0⟩ := fw_if_ok hx
    have e0_ := Nat.eq_of_beq_eq_true e0_
    clear hx
    subst e0_
    obtain ⟨e1_, hx1⟩ := fw_if_ok hx0
    have e1_ := Nat.eq_of_beq_eq_true e1_
    clear hx0
    subst e1_
    obtain ⟨hpre, hQ⟩ := hx1
    have hP := hQ
    refine s_k_pack18_0 ?_
    repeat' (first
      | (exact True.intro)
      | (exact hpre.1)
      | (refine And.intro ?_ ?_)
      | (refine (lm_k_pack18_4 hpre hP _ _ _ rfl ?_); (first | omega | trivial))
      | (refine hP _ ?_; (refine ⟨by omega, by omega, ?_⟩; (omega)))
      | omega
      | (intro _))
  · exact hx.elim

def x_k_pack : fw_X := fun as W Q => match as with
  | [.inr (.inl s_), .inr (.inl r_)] => fw_if (Nat.beq s_ 16 && (Nat.beq r_ 17 || Nat.beq r_ 18)) ((True) ∧ (∀ (v : Int), (-2147483648 ≤ v ∧ v ≤ 2147483647 ∧ (0 ≤ v ∧ v ≤ 65535)) → Q (some (.inl v)) W))
  | _ => False
theorem x_k_pack_ok (d : Nat) (as : List fw_V) (W : fw_W) (Q : Option fw_V → fw_W → Prop) (hx : x_k_pack as W Q) : jf fw_T (d + 1) 27 0 (fw_args 0 as) [] W Q := by
  unfold x_k_pack at hx
  split at hx
  · rename_i s_ r_
    obtain ⟨e0, hy⟩ := fw_if_ok hx
    clear hx
    rw [Bool.and_eq_true, Bool.or_eq_true] at e0
    have e1 := Nat.eq_of_beq_eq_true e0.1
    subst e1
    rcases e0.2 with e | e
    · have e := Nat.eq_of_beq_eq_true e
      subst e
      exact x_k_pack17_ok d _ W Q hy
    · have e := Nat.eq_of_beq_eq_true e
      subst e
      exact x_k_pack18_ok d _ W Q hy
  · exact hx.elim
def fr_28 : fw_P := [(0, 0, 0, 0, 1), (1, 1, 1, 0, 0), (2, 0, 0, 0, 31), (4, 36, 0, 0, 0), (5, 39, 0, 0, 0), (6, 3, 4, 0, 0), (8, 2, 0, 0, 0), (9, 50, 2, 10, 0), (12, 0, 0, 0, -3), (14, 11, 31, 0, 0), (17, 2, 0, 0, 0), (18, 50, 2, 7, 0), (21, 1, 1, 0, 0), (22, 0, 0, 0, 5), (23, 40, 0, 0, 0), (24, 52, 0, 0, 0), (25, 1, 4, 0, 0), (27, 36, 0, 0, 0), (28, 20, 32, 0, 0), (31, 72, 0, 0, 0), (32, 2, 0, 0, 0), (33, 50, 2, 8, 0), (36, 0, 0, 0, 20000), (39, 11, 49, 0, 0), (42, 2, 0, 0, 0), (43, 0, 0, 0, -2), (45, 51, 2, 10, 0), (48, 72, 0, 0, 0), (49, 2, 0, 0, 0), (50, 50, 2, 7, 0), (53, 1, 1, 0, 0), (54, 0, 0, 0, 5), (55, 40, 0, 0, 0), (56, 44, 0, 0, 0), (57, 52, 0, 0, 0), (58, 1, 4, 0, 0), (60, 37, 0, 0, 0), (61, 53, 0, 0, 0), (62, 2, 0, 0, 0), (63, 50, 2, 6, 0), (66, 2, 0, 0, 0), (67, 50, 2, 8, 0), (70, 1, 2, 0, 0), (71, 0, 0, 0, 16), (73, 39, 0, 0, 0), (74, 1, 1, 0, 0), (75, 37, 0, 0, 0), (76, 53, 0, 0, 0), (77, 2, 0, 0, 0), (78, 43, 0, 0, 0), (79, 50, 2, 8, 0), (82, 0, 0, 0, 1), (83, 30, 0, 0, 0), (84, 51, 2, 8, 0), (87, 1, 1, 0, 0), (88, 2, 0, 0, 0), (89, 50, 2, 9, 0), (92, 11, 100, 0, 0), (95, 2, 0, 0, 0), (96, 1, 3, 0, 0), (97, 51, 2, 10, 0), (100, 72, 0, 0, 0)]
theorem fr_28_ok : fw_mk 28 5 2 none fr_28 = true := by decide +kernel
theorem s_k_comeTo_0 {Post : Option fw_V → fw_W → Prop} {d : Nat} {W : fw_W} {st fi sp : Int}
    (hw_ : (-2147483648 ≤ (fw_and st (31 : Int)) → (fw_and st (31 : Int)) ≤ 2147483647 → (-2147483648 ≤ (fw_shl (1 : Int) (fw_and st (31 : Int))) → (fw_shl (1 : Int) (fw_and st (31 : Int))) ≤ 2147483647 → (-2147483648 ≤ (fw_g W 16 10) → (fw_g W 16 10) ≤ 2147483647 → ((¬ (fw_g W 16 10) = (-3 : Int) → Post none W) ∧ ((fw_g W 16 10) = (-3 : Int) → (-2147483648 ≤ (fw_shr st (5 : Int)) → (fw_shr st (5 : Int)) ≤ 2147483647 → 0 ≤ (fw_shr st (5 : Int)) ∧ (fw_shr st (5 : Int)) < 2048 ∧ (-2147483648 ≤ (fw_g W 36 (fw_shr st (5 : Int))) → (fw_g W 36 (fw_shr st (5 : Int))) ≤ 2147483647 → (-2147483648 ≤ (fw_and (fw_g W 36 (fw_shr st (5 : Int))) (fw_shl (1 : Int) (fw_and st (31 : Int)))) → (fw_and (fw_g W 36 (fw_shr st (5 : Int))) (fw_shl (1 : Int) (fw_and st (31 : Int)))) ≤ 2147483647 → (((fw_and (fw_g W 36 (fw_shr st (5 : Int))) (fw_shl (1 : Int) (fw_and st (31 : Int)))) = 0 → (0 ≤ (fw_g W 16 8) → (fw_g W 16 8) ≤ 20000 → ((¬ (fw_g W 16 8) = (20000 : Int) → (-2147483648 ≤ (fw_shr st (5 : Int)) → (fw_shr st (5 : Int)) ≤ 2147483647 → 0 ≤ (fw_shr st (5 : Int)) ∧ (fw_shr st (5 : Int)) < 2048 ∧ (-2147483648 ≤ (fw_g W 36 (fw_shr st (5 : Int))) → (fw_g W 36 (fw_shr st (5 : Int))) ≤ 2147483647 → (-2147483648 ≤ (fw_or (fw_g W 36 (fw_shr st (5 : Int))) (fw_shl (1 : Int) (fw_and st (31 : Int)))) → (fw_or (fw_g W 36 (fw_shr st (5 : Int))) (fw_shl (1 : Int) (fw_and st (31 : Int)))) ≤ 2147483647 → 0 ≤ (fw_shr st (5 : Int)) ∧ (fw_shr st (5 : Int)) < 2048 ∧ -2147483648 ≤ (fw_or (fw_g W 36 (fw_shr st (5 : Int))) (fw_shl (1 : Int) (fw_and st (31 : Int)))) ∧ (fw_or (fw_g W 36 (fw_shr st (5 : Int))) (fw_shl (1 : Int) (fw_and st (31 : Int)))) ≤ 2147483647 ∧ ((0 ≤ (fw_g W 16 8) → (fw_g W 16 8) ≤ 20000 → (-2147483648 ≤ (fw_shl fi (16 : Int)) → (fw_shl fi (16 : Int)) ≤ 2147483647 → (-2147483648 ≤ (fw_or (fw_shl fi (16 : Int)) st) → (fw_or (fw_shl fi (16 : Int)) st) ≤ 2147483647 → 0 ≤ (fw_g W 16 8) ∧ (fw_g W 16 8) < 20000 ∧ 0 ≤ (fw_or (fw_shl fi (16 : Int)) st) ∧ (fw_or (fw_shl fi (16 : Int)) st) ≤ 4194303 ∧ ((0 ≤ (fw_g W 16 8) → (fw_g W 16 8) ≤ 20000 → -2147483648 ≤ (fw_g W 16 8) + (1 : Int) ∧ (fw_g W 16 8) + (1 : Int) ≤ 2147483647 ∧ (0 ≤ ((fw_g W 16 8) + (1 : Int)) ∧ ((fw_g W 16 8) + (1 : Int)) ≤ 20000 ∧ ((0 ≤ (fw_g W 16 9) → (fw_g W 16 9) ≤ 65535 → ((¬ st = (fw_g W 16 9) → Post none (fw_up (fw_up (fw_up W 36 (fw_shr st (5 : Int)) (fw_or (fw_g W 36 (fw_shr st (5 : Int))) (fw_shl (1 : Int) (fw_and st (31 : Int))))) 35 (fw_g W 16 8) (fw_or (fw_shl fi (16 : Int)) st)) 16 8 ((fw_g W 16 8) + (1 : Int)))) ∧ (st = (fw_g W 16 9) → -2147483648 ≤ sp ∧ sp ≤ 2147483647 ∧ (Post none (fw_up (fw_up (fw_up (fw_up W 36 (fw_shr st (5 : Int)) (fw_or (fw_g W 36 (fw_shr st (5 : Int))) (fw_shl (1 : Int) (fw_and st (31 : Int))))) 35 (fw_g W 16 8) (fw_or (fw_shl fi (16 : Int)) st)) 16 8 ((fw_g W 16 8) + (1 : Int))) 16 10 sp))))))))))))))))) ∧ ((fw_g W 16 8) = (20000 : Int) → -2147483648 ≤ (-2 : Int) ∧ (-2 : Int) ≤ 2147483647 ∧ (Post none (fw_up W 16 10 (-2 : Int))))))) ∧ (¬ (fw_and (fw_g W 36 (fw_shr st (5 : Int))) (fw_shl (1 : Int) (fw_and st (31 : Int)))) = 0 → Post none W))))))))))) :
    jf fw_T (d + 1) 28 0 [(0, .inr (.inl 16)), (1, .inl st), (2, .inl fi), (3, .inl sp)] [] W Post := fw_ok (n := 58) (ss := []) (hv := []) fr_28_ok fv_fleetq_ok (fw_c0 _ _) hw_

def x_k_comeTo : fw_X := fun as W Q => match as with
  | [.inr (.inl s_), .inl st, .inl fi, .inl sp] => fw_if (Nat.beq s_ 16) ((0 ≤ st ∧ st ≤ 65535 ∧ 0 ≤ fi ∧ fi ≤ 63) ∧ (∀ (f : fw_W), (True) → Q none (fw_put [35, 36] 0 [16008, 16010] W f)))
  | _ => False
theorem x_k_comeTo_ok (d : Nat) (as : List fw_V) (W : fw_W) (Q : Option fw_V → fw_W → Prop) (hx : x_k_comeTo as W Q) : jf fw_T (d + 1) 28 0 (fw_args 0 as) [] W Q := by
  unfold x_k_comeTo at hx
  split at hx
  · rename_i s_ st fi sp
    obtain ⟨e_, hpre, hQ⟩ := fw_if_ok hx
    have e_ := Nat.eq_of_beq_eq_true e_
    subst e_
    have hP : ∀ (W2 : fw_W), fw_sm [35, 36] 0 [16008, 16010] W W2 → _ → Q none W2 := fun W2 hs hr => fw_sm_use (Q := fun Z => Q none Z) hs (hQ W2 hr)
    refine jf_rng (fun hrg => ?_)
    have hrg : -2147483648 ≤ st ∧ st ≤ 2147483647 ∧ -2147483648 ≤ fi ∧ fi ≤ 2147483647 ∧ -2147483648 ≤ sp ∧ sp ≤ 2147483647 ∧ True := hrg
    refine s_k_comeTo_0 ?_
    have q1 := fl_sh5 (x := st) (by omega) (by omega)
    have q2 := fl_q (f := fi) (s := st) (by omega) (by omega) (by omega) (by omega)
    repeat' (first
      | (exact True.intro)
      | (exact hpre.1)
      | (refine And.intro ?_ ?_)
      | (refine hP _ (by repeat (first | exact fw_sm_refl | exact fw_sm_put0 | refine fw_sm_arr ?_ rfl | refine fw_sm_up ?_ rfl | refine fw_sm_put ?_ rfl | refine fw_sm_cp ?_ rfl)) ?_; (first | trivial | omega))
      | (simp (disch := first | decide | omega) only [fg_same, fg_lit, fg_in, fg_fin, fg_out, fg_fout, fg_up, true_and, and_true, true_or, or_true, true_implies]; omega)
      | omega
      | (intro _))
  · exact hx.elim

def fr_29 : fw_P := [(0, 0, 0, 0, 0), (1, 3, 3, 0, 0), (2, 0, 0, 0, 0), (3, 3, 4, 0, 0), (5, 1, 4, 0, 0), (7, 2, 0, 0, 0), (8, 50, 2, 0, 0), (11, 13, 34, 0, 0), (14, 1, 3, 0, 0), (15, 0, 0, 0, 1), (16, 1, 1, 0, 0), (17, 0, 0, 0, 4), (18, 1, 4, 0, 0), (20, 32, 0, 0, 0), (21, 40, 0, 0, 0), (22, 0, 0, 0, 15), (24, 36, 0, 0, 0), (25, 39, 0, 0, 0), (26, 37, 0, 0, 0), (27, 3, 3, 0, 0), (28, 5, 4, 0, 1), (31, 6, 5, 0, 0), (34, 0, 0, 0, 0), (35, 3, 4, 0, 0), (37, 1, 4, 0, 0), (39, 2, 0, 0, 0), (40, 50, 2, 0, 0), (43, 13, 166, 0, 0), (46, 0, 0, 0, 4), (47, 1, 4, 0, 0), (49, 32, 0, 0, 0), (50, 3, 5, 0, 0), (52, 1, 1, 0, 0), (53, 1, 5, 0, 0), (55, 40, 0, 0, 0), (56, 0, 0, 0, 15), (58, 36, 0, 0, 0), (59, 3, 6, 0, 0), (61, 1, 1, 0, 0), (62, 0, 0, 0, 65535), (64, 36, 0, 0, 0), (65, 0, 0, 0, 15), (67, 1, 5, 0, 0), (69, 39, 0, 0, 0), (70, 0, 0, 0, -1), (71, 38, 0, 0, 0), (72, 36, 0, 0, 0), (73, 3, 7, 0, 0), (75, 0, 0, 0, 0), (76, 3, 8, 0, 0), (78, 1, 6, 0, 0), (80, 0, 0, 0, 14), (82, 13, 160, 0, 0), (85, 1, 8, 0, 0), (87, 2, 0, 0, 0), (88, 50, 2, 5, 0), (91, 1, 6, 0, 0), (93, 52, 0, 0, 0), (94, 13, 160, 0, 0), (97, 2, 0, 0, 0), (98, 50, 2, 4, 0), (101, 1, 6, 0, 0), (103, 56, 0, 0, 0), (104, 1, 8, 0, 0), (106, 52, 0, 0, 0), (107, 3, 9, 0, 0), (109, 1, 3, 0, 0), (110, 1, 9, 0, 0), (112, 40, 0, 0, 0), (113, 0, 0, 0, 1), (114, 36, 0, 0, 0), (115, 21, 154, 0, 0), (118, 1, 2, 0, 0), (119, 0, 0, 0, 1), (120, 11, 133, 0, 0), (123, 1, 4, 0, 0), (125, 0, 0, 0, 4), (126, 39, 0, 0, 0), (127, 1, 9, 0, 0), (129, 37, 0, 0, 0), (130, 6, 137, 0, 0), (133, 1, 1, 0, 0), (134, 0, 0, 0, 16), (136, 41, 0, 0, 0), (137, 3, 10, 0, 0), (139, 2, 0, 0, 0), (140, 1, 7, 0, 0), (142, 1, 9, 0, 0), (144, 1, 5, 0, 0), (146, 39, 0, 0, 0), (147, 37, 0, 0, 0), (148, 1, 10, 0, 0), (150, 1, 2, 0, 0), (151, 64, 28, 3, 502), (154, 5, 8, 0, 1), (157, 6, 78, 0, 0), (160, 5, 4, 0, 1), (163, 6, 37, 0, 0), (166, 72, 0, 0, 0)]
theorem fr_29_ok : fw_mk 29 11 2 none fr_29 = true := by decide +kernel
def ct_k_goOn : List (Nat × fw_X) := [(28, x_k_comeTo)]
theorem ct_k_goOn_ok (d : Nat) : fw_cok fw_T (d + 1) ct_k_goOn := by
  intro q hq as W Q h
  simp only [ct_k_goOn, List.mem_cons, List.not_mem_nil, or_false] at hq
  rcases hq with rfl
  · exact jc_of (x_k_comeTo_ok (d + 0) as W Q h)
theorem s_k_goOn_0 {Post : Option fw_V → fw_W → Prop} {d : Nat} {W : fw_W} {en sp : Int}
    (hw_ : jf fw_T (d + 2) 29 5 [(0, .inr (.inl 16)), (1, .inl en), (2, .inl sp), (3, .inl (0 : Int)), (4, .inl (0 : Int))] [] W Post) :
    jf fw_T (d + 2) 29 0 [(0, .inr (.inl 16)), (1, .inl en), (2, .inl sp)] [] W Post := fw_ok (n := 5) (ss := [(5, [0, 1, 2, 3, 4]), (37, [0, 1, 2, 3, 4]), (78, [0, 1, 2, 3, 4, 5, 6, 7, 8])]) (hv := []) fr_29_ok fv_fleetq_ok (ct_k_goOn_ok d) hw_

theorem s_k_goOn_78 {Post : Option fw_V → fw_W → Prop} {d : Nat} {W : fw_W} {en sp ta_ ca sf ho ot i : Int} {f : fw_W}
    (hw_ : (((14 : Int) ≤ ho → -2147483648 ≤ ca + (1 : Int) ∧ ca + (1 : Int) ≤ 2147483647 ∧ (jf fw_T (d + 2) 29 37 [(0, .inr (.inl 16)), (1, .inl en), (2, .inl sp), (3, .inl ta_), (4, .inl (ca + (1 : Int)))] [] (fw_put [35, 36] 0 [16008, 16010] W f) Post)) ∧ (ho < (14 : Int) → 0 ≤ ho ∧ ho < 14 ∧ (0 ≤ (fw_g W 34 ho) → (fw_g W 34 ho) ≤ 14 → (((fw_g W 34 ho) ≤ i → -2147483648 ≤ ca + (1 : Int) ∧ ca + (1 : Int) ≤ 2147483647 ∧ (jf fw_T (d + 2) 29 37 [(0, .inr (.inl 16)), (1, .inl en), (2, .inl sp), (3, .inl ta_), (4, .inl (ca + (1 : Int)))] [] (fw_put [35, 36] 0 [16008, 16010] W f) Post)) ∧ (i < (fw_g W 34 ho) → 0 ≤ ho ∧ ho < 14 ∧ (0 ≤ i ∧ i < 14 ∧ (∀ v1 : Int, 0 ≤ v1 → v1 ≤ 13 → (-2147483648 ≤ (fw_shr ta_ v1) → (fw_shr ta_ v1) ≤ 2147483647 → (-2147483648 ≤ (fw_and (fw_shr ta_ v1) (1 : Int)) → (fw_and (fw_shr ta_ v1) (1 : Int)) ≤ 2147483647 → ((¬ (fw_and (fw_shr ta_ v1) (1 : Int)) = 0 → -2147483648 ≤ i + (1 : Int) ∧ i + (1 : Int) ≤ 2147483647 ∧ (jf fw_T (d + 2) 29 78 [(0, .inr (.inl 16)), (1, .inl en), (2, .inl sp), (3, .inl ta_), (4, .inl ca), (5, .inl sf), (6, .inl ho), (7, .inl ot), (8, .inl (i + (1 : Int)))] [] (fw_put [35, 36] 0 [16008, 16010] W f) Post)) ∧ ((fw_and (fw_shr ta_ v1) (1 : Int)) = 0 → ((¬ sp = (1 : Int) → (-2147483648 ≤ (fw_ushr en (16 : Int)) → (fw_ushr en (16 : Int)) ≤ 2147483647 → (-2147483648 ≤ (fw_shl v1 sf) → (fw_shl v1 sf) ≤ 2147483647 → (-2147483648 ≤ (fw_or ot (fw_shl v1 sf)) → (fw_or ot (fw_shl v1 sf)) ≤ 2147483647 → (0 ≤ (fw_or ot (fw_shl v1 sf)) ∧ (fw_or ot (fw_shl v1 sf)) ≤ 65535 ∧ 0 ≤ (fw_ushr en (16 : Int)) ∧ (fw_ushr en (16 : Int)) ≤ 63) ∧ (∀ (f2 : fw_W), ((True)) → -2147483648 ≤ i + (1 : Int) ∧ i + (1 : Int) ≤ 2147483647 ∧ (jf fw_T (d + 2) 29 78 [(0, .inr (.inl 16)), (1, .inl en), (2, .inl sp), (3, .inl ta_), (4, .inl ca), (5, .inl sf), (6, .inl ho), (7, .inl ot), (8, .inl (i + (1 : Int)))] [] (fw_put [35, 36] 0 [16008, 16010] (fw_put [35, 36] 0 [16008, 16010] W f) f2) Post)))))) ∧ (sp = (1 : Int) → (-2147483648 ≤ (fw_shl ca (4 : Int)) → (fw_shl ca (4 : Int)) ≤ 2147483647 → (-2147483648 ≤ (fw_or (fw_shl ca (4 : Int)) v1) → (fw_or (fw_shl ca (4 : Int)) v1) ≤ 2147483647 → (-2147483648 ≤ (fw_shl v1 sf) → (fw_shl v1 sf) ≤ 2147483647 → (-2147483648 ≤ (fw_or ot (fw_shl v1 sf)) → (fw_or ot (fw_shl v1 sf)) ≤ 2147483647 → (0 ≤ (fw_or ot (fw_shl v1 sf)) ∧ (fw_or ot (fw_shl v1 sf)) ≤ 65535 ∧ 0 ≤ (fw_or (fw_shl ca (4 : Int)) v1) ∧ (fw_or (fw_shl ca (4 : Int)) v1) ≤ 63) ∧ (∀ (f3 : fw_W), ((True)) → -2147483648 ≤ i + (1 : Int) ∧ i + (1 : Int) ≤ 2147483647 ∧ (jf fw_T (d + 2) 29 78 [(0, .inr (.inl 16)), (1, .inl en), (2, .inl sp), (3, .inl ta_), (4, .inl ca), (5, .inl sf), (6, .inl ho), (7, .inl ot), (8, .inl (i + (1 : Int)))] [] (fw_put [35, 36] 0 [16008, 16010] (fw_put [35, 36] 0 [16008, 16010] W f) f3) Post)))))))))))))))))))) :
    jf fw_T (d + 2) 29 78 [(0, .inr (.inl 16)), (1, .inl en), (2, .inl sp), (3, .inl ta_), (4, .inl ca), (5, .inl sf), (6, .inl ho), (7, .inl ot), (8, .inl i)] [] (fw_put [35, 36] 0 [16008, 16010] W f) Post := fw_ok (n := 44) (ss := [(5, [0, 1, 2, 3, 4]), (37, [0, 1, 2, 3, 4]), (78, [0, 1, 2, 3, 4, 5, 6, 7, 8])]) (hv := []) fr_29_ok fv_fleetq_ok (ct_k_goOn_ok d) hw_

theorem s_k_goOn_37 {Post : Option fw_V → fw_W → Prop} {d : Nat} {W : fw_W} {en sp ta_ ca : Int} {f : fw_W}
    (hw_ : (0 ≤ (fw_g W 16 0) → (fw_g W 16 0) ≤ 4 → (((fw_g W 16 0) ≤ ca → Post none (fw_put [35, 36] 0 [16008, 16010] W f)) ∧ (ca < (fw_g W 16 0) → -2147483648 ≤ (4 : Int) * ca ∧ (4 : Int) * ca ≤ 2147483647 ∧ ((-2147483648 ≤ (fw_shr en ((4 : Int) * ca)) → (fw_shr en ((4 : Int) * ca)) ≤ 2147483647 → (-2147483648 ≤ (fw_and (fw_shr en ((4 : Int) * ca)) (15 : Int)) → (fw_and (fw_shr en ((4 : Int) * ca)) (15 : Int)) ≤ 2147483647 → (-2147483648 ≤ (fw_and en (65535 : Int)) → (fw_and en (65535 : Int)) ≤ 2147483647 → (-2147483648 ≤ (fw_shl (15 : Int) ((4 : Int) * ca)) → (fw_shl (15 : Int) ((4 : Int) * ca)) ≤ 2147483647 → (-2147483648 ≤ (fw_xor (fw_shl (15 : Int) ((4 : Int) * ca)) (-1 : Int)) → (fw_xor (fw_shl (15 : Int) ((4 : Int) * ca)) (-1 : Int)) ≤ 2147483647 → (-2147483648 ≤ (fw_and (fw_and en (65535 : Int)) (fw_xor (fw_shl (15 : Int) ((4 : Int) * ca)) (-1 : Int))) → (fw_and (fw_and en (65535 : Int)) (fw_xor (fw_shl (15 : Int) ((4 : Int) * ca)) (-1 : Int))) ≤ 2147483647 → jf fw_T (d + 2) 29 78 [(0, .inr (.inl 16)), (1, .inl en), (2, .inl sp), (3, .inl ta_), (4, .inl ca), (5, .inl ((4 : Int) * ca)), (6, .inl (fw_and (fw_shr en ((4 : Int) * ca)) (15 : Int))), (7, .inl (fw_and (fw_and en (65535 : Int)) (fw_xor (fw_shl (15 : Int) ((4 : Int) * ca)) (-1 : Int)))), (8, .inl (0 : Int))] [] (fw_put [35, 36] 0 [16008, 16010] W f) Post))))))))))) :
    jf fw_T (d + 2) 29 37 [(0, .inr (.inl 16)), (1, .inl en), (2, .inl sp), (3, .inl ta_), (4, .inl ca)] [] (fw_put [35, 36] 0 [16008, 16010] W f) Post := fw_ok (n := 27) (ss := [(5, [0, 1, 2, 3, 4]), (37, [0, 1, 2, 3, 4]), (78, [0, 1, 2, 3, 4, 5, 6, 7, 8])]) (hv := []) fr_29_ok fv_fleetq_ok (ct_k_goOn_ok d) hw_

theorem s_k_goOn_5 {Post : Option fw_V → fw_W → Prop} {d : Nat} {W : fw_W} {en sp ta_ ca : Int} {f : fw_W}
    (hw_ : (0 ≤ (fw_g W 16 0) → (fw_g W 16 0) ≤ 4 → (((fw_g W 16 0) ≤ ca → jf fw_T (d + 2) 29 37 [(0, .inr (.inl 16)), (1, .inl en), (2, .inl sp), (3, .inl ta_), (4, .inl (0 : Int))] [] (fw_put [35, 36] 0 [16008, 16010] W f) Post) ∧ (ca < (fw_g W 16 0) → -2147483648 ≤ (4 : Int) * ca ∧ (4 : Int) * ca ≤ 2147483647 ∧ ((-2147483648 ≤ (fw_shr en ((4 : Int) * ca)) → (fw_shr en ((4 : Int) * ca)) ≤ 2147483647 → (-2147483648 ≤ (fw_and (fw_shr en ((4 : Int) * ca)) (15 : Int)) → (fw_and (fw_shr en ((4 : Int) * ca)) (15 : Int)) ≤ 2147483647 → (-2147483648 ≤ (fw_shl (1 : Int) (fw_and (fw_shr en ((4 : Int) * ca)) (15 : Int))) → (fw_shl (1 : Int) (fw_and (fw_shr en ((4 : Int) * ca)) (15 : Int))) ≤ 2147483647 → (-2147483648 ≤ (fw_or ta_ (fw_shl (1 : Int) (fw_and (fw_shr en ((4 : Int) * ca)) (15 : Int)))) → (fw_or ta_ (fw_shl (1 : Int) (fw_and (fw_shr en ((4 : Int) * ca)) (15 : Int)))) ≤ 2147483647 → -2147483648 ≤ ca + (1 : Int) ∧ ca + (1 : Int) ≤ 2147483647 ∧ (jf fw_T (d + 2) 29 5 [(0, .inr (.inl 16)), (1, .inl en), (2, .inl sp), (3, .inl (fw_or ta_ (fw_shl (1 : Int) (fw_and (fw_shr en ((4 : Int) * ca)) (15 : Int))))), (4, .inl (ca + (1 : Int)))] [] (fw_put [35, 36] 0 [16008, 16010] W f) Post)))))))))) :
    jf fw_T (d + 2) 29 5 [(0, .inr (.inl 16)), (1, .inl en), (2, .inl sp), (3, .inl ta_), (4, .inl ca)] [] (fw_put [35, 36] 0 [16008, 16010] W f) Post := fw_ok (n := 19) (ss := [(5, [0, 1, 2, 3, 4]), (37, [0, 1, 2, 3, 4]), (78, [0, 1, 2, 3, 4, 5, 6, 7, 8])]) (hv := []) fr_29_ok fv_fleetq_ok (ct_k_goOn_ok d) hw_

theorem lm_k_goOn_78 {Post : Option fw_V → fw_W → Prop} {d : Nat} {W : fw_W} {en sp : Int} (hpre : 0 ≤ en ∧ en ≤ 4194303) (hP : ∀ (W2 : fw_W), fw_sm [35, 36] 0 [16008, 16010] W W2 → (True) → Post none W2) (M37 : Int) (h37 : ∀ (ta_ ca : Int) (f : fw_W), 0 ≤ ca → ((fw_g W 16 0) - ca) < M37 → jf fw_T (d + 2) 29 37 [(0, .inr (.inl 16)), (1, .inl en), (2, .inl sp), (3, .inl ta_), (4, .inl ca)] [] (fw_put [35, 36] 0 [16008, 16010] W f) Post) : ∀ (m : Nat) (ta_ ca sf ho ot i : Int) (f : fw_W), (14 - i).toNat = m → 0 ≤ ca ∧ ca < (fw_g W 16 0) ∧ (fw_g W 16 0) ≤ 4 ∧ sf = 4 * ca ∧ 0 ≤ ho ∧ ho ≤ 15 ∧ 0 ≤ ot ∧ ot ≤ 65535 ∧ 0 ≤ i → ((fw_g W 16 0) - ca) ≤ M37 → jf fw_T (d + 2) 29 78 [(0, .inr (.inl 16)), (1, .inl en), (2, .inl sp), (3, .inl ta_), (4, .inl ca), (5, .inl sf), (6, .inl ho), (7, .inl ot), (8, .inl i)] [] (fw_put [35, 36] 0 [16008, 16010] W f) Post := by
  intro m
  induction m using Nat.strongRecOn with
  | ind m ih =>
    intro ta_ ca sf ho ot i f hm hi e37
    refine jf_rng (fun hrg => ?_)
    have hrg : -2147483648 ≤ en ∧ en ≤ 2147483647 ∧ -2147483648 ≤ sp ∧ sp ≤ 2147483647 ∧ -2147483648 ≤ ta_ ∧ ta_ ≤ 2147483647 ∧ -2147483648 ≤ ca ∧ ca ≤ 2147483647 ∧ -2147483648 ≤ sf ∧ sf ≤ 2147483647 ∧ -2147483648 ≤ ho ∧ ho ≤ 2147483647 ∧ -2147483648 ≤ ot ∧ ot ≤ 2147483647 ∧ -2147483648 ≤ i ∧ i ≤ 2147483647 ∧ True := hrg
    refine s_k_goOn_78 ?_
    have q3 := fl_u hpre.1 hpre.2
    have q4 := fun (n : Int) (n0 : 0 ≤ n) (n1 : n ≤ 13) => fl_f (c := ca) (n := n) (by omega) (by omega) n0 n1
    have q5 := fun (n : Int) (n0 : 0 ≤ n) (n1 : n ≤ 13) => fl_n (n := n) (c := ca) (s := sf) n0 n1 (by omega) (by omega) (by omega)
    have q6 := fun (n : Int) (n0 : 0 ≤ n) (n1 : n ≤ 13) => fl_or (a := ot) (b := fw_shl n sf) (by omega) (by omega) (q5 n n0 n1).1 (q5 n n0 n1).2
    repeat' (first
      | (exact True.intro)
      | (exact hpre.1)
      | (refine And.intro ?_ ?_)
      | (refine (h37 _ _ _ ?_ (by omega)); (omega))
      | (refine jf_put (S := [35, 36]) (o := 0) (F := [16008, 16010]) (W := W) (by repeat (first | exact fw_sm_refl | exact fw_sm_put0 | refine fw_sm_arr ?_ rfl | refine fw_sm_up ?_ rfl | refine fw_sm_put ?_ rfl | refine fw_sm_cp ?_ rfl)) (h37 _ _ _ ?_ (by omega)); (omega))
      | (refine (ih _ (by omega) _ _ _ _ _ _ _ rfl ?_ (by omega)); (first | omega | trivial | (simp (config := { decide := true }) only [fg_in, fg_fin, fg_out, fg_fout, fg_up, fg_same, true_and, and_true] <;> omega)))
      | (refine jf_put (S := [35, 36]) (o := 0) (F := [16008, 16010]) (W := W) (by repeat (first | exact fw_sm_refl | exact fw_sm_put0 | refine fw_sm_arr ?_ rfl | refine fw_sm_up ?_ rfl | refine fw_sm_put ?_ rfl | refine fw_sm_cp ?_ rfl)) (ih _ (by omega) _ _ _ _ _ _ _ rfl ?_ (by omega)); (first | omega | trivial | (simp (config := { decide := true }) only [fg_in, fg_fin, fg_out, fg_fout, fg_up, fg_same, true_and, and_true] <;> omega)))
      | (refine hP _ (by repeat (first | exact fw_sm_refl | exact fw_sm_put0 | refine fw_sm_arr ?_ rfl | refine fw_sm_up ?_ rfl | refine fw_sm_put ?_ rfl | refine fw_sm_cp ?_ rfl)) ?_; (first | trivial | omega))
      | (refine (q6 _ (by omega) (by omega)).1)
      | (refine (q6 _ (by omega) (by omega)).2)
      | (refine (q4 _ (by omega) (by omega)).1)
      | (refine (q4 _ (by omega) (by omega)).2)
      | omega
      | (intro _))
theorem lm_k_goOn_37 {Post : Option fw_V → fw_W → Prop} {d : Nat} {W : fw_W} {en sp : Int} (hpre : 0 ≤ en ∧ en ≤ 4194303) (hP : ∀ (W2 : fw_W), fw_sm [35, 36] 0 [16008, 16010] W W2 → (True) → Post none W2)  : ∀ (m : Nat) (ta_ ca : Int) (f : fw_W), ((fw_g W 16 0) - ca).toNat = m → 0 ≤ ca → jf fw_T (d + 2) 29 37 [(0, .inr (.inl 16)), (1, .inl en), (2, .inl sp), (3, .inl ta_), (4, .inl ca)] [] (fw_put [35, 36] 0 [16008, 16010] W f) Post := by
  intro m
  induction m using Nat.strongRecOn with
  | ind m ih =>
    intro ta_ ca f hm hi
    refine jf_rng (fun hrg => ?_)
    have hrg : -2147483648 ≤ en ∧ en ≤ 2147483647 ∧ -2147483648 ≤ sp ∧ sp ≤ 2147483647 ∧ -2147483648 ≤ ta_ ∧ ta_ ≤ 2147483647 ∧ -2147483648 ≤ ca ∧ ca ≤ 2147483647 ∧ True := hrg
    refine s_k_goOn_37 ?_
    repeat' (first
      | (exact True.intro)
      | (exact hpre.1)
      | (refine And.intro ?_ ?_)
      | (refine (ih _ (by omega) _ _ _ rfl ?_); (first | omega | trivial | (simp (config := { decide := true }) only [fg_in, fg_fin, fg_out, fg_fout, fg_up, fg_same, true_and, and_true] <;> omega)))
      | (refine jf_put (S := [35, 36]) (o := 0) (F := [16008, 16010]) (W := W) (by repeat (first | exact fw_sm_refl | exact fw_sm_put0 | refine fw_sm_arr ?_ rfl | refine fw_sm_up ?_ rfl | refine fw_sm_put ?_ rfl | refine fw_sm_cp ?_ rfl)) (ih _ (by omega) _ _ _ rfl ?_); (first | omega | trivial | (simp (config := { decide := true }) only [fg_in, fg_fin, fg_out, fg_fout, fg_up, fg_same, true_and, and_true] <;> omega)))
      | (refine (lm_k_goOn_78 (en := en) (sp := sp) hpre hP ((fw_g W 16 0) - ca) (fun a0 a1 af hi hl => ih _ (by omega) a0 a1 af rfl hi) _ _ _ _ _ _ _ _ rfl ?_ (by omega)); (
        have o1 := fl_o (e := en) (z := fw_xor (fw_shl 15 (4 * ca)) (-1))
        have o2 := fw_and_b (fw_shr en (4 * ca)) (y := 15) (by omega) (by omega)
        refine ⟨by omega, by omega, by omega, rfl, by omega, by omega, by omega, by omega, by omega⟩))
      | (refine jf_put (S := [35, 36]) (o := 0) (F := [16008, 16010]) (W := W) (by repeat (first | exact fw_sm_refl | exact fw_sm_put0 | refine fw_sm_arr ?_ rfl | refine fw_sm_up ?_ rfl | refine fw_sm_put ?_ rfl | refine fw_sm_cp ?_ rfl)) (lm_k_goOn_78 (en := en) (sp := sp) hpre hP ((fw_g W 16 0) - ca) (fun a0 a1 af hi hl => ih _ (by omega) a0 a1 af rfl hi) _ _ _ _ _ _ _ _ rfl ?_ (by omega)); (
        have o1 := fl_o (e := en) (z := fw_xor (fw_shl 15 (4 * ca)) (-1))
        have o2 := fw_and_b (fw_shr en (4 * ca)) (y := 15) (by omega) (by omega)
        refine ⟨by omega, by omega, by omega, rfl, by omega, by omega, by omega, by omega, by omega⟩))
      | (refine hP _ (by repeat (first | exact fw_sm_refl | exact fw_sm_put0 | refine fw_sm_arr ?_ rfl | refine fw_sm_up ?_ rfl | refine fw_sm_put ?_ rfl | refine fw_sm_cp ?_ rfl)) ?_; (first | trivial | omega))
      | omega
      | (intro _))
theorem lm_k_goOn_5 {Post : Option fw_V → fw_W → Prop} {d : Nat} {W : fw_W} {en sp : Int} (hpre : 0 ≤ en ∧ en ≤ 4194303) (hP : ∀ (W2 : fw_W), fw_sm [35, 36] 0 [16008, 16010] W W2 → (True) → Post none W2)  : ∀ (m : Nat) (ta_ ca : Int) (f : fw_W), ((fw_g W 16 0) - ca).toNat = m → 0 ≤ ca → jf fw_T (d + 2) 29 5 [(0, .inr (.inl 16)), (1, .inl en), (2, .inl sp), (3, .inl ta_), (4, .inl ca)] [] (fw_put [35, 36] 0 [16008, 16010] W f) Post := by
  intro m
  induction m using Nat.strongRecOn with
  | ind m ih =>
    intro ta_ ca f hm hi
    refine jf_rng (fun hrg => ?_)
    have hrg : -2147483648 ≤ en ∧ en ≤ 2147483647 ∧ -2147483648 ≤ sp ∧ sp ≤ 2147483647 ∧ -2147483648 ≤ ta_ ∧ ta_ ≤ 2147483647 ∧ -2147483648 ≤ ca ∧ ca ≤ 2147483647 ∧ True := hrg
    refine s_k_goOn_5 ?_
    repeat' (first
      | (exact True.intro)
      | (exact hpre.1)
      | (refine And.intro ?_ ?_)
      | (refine (ih _ (by omega) _ _ _ rfl ?_); (first | omega | trivial | (simp (config := { decide := true }) only [fg_in, fg_fin, fg_out, fg_fout, fg_up, fg_same, true_and, and_true] <;> omega)))
      | (refine jf_put (S := [35, 36]) (o := 0) (F := [16008, 16010]) (W := W) (by repeat (first | exact fw_sm_refl | exact fw_sm_put0 | refine fw_sm_arr ?_ rfl | refine fw_sm_up ?_ rfl | refine fw_sm_put ?_ rfl | refine fw_sm_cp ?_ rfl)) (ih _ (by omega) _ _ _ rfl ?_); (first | omega | trivial | (simp (config := { decide := true }) only [fg_in, fg_fin, fg_out, fg_fout, fg_up, fg_same, true_and, and_true] <;> omega)))
      | (refine (lm_k_goOn_37 (en := en) (sp := sp) hpre hP _ _ _ _ rfl ?_); (omega))
      | (refine jf_put (S := [35, 36]) (o := 0) (F := [16008, 16010]) (W := W) (by repeat (first | exact fw_sm_refl | exact fw_sm_put0 | refine fw_sm_arr ?_ rfl | refine fw_sm_up ?_ rfl | refine fw_sm_put ?_ rfl | refine fw_sm_cp ?_ rfl)) (lm_k_goOn_37 (en := en) (sp := sp) hpre hP _ _ _ _ rfl ?_); (omega))
      | (refine hP _ (by repeat (first | exact fw_sm_refl | exact fw_sm_put0 | refine fw_sm_arr ?_ rfl | refine fw_sm_up ?_ rfl | refine fw_sm_put ?_ rfl | refine fw_sm_cp ?_ rfl)) ?_; (first | trivial | omega))
      | omega
      | (intro _))
def x_k_goOn : fw_X := fun as W Q => match as with
  | [.inr (.inl s_), .inl en, .inl sp] => fw_if (Nat.beq s_ 16) ((0 ≤ en ∧ en ≤ 4194303) ∧ (∀ (f : fw_W), (True) → Q none (fw_put [35, 36] 0 [16008, 16010] W f)))
  | _ => False
theorem x_k_goOn_ok (d : Nat) (as : List fw_V) (W : fw_W) (Q : Option fw_V → fw_W → Prop) (hx : x_k_goOn as W Q) : jf fw_T (d + 2) 29 0 (fw_args 0 as) [] W Q := by
  unfold x_k_goOn at hx
  split at hx
  · rename_i s_ en sp
    obtain ⟨e_, hpre, hQ⟩ := fw_if_ok hx
    have e_ := Nat.eq_of_beq_eq_true e_
    subst e_
    have hP : ∀ (W2 : fw_W), fw_sm [35, 36] 0 [16008, 16010] W W2 → _ → Q none W2 := fun W2 hs hr => fw_sm_use (Q := fun Z => Q none Z) hs (hQ W2 hr)
    refine jf_rng (fun hrg => ?_)
    have hrg : -2147483648 ≤ en ∧ en ≤ 2147483647 ∧ -2147483648 ≤ sp ∧ sp ≤ 2147483647 ∧ True := hrg
    refine s_k_goOn_0 ?_
    repeat' (first
      | (exact True.intro)
      | (exact hpre.1)
      | (refine And.intro ?_ ?_)
      | (refine jf_put (S := [35, 36]) (o := 0) (F := [16008, 16010]) (W := W) (by repeat (first | exact fw_sm_refl | exact fw_sm_put0 | refine fw_sm_arr ?_ rfl | refine fw_sm_up ?_ rfl | refine fw_sm_put ?_ rfl | refine fw_sm_cp ?_ rfl)) (lm_k_goOn_5 (en := en) (sp := sp) hpre hP _ _ _ _ rfl ?_); (first | omega | trivial | (simp (config := { decide := true }) only [fg_in, fg_fin, fg_out, fg_fout, fg_up, fg_same, true_and, and_true] <;> omega)))
      | (refine jf_put (S := [35, 36]) (o := 0) (F := [16008, 16010]) (W := W) (by repeat (first | exact fw_sm_refl | exact fw_sm_put0 | refine fw_sm_arr ?_ rfl | refine fw_sm_up ?_ rfl | refine fw_sm_put ?_ rfl | refine fw_sm_cp ?_ rfl)) (lm_k_goOn_37 (en := en) (sp := sp) hpre hP _ _ _ _ rfl ?_); (first | omega | trivial | (simp (config := { decide := true }) only [fg_in, fg_fin, fg_out, fg_fout, fg_up, fg_same, true_and, and_true] <;> omega)))
      | (refine jf_put (S := [35, 36]) (o := 0) (F := [16008, 16010]) (W := W) (by repeat (first | exact fw_sm_refl | exact fw_sm_put0 | refine fw_sm_arr ?_ rfl | refine fw_sm_up ?_ rfl | refine fw_sm_put ?_ rfl | refine fw_sm_cp ?_ rfl)) (lm_k_goOn_78 (en := en) (sp := sp) hpre hP M37 h37 _ _ _ _ _ _ _ _ rfl ?_ (by omega)); (first | omega | trivial | (simp (config := { decide := true }) only [fg_in, fg_fin, fg_out, fg_fout, fg_up, fg_same, true_and, and_true] <;> omega)))
      | (refine hP _ (by repeat (first | exact fw_sm_refl | exact fw_sm_put0 | refine fw_sm_arr ?_ rfl | refine fw_sm_up ?_ rfl | refine fw_sm_put ?_ rfl | refine fw_sm_cp ?_ rfl)) ?_; (first | trivial | omega))
      | omega
      | (intro _))
  · exact hx.elim

def fr_25 : fw_P := [(0, 2, 0, 0, 0), (1, 64, 26, 0, 302), (4, 0, 0, 0, 0), (5, 3, 1, 0, 0), (6, 1, 1, 0, 0), (7, 2, 0, 0, 0), (8, 50, 2, 7, 0), (11, 57, 0, 0, 0), (12, 13, 28, 0, 0), (15, 2, 0, 0, 0), (16, 50, 2, 7, 0), (19, 1, 1, 0, 0), (20, 0, 0, 0, 0), (21, 53, 0, 0, 0), (22, 5, 1, 0, 1), (25, 6, 6, 0, 0), (28, 2, 0, 0, 0), (29, 0, 0, 0, 0), (30, 51, 2, 8, 0), (33, 2, 0, 0, 0), (34, 2, 0, 0, 0), (35, 2, 0, 0, 0), (36, 50, 2, 3, 0), (39, 64, 27, 1, 402), (42, 51, 2, 9, 0), (45, 2, 0, 0, 0), (46, 2, 0, 0, 0), (47, 2, 0, 0, 0), (48, 50, 2, 2, 0), (51, 64, 27, 1, 402), (54, 0, 0, 0, 0), (55, 0, 0, 0, 0), (56, 64, 28, 3, 502), (59, 0, 0, 0, 1), (60, 3, 1, 0, 0), (61, 2, 0, 0, 0), (62, 50, 2, 8, 0), (65, 3, 2, 0, 0), (66, 0, 0, 0, 0), (67, 3, 3, 0, 0), (68, 1, 3, 0, 0), (69, 0, 0, 0, 20000), (72, 13, 122, 0, 0), (75, 1, 3, 0, 0), (76, 2, 0, 0, 0), (77, 50, 2, 8, 0), (80, 13, 122, 0, 0), (83, 2, 0, 0, 0), (84, 50, 2, 10, 0), (87, 0, 0, 0, -3), (89, 11, 122, 0, 0), (92, 1, 3, 0, 0), (93, 1, 2, 0, 0), (94, 11, 105, 0, 0), (97, 5, 1, 0, 1), (100, 2, 0, 0, 0), (101, 50, 2, 8, 0), (104, 3, 2, 0, 0), (105, 2, 0, 0, 0), (106, 2, 0, 0, 0), (107, 50, 2, 6, 0), (110, 1, 3, 0, 0), (111, 52, 0, 0, 0), (112, 1, 1, 0, 0), (113, 64, 29, 2, 1102), (116, 5, 3, 0, 1), (119, 6, 68, 0, 0), (122, 2, 0, 0, 0), (123, 50, 2, 10, 0), (126, 0, 0, 0, -3), (128, 11, 136, 0, 0), (131, 2, 0, 0, 0), (132, 0, 0, 0, -1), (133, 51, 2, 10, 0), (136, 72, 0, 0, 0)]
theorem fr_25_ok : fw_mk 25 4 2 none fr_25 = true := by decide +kernel
def ct_k_search : List (Nat × fw_X) := [(26, x_k_listNeighbours), (27, x_k_pack), (28, x_k_comeTo), (29, x_k_goOn)]
theorem ct_k_search_ok (d : Nat) : fw_cok fw_T (d + 2) ct_k_search := by
  intro q hq as W Q h
  simp only [ct_k_search, List.mem_cons, List.not_mem_nil, or_false] at hq
  rcases hq with rfl | rfl | rfl | rfl
  · exact jc_of (x_k_listNeighbours_ok (d + 0) as W Q h)
  · exact jc_of (x_k_pack_ok (d + 1) as W Q h)
  · exact jc_of (x_k_comeTo_ok (d + 1) as W Q h)
  · exact jc_of (x_k_goOn_ok (d + 0) as W Q h)
theorem s_k_search_0 {Post : Option fw_V → fw_W → Prop} {d : Nat} {W : fw_W}
    (hw_ : (0 ≤ (fw_g W 12 0) ∧ (fw_g W 12 0) ≤ 14) ∧ (∀ (f1 : fw_W), ((True)) → jf fw_T (d + 3) 25 6 [(0, .inr (.inl 16)), (1, .inl (0 : Int))] [] (fw_put [34] 0 [] W f1) Post)) :
    jf fw_T (d + 3) 25 0 [(0, .inr (.inl 16))] [] W Post := fw_ok (n := 5) (ss := [(6, [0, 1]), (68, [0, 1, 2, 3])]) (hv := [97]) fr_25_ok fv_fleetq_ok (ct_k_search_ok d) hw_

theorem s_k_search_68 {Post : Option fw_V → fw_W → Prop} {d : Nat} {W : fw_W} {sp se i : Int} {f : fw_W}
    (hw_ : (((20000 : Int) ≤ i → (-2147483648 ≤ (fw_g f 16 10) → (fw_g f 16 10) ≤ 2147483647 → ((¬ (fw_g f 16 10) = (-3 : Int) → Post none (fw_put [34, 35, 36] 0 [16008, 16010, 16009] W f)) ∧ ((fw_g f 16 10) = (-3 : Int) → -2147483648 ≤ (-1 : Int) ∧ (-1 : Int) ≤ 2147483647 ∧ (Post none (fw_up (fw_put [34, 35, 36] 0 [16008, 16010, 16009] W f) 16 10 (-1 : Int))))))) ∧ (i < (20000 : Int) → (0 ≤ (fw_g f 16 8) → (fw_g f 16 8) ≤ 20000 → (((fw_g f 16 8) ≤ i → (-2147483648 ≤ (fw_g f 16 10) → (fw_g f 16 10) ≤ 2147483647 → ((¬ (fw_g f 16 10) = (-3 : Int) → Post none (fw_put [34, 35, 36] 0 [16008, 16010, 16009] W f)) ∧ ((fw_g f 16 10) = (-3 : Int) → -2147483648 ≤ (-1 : Int) ∧ (-1 : Int) ≤ 2147483647 ∧ (Post none (fw_up (fw_put [34, 35, 36] 0 [16008, 16010, 16009] W f) 16 10 (-1 : Int))))))) ∧ (i < (fw_g f 16 8) → (-2147483648 ≤ (fw_g f 16 10) → (fw_g f 16 10) ≤ 2147483647 → ((¬ (fw_g f 16 10) = (-3 : Int) → (-2147483648 ≤ (fw_g f 16 10) → (fw_g f 16 10) ≤ 2147483647 → ((¬ (fw_g f 16 10) = (-3 : Int) → Post none (fw_put [34, 35, 36] 0 [16008, 16010, 16009] W f)) ∧ ((fw_g f 16 10) = (-3 : Int) → -2147483648 ≤ (-1 : Int) ∧ (-1 : Int) ≤ 2147483647 ∧ (Post none (fw_up (fw_put [34, 35, 36] 0 [16008, 16010, 16009] W f) 16 10 (-1 : Int))))))) ∧ ((fw_g f 16 10) = (-3 : Int) → ((¬ i = se → 0 ≤ i ∧ i < 20000 ∧ (0 ≤ (fw_g f 35 i) → (fw_g f 35 i) ≤ 4194303 → (0 ≤ (fw_g f 35 i) ∧ (fw_g f 35 i) ≤ 4194303) ∧ (∀ (f1 : fw_W), ((True)) → -2147483648 ≤ i + (1 : Int) ∧ i + (1 : Int) ≤ 2147483647 ∧ (jf fw_T (d + 3) 25 68 [(0, .inr (.inl 16)), (1, .inl sp), (2, .inl se), (3, .inl (i + (1 : Int)))] [] (fw_put [35, 36] 0 [16008, 16010] (fw_put [34, 35, 36] 0 [16008, 16010, 16009] W f) f1) Post)))) ∧ (i = se → ∀ v2 : Int, -2147483648 ≤ v2 → v2 ≤ 2147483647 → (0 ≤ (fw_g f 16 8) → (fw_g f 16 8) ≤ 20000 → 0 ≤ i ∧ i < 20000 ∧ (0 ≤ (fw_g f 35 i) → (fw_g f 35 i) ≤ 4194303 → (0 ≤ (fw_g f 35 i) ∧ (fw_g f 35 i) ≤ 4194303) ∧ (∀ (f3 : fw_W), ((True)) → -2147483648 ≤ i + (1 : Int) ∧ i + (1 : Int) ≤ 2147483647 ∧ (jf fw_T (d + 3) 25 68 [(0, .inr (.inl 16)), (1, .inl v2), (2, .inl (fw_g f 16 8)), (3, .inl (i + (1 : Int)))] [] (fw_put [35, 36] 0 [16008, 16010] (fw_put [34, 35, 36] 0 [16008, 16010, 16009] W f) f3) Post))))))))))))))) :
    jf fw_T (d + 3) 25 68 [(0, .inr (.inl 16)), (1, .inl sp), (2, .inl se), (3, .inl i)] [] (fw_put [34, 35, 36] 0 [16008, 16010, 16009] W f) Post := fw_ok (n := 28) (ss := [(6, [0, 1]), (68, [0, 1, 2, 3])]) (hv := [97]) fr_25_ok fv_fleetq_ok (ct_k_search_ok d) hw_

theorem s_k_search_6 {Post : Option fw_V → fw_W → Prop} {d : Nat} {W : fw_W} {sp : Int} {f : fw_W}
    (hw_ : (((2048 : Int) ≤ sp → 0 ≤ (0 : Int) ∧ (0 : Int) ≤ 20000 ∧ ((True) ∧ (∀ (r1 : Int), ((-2147483648 ≤ r1 ∧ r1 ≤ 2147483647 ∧ (0 ≤ r1 ∧ r1 ≤ 65535))) → 0 ≤ r1 ∧ r1 ≤ 65535 ∧ ((True) ∧ (∀ (r2 : Int), ((-2147483648 ≤ r2 ∧ r2 ≤ 2147483647 ∧ (0 ≤ r2 ∧ r2 ≤ 65535))) → (0 ≤ r2 ∧ r2 ≤ 65535 ∧ 0 ≤ (0 : Int) ∧ (0 : Int) ≤ 63) ∧ (∀ (f3 : fw_W), ((True)) → (0 ≤ (fw_g f3 16 8) → (fw_g f3 16 8) ≤ 20000 → jf fw_T (d + 3) 25 68 [(0, .inr (.inl 16)), (1, .inl (1 : Int)), (2, .inl (fw_g f3 16 8)), (3, .inl (0 : Int))] [] (fw_put [35, 36] 0 [16008, 16010] (fw_up (fw_up (fw_put [34, 35, 36] 0 [16008, 16010, 16009] W f) 16 8 (0 : Int)) 16 9 r1) f3) Post))))))) ∧ (sp < (2048 : Int) → 0 ≤ sp ∧ sp < 2048 ∧ -2147483648 ≤ (0 : Int) ∧ (0 : Int) ≤ 2147483647 ∧ (-2147483648 ≤ sp + (1 : Int) ∧ sp + (1 : Int) ≤ 2147483647 ∧ (jf fw_T (d + 3) 25 6 [(0, .inr (.inl 16)), (1, .inl (sp + (1 : Int)))] [] (fw_up (fw_put [34, 35, 36] 0 [16008, 16010, 16009] W f) 36 sp (0 : Int)) Post))))) :
    jf fw_T (d + 3) 25 6 [(0, .inr (.inl 16)), (1, .inl sp)] [] (fw_put [34, 35, 36] 0 [16008, 16010, 16009] W f) Post := fw_ok (n := 30) (ss := [(6, [0, 1]), (68, [0, 1, 2, 3])]) (hv := [97]) fr_25_ok fv_fleetq_ok (ct_k_search_ok d) hw_

theorem lm_k_search_68 {Post : Option fw_V → fw_W → Prop} {d : Nat} {W : fw_W} (hpre : 0 ≤ (fw_g W 12 0) ∧ (fw_g W 12 0) ≤ 14) (hP : ∀ (W2 : fw_W), fw_sm [34, 35, 36] 0 [16008, 16010, 16009] W W2 → (True) → Post none W2)  : ∀ (m : Nat) (sp se i : Int) (f : fw_W), (20000 - i).toNat = m → 0 ≤ i → jf fw_T (d + 3) 25 68 [(0, .inr (.inl 16)), (1, .inl sp), (2, .inl se), (3, .inl i)] [] (fw_put [34, 35, 36] 0 [16008, 16010, 16009] W f) Post := by
  intro m
  induction m using Nat.strongRecOn with
  | ind m ih =>
    intro sp se i f hm hi
    refine jf_rng (fun hrg => ?_)
    have hrg : -2147483648 ≤ sp ∧ sp ≤ 2147483647 ∧ -2147483648 ≤ se ∧ se ≤ 2147483647 ∧ -2147483648 ≤ i ∧ i ≤ 2147483647 ∧ True := hrg
    refine s_k_search_68 ?_
    repeat' (first
      | (exact True.intro)
      | (exact hpre.1)
      | (refine And.intro ?_ ?_)
      | (refine (ih _ (by omega) _ _ _ _ rfl ?_); (first | omega | trivial | (simp (config := { decide := true }) only [fg_in, fg_fin, fg_out, fg_fout, fg_up, fg_same, true_and, and_true] <;> omega)))
      | (refine jf_put (S := [34, 35, 36]) (o := 0) (F := [16008, 16010, 16009]) (W := W) (by repeat (first | exact fw_sm_refl | exact fw_sm_put0 | refine fw_sm_arr ?_ rfl | refine fw_sm_up ?_ rfl | refine fw_sm_put ?_ rfl | refine fw_sm_cp ?_ rfl)) (ih _ (by omega) _ _ _ _ rfl ?_); (first | omega | trivial | (simp (config := { decide := true }) only [fg_in, fg_fin, fg_out, fg_fout, fg_up, fg_same, true_and, and_true] <;> omega)))
      | (refine hP _ (by repeat (first | exact fw_sm_refl | exact fw_sm_put0 | refine fw_sm_arr ?_ rfl | refine fw_sm_up ?_ rfl | refine fw_sm_put ?_ rfl | refine fw_sm_cp ?_ rfl)) ?_; (first | trivial | omega))
      | omega
      | (intro _))
theorem lm_k_search_6 {Post : Option fw_V → fw_W → Prop} {d : Nat} {W : fw_W} (hpre : 0 ≤ (fw_g W 12 0) ∧ (fw_g W 12 0) ≤ 14) (hP : ∀ (W2 : fw_W), fw_sm [34, 35, 36] 0 [16008, 16010, 16009] W W2 → (True) → Post none W2)  : ∀ (m : Nat) (sp : Int) (f : fw_W), (2048 - sp).toNat = m → 0 ≤ sp → jf fw_T (d + 3) 25 6 [(0, .inr (.inl 16)), (1, .inl sp)] [] (fw_put [34, 35, 36] 0 [16008, 16010, 16009] W f) Post := by
  intro m
  induction m using Nat.strongRecOn with
  | ind m ih =>
    intro sp f hm hi
    refine jf_rng (fun hrg => ?_)
    have hrg : -2147483648 ≤ sp ∧ sp ≤ 2147483647 ∧ True := hrg
    refine s_k_search_6 ?_
    repeat' (first
      | (exact True.intro)
      | (exact hpre.1)
      | (refine And.intro ?_ ?_)
      | (refine (ih _ (by omega) _ _ rfl ?_); (first | omega | trivial | (simp (config := { decide := true }) only [fg_in, fg_fin, fg_out, fg_fout, fg_up, fg_same, true_and, and_true] <;> omega)))
      | (refine jf_put (S := [34, 35, 36]) (o := 0) (F := [16008, 16010, 16009]) (W := W) (by repeat (first | exact fw_sm_refl | exact fw_sm_put0 | refine fw_sm_arr ?_ rfl | refine fw_sm_up ?_ rfl | refine fw_sm_put ?_ rfl | refine fw_sm_cp ?_ rfl)) (ih _ (by omega) _ _ rfl ?_); (first | omega | trivial | (simp (config := { decide := true }) only [fg_in, fg_fin, fg_out, fg_fout, fg_up, fg_same, true_and, and_true] <;> omega)))
      | (refine (lm_k_search_68 hpre hP _ _ _ _ _ rfl ?_); (first | omega | trivial | (simp (config := { decide := true }) only [fg_in, fg_fin, fg_out, fg_fout, fg_up, fg_same, true_and, and_true] <;> omega)))
      | (refine jf_put (S := [34, 35, 36]) (o := 0) (F := [16008, 16010, 16009]) (W := W) (by repeat (first | exact fw_sm_refl | exact fw_sm_put0 | refine fw_sm_arr ?_ rfl | refine fw_sm_up ?_ rfl | refine fw_sm_put ?_ rfl | refine fw_sm_cp ?_ rfl)) (lm_k_search_68 hpre hP _ _ _ _ _ rfl ?_); (first | omega | trivial | (simp (config := { decide := true }) only [fg_in, fg_fin, fg_out, fg_fout, fg_up, fg_same, true_and, and_true] <;> omega)))
      | (refine hP _ (by repeat (first | exact fw_sm_refl | exact fw_sm_put0 | refine fw_sm_arr ?_ rfl | refine fw_sm_up ?_ rfl | refine fw_sm_put ?_ rfl | refine fw_sm_cp ?_ rfl)) ?_; (first | trivial | omega))
      | omega
      | (intro _))
def x_k_search : fw_X := fun as W Q => match as with
  | [.inr (.inl s_)] => fw_if (Nat.beq s_ 16) ((0 ≤ (fw_g W 12 0) ∧ (fw_g W 12 0) ≤ 14) ∧ (∀ (f : fw_W), (True) → Q none (fw_put [34, 35, 36] 0 [16008, 16010, 16009] W f)))
  | _ => False
theorem x_k_search_ok (d : Nat) (as : List fw_V) (W : fw_W) (Q : Option fw_V → fw_W → Prop) (hx : x_k_search as W Q) : jf fw_T (d + 3) 25 0 (fw_args 0 as) [] W Q := by
  unfold x_k_search at hx
  split at hx
  · rename_i s_
    obtain ⟨e_, hpre, hQ⟩ := fw_if_ok hx
    have e_ := Nat.eq_of_beq_eq_true e_
    subst e_
    have hP : ∀ (W2 : fw_W), fw_sm [34, 35, 36] 0 [16008, 16010, 16009] W W2 → _ → Q none W2 := fun W2 hs hr => fw_sm_use (Q := fun Z => Q none Z) hs (hQ W2 hr)
    refine s_k_search_0 ?_
    repeat' (first
      | (exact True.intro)
      | (exact hpre.1)
      | (refine And.intro ?_ ?_)
      | (refine jf_put (S := [34, 35, 36]) (o := 0) (F := [16008, 16010, 16009]) (W := W) (by repeat (first | exact fw_sm_refl | exact fw_sm_put0 | refine fw_sm_arr ?_ rfl | refine fw_sm_up ?_ rfl | refine fw_sm_put ?_ rfl | refine fw_sm_cp ?_ rfl)) (lm_k_search_6 hpre hP _ _ _ rfl ?_); (first | omega | trivial | (simp (config := { decide := true }) only [fg_in, fg_fin, fg_out, fg_fout, fg_up, fg_same, true_and, and_true] <;> omega)))
      | (refine jf_put (S := [34, 35, 36]) (o := 0) (F := [16008, 16010, 16009]) (W := W) (by repeat (first | exact fw_sm_refl | exact fw_sm_put0 | refine fw_sm_arr ?_ rfl | refine fw_sm_up ?_ rfl | refine fw_sm_put ?_ rfl | refine fw_sm_cp ?_ rfl)) (lm_k_search_68 hpre hP _ _ _ _ _ rfl ?_); (first | omega | trivial | (simp (config := { decide := true }) only [fg_in, fg_fin, fg_out, fg_fout, fg_up, fg_same, true_and, and_true] <;> omega)))
      | (refine hP _ (by repeat (first | exact fw_sm_refl | exact fw_sm_put0 | refine fw_sm_arr ?_ rfl | refine fw_sm_up ?_ rfl | refine fw_sm_put ?_ rfl | refine fw_sm_cp ?_ rfl)) ?_; (first | trivial | omega))
      | omega
      | (intro _))
  · exact hx.elim

def fr_24 : fw_P := [(0, 2, 0, 0, 0), (1, 50, 2, 10, 0), (4, 0, 0, 0, -3), (6, 11, 13, 0, 0), (9, 2, 0, 0, 0), (10, 64, 25, 0, 402), (13, 2, 0, 0, 0), (14, 50, 2, 10, 0), (17, 70, 0, 0, 0)]
theorem fr_24_ok : fw_mk 24 1 2 (some .int) fr_24 = true := by decide +kernel
def ct_k_solve : List (Nat × fw_X) := [(25, x_k_search)]
theorem ct_k_solve_ok (d : Nat) : fw_cok fw_T (d + 3) ct_k_solve := by
  intro q hq as W Q h
  simp only [ct_k_solve, List.mem_cons, List.not_mem_nil, or_false] at hq
  rcases hq with rfl
  · exact jc_of (x_k_search_ok (d + 0) as W Q h)
theorem s_k_solve_0 {Post : Option fw_V → fw_W → Prop} {d : Nat} {W : fw_W}
    (hw_ : (-2147483648 ≤ (fw_g W 16 10) → (fw_g W 16 10) ≤ 2147483647 → ((¬ (fw_g W 16 10) = (-3 : Int) → (-2147483648 ≤ (fw_g W 16 10) → (fw_g W 16 10) ≤ 2147483647 → (-2147483648 ≤ (fw_g W 16 10) → (fw_g W 16 10) ≤ 2147483647 → Post (some (.inl (fw_g W 16 10))) W))) ∧ ((fw_g W 16 10) = (-3 : Int) → (0 ≤ (fw_g W 12 0) ∧ (fw_g W 12 0) ≤ 14) ∧ (∀ (f1 : fw_W), ((True)) → (-2147483648 ≤ (fw_g f1 16 10) → (fw_g f1 16 10) ≤ 2147483647 → (-2147483648 ≤ (fw_g f1 16 10) → (fw_g f1 16 10) ≤ 2147483647 → Post (some (.inl (fw_g f1 16 10))) (fw_put [34, 35, 36] 0 [16008, 16010, 16009] W f1)))))))) :
    jf fw_T (d + 4) 24 0 [(0, .inr (.inl 16))] [] W Post := fw_ok (n := 10) (ss := []) (hv := []) fr_24_ok fv_fleetq_ok (ct_k_solve_ok d) hw_

def x_k_solve : fw_X := fun as W Q => match as with
  | [.inr (.inl s_)] => fw_if (Nat.beq s_ 16) ((0 ≤ (fw_g W 12 0) ∧ (fw_g W 12 0) ≤ 14) ∧ (∀ (v : Int) (f : fw_W), (-2147483648 ≤ v ∧ v ≤ 2147483647 ∧ (True)) → Q (some (.inl v)) (fw_put [34, 35, 36] 0 [16008, 16010, 16009] W f)))
  | _ => False
theorem x_k_solve_ok (d : Nat) (as : List fw_V) (W : fw_W) (Q : Option fw_V → fw_W → Prop) (hx : x_k_solve as W Q) : jf fw_T (d + 4) 24 0 (fw_args 0 as) [] W Q := by
  unfold x_k_solve at hx
  split at hx
  · rename_i s_
    obtain ⟨e_, hpre, hQ⟩ := fw_if_ok hx
    have e_ := Nat.eq_of_beq_eq_true e_
    subst e_
    have hP : ∀ (v : Int) (W2 : fw_W), fw_sm [34, 35, 36] 0 [16008, 16010, 16009] W W2 → _ → Q (some (.inl v)) W2 := fun v W2 hs hr => fw_sm_use (Q := fun Z => Q (some (.inl v)) Z) hs (hQ v W2 hr)
    refine s_k_solve_0 ?_
    repeat' (first
      | (exact True.intro)
      | (exact hpre.1)
      | (refine And.intro ?_ ?_)
      | (refine hP _ _ (by repeat (first | exact fw_sm_refl | exact fw_sm_put0 | refine fw_sm_arr ?_ rfl | refine fw_sm_up ?_ rfl | refine fw_sm_put ?_ rfl | refine fw_sm_cp ?_ rfl)) ?_; (refine ⟨by omega, by omega, ?_⟩; (first | trivial | omega)))
      | omega
      | (intro _))
  · exact hx.elim

def fr_31 : fw_P := [(0, 2, 0, 0, 0), (1, 50, 2, 8, 0), (4, 25, 24, 0, 0), (7, 2, 0, 0, 0), (8, 50, 2, 6, 0), (11, 2, 0, 0, 0), (12, 50, 2, 8, 0), (15, 0, 0, 0, 1), (16, 31, 0, 0, 0), (17, 52, 0, 0, 0), (18, 0, 0, 0, 16), (20, 41, 0, 0, 0), (21, 6, 25, 0, 0), (24, 0, 0, 0, 0), (25, 70, 0, 0, 0)]
theorem fr_31_ok : fw_mk 31 1 2 (some .int) fr_31 = true := by decide +kernel
theorem s_k_firstStep_0 {Post : Option fw_V → fw_W → Prop} {d : Nat} {W : fw_W}
    (hw_ : (0 ≤ (fw_g W 16 8) → (fw_g W 16 8) ≤ 20000 → (((fw_g W 16 8) ≤ 0 → (-2147483648 ≤ (0 : Int) → (0 : Int) ≤ 2147483647 → Post (some (.inl (0 : Int))) W)) ∧ (0 < (fw_g W 16 8) → (0 ≤ (fw_g W 16 8) → (fw_g W 16 8) ≤ 20000 → -2147483648 ≤ (fw_g W 16 8) - (1 : Int) ∧ (fw_g W 16 8) - (1 : Int) ≤ 2147483647 ∧ (0 ≤ ((fw_g W 16 8) - (1 : Int)) ∧ ((fw_g W 16 8) - (1 : Int)) < 20000 ∧ (0 ≤ (fw_g W 35 ((fw_g W 16 8) - (1 : Int))) → (fw_g W 35 ((fw_g W 16 8) - (1 : Int))) ≤ 4194303 → (-2147483648 ≤ (fw_ushr (fw_g W 35 ((fw_g W 16 8) - (1 : Int))) (16 : Int)) → (fw_ushr (fw_g W 35 ((fw_g W 16 8) - (1 : Int))) (16 : Int)) ≤ 2147483647 → (-2147483648 ≤ (fw_ushr (fw_g W 35 ((fw_g W 16 8) - (1 : Int))) (16 : Int)) → (fw_ushr (fw_g W 35 ((fw_g W 16 8) - (1 : Int))) (16 : Int)) ≤ 2147483647 → Post (some (.inl (fw_ushr (fw_g W 35 ((fw_g W 16 8) - (1 : Int))) (16 : Int)))) W))))))))) :
    jf fw_T (d + 1) 31 0 [(0, .inr (.inl 16))] [] W Post := fw_ok (n := 15) (ss := []) (hv := []) fr_31_ok fv_fleetq_ok (fw_c0 _ _) hw_

def x_k_firstStep : fw_X := fun as W Q => match as with
  | [.inr (.inl s_)] => fw_if (Nat.beq s_ 16) ((True) ∧ (∀ (v : Int), (-2147483648 ≤ v ∧ v ≤ 2147483647 ∧ (True)) → Q (some (.inl v)) W))
  | _ => False
theorem x_k_firstStep_ok (d : Nat) (as : List fw_V) (W : fw_W) (Q : Option fw_V → fw_W → Prop) (hx : x_k_firstStep as W Q) : jf fw_T (d + 1) 31 0 (fw_args 0 as) [] W Q := by
  unfold x_k_firstStep at hx
  split at hx
  · rename_i s_
    obtain ⟨e_, hpre, hQ⟩ := fw_if_ok hx
    have e_ := Nat.eq_of_beq_eq_true e_
    subst e_
    have hP := hQ
    refine s_k_firstStep_0 ?_
    repeat' (first
      | (exact True.intro)
      | (exact hpre.1)
      | (refine And.intro ?_ ?_)
      | (refine hP _ ?_; (refine ⟨by omega, by omega, ?_⟩; (first | trivial | omega)))
      | omega
      | (intro _))
  · exact hx.elim

def fr_30 : fw_P := [(0, 2, 0, 0, 0), (1, 64, 31, 0, 102), (4, 0, 0, 0, 4), (5, 40, 0, 0, 0), (6, 70, 0, 0, 0)]
theorem fr_30_ok : fw_mk 30 1 2 (some .int) fr_30 = true := by decide +kernel
def ct_k_firstCart : List (Nat × fw_X) := [(31, x_k_firstStep)]
theorem ct_k_firstCart_ok (d : Nat) : fw_cok fw_T (d + 1) ct_k_firstCart := by
  intro q hq as W Q h
  simp only [ct_k_firstCart, List.mem_cons, List.not_mem_nil, or_false] at hq
  rcases hq with rfl
  · exact jc_of (x_k_firstStep_ok (d + 0) as W Q h)
theorem s_k_firstCart_0 {Post : Option fw_V → fw_W → Prop} {d : Nat} {W : fw_W}
    (hw_ : (True) ∧ (∀ (r1 : Int), ((-2147483648 ≤ r1 ∧ r1 ≤ 2147483647 ∧ (True))) → (-2147483648 ≤ (fw_shr r1 (4 : Int)) → (fw_shr r1 (4 : Int)) ≤ 2147483647 → (-2147483648 ≤ (fw_shr r1 (4 : Int)) → (fw_shr r1 (4 : Int)) ≤ 2147483647 → Post (some (.inl (fw_shr r1 (4 : Int)))) W)))) :
    jf fw_T (d + 2) 30 0 [(0, .inr (.inl 16))] [] W Post := fw_ok (n := 6) (ss := []) (hv := []) fr_30_ok fv_fleetq_ok (ct_k_firstCart_ok d) hw_

def x_k_firstCart : fw_X := fun as W Q => match as with
  | [.inr (.inl s_)] => fw_if (Nat.beq s_ 16) ((True) ∧ (∀ (v : Int), (-2147483648 ≤ v ∧ v ≤ 2147483647 ∧ (True)) → Q (some (.inl v)) W))
  | _ => False
theorem x_k_firstCart_ok (d : Nat) (as : List fw_V) (W : fw_W) (Q : Option fw_V → fw_W → Prop) (hx : x_k_firstCart as W Q) : jf fw_T (d + 2) 30 0 (fw_args 0 as) [] W Q := by
  unfold x_k_firstCart at hx
  split at hx
  · rename_i s_
    obtain ⟨e_, hpre, hQ⟩ := fw_if_ok hx
    have e_ := Nat.eq_of_beq_eq_true e_
    subst e_
    have hP := hQ
    refine s_k_firstCart_0 ?_
    repeat' (first
      | (exact True.intro)
      | (exact hpre.1)
      | (refine And.intro ?_ ?_)
      | (refine hP _ ?_; (refine ⟨by omega, by omega, ?_⟩; (first | trivial | omega)))
      | omega
      | (intro _))
  · exact hx.elim

def fr_32 : fw_P := [(0, 2, 0, 0, 0), (1, 64, 31, 0, 102), (4, 0, 0, 0, 15), (6, 36, 0, 0, 0), (7, 70, 0, 0, 0)]
theorem fr_32_ok : fw_mk 32 1 2 (some .int) fr_32 = true := by decide +kernel
def ct_k_firstHouse : List (Nat × fw_X) := [(31, x_k_firstStep)]
theorem ct_k_firstHouse_ok (d : Nat) : fw_cok fw_T (d + 1) ct_k_firstHouse := by
  intro q hq as W Q h
  simp only [ct_k_firstHouse, List.mem_cons, List.not_mem_nil, or_false] at hq
  rcases hq with rfl
  · exact jc_of (x_k_firstStep_ok (d + 0) as W Q h)
theorem s_k_firstHouse_0 {Post : Option fw_V → fw_W → Prop} {d : Nat} {W : fw_W}
    (hw_ : (True) ∧ (∀ (r1 : Int), ((-2147483648 ≤ r1 ∧ r1 ≤ 2147483647 ∧ (True))) → (-2147483648 ≤ (fw_and r1 (15 : Int)) → (fw_and r1 (15 : Int)) ≤ 2147483647 → (-2147483648 ≤ (fw_and r1 (15 : Int)) → (fw_and r1 (15 : Int)) ≤ 2147483647 → Post (some (.inl (fw_and r1 (15 : Int)))) W)))) :
    jf fw_T (d + 2) 32 0 [(0, .inr (.inl 16))] [] W Post := fw_ok (n := 6) (ss := []) (hv := []) fr_32_ok fv_fleetq_ok (ct_k_firstHouse_ok d) hw_

def x_k_firstHouse : fw_X := fun as W Q => match as with
  | [.inr (.inl s_)] => fw_if (Nat.beq s_ 16) ((True) ∧ (∀ (v : Int), (-2147483648 ≤ v ∧ v ≤ 2147483647 ∧ (True)) → Q (some (.inl v)) W))
  | _ => False
theorem x_k_firstHouse_ok (d : Nat) (as : List fw_V) (W : fw_W) (Q : Option fw_V → fw_W → Prop) (hx : x_k_firstHouse as W Q) : jf fw_T (d + 2) 32 0 (fw_args 0 as) [] W Q := by
  unfold x_k_firstHouse at hx
  split at hx
  · rename_i s_
    obtain ⟨e_, hpre, hQ⟩ := fw_if_ok hx
    have e_ := Nat.eq_of_beq_eq_true e_
    subst e_
    have hP := hQ
    refine s_k_firstHouse_0 ?_
    repeat' (first
      | (exact True.intro)
      | (exact hpre.1)
      | (refine And.intro ?_ ?_)
      | (refine hP _ ?_; (refine ⟨by omega, by omega, ?_⟩; (first | trivial | omega)))
      | omega
      | (intro _))
  · exact hx.elim

def fr_172 : fw_P := [(0, 1, 1, 0, 0), (1, 22, 9, 0, 0), (4, 1, 1, 0, 0), (5, 0, 0, 0, 2), (6, 15, 12, 0, 0), (9, 0, 0, 0, -3), (11, 70, 0, 0, 0), (12, 2, 0, 0, 0), (13, 50, 11, 3, 0), (16, 64, 24, 0, 102), (19, 3, 2, 0, 0), (20, 1, 1, 0, 0), (21, 20, 28, 0, 0), (24, 1, 2, 0, 0), (25, 23, 30, 0, 0), (28, 1, 2, 0, 0), (29, 70, 0, 0, 0), (30, 1, 2, 0, 0), (31, 21, 36, 0, 0), (34, 0, 0, 0, -1), (35, 70, 0, 0, 0), (36, 1, 1, 0, 0), (37, 0, 0, 0, 1), (38, 11, 51, 0, 0), (41, 2, 0, 0, 0), (42, 50, 11, 3, 0), (45, 64, 30, 0, 102), (48, 6, 58, 0, 0), (51, 2, 0, 0, 0), (52, 50, 11, 3, 0), (55, 64, 32, 0, 102), (58, 70, 0, 0, 0)]
theorem fr_172_ok : fw_mk 172 3 11 (some .int) fr_172 = true := by decide +kernel
def ct_k_carts : List (Nat × fw_X) := [(24, x_k_solve), (30, x_k_firstCart), (32, x_k_firstHouse)]
theorem ct_k_carts_ok (d : Nat) : fw_cok fw_T (d + 4) ct_k_carts := by
  intro q hq as W Q h
  simp only [ct_k_carts, List.mem_cons, List.not_mem_nil, or_false] at hq
  rcases hq with rfl | rfl | rfl
  · exact jc_of (x_k_solve_ok (d + 0) as W Q h)
  · exact jc_of (x_k_firstCart_ok (d + 2) as W Q h)
  · exact jc_of (x_k_firstHouse_ok (d + 2) as W Q h)
theorem s_k_carts_0 {Post : Option fw_V → fw_W → Prop} {d : Nat} {W : fw_W} {wh : Int}
    (hw_ : ((wh < 0 → (-2147483648 ≤ (-3 : Int) → (-3 : Int) ≤ 2147483647 → Post (some (.inl (-3 : Int))) W)) ∧ (0 ≤ wh → ((wh ≤ (2 : Int) → (0 ≤ (fw_g W 12 0) ∧ (fw_g W 12 0) ≤ 14) ∧ (∀ (r1 : Int) (f2 : fw_W), ((-2147483648 ≤ r1 ∧ r1 ≤ 2147483647 ∧ (True))) → ((wh = 0 → (-2147483648 ≤ r1 → r1 ≤ 2147483647 → Post (some (.inl r1)) (fw_put [34, 35, 36] 0 [16008, 16010, 16009] W f2))) ∧ (¬ wh = 0 → ((0 ≤ r1 → ((¬ r1 = 0 → ((¬ wh = (1 : Int) → (True) ∧ (∀ (r3 : Int), ((-2147483648 ≤ r3 ∧ r3 ≤ 2147483647 ∧ (True))) → (-2147483648 ≤ r3 → r3 ≤ 2147483647 → Post (some (.inl r3)) (fw_put [34, 35, 36] 0 [16008, 16010, 16009] W f2)))) ∧ (wh = (1 : Int) → (True) ∧ (∀ (r4 : Int), ((-2147483648 ≤ r4 ∧ r4 ≤ 2147483647 ∧ (True))) → (-2147483648 ≤ r4 → r4 ≤ 2147483647 → Post (some (.inl r4)) (fw_put [34, 35, 36] 0 [16008, 16010, 16009] W f2)))))) ∧ (r1 = 0 → (-2147483648 ≤ (-1 : Int) → (-1 : Int) ≤ 2147483647 → Post (some (.inl (-1 : Int))) (fw_put [34, 35, 36] 0 [16008, 16010, 16009] W f2))))) ∧ (r1 < 0 → (-2147483648 ≤ r1 → r1 ≤ 2147483647 → Post (some (.inl r1)) (fw_put [34, 35, 36] 0 [16008, 16010, 16009] W f2)))))))) ∧ ((2 : Int) < wh → (-2147483648 ≤ (-3 : Int) → (-3 : Int) ≤ 2147483647 → Post (some (.inl (-3 : Int))) W)))))) :
    jf fw_T (d + 5) 172 0 [(0, .inr (.inl 0)), (1, .inl wh)] [] W Post := fw_ok (n := 24) (ss := []) (hv := []) fr_172_ok fv_owt_ok (ct_k_carts_ok d) hw_

def x_k_carts : fw_X := fun as W Q => match as with
  | [.inr (.inl s_), .inl wh] => fw_if (Nat.beq s_ 0) ((0 ≤ (fw_g W 12 0) ∧ (fw_g W 12 0) ≤ 14) ∧ (∀ (v : Int) (f : fw_W), (-2147483648 ≤ v ∧ v ≤ 2147483647 ∧ (True)) → Q (some (.inl v)) (fw_put [34, 35, 36] 0 [16008, 16010, 16009] W f)))
  | _ => False
theorem x_k_carts_ok (d : Nat) (as : List fw_V) (W : fw_W) (Q : Option fw_V → fw_W → Prop) (hx : x_k_carts as W Q) : jf fw_T (d + 5) 172 0 (fw_args 0 as) [] W Q := by
  unfold x_k_carts at hx
  split at hx
  · rename_i s_ wh
    obtain ⟨e_, hpre, hQ⟩ := fw_if_ok hx
    have e_ := Nat.eq_of_beq_eq_true e_
    subst e_
    have hP : ∀ (v : Int) (W2 : fw_W), fw_sm [34, 35, 36] 0 [16008, 16010, 16009] W W2 → _ → Q (some (.inl v)) W2 := fun v W2 hs hr => fw_sm_use (Q := fun Z => Q (some (.inl v)) Z) hs (hQ v W2 hr)
    refine s_k_carts_0 ?_
    repeat' (first
      | (exact True.intro)
      | (exact hpre.1)
      | (refine And.intro ?_ ?_)
      | (refine hP _ _ (by repeat (first | exact fw_sm_refl | exact fw_sm_put0 | refine fw_sm_arr ?_ rfl | refine fw_sm_up ?_ rfl | refine fw_sm_put ?_ rfl | refine fw_sm_cp ?_ rfl)) ?_; (refine ⟨by omega, by omega, ?_⟩; (first | trivial | omega)))
      | omega
      | (intro _))
  · exact hx.elim

