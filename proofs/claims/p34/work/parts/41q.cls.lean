/-! the place of the lowest bit, below 64 -/
def tz (x : Int) : Int := ([32, 0, 1, 0, 2, 0, 1, 0, 3, 0, 1, 0, 2, 0, 1, 0, 4, 0, 1, 0, 2, 0, 1, 0, 3, 0, 1, 0, 2, 0, 1, 0, 5, 0, 1, 0, 2, 0, 1, 0, 3, 0, 1, 0, 2, 0, 1, 0, 4, 0, 1, 0, 2, 0, 1, 0, 3, 0, 1, 0, 2, 0, 1, 0] : List Int).getD x.toNat 32
abbrev ntI (x : Int) : Int := fw_and (fw_xor x (-1)) (x - 1)
theorem ntz_an : ∀ x : Nat, x < 64 → (ntI (x : Int) ≤ 0 → fw_and (ntI (x : Int)) 32 = tz (x : Int)) := by decide +kernel
theorem ntz_a {x : Int} (h0 : 0 ≤ x) (h1 : x < 64) : ntI x ≤ 0 → fw_and (ntI x) 32 = tz x := by
  have h := ntz_an x.toNat (by omega)
  rw [Int.toNat_of_nonneg h0] at h
  exact h
theorem ntz_bn : ∀ x : Nat, x < 64 → (ntI (x : Int) ≤ 256) := by decide +kernel
theorem ntz_b {x : Int} (h0 : 0 ≤ x) (h1 : x < 64) : ntI x ≤ 256 := by
  have h := ntz_bn x.toNat (by omega)
  rw [Int.toNat_of_nonneg h0] at h
  exact h
theorem ntz_cn : ∀ x : Nat, x < 64 → (16 < ntI (x : Int) → 4 < fw_ushr (ntI (x : Int)) 4 → 7 + fw_ushr (fw_ushr (fw_ushr (ntI (x : Int)) 4) 2) 1 = tz (x : Int)) := by decide +kernel
theorem ntz_c {x : Int} (h0 : 0 ≤ x) (h1 : x < 64) : 16 < ntI x → 4 < fw_ushr (ntI x) 4 → 7 + fw_ushr (fw_ushr (fw_ushr (ntI x) 4) 2) 1 = tz x := by
  have h := ntz_cn x.toNat (by omega)
  rw [Int.toNat_of_nonneg h0] at h
  exact h
theorem ntz_dn : ∀ x : Nat, x < 64 → (16 < ntI (x : Int) → fw_ushr (ntI (x : Int)) 4 ≤ 4 → 5 + fw_ushr (fw_ushr (ntI (x : Int)) 4) 1 = tz (x : Int)) := by decide +kernel
theorem ntz_d {x : Int} (h0 : 0 ≤ x) (h1 : x < 64) : 16 < ntI x → fw_ushr (ntI x) 4 ≤ 4 → 5 + fw_ushr (fw_ushr (ntI x) 4) 1 = tz x := by
  have h := ntz_dn x.toNat (by omega)
  rw [Int.toNat_of_nonneg h0] at h
  exact h
theorem ntz_en : ∀ x : Nat, x < 64 → (ntI (x : Int) ≤ 16 → 4 < ntI (x : Int) → 3 + fw_ushr (fw_ushr (ntI (x : Int)) 2) 1 = tz (x : Int)) := by decide +kernel
theorem ntz_e {x : Int} (h0 : 0 ≤ x) (h1 : x < 64) : ntI x ≤ 16 → 4 < ntI x → 3 + fw_ushr (fw_ushr (ntI x) 2) 1 = tz x := by
  have h := ntz_en x.toNat (by omega)
  rw [Int.toNat_of_nonneg h0] at h
  exact h
theorem ntz_fn : ∀ x : Nat, x < 64 → (ntI (x : Int) ≤ 4 → 0 < ntI (x : Int) → 1 + fw_ushr (ntI (x : Int)) 1 = tz (x : Int)) := by decide +kernel
theorem ntz_f {x : Int} (h0 : 0 ≤ x) (h1 : x < 64) : ntI x ≤ 4 → 0 < ntI x → 1 + fw_ushr (ntI x) 1 = tz x := by
  have h := ntz_fn x.toNat (by omega)
  rw [Int.toNat_of_nonneg h0] at h
  exact h
theorem ntz_gn : ∀ x : Nat, x < 64 → (0 ≤ tz (x : Int) ∧ tz (x : Int) ≤ 32) := by decide +kernel
theorem ntz_g {x : Int} (h0 : 0 ≤ x) (h1 : x < 64) : 0 ≤ tz x ∧ tz x ≤ 32 := by
  have h := ntz_gn x.toNat (by omega)
  rw [Int.toNat_of_nonneg h0] at h
  exact h
theorem tz_n : ∀ x : Nat, x < 64 → 0 ≤ fw_and (x : Int) ((x : Int) - 1) ∧ fw_and (x : Int) ((x : Int) - 1) < 64 ∧ 0 ≤ tz x ∧ tz x ≤ 32 ∧ (tz (fw_and (x : Int) ((x : Int) - 1)) < 32 → tz x < tz (fw_and (x : Int) ((x : Int) - 1))) := by decide +kernel
theorem tz_i {x : Int} (h0 : 0 ≤ x) (h1 : x < 64) : 0 ≤ fw_and x (x - 1) ∧ fw_and x (x - 1) < 64 ∧ 0 ≤ tz x ∧ tz x ≤ 32 ∧ (tz (fw_and x (x - 1)) < 32 → tz x < tz (fw_and x (x - 1))) := by
  have h := tz_n x.toNat (by omega)
  rw [Int.toNat_of_nonneg h0] at h
  exact h
theorem shl6_n : ∀ x : Nat, x < 7 → 1 ≤ fw_shl 1 (x : Int) ∧ fw_shl 1 (x : Int) ≤ 64 := by decide +kernel
theorem shl6 {x : Int} (h0 : 0 ≤ x) (h1 : x ≤ 6) : 1 ≤ fw_shl 1 x ∧ fw_shl 1 x ≤ 64 := by
  have h := shl6_n x.toNat (by omega)
  rw [Int.toNat_of_nonneg h0] at h
  exact h

def fv_nil : List (Nat × ai_C) := []
def fg_nil_G : fw_G := []
theorem fv_nil_ok : fw_view fw_T fv_nil fg_nil_G := fw_vb_ok (by decide +kernel)
def fr_317 : fw_P := [(0, 1, 0, 0, 0), (1, 1, 0, 0, 0), (2, 0, 0, 0, 1), (3, 41, 0, 0, 0), (4, 0, 0, 0, 1431655765), (7, 36, 0, 0, 0), (8, 31, 0, 0, 0), (9, 3, 0, 0, 0), (10, 1, 0, 0, 0), (11, 0, 0, 0, 858993459), (14, 36, 0, 0, 0), (15, 1, 0, 0, 0), (16, 0, 0, 0, 2), (17, 41, 0, 0, 0), (18, 0, 0, 0, 858993459), (21, 36, 0, 0, 0), (22, 30, 0, 0, 0), (23, 3, 0, 0, 0), (24, 1, 0, 0, 0), (25, 1, 0, 0, 0), (26, 0, 0, 0, 4), (27, 41, 0, 0, 0), (28, 30, 0, 0, 0), (29, 0, 0, 0, 252645135), (32, 36, 0, 0, 0), (33, 3, 0, 0, 0), (34, 1, 0, 0, 0), (35, 1, 0, 0, 0), (36, 0, 0, 0, 8), (38, 41, 0, 0, 0), (39, 30, 0, 0, 0), (40, 3, 0, 0, 0), (41, 1, 0, 0, 0), (42, 1, 0, 0, 0), (43, 0, 0, 0, 16), (45, 41, 0, 0, 0), (46, 30, 0, 0, 0), (47, 3, 0, 0, 0), (48, 1, 0, 0, 0), (49, 0, 0, 0, 63), (51, 36, 0, 0, 0), (52, 70, 0, 0, 0)]
theorem fr_317_ok : fw_mk 317 1 13 (some .int) fr_317 = true := by decide +kernel
theorem s_k_bitCount_0 {Post : Option fw_V → fw_W → Prop} {d : Nat} {W : fw_W} {x : Int}
    (hw_ : (-2147483648 ≤ (fw_ushr x (1 : Int)) → (fw_ushr x (1 : Int)) ≤ 2147483647 → (-2147483648 ≤ (fw_and (fw_ushr x (1 : Int)) (1431655765 : Int)) → (fw_and (fw_ushr x (1 : Int)) (1431655765 : Int)) ≤ 2147483647 → ∀ v1 : Int, -2147483648 ≤ v1 → v1 ≤ 2147483647 → (-2147483648 ≤ (fw_and v1 (858993459 : Int)) → (fw_and v1 (858993459 : Int)) ≤ 2147483647 → (-2147483648 ≤ (fw_ushr v1 (2 : Int)) → (fw_ushr v1 (2 : Int)) ≤ 2147483647 → (-2147483648 ≤ (fw_and (fw_ushr v1 (2 : Int)) (858993459 : Int)) → (fw_and (fw_ushr v1 (2 : Int)) (858993459 : Int)) ≤ 2147483647 → ∀ v2 : Int, -2147483648 ≤ v2 → v2 ≤ 2147483647 → (-2147483648 ≤ (fw_ushr v2 (4 : Int)) → (fw_ushr v2 (4 : Int)) ≤ 2147483647 → ∀ v3 : Int, -2147483648 ≤ v3 → v3 ≤ 2147483647 → (-2147483648 ≤ (fw_and v3 (252645135 : Int)) → (fw_and v3 (252645135 : Int)) ≤ 2147483647 → (-2147483648 ≤ (fw_ushr (fw_and v3 (252645135 : Int)) (8 : Int)) → (fw_ushr (fw_and v3 (252645135 : Int)) (8 : Int)) ≤ 2147483647 → ∀ v4 : Int, -2147483648 ≤ v4 → v4 ≤ 2147483647 → (-2147483648 ≤ (fw_ushr v4 (16 : Int)) → (fw_ushr v4 (16 : Int)) ≤ 2147483647 → ∀ v5 : Int, -2147483648 ≤ v5 → v5 ≤ 2147483647 → (-2147483648 ≤ (fw_and v5 (63 : Int)) → (fw_and v5 (63 : Int)) ≤ 2147483647 → (-2147483648 ≤ (fw_and v5 (63 : Int)) → (fw_and v5 (63 : Int)) ≤ 2147483647 → Post (some (.inl (fw_and v5 (63 : Int)))) W)))))))))))) :
    jf fw_T (d + 1) 317 0 [(0, .inl x)] [] W Post := fw_ok (n := 43) (ss := []) (hv := [8, 22, 28, 39, 46]) fr_317_ok fv_nil_ok (fw_c0 _ _) hw_

def x_k_bitCount : fw_X := fun as W Q => match as with
  | [.inl x] => (True) ∧ (∀ (v : Int), (-2147483648 ≤ v ∧ v ≤ 2147483647 ∧ (True)) → Q (some (.inl v)) W)
  | _ => False
theorem x_k_bitCount_ok (d : Nat) (as : List fw_V) (W : fw_W) (Q : Option fw_V → fw_W → Prop) (hx : x_k_bitCount as W Q) : jf fw_T (d + 1) 317 0 (fw_args 0 as) [] W Q := by
  unfold x_k_bitCount at hx
  split at hx
  · rename_i x
    obtain ⟨hpre, hQ⟩ := hx
    have hP := hQ
    refine s_k_bitCount_0 ?_
    repeat' (first
      | (exact True.intro)
      | (exact hpre.1)
      | (refine And.intro ?_ ?_)
      | (refine hP _ ?_; (refine ⟨by omega, by omega, ?_⟩; (first | trivial | omega)))
      | omega
      | (intro _))
  · exact hx.elim

def fr_318 : fw_P := [(0, 1, 0, 0, 0), (1, 0, 0, 0, -1), (2, 38, 0, 0, 0), (3, 1, 0, 0, 0), (4, 0, 0, 0, 1), (5, 31, 0, 0, 0), (6, 36, 0, 0, 0), (7, 3, 0, 0, 0), (8, 1, 0, 0, 0), (9, 24, 17, 0, 0), (12, 1, 0, 0, 0), (13, 0, 0, 0, 32), (15, 36, 0, 0, 0), (16, 70, 0, 0, 0), (17, 0, 0, 0, 1), (18, 3, 1, 0, 0), (19, 1, 0, 0, 0), (20, 0, 0, 0, 65536), (23, 15, 34, 0, 0), (26, 5, 1, 0, 16), (29, 1, 0, 0, 0), (30, 0, 0, 0, 16), (32, 41, 0, 0, 0), (33, 3, 0, 0, 0), (34, 1, 0, 0, 0), (35, 0, 0, 0, 256), (38, 15, 49, 0, 0), (41, 5, 1, 0, 8), (44, 1, 0, 0, 0), (45, 0, 0, 0, 8), (47, 41, 0, 0, 0), (48, 3, 0, 0, 0), (49, 1, 0, 0, 0), (50, 0, 0, 0, 16), (52, 15, 62, 0, 0), (55, 5, 1, 0, 4), (58, 1, 0, 0, 0), (59, 0, 0, 0, 4), (60, 41, 0, 0, 0), (61, 3, 0, 0, 0), (62, 1, 0, 0, 0), (63, 0, 0, 0, 4), (64, 15, 74, 0, 0), (67, 5, 1, 0, 2), (70, 1, 0, 0, 0), (71, 0, 0, 0, 2), (72, 41, 0, 0, 0), (73, 3, 0, 0, 0), (74, 1, 1, 0, 0), (75, 1, 0, 0, 0), (76, 0, 0, 0, 1), (77, 41, 0, 0, 0), (78, 30, 0, 0, 0), (79, 70, 0, 0, 0)]
theorem fr_318_ok : fw_mk 318 2 13 (some .int) fr_318 = true := by decide +kernel
theorem s_k_numberOfTrailingZeros_0 {Post : Option fw_V → fw_W → Prop} {d : Nat} {W : fw_W} {x : Int}
    (hw_ : (-2147483648 ≤ (fw_xor x (-1 : Int)) → (fw_xor x (-1 : Int)) ≤ 2147483647 → -2147483648 ≤ x - (1 : Int) ∧ x - (1 : Int) ≤ 2147483647 ∧ ((-2147483648 ≤ (fw_and (fw_xor x (-1 : Int)) (x - (1 : Int))) → (fw_and (fw_xor x (-1 : Int)) (x - (1 : Int))) ≤ 2147483647 → ((0 < (fw_and (fw_xor x (-1 : Int)) (x - (1 : Int))) → (((fw_and (fw_xor x (-1 : Int)) (x - (1 : Int))) ≤ (65536 : Int) → jf fw_T (d + 1) 318 34 [(0, .inl (fw_and (fw_xor x (-1 : Int)) (x - (1 : Int)))), (1, .inl (1 : Int))] [] W Post) ∧ ((65536 : Int) < (fw_and (fw_xor x (-1 : Int)) (x - (1 : Int))) → -2147483648 ≤ (1 : Int) + (16 : Int) ∧ (1 : Int) + (16 : Int) ≤ 2147483647 ∧ ((-2147483648 ≤ (fw_ushr (fw_and (fw_xor x (-1 : Int)) (x - (1 : Int))) (16 : Int)) → (fw_ushr (fw_and (fw_xor x (-1 : Int)) (x - (1 : Int))) (16 : Int)) ≤ 2147483647 → jf fw_T (d + 1) 318 34 [(0, .inl (fw_ushr (fw_and (fw_xor x (-1 : Int)) (x - (1 : Int))) (16 : Int))), (1, .inl ((1 : Int) + (16 : Int)))] [] W Post))))) ∧ ((fw_and (fw_xor x (-1 : Int)) (x - (1 : Int))) ≤ 0 → (-2147483648 ≤ (fw_and (fw_and (fw_xor x (-1 : Int)) (x - (1 : Int))) (32 : Int)) → (fw_and (fw_and (fw_xor x (-1 : Int)) (x - (1 : Int))) (32 : Int)) ≤ 2147483647 → (-2147483648 ≤ (fw_and (fw_and (fw_xor x (-1 : Int)) (x - (1 : Int))) (32 : Int)) → (fw_and (fw_and (fw_xor x (-1 : Int)) (x - (1 : Int))) (32 : Int)) ≤ 2147483647 → Post (some (.inl (fw_and (fw_and (fw_xor x (-1 : Int)) (x - (1 : Int))) (32 : Int)))) W)))))))) :
    jf fw_T (d + 1) 318 0 [(0, .inl x)] [] W Post := fw_ok (n := 21) (ss := [(34, [0, 1]), (49, [0, 1]), (62, [0, 1]), (74, [0, 1])]) (hv := []) fr_318_ok fv_nil_ok (fw_c0 _ _) hw_

theorem s_k_numberOfTrailingZeros_74 {Post : Option fw_V → fw_W → Prop} {d : Nat} {W : fw_W} {x0 nn : Int}
    (hw_ : (-2147483648 ≤ (fw_ushr x0 (1 : Int)) → (fw_ushr x0 (1 : Int)) ≤ 2147483647 → -2147483648 ≤ nn + (fw_ushr x0 (1 : Int)) ∧ nn + (fw_ushr x0 (1 : Int)) ≤ 2147483647 ∧ ((-2147483648 ≤ (nn + (fw_ushr x0 (1 : Int))) → (nn + (fw_ushr x0 (1 : Int))) ≤ 2147483647 → Post (some (.inl (nn + (fw_ushr x0 (1 : Int))))) W)))) :
    jf fw_T (d + 1) 318 74 [(0, .inl x0), (1, .inl nn)] [] W Post := fw_ok (n := 7) (ss := [(34, [0, 1]), (49, [0, 1]), (62, [0, 1]), (74, [0, 1])]) (hv := []) fr_318_ok fv_nil_ok (fw_c0 _ _) hw_

theorem s_k_numberOfTrailingZeros_62 {Post : Option fw_V → fw_W → Prop} {d : Nat} {W : fw_W} {x0 nn : Int}
    (hw_ : ((x0 ≤ (4 : Int) → jf fw_T (d + 1) 318 74 [(0, .inl x0), (1, .inl nn)] [] W Post) ∧ ((4 : Int) < x0 → -2147483648 ≤ nn + (2 : Int) ∧ nn + (2 : Int) ≤ 2147483647 ∧ ((-2147483648 ≤ (fw_ushr x0 (2 : Int)) → (fw_ushr x0 (2 : Int)) ≤ 2147483647 → jf fw_T (d + 1) 318 74 [(0, .inl (fw_ushr x0 (2 : Int))), (1, .inl (nn + (2 : Int)))] [] W Post))))) :
    jf fw_T (d + 1) 318 62 [(0, .inl x0), (1, .inl nn)] [] W Post := fw_ok (n := 9) (ss := [(34, [0, 1]), (49, [0, 1]), (62, [0, 1]), (74, [0, 1])]) (hv := []) fr_318_ok fv_nil_ok (fw_c0 _ _) hw_

theorem s_k_numberOfTrailingZeros_49 {Post : Option fw_V → fw_W → Prop} {d : Nat} {W : fw_W} {x0 nn : Int}
    (hw_ : ((x0 ≤ (16 : Int) → jf fw_T (d + 1) 318 62 [(0, .inl x0), (1, .inl nn)] [] W Post) ∧ ((16 : Int) < x0 → -2147483648 ≤ nn + (4 : Int) ∧ nn + (4 : Int) ≤ 2147483647 ∧ ((-2147483648 ≤ (fw_ushr x0 (4 : Int)) → (fw_ushr x0 (4 : Int)) ≤ 2147483647 → jf fw_T (d + 1) 318 62 [(0, .inl (fw_ushr x0 (4 : Int))), (1, .inl (nn + (4 : Int)))] [] W Post))))) :
    jf fw_T (d + 1) 318 49 [(0, .inl x0), (1, .inl nn)] [] W Post := fw_ok (n := 9) (ss := [(34, [0, 1]), (49, [0, 1]), (62, [0, 1]), (74, [0, 1])]) (hv := []) fr_318_ok fv_nil_ok (fw_c0 _ _) hw_

theorem s_k_numberOfTrailingZeros_34 {Post : Option fw_V → fw_W → Prop} {d : Nat} {W : fw_W} {x0 nn : Int}
    (hw_ : ((x0 ≤ (256 : Int) → jf fw_T (d + 1) 318 49 [(0, .inl x0), (1, .inl nn)] [] W Post) ∧ ((256 : Int) < x0 → -2147483648 ≤ nn + (8 : Int) ∧ nn + (8 : Int) ≤ 2147483647 ∧ ((-2147483648 ≤ (fw_ushr x0 (8 : Int)) → (fw_ushr x0 (8 : Int)) ≤ 2147483647 → jf fw_T (d + 1) 318 49 [(0, .inl (fw_ushr x0 (8 : Int))), (1, .inl (nn + (8 : Int)))] [] W Post))))) :
    jf fw_T (d + 1) 318 34 [(0, .inl x0), (1, .inl nn)] [] W Post := fw_ok (n := 9) (ss := [(34, [0, 1]), (49, [0, 1]), (62, [0, 1]), (74, [0, 1])]) (hv := []) fr_318_ok fv_nil_ok (fw_c0 _ _) hw_

theorem lm_k_numberOfTrailingZeros_74 {Post : Option fw_V → fw_W → Prop} {d : Nat} {W : fw_W} {x : Int} (hpre : 0 ≤ x ∧ x < 64) (hP : ∀ (v : Int) , v = tz x → Post (some (.inl v)) W)  : ∀ (x0 nn : Int), (0 ≤ nn ∧ nn ≤ 40) ∧ nn + fw_ushr x0 1 = tz x → jf fw_T (d + 1) 318 74 [(0, .inl x0), (1, .inl nn)] [] W Post := by
  intro x0 nn hi
  refine jf_rng (fun hrg => ?_)
  have hrg : -2147483648 ≤ x0 ∧ x0 ≤ 2147483647 ∧ -2147483648 ≤ nn ∧ nn ≤ 2147483647 ∧ True := hrg
  refine s_k_numberOfTrailingZeros_74 ?_
  have g := ntz_g hpre.1 hpre.2
  repeat' (first
    | (exact True.intro)
    | (exact hpre.1)
    | (refine And.intro ?_ ?_)
    | (refine hP _ ?_; (first | exact ntz_a hpre.1 hpre.2 (by assumption) | omega))
    | omega
    | (intro _))
theorem lm_k_numberOfTrailingZeros_62 {Post : Option fw_V → fw_W → Prop} {d : Nat} {W : fw_W} {x : Int} (hpre : 0 ≤ x ∧ x < 64) (hP : ∀ (v : Int) , v = tz x → Post (some (.inl v)) W)  : ∀ (x0 nn : Int), (nn = 1 ∧ x0 = ntI x ∧ 0 < x0 ∧ x0 ≤ 16) ∨ (nn = 5 ∧ x0 = fw_ushr (ntI x) 4 ∧ 16 < ntI x) → jf fw_T (d + 1) 318 62 [(0, .inl x0), (1, .inl nn)] [] W Post := by
  intro x0 nn hi
  refine jf_rng (fun hrg => ?_)
  have hrg : -2147483648 ≤ x0 ∧ x0 ≤ 2147483647 ∧ -2147483648 ≤ nn ∧ nn ≤ 2147483647 ∧ True := hrg
  refine s_k_numberOfTrailingZeros_62 ?_
  repeat' (first
    | (exact True.intro)
    | (exact hpre.1)
    | (refine And.intro ?_ ?_)
    | (refine (lm_k_numberOfTrailingZeros_74 (x := x) hpre hP _ _ ?_); (
      rcases hi with ⟨h1, h2, h3, h4⟩ | ⟨h1, h2, h3⟩
      · subst h1
        subst h2
        first
          | exact ⟨by omega, by have := ntz_e hpre.1 hpre.2 (by assumption) (by assumption); omega⟩
          | exact ⟨by omega, by have := ntz_f hpre.1 hpre.2 (by assumption) (by assumption); omega⟩
      · subst h1
        subst h2
        first
          | exact ⟨by omega, by have := ntz_c hpre.1 hpre.2 (by assumption) (by assumption); omega⟩
          | exact ⟨by omega, by have := ntz_d hpre.1 hpre.2 (by assumption) (by assumption); omega⟩))
    | (refine hP _ ?_; (first | exact ntz_a hpre.1 hpre.2 (by assumption) | omega))
    | omega
    | (intro _))
theorem lm_k_numberOfTrailingZeros_49 {Post : Option fw_V → fw_W → Prop} {d : Nat} {W : fw_W} {x : Int} (hpre : 0 ≤ x ∧ x < 64) (hP : ∀ (v : Int) , v = tz x → Post (some (.inl v)) W)  : ∀ (x0 nn : Int), nn = 1 ∧ x0 = ntI x ∧ 0 < x0 → jf fw_T (d + 1) 318 49 [(0, .inl x0), (1, .inl nn)] [] W Post := by
  intro x0 nn hi
  refine jf_rng (fun hrg => ?_)
  have hrg : -2147483648 ≤ x0 ∧ x0 ≤ 2147483647 ∧ -2147483648 ≤ nn ∧ nn ≤ 2147483647 ∧ True := hrg
  refine s_k_numberOfTrailingZeros_49 ?_
  repeat' (first
    | (exact True.intro)
    | (exact hpre.1)
    | (refine And.intro ?_ ?_)
    | (refine (lm_k_numberOfTrailingZeros_62 (x := x) hpre hP _ _ ?_); (
      obtain ⟨h1, h2, h3⟩ := hi
      subst h1
      subst h2
      first
        | exact Or.inl ⟨rfl, rfl, h3, by assumption⟩
        | exact Or.inr ⟨rfl, rfl, by assumption⟩))
    | (refine hP _ ?_; (first | exact ntz_a hpre.1 hpre.2 (by assumption) | omega))
    | omega
    | (intro _))
theorem lm_k_numberOfTrailingZeros_34 {Post : Option fw_V → fw_W → Prop} {d : Nat} {W : fw_W} {x : Int} (hpre : 0 ≤ x ∧ x < 64) (hP : ∀ (v : Int) , v = tz x → Post (some (.inl v)) W)  : ∀ (x0 nn : Int), nn = 1 ∧ x0 = ntI x ∧ 0 < x0 → jf fw_T (d + 1) 318 34 [(0, .inl x0), (1, .inl nn)] [] W Post := by
  intro x0 nn hi
  refine jf_rng (fun hrg => ?_)
  have hrg : -2147483648 ≤ x0 ∧ x0 ≤ 2147483647 ∧ -2147483648 ≤ nn ∧ nn ≤ 2147483647 ∧ True := hrg
  refine s_k_numberOfTrailingZeros_34 ?_
  repeat' (first
    | (exact True.intro)
    | (exact hpre.1)
    | (refine And.intro ?_ ?_)
    | (refine (lm_k_numberOfTrailingZeros_49 (x := x) hpre hP _ _ ?_); (
      have b : fw_and (fw_xor x (-1)) (x - 1) ≤ 256 := ntz_b hpre.1 hpre.2
      first
        | exact hi
        | (exfalso; have c : x0 = fw_and (fw_xor x (-1)) (x - 1) := hi.2.1; omega)))
    | (refine hP _ ?_; (first | exact ntz_a hpre.1 hpre.2 (by assumption) | omega))
    | omega
    | (intro _))
def x_k_numberOfTrailingZeros : fw_X := fun as W Q => match as with
  | [.inl x] => (0 ≤ x ∧ x < 64) ∧ Q (some (.inl (tz x))) W
  | _ => False
theorem x_k_numberOfTrailingZeros_ok (d : Nat) (as : List fw_V) (W : fw_W) (Q : Option fw_V → fw_W → Prop) (hx : x_k_numberOfTrailingZeros as W Q) : jf fw_T (d + 1) 318 0 (fw_args 0 as) [] W Q := by
  unfold x_k_numberOfTrailingZeros at hx
  split at hx
  · rename_i x
    obtain ⟨hpre, hQ⟩ := hx
    have hP : ∀ (v : Int), v = tz x → Q (some (.inl v)) W := fun v e => by subst e; exact hQ
    refine s_k_numberOfTrailingZeros_0 ?_
    repeat' (first
      | (exact True.intro)
      | (exact hpre.1)
      | (refine And.intro ?_ ?_)
      | (refine (lm_k_numberOfTrailingZeros_34 (x := x) hpre hP _ _ ?_); (
      have b : fw_and (fw_xor x (-1)) (x - 1) ≤ 256 := ntz_b hpre.1 hpre.2
      first
        | exact ⟨rfl, rfl, by assumption⟩
        | (exfalso; omega)))
      | (refine (lm_k_numberOfTrailingZeros_49 (x := x) hpre hP _ _ ?_); (first | omega | trivial))
      | (refine (lm_k_numberOfTrailingZeros_62 (x := x) hpre hP _ _ ?_); (first | omega | trivial))
      | (refine (lm_k_numberOfTrailingZeros_74 (x := x) hpre hP _ _ ?_); (first | omega | trivial))
      | (refine hP _ ?_; (first | exact ntz_a hpre.1 hpre.2 (by assumption) | omega))
      | omega
      | (intro _))
  · exact hx.elim

def fv_doorsk : List (Nat × ai_C) := [(324, .inr (.inr (.inr (1, [.inl (0, 40, true), .inl (0, 100000, true), .inl (-2147483648, 2147483647, true), .inl (-2147483648, 2147483647, true), .inr (.inl [325]), .inr (.inl [326]), .inr (.inl [327]), .inr (.inl [328]), .inr (.inl [329]), .inr (.inl [330]), .inl (-2147483648, 2147483647, true), .inl (-2147483648, 2147483647, true)])))), (325, .inl (.int, 40, 0, 5, true)), (326, .inl (.int, 40, 0, 5, true)), (327, .inl (.int, 40, -2147483648, 2147483647, true)), (328, .inl (.int, 40, -2147483648, 2147483647, true)), (329, .inl (.int, 40, -2147483648, 2147483647, true))]
def fg_doorsk_G : fw_G := [(330, 6, 6, -2147483648, 2147483647)]
theorem fv_doorsk_ok : fw_view fw_T fv_doorsk fg_doorsk_G := fw_vb_ok (by decide +kernel)
def fr_57 : fw_P := [(0, 1, 1, 0, 0), (1, 65, 318, 1, 200), (4, 3, 2, 0, 0), (5, 1, 1, 0, 0), (6, 1, 1, 0, 0), (7, 0, 0, 0, 1), (8, 31, 0, 0, 0), (9, 36, 0, 0, 0), (10, 3, 3, 0, 0), (11, 1, 3, 0, 0), (12, 65, 318, 1, 200), (15, 3, 4, 0, 0), (17, 1, 3, 0, 0), (18, 1, 3, 0, 0), (19, 0, 0, 0, 1), (20, 31, 0, 0, 0), (21, 36, 0, 0, 0), (22, 3, 3, 0, 0), (23, 1, 3, 0, 0), (24, 65, 318, 1, 200), (27, 3, 5, 0, 0), (29, 1, 3, 0, 0), (30, 1, 3, 0, 0), (31, 0, 0, 0, 1), (32, 31, 0, 0, 0), (33, 36, 0, 0, 0), (34, 3, 3, 0, 0), (35, 1, 3, 0, 0), (36, 65, 318, 1, 200), (39, 3, 6, 0, 0), (41, 1, 6, 0, 0), (43, 2, 0, 0, 0), (44, 57, 0, 0, 0), (45, 12, 50, 0, 0), (48, 0, 0, 0, 0), (49, 71, 0, 0, 0), (50, 2, 0, 0, 0), (51, 1, 2, 0, 0), (52, 56, 0, 0, 0), (53, 1, 4, 0, 0), (55, 52, 0, 0, 0), (56, 2, 0, 0, 0), (57, 1, 5, 0, 0), (59, 56, 0, 0, 0), (60, 1, 6, 0, 0), (62, 52, 0, 0, 0), (63, 30, 0, 0, 0), (64, 3, 7, 0, 0), (66, 2, 0, 0, 0), (67, 1, 2, 0, 0), (68, 56, 0, 0, 0), (69, 1, 5, 0, 0), (71, 52, 0, 0, 0), (72, 2, 0, 0, 0), (73, 1, 4, 0, 0), (75, 56, 0, 0, 0), (76, 1, 6, 0, 0), (78, 52, 0, 0, 0), (79, 30, 0, 0, 0), (80, 3, 8, 0, 0), (82, 2, 0, 0, 0), (83, 1, 2, 0, 0), (84, 56, 0, 0, 0), (85, 1, 6, 0, 0), (87, 52, 0, 0, 0), (88, 2, 0, 0, 0), (89, 1, 4, 0, 0), (91, 56, 0, 0, 0), (92, 1, 5, 0, 0), (94, 52, 0, 0, 0), (95, 30, 0, 0, 0), (96, 3, 9, 0, 0), (98, 1, 7, 0, 0), (100, 1, 8, 0, 0), (102, 1, 9, 0, 0), (104, 60, 0, 0, 0), (107, 60, 0, 0, 0), (110, 3, 10, 0, 0), (112, 1, 7, 0, 0), (114, 1, 8, 0, 0), (116, 1, 9, 0, 0), (118, 61, 0, 0, 0), (121, 61, 0, 0, 0), (124, 3, 11, 0, 0), (126, 1, 7, 0, 0), (128, 1, 8, 0, 0), (130, 30, 0, 0, 0), (131, 1, 9, 0, 0), (133, 30, 0, 0, 0), (134, 1, 10, 0, 0), (136, 31, 0, 0, 0), (137, 1, 11, 0, 0), (139, 31, 0, 0, 0), (140, 1, 10, 0, 0), (142, 11, 149, 0, 0), (145, 0, 0, 0, 1), (146, 6, 150, 0, 0), (149, 0, 0, 0, 0), (150, 71, 0, 0, 0)]
theorem fr_57_ok : fw_mk 57 12 4 (some .boolean) fr_57 = true := by decide +kernel
def ct_k_fourLikeD : List (Nat × fw_X) := [(318, x_k_numberOfTrailingZeros)]
theorem ct_k_fourLikeD_ok (d : Nat) : fw_cok fw_T (d + 1) ct_k_fourLikeD := by
  intro q hq as W Q h
  simp only [ct_k_fourLikeD, List.mem_cons, List.not_mem_nil, or_false] at hq
  rcases hq with rfl
  · exact jc_of (x_k_numberOfTrailingZeros_ok (d + 0) as W Q h)
theorem s_k_fourLikeD_0 {Post : Option fw_V → fw_W → Prop} {d : Nat} {W : fw_W} {ma : Int}
    (hw_ : (0 ≤ ma ∧ ma < 64) ∧ (-2147483648 ≤ ma - (1 : Int) ∧ ma - (1 : Int) ≤ 2147483647 ∧ ((-2147483648 ≤ (fw_and ma (ma - (1 : Int))) → (fw_and ma (ma - (1 : Int))) ≤ 2147483647 → jf fw_T (d + 2) 57 11 [(0, .inr (.inl 330)), (2, .inl (tz ma)), (3, .inl (fw_and ma (ma - (1 : Int))))] [] W Post)))) :
    jf fw_T (d + 2) 57 0 [(0, .inr (.inl 330)), (1, .inl ma)] [] W Post := fw_ok (n := 10) (ss := [(11, [0, 2, 3]), (23, [0, 2, 3, 4]), (35, [0, 2, 3, 4, 5]), (50, [0, 2, 4, 5, 6])]) (hv := [63, 79, 95, 130, 133, 136, 139]) fr_57_ok fv_doorsk_ok (ct_k_fourLikeD_ok d) hw_

set_option maxRecDepth 10000 in
theorem s_k_fourLikeD_50 {Post : Option fw_V → fw_W → Prop} {d : Nat} {W : fw_W} {a b c e : Int}
    (hw_ : 0 ≤ a ∧ a < 6 ∧ (0 ≤ b ∧ b < 6 ∧ (∀ v1 : Int, -2147483648 ≤ v1 → v1 ≤ 2147483647 → 0 ≤ c ∧ c < 6 ∧ (0 ≤ e ∧ e < 6 ∧ (∀ v2 : Int, -2147483648 ≤ v2 → v2 ≤ 2147483647 → ∀ v3 : Int, -2147483648 ≤ v3 → v3 ≤ 2147483647 → 0 ≤ a ∧ a < 6 ∧ (0 ≤ c ∧ c < 6 ∧ (∀ v4 : Int, -2147483648 ≤ v4 → v4 ≤ 2147483647 → 0 ≤ b ∧ b < 6 ∧ (0 ≤ e ∧ e < 6 ∧ (∀ v5 : Int, -2147483648 ≤ v5 → v5 ≤ 2147483647 → ∀ v6 : Int, -2147483648 ≤ v6 → v6 ≤ 2147483647 → 0 ≤ a ∧ a < 6 ∧ (0 ≤ e ∧ e < 6 ∧ (∀ v7 : Int, -2147483648 ≤ v7 → v7 ≤ 2147483647 → 0 ≤ b ∧ b < 6 ∧ (0 ≤ c ∧ c < 6 ∧ (∀ v8 : Int, -2147483648 ≤ v8 → v8 ≤ 2147483647 → ∀ v9 : Int, -2147483648 ≤ v9 → v9 ≤ 2147483647 → ∀ v10 : Int, -2147483648 ≤ v10 → v10 ≤ 2147483647 → ∀ v11 : Int, -2147483648 ≤ v11 → v11 ≤ 2147483647 → ∀ v12 : Int, -2147483648 ≤ v12 → v12 ≤ 2147483647 → ∀ v13 : Int, -2147483648 ≤ v13 → v13 ≤ 2147483647 → ((¬ v13 = (max v3 (max v6 v9)) → 0 ≤ (0 : Int) ∧ (0 : Int) ≤ 1 ∧ Post (some (.inl (0 : Int))) W) ∧ (v13 = (max v3 (max v6 v9)) → 0 ≤ (1 : Int) ∧ (1 : Int) ≤ 1 ∧ Post (some (.inl (1 : Int))) W))))))))))))))) :
    jf fw_T (d + 2) 57 50 [(0, .inr (.inl 330)), (2, .inl a), (4, .inl b), (5, .inl c), (6, .inl e)] [] W Post := fw_ok (n := 63) (ss := [(11, [0, 2, 3]), (23, [0, 2, 3, 4]), (35, [0, 2, 3, 4, 5]), (50, [0, 2, 4, 5, 6])]) (hv := [63, 79, 95, 130, 133, 136, 139]) fr_57_ok fv_doorsk_ok (ct_k_fourLikeD_ok d) hw_

theorem s_k_fourLikeD_35 {Post : Option fw_V → fw_W → Prop} {d : Nat} {W : fw_W} {a x3 b c : Int}
    (hw_ : (0 ≤ x3 ∧ x3 < 64) ∧ ((((tz x3) < (6 : Int) → jf fw_T (d + 2) 57 50 [(0, .inr (.inl 330)), (2, .inl a), (4, .inl b), (5, .inl c), (6, .inl (tz x3))] [] W Post) ∧ ((6 : Int) ≤ (tz x3) → 0 ≤ (0 : Int) ∧ (0 : Int) ≤ 1 ∧ Post (some (.inl (0 : Int))) W)))) :
    jf fw_T (d + 2) 57 35 [(0, .inr (.inl 330)), (2, .inl a), (3, .inl x3), (4, .inl b), (5, .inl c)] [] W Post := fw_ok (n := 10) (ss := [(11, [0, 2, 3]), (23, [0, 2, 3, 4]), (35, [0, 2, 3, 4, 5]), (50, [0, 2, 4, 5, 6])]) (hv := [63, 79, 95, 130, 133, 136, 139]) fr_57_ok fv_doorsk_ok (ct_k_fourLikeD_ok d) hw_

theorem s_k_fourLikeD_23 {Post : Option fw_V → fw_W → Prop} {d : Nat} {W : fw_W} {a x3 b : Int}
    (hw_ : (0 ≤ x3 ∧ x3 < 64) ∧ (-2147483648 ≤ x3 - (1 : Int) ∧ x3 - (1 : Int) ≤ 2147483647 ∧ ((-2147483648 ≤ (fw_and x3 (x3 - (1 : Int))) → (fw_and x3 (x3 - (1 : Int))) ≤ 2147483647 → jf fw_T (d + 2) 57 35 [(0, .inr (.inl 330)), (2, .inl a), (3, .inl (fw_and x3 (x3 - (1 : Int)))), (4, .inl b), (5, .inl (tz x3))] [] W Post)))) :
    jf fw_T (d + 2) 57 23 [(0, .inr (.inl 330)), (2, .inl a), (3, .inl x3), (4, .inl b)] [] W Post := fw_ok (n := 10) (ss := [(11, [0, 2, 3]), (23, [0, 2, 3, 4]), (35, [0, 2, 3, 4, 5]), (50, [0, 2, 4, 5, 6])]) (hv := [63, 79, 95, 130, 133, 136, 139]) fr_57_ok fv_doorsk_ok (ct_k_fourLikeD_ok d) hw_

theorem s_k_fourLikeD_11 {Post : Option fw_V → fw_W → Prop} {d : Nat} {W : fw_W} {a x3 : Int}
    (hw_ : (0 ≤ x3 ∧ x3 < 64) ∧ (-2147483648 ≤ x3 - (1 : Int) ∧ x3 - (1 : Int) ≤ 2147483647 ∧ ((-2147483648 ≤ (fw_and x3 (x3 - (1 : Int))) → (fw_and x3 (x3 - (1 : Int))) ≤ 2147483647 → jf fw_T (d + 2) 57 23 [(0, .inr (.inl 330)), (2, .inl a), (3, .inl (fw_and x3 (x3 - (1 : Int)))), (4, .inl (tz x3))] [] W Post)))) :
    jf fw_T (d + 2) 57 11 [(0, .inr (.inl 330)), (2, .inl a), (3, .inl x3)] [] W Post := fw_ok (n := 10) (ss := [(11, [0, 2, 3]), (23, [0, 2, 3, 4]), (35, [0, 2, 3, 4, 5]), (50, [0, 2, 4, 5, 6])]) (hv := [63, 79, 95, 130, 133, 136, 139]) fr_57_ok fv_doorsk_ok (ct_k_fourLikeD_ok d) hw_

theorem lm_k_fourLikeD_50 {Post : Option fw_V → fw_W → Prop} {d : Nat} {W : fw_W} {ma : Int} (hpre : 0 ≤ ma ∧ ma < 64) (hP : ∀ (v : Int) , (0 ≤ v ∧ v ≤ 1 ∧ (True)) → Post (some (.inl v)) W)  : ∀ (a b c e : Int), 0 ≤ a ∧ a < 6 ∧ 0 ≤ b ∧ b < 6 ∧ 0 ≤ c ∧ c < 6 ∧ 0 ≤ e ∧ e < 6 → jf fw_T (d + 2) 57 50 [(0, .inr (.inl 330)), (2, .inl a), (4, .inl b), (5, .inl c), (6, .inl e)] [] W Post := by
  intro a b c e hi
  refine jf_rng (fun hrg => ?_)
  have hrg : -2147483648 ≤ a ∧ a ≤ 2147483647 ∧ -2147483648 ≤ b ∧ b ≤ 2147483647 ∧ -2147483648 ≤ c ∧ c ≤ 2147483647 ∧ -2147483648 ≤ e ∧ e ≤ 2147483647 ∧ True := hrg
  refine s_k_fourLikeD_50 ?_
  repeat' (first
    | (exact True.intro)
    | (exact hpre.1)
    | (refine And.intro ?_ ?_)
    | (refine hP _ ?_; (refine ⟨by omega, by omega, ?_⟩; (first | trivial | omega)))
    | omega
    | (intro _))
theorem lm_k_fourLikeD_35 {Post : Option fw_V → fw_W → Prop} {d : Nat} {W : fw_W} {ma : Int} (hpre : 0 ≤ ma ∧ ma < 64) (hP : ∀ (v : Int) , (0 ≤ v ∧ v ≤ 1 ∧ (True)) → Post (some (.inl v)) W)  : ∀ (a x3 b c : Int), 0 ≤ x3 ∧ x3 < 64 ∧ 0 ≤ a ∧ 0 ≤ b ∧ 0 ≤ c ∧ (tz x3 < 32 → c < tz x3 ∧ b < c ∧ a < b) → jf fw_T (d + 2) 57 35 [(0, .inr (.inl 330)), (2, .inl a), (3, .inl x3), (4, .inl b), (5, .inl c)] [] W Post := by
  intro a x3 b c hi
  refine jf_rng (fun hrg => ?_)
  have hrg : -2147483648 ≤ a ∧ a ≤ 2147483647 ∧ -2147483648 ≤ x3 ∧ x3 ≤ 2147483647 ∧ -2147483648 ≤ b ∧ b ≤ 2147483647 ∧ -2147483648 ≤ c ∧ c ≤ 2147483647 ∧ True := hrg
  refine s_k_fourLikeD_35 ?_
  have q0 := tz_i (x := x3) (by omega) (by omega)
  repeat' (first
    | (exact True.intro)
    | (exact hpre.1)
    | (refine And.intro ?_ ?_)
    | (refine (lm_k_fourLikeD_50 (ma := ma) hpre hP _ _ _ _ ?_); (first | omega | trivial))
    | (refine hP _ ?_; (refine ⟨by omega, by omega, ?_⟩; (first | trivial | omega)))
    | omega
    | (intro _))
theorem lm_k_fourLikeD_23 {Post : Option fw_V → fw_W → Prop} {d : Nat} {W : fw_W} {ma : Int} (hpre : 0 ≤ ma ∧ ma < 64) (hP : ∀ (v : Int) , (0 ≤ v ∧ v ≤ 1 ∧ (True)) → Post (some (.inl v)) W)  : ∀ (a x3 b : Int), 0 ≤ x3 ∧ x3 < 64 ∧ 0 ≤ a ∧ 0 ≤ b ∧ (tz x3 < 32 → b < tz x3 ∧ a < b) → jf fw_T (d + 2) 57 23 [(0, .inr (.inl 330)), (2, .inl a), (3, .inl x3), (4, .inl b)] [] W Post := by
  intro a x3 b hi
  refine jf_rng (fun hrg => ?_)
  have hrg : -2147483648 ≤ a ∧ a ≤ 2147483647 ∧ -2147483648 ≤ x3 ∧ x3 ≤ 2147483647 ∧ -2147483648 ≤ b ∧ b ≤ 2147483647 ∧ True := hrg
  refine s_k_fourLikeD_23 ?_
  have q0 := tz_i (x := x3) (by omega) (by omega)
  repeat' (first
    | (exact True.intro)
    | (exact hpre.1)
    | (refine And.intro ?_ ?_)
    | (refine (lm_k_fourLikeD_35 (ma := ma) hpre hP _ _ _ _ ?_); (first | omega | trivial))
    | (refine hP _ ?_; (refine ⟨by omega, by omega, ?_⟩; (first | trivial | omega)))
    | omega
    | (intro _))
theorem lm_k_fourLikeD_11 {Post : Option fw_V → fw_W → Prop} {d : Nat} {W : fw_W} {ma : Int} (hpre : 0 ≤ ma ∧ ma < 64) (hP : ∀ (v : Int) , (0 ≤ v ∧ v ≤ 1 ∧ (True)) → Post (some (.inl v)) W)  : ∀ (a x3 : Int), 0 ≤ x3 ∧ x3 < 64 ∧ 0 ≤ a ∧ (tz x3 < 32 → a < tz x3) → jf fw_T (d + 2) 57 11 [(0, .inr (.inl 330)), (2, .inl a), (3, .inl x3)] [] W Post := by
  intro a x3 hi
  refine jf_rng (fun hrg => ?_)
  have hrg : -2147483648 ≤ a ∧ a ≤ 2147483647 ∧ -2147483648 ≤ x3 ∧ x3 ≤ 2147483647 ∧ True := hrg
  refine s_k_fourLikeD_11 ?_
  have q0 := tz_i (x := x3) (by omega) (by omega)
  repeat' (first
    | (exact True.intro)
    | (exact hpre.1)
    | (refine And.intro ?_ ?_)
    | (refine (lm_k_fourLikeD_23 (ma := ma) hpre hP _ _ _ ?_); (first | omega | trivial))
    | (refine hP _ ?_; (refine ⟨by omega, by omega, ?_⟩; (first | trivial | omega)))
    | omega
    | (intro _))
def x_k_fourLikeD : fw_X := fun as W Q => match as with
  | [.inr (.inl r0_), .inl ma] => fw_if (Nat.beq r0_ 330) ((0 ≤ ma ∧ ma < 64) ∧ (∀ (v : Int), (0 ≤ v ∧ v ≤ 1 ∧ (True)) → Q (some (.inl v)) W))
  | _ => False
theorem x_k_fourLikeD_ok (d : Nat) (as : List fw_V) (W : fw_W) (Q : Option fw_V → fw_W → Prop) (hx : x_k_fourLikeD as W Q) : jf fw_T (d + 2) 57 0 (fw_args 0 as) [] W Q := by
  unfold x_k_fourLikeD at hx
  split at hx
  · rename_i r0_ ma
    obtain ⟨e0_, hx0⟩ := fw_if_ok hx
    have e0_ := Nat.eq_of_beq_eq_true e0_
    clear hx
    subst e0_
    obtain ⟨hpre, hQ⟩ := hx0
    have hP := hQ
    refine s_k_fourLikeD_0 ?_
    have q0 := tz_i hpre.1 hpre.2
    repeat' (first
      | (exact True.intro)
      | (exact hpre.1)
      | (refine And.intro ?_ ?_)
      | (refine (lm_k_fourLikeD_11 (ma := ma) hpre hP _ _ ?_); (first | omega | trivial))
      | (refine (lm_k_fourLikeD_23 (ma := ma) hpre hP _ _ _ ?_); (first | omega | trivial))
      | (refine (lm_k_fourLikeD_35 (ma := ma) hpre hP _ _ _ _ ?_); (first | omega | trivial))
      | (refine (lm_k_fourLikeD_50 (ma := ma) hpre hP _ _ _ _ ?_); (first | omega | trivial))
      | (refine hP _ ?_; (refine ⟨by omega, by omega, ?_⟩; (first | trivial | omega)))
      | omega
      | (intro _))
  · exact hx.elim

def fr_15 : fw_P := [(0, 1, 1, 0, 0), (1, 65, 318, 1, 200), (4, 3, 2, 0, 0), (5, 1, 1, 0, 0), (6, 1, 1, 0, 0), (7, 0, 0, 0, 1), (8, 31, 0, 0, 0), (9, 36, 0, 0, 0), (10, 3, 3, 0, 0), (11, 1, 3, 0, 0), (12, 65, 318, 1, 200), (15, 3, 4, 0, 0), (17, 1, 3, 0, 0), (18, 1, 3, 0, 0), (19, 0, 0, 0, 1), (20, 31, 0, 0, 0), (21, 36, 0, 0, 0), (22, 65, 318, 1, 200), (25, 3, 5, 0, 0), (27, 1, 5, 0, 0), (29, 0, 0, 0, 6), (31, 12, 36, 0, 0), (34, 0, 0, 0, 0), (35, 71, 0, 0, 0), (36, 2, 0, 0, 0), (37, 50, 1, 9, 0), (40, 1, 2, 0, 0), (41, 56, 0, 0, 0), (42, 1, 4, 0, 0), (44, 52, 0, 0, 0), (45, 2, 0, 0, 0), (46, 50, 1, 9, 0), (49, 1, 2, 0, 0), (50, 56, 0, 0, 0), (51, 1, 5, 0, 0), (53, 52, 0, 0, 0), (54, 30, 0, 0, 0), (55, 2, 0, 0, 0), (56, 50, 1, 9, 0), (59, 1, 4, 0, 0), (61, 56, 0, 0, 0), (62, 1, 5, 0, 0), (64, 52, 0, 0, 0), (65, 30, 0, 0, 0), (66, 3, 6, 0, 0), (68, 2, 0, 0, 0), (69, 50, 1, 9, 0), (72, 1, 2, 0, 0), (73, 56, 0, 0, 0), (74, 1, 4, 0, 0), (76, 52, 0, 0, 0), (77, 2, 0, 0, 0), (78, 50, 1, 9, 0), (81, 1, 2, 0, 0), (82, 56, 0, 0, 0), (83, 1, 5, 0, 0), (85, 52, 0, 0, 0), (86, 2, 0, 0, 0), (87, 50, 1, 9, 0), (90, 1, 4, 0, 0), (92, 56, 0, 0, 0), (93, 1, 5, 0, 0), (95, 52, 0, 0, 0), (96, 60, 0, 0, 0), (99, 60, 0, 0, 0), (102, 3, 7, 0, 0), (104, 0, 0, 0, 2), (105, 1, 7, 0, 0), (107, 32, 0, 0, 0), (108, 1, 6, 0, 0), (110, 14, 117, 0, 0), (113, 0, 0, 0, 1), (114, 6, 118, 0, 0), (117, 0, 0, 0, 0), (118, 71, 0, 0, 0)]
theorem fr_15_ok : fw_mk 15 8 1 (some .boolean) fr_15 = true := by decide +kernel
def ct_k_isThreeRight : List (Nat × fw_X) := [(318, x_k_numberOfTrailingZeros)]
theorem ct_k_isThreeRight_ok (d : Nat) : fw_cok fw_T (d + 1) ct_k_isThreeRight := by
  intro q hq as W Q h
  simp only [ct_k_isThreeRight, List.mem_cons, List.not_mem_nil, or_false] at hq
  rcases hq with rfl
  · exact jc_of (x_k_numberOfTrailingZeros_ok (d + 0) as W Q h)
theorem s_k_isThreeRight_0 {Post : Option fw_V → fw_W → Prop} {d : Nat} {W : fw_W} {ma : Int}
    (hw_ : (0 ≤ ma ∧ ma < 64) ∧ (-2147483648 ≤ ma - (1 : Int) ∧ ma - (1 : Int) ≤ 2147483647 ∧ ((-2147483648 ≤ (fw_and ma (ma - (1 : Int))) → (fw_and ma (ma - (1 : Int))) ≤ 2147483647 → (0 ≤ (fw_and ma (ma - (1 : Int))) ∧ (fw_and ma (ma - (1 : Int))) < 64) ∧ (-2147483648 ≤ (fw_and ma (ma - (1 : Int))) - (1 : Int) ∧ (fw_and ma (ma - (1 : Int))) - (1 : Int) ≤ 2147483647 ∧ ((-2147483648 ≤ (fw_and (fw_and ma (ma - (1 : Int))) ((fw_and ma (ma - (1 : Int))) - (1 : Int))) → (fw_and (fw_and ma (ma - (1 : Int))) ((fw_and ma (ma - (1 : Int))) - (1 : Int))) ≤ 2147483647 → (0 ≤ (fw_and (fw_and ma (ma - (1 : Int))) ((fw_and ma (ma - (1 : Int))) - (1 : Int))) ∧ (fw_and (fw_and ma (ma - (1 : Int))) ((fw_and ma (ma - (1 : Int))) - (1 : Int))) < 64) ∧ ((((tz (fw_and (fw_and ma (ma - (1 : Int))) ((fw_and ma (ma - (1 : Int))) - (1 : Int)))) < (6 : Int) → jf fw_T (d + 2) 15 36 [(0, .inr (.inl 324)), (2, .inl (tz ma)), (4, .inl (tz (fw_and ma (ma - (1 : Int))))), (5, .inl (tz (fw_and (fw_and ma (ma - (1 : Int))) ((fw_and ma (ma - (1 : Int))) - (1 : Int)))))] [] W Post) ∧ ((6 : Int) ≤ (tz (fw_and (fw_and ma (ma - (1 : Int))) ((fw_and ma (ma - (1 : Int))) - (1 : Int)))) → 0 ≤ (0 : Int) ∧ (0 : Int) ≤ 1 ∧ Post (some (.inl (0 : Int))) W)))))))))) :
    jf fw_T (d + 2) 15 0 [(0, .inr (.inl 324)), (1, .inl ma)] [] W Post := fw_ok (n := 25) (ss := [(36, [0, 2, 4, 5])]) (hv := [54, 65, 107]) fr_15_ok fv_doorsk_ok (ct_k_isThreeRight_ok d) hw_

theorem s_k_isThreeRight_36 {Post : Option fw_V → fw_W → Prop} {d : Nat} {W : fw_W} {a b c : Int}
    (hw_ : 0 ≤ a ∧ a < 6 ∧ (0 ≤ b ∧ b < 6 ∧ (∀ v1 : Int, -2147483648 ≤ v1 → v1 ≤ 2147483647 → 0 ≤ a ∧ a < 6 ∧ (0 ≤ c ∧ c < 6 ∧ (∀ v2 : Int, -2147483648 ≤ v2 → v2 ≤ 2147483647 → ∀ v3 : Int, -2147483648 ≤ v3 → v3 ≤ 2147483647 → 0 ≤ b ∧ b < 6 ∧ (0 ≤ c ∧ c < 6 ∧ (∀ v4 : Int, -2147483648 ≤ v4 → v4 ≤ 2147483647 → ∀ v5 : Int, -2147483648 ≤ v5 → v5 ≤ 2147483647 → 0 ≤ a ∧ a < 6 ∧ (0 ≤ b ∧ b < 6 ∧ (∀ v6 : Int, -2147483648 ≤ v6 → v6 ≤ 2147483647 → 0 ≤ a ∧ a < 6 ∧ (0 ≤ c ∧ c < 6 ∧ (∀ v7 : Int, -2147483648 ≤ v7 → v7 ≤ 2147483647 → 0 ≤ b ∧ b < 6 ∧ (0 ≤ c ∧ c < 6 ∧ (∀ v8 : Int, -2147483648 ≤ v8 → v8 ≤ 2147483647 → ∀ v9 : Int, -2147483648 ≤ v9 → v9 ≤ 2147483647 → ((v5 < v9 → 0 ≤ (0 : Int) ∧ (0 : Int) ≤ 1 ∧ Post (some (.inl (0 : Int))) W) ∧ (v9 ≤ v5 → 0 ≤ (1 : Int) ∧ (1 : Int) ≤ 1 ∧ Post (some (.inl (1 : Int))) W))))))))))))))) :
    jf fw_T (d + 2) 15 36 [(0, .inr (.inl 324)), (2, .inl a), (4, .inl b), (5, .inl c)] [] W Post := fw_ok (n := 51) (ss := [(36, [0, 2, 4, 5])]) (hv := [54, 65, 107]) fr_15_ok fv_doorsk_ok (ct_k_isThreeRight_ok d) hw_

theorem lm_k_isThreeRight_36 {Post : Option fw_V → fw_W → Prop} {d : Nat} {W : fw_W} {ma : Int} (hpre : 0 ≤ ma ∧ ma < 64) (hP : ∀ (v : Int) , (0 ≤ v ∧ v ≤ 1 ∧ (True)) → Post (some (.inl v)) W)  : ∀ (a b c : Int), 0 ≤ a ∧ a < 6 ∧ 0 ≤ b ∧ b < 6 ∧ 0 ≤ c ∧ c < 6 → jf fw_T (d + 2) 15 36 [(0, .inr (.inl 324)), (2, .inl a), (4, .inl b), (5, .inl c)] [] W Post := by
  intro a b c hi
  refine jf_rng (fun hrg => ?_)
  have hrg : -2147483648 ≤ a ∧ a ≤ 2147483647 ∧ -2147483648 ≤ b ∧ b ≤ 2147483647 ∧ -2147483648 ≤ c ∧ c ≤ 2147483647 ∧ True := hrg
  refine s_k_isThreeRight_36 ?_
  repeat' (first
    | (exact True.intro)
    | (exact hpre.1)
    | (refine And.intro ?_ ?_)
    | (refine hP _ ?_; (refine ⟨by omega, by omega, ?_⟩; (first | trivial | omega)))
    | omega
    | (intro _))
def x_k_isThreeRight : fw_X := fun as W Q => match as with
  | [.inr (.inl s_), .inl ma] => fw_if (Nat.beq s_ 324) ((0 ≤ ma ∧ ma < 64) ∧ (∀ (v : Int), (0 ≤ v ∧ v ≤ 1 ∧ (True)) → Q (some (.inl v)) W))
  | _ => False
theorem x_k_isThreeRight_ok (d : Nat) (as : List fw_V) (W : fw_W) (Q : Option fw_V → fw_W → Prop) (hx : x_k_isThreeRight as W Q) : jf fw_T (d + 2) 15 0 (fw_args 0 as) [] W Q := by
  unfold x_k_isThreeRight at hx
  split at hx
  · rename_i s_ ma
    obtain ⟨e_, hpre, hQ⟩ := fw_if_ok hx
    have e_ := Nat.eq_of_beq_eq_true e_
    subst e_
    have hP := hQ
    refine s_k_isThreeRight_0 ?_
    have q0 := tz_i hpre.1 hpre.2
    have q1 := tz_i q0.1 q0.2.1
    have q2 := tz_i q1.1 q1.2.1
    repeat' (first
      | (exact True.intro)
      | (exact hpre.1)
      | (refine And.intro ?_ ?_)
      | (refine (lm_k_isThreeRight_36 (ma := ma) hpre hP _ _ _ ?_); (first | omega | trivial))
      | (refine hP _ ?_; (refine ⟨by omega, by omega, ?_⟩; (first | trivial | omega)))
      | omega
      | (intro _))
  · exact hx.elim

def fr_12 : fw_P := [(0, 0, 0, 0, 0), (1, 3, 2, 0, 0), (2, 1, 2, 0, 0), (3, 1, 1, 0, 0), (4, 13, 39, 0, 0), (7, 0, 0, 0, 0), (8, 3, 3, 0, 0), (9, 1, 3, 0, 0), (10, 1, 2, 0, 0), (11, 13, 33, 0, 0), (14, 2, 0, 0, 0), (15, 50, 1, 9, 0), (18, 1, 2, 0, 0), (19, 56, 0, 0, 0), (20, 1, 3, 0, 0), (21, 52, 0, 0, 0), (22, 21, 27, 0, 0), (25, 0, 0, 0, 0), (26, 71, 0, 0, 0), (27, 5, 3, 0, 1), (30, 6, 9, 0, 0), (33, 5, 2, 0, 1), (36, 6, 2, 0, 0), (39, 0, 0, 0, 1), (40, 71, 0, 0, 0)]
theorem fr_12_ok : fw_mk 12 4 1 (some .boolean) fr_12 = true := by decide +kernel
theorem s_k_isWhole_0 {Post : Option fw_V → fw_W → Prop} {d : Nat} {W : fw_W} {nn : Int}
    (hw_ : jf fw_T (d + 1) 12 2 [(0, .inr (.inl 324)), (1, .inl nn), (2, .inl (0 : Int))] [] W Post) :
    jf fw_T (d + 1) 12 0 [(0, .inr (.inl 324)), (1, .inl nn)] [] W Post := fw_ok (n := 3) (ss := [(2, [0, 1, 2]), (9, [0, 1, 2, 3])]) (hv := []) fr_12_ok fv_doorsk_ok (fw_c0 _ _) hw_

theorem s_k_isWhole_9 {Post : Option fw_V → fw_W → Prop} {d : Nat} {W : fw_W} {nn a b : Int}
    (hw_ : ((a ≤ b → -2147483648 ≤ a + (1 : Int) ∧ a + (1 : Int) ≤ 2147483647 ∧ (jf fw_T (d + 1) 12 2 [(0, .inr (.inl 324)), (1, .inl nn), (2, .inl (a + (1 : Int)))] [] W Post)) ∧ (b < a → 0 ≤ a ∧ a < 6 ∧ (0 ≤ b ∧ b < 6 ∧ (∀ v1 : Int, -2147483648 ≤ v1 → v1 ≤ 2147483647 → ((¬ v1 = 0 → -2147483648 ≤ b + (1 : Int) ∧ b + (1 : Int) ≤ 2147483647 ∧ (jf fw_T (d + 1) 12 9 [(0, .inr (.inl 324)), (1, .inl nn), (2, .inl a), (3, .inl (b + (1 : Int)))] [] W Post)) ∧ (v1 = 0 → 0 ≤ (0 : Int) ∧ (0 : Int) ≤ 1 ∧ Post (some (.inl (0 : Int))) W))))))) :
    jf fw_T (d + 1) 12 9 [(0, .inr (.inl 324)), (1, .inl nn), (2, .inl a), (3, .inl b)] [] W Post := fw_ok (n := 13) (ss := [(2, [0, 1, 2]), (9, [0, 1, 2, 3])]) (hv := []) fr_12_ok fv_doorsk_ok (fw_c0 _ _) hw_

theorem s_k_isWhole_2 {Post : Option fw_V → fw_W → Prop} {d : Nat} {W : fw_W} {nn a : Int}
    (hw_ : ((nn ≤ a → 0 ≤ (1 : Int) ∧ (1 : Int) ≤ 1 ∧ Post (some (.inl (1 : Int))) W) ∧ (a < nn → jf fw_T (d + 1) 12 9 [(0, .inr (.inl 324)), (1, .inl nn), (2, .inl a), (3, .inl (0 : Int))] [] W Post))) :
    jf fw_T (d + 1) 12 2 [(0, .inr (.inl 324)), (1, .inl nn), (2, .inl a)] [] W Post := fw_ok (n := 6) (ss := [(2, [0, 1, 2]), (9, [0, 1, 2, 3])]) (hv := []) fr_12_ok fv_doorsk_ok (fw_c0 _ _) hw_

theorem lm_k_isWhole_9 {Post : Option fw_V → fw_W → Prop} {d : Nat} {W : fw_W} {nn : Int} (hpre : nn ≤ 6) (hP : ∀ (v : Int) , (0 ≤ v ∧ v ≤ 1 ∧ (True)) → Post (some (.inl v)) W) (M2 : Int) (h2 : ∀ (a : Int), 0 ≤ a → (nn - a) < M2 → jf fw_T (d + 1) 12 2 [(0, .inr (.inl 324)), (1, .inl nn), (2, .inl a)] [] W Post) : ∀ (m : Nat) (a b : Int), (a - b).toNat = m → 0 ≤ b ∧ 0 ≤ a ∧ a < nn → (nn - a) ≤ M2 → jf fw_T (d + 1) 12 9 [(0, .inr (.inl 324)), (1, .inl nn), (2, .inl a), (3, .inl b)] [] W Post := by
  intro m
  induction m using Nat.strongRecOn with
  | ind m ih =>
    intro a b hm hi e2
    refine jf_rng (fun hrg => ?_)
    have hrg : -2147483648 ≤ nn ∧ nn ≤ 2147483647 ∧ -2147483648 ≤ a ∧ a ≤ 2147483647 ∧ -2147483648 ≤ b ∧ b ≤ 2147483647 ∧ True := hrg
    refine s_k_isWhole_9 ?_
    repeat' (first
      | (exact True.intro)
      | (exact hpre.1)
      | (refine And.intro ?_ ?_)
      | (refine (h2 _ ?_ (by omega)); (first | omega | trivial))
      | (refine (ih _ (by omega) _ _ rfl ?_ (by omega)); (first | omega | trivial))
      | (refine hP _ ?_; (refine ⟨by omega, by omega, ?_⟩; (first | trivial | omega)))
      | omega
      | (intro _))
theorem lm_k_isWhole_2 {Post : Option fw_V → fw_W → Prop} {d : Nat} {W : fw_W} {nn : Int} (hpre : nn ≤ 6) (hP : ∀ (v : Int) , (0 ≤ v ∧ v ≤ 1 ∧ (True)) → Post (some (.inl v)) W)  : ∀ (m : Nat) (a : Int), (nn - a).toNat = m → 0 ≤ a → jf fw_T (d + 1) 12 2 [(0, .inr (.inl 324)), (1, .inl nn), (2, .inl a)] [] W Post := by
  intro m
  induction m using Nat.strongRecOn with
  | ind m ih =>
    intro a hm hi
    refine jf_rng (fun hrg => ?_)
    have hrg : -2147483648 ≤ nn ∧ nn ≤ 2147483647 ∧ -2147483648 ≤ a ∧ a ≤ 2147483647 ∧ True := hrg
    refine s_k_isWhole_2 ?_
    repeat' (first
      | (exact True.intro)
      | (exact hpre.1)
      | (refine And.intro ?_ ?_)
      | (refine (ih _ (by omega) _ rfl ?_); (first | omega | trivial))
      | (refine (lm_k_isWhole_9 (nn := nn) hpre hP (nn - a) (fun a0 hi hl => ih _ (by omega) a0 rfl hi) _ _ _ rfl ?_ (by omega)); (first | omega | trivial))
      | (refine hP _ ?_; (refine ⟨by omega, by omega, ?_⟩; (first | trivial | omega)))
      | omega
      | (intro _))
def x_k_isWhole : fw_X := fun as W Q => match as with
  | [.inr (.inl s_), .inl nn] => fw_if (Nat.beq s_ 324) ((nn ≤ 6) ∧ (∀ (v : Int), (0 ≤ v ∧ v ≤ 1 ∧ (True)) → Q (some (.inl v)) W))
  | _ => False
theorem x_k_isWhole_ok (d : Nat) (as : List fw_V) (W : fw_W) (Q : Option fw_V → fw_W → Prop) (hx : x_k_isWhole as W Q) : jf fw_T (d + 1) 12 0 (fw_args 0 as) [] W Q := by
  unfold x_k_isWhole at hx
  split at hx
  · rename_i s_ nn
    obtain ⟨e_, hpre, hQ⟩ := fw_if_ok hx
    have e_ := Nat.eq_of_beq_eq_true e_
    subst e_
    have hP := hQ
    refine s_k_isWhole_0 ?_
    repeat' (first
      | (exact True.intro)
      | (exact hpre.1)
      | (refine And.intro ?_ ?_)
      | (refine (lm_k_isWhole_2 (nn := nn) hpre hP _ _ rfl ?_); (first | omega | trivial))
      | (refine (lm_k_isWhole_9 (nn := nn) hpre hP M2 h2 _ _ _ rfl ?_ (by omega)); (first | omega | trivial))
      | (refine hP _ ?_; (refine ⟨by omega, by omega, ?_⟩; (first | trivial | omega)))
      | omega
      | (intro _))
  · exact hx.elim

def fr_11 : fw_P := [(0, 0, 0, 0, 0), (1, 3, 3, 0, 0), (2, 1, 3, 0, 0), (3, 0, 0, 0, 6), (5, 13, 40, 0, 0), (8, 0, 0, 0, 0), (9, 3, 4, 0, 0), (11, 1, 4, 0, 0), (13, 0, 0, 0, 6), (15, 13, 34, 0, 0), (18, 2, 0, 0, 0), (19, 50, 1, 9, 0), (22, 1, 3, 0, 0), (23, 56, 0, 0, 0), (24, 1, 4, 0, 0), (26, 0, 0, 0, 0), (27, 53, 0, 0, 0), (28, 5, 4, 0, 1), (31, 6, 11, 0, 0), (34, 5, 3, 0, 1), (37, 6, 2, 0, 0), (40, 0, 0, 0, 0), (41, 3, 3, 0, 0), (42, 1, 3, 0, 0), (43, 2, 0, 0, 0), (44, 50, 1, 0, 0), (47, 13, 146, 0, 0), (50, 2, 0, 0, 0), (51, 50, 1, 8, 0), (54, 1, 3, 0, 0), (55, 52, 0, 0, 0), (56, 0, 0, 0, -1), (57, 10, 74, 0, 0), (60, 2, 0, 0, 0), (61, 50, 1, 8, 0), (64, 1, 3, 0, 0), (65, 52, 0, 0, 0), (66, 1, 2, 0, 0), (67, 14, 74, 0, 0), (70, 0, 0, 0, 1), (71, 6, 75, 0, 0), (74, 0, 0, 0, 0), (75, 3, 4, 0, 0), (77, 2, 0, 0, 0), (78, 50, 1, 7, 0), (81, 1, 3, 0, 0), (82, 52, 0, 0, 0), (83, 1, 2, 0, 0), (84, 14, 140, 0, 0), (87, 1, 4, 0, 0), (89, 21, 140, 0, 0), (92, 2, 0, 0, 0), (93, 50, 1, 9, 0), (96, 2, 0, 0, 0), (97, 50, 1, 4, 0), (100, 1, 3, 0, 0), (101, 52, 0, 0, 0), (102, 56, 0, 0, 0), (103, 2, 0, 0, 0), (104, 50, 1, 5, 0), (107, 1, 3, 0, 0), (108, 52, 0, 0, 0), (109, 2, 0, 0, 0), (110, 50, 1, 6, 0), (113, 1, 3, 0, 0), (114, 52, 0, 0, 0), (115, 53, 0, 0, 0), (116, 2, 0, 0, 0), (117, 50, 1, 9, 0), (120, 2, 0, 0, 0), (121, 50, 1, 5, 0), (124, 1, 3, 0, 0), (125, 52, 0, 0, 0), (126, 56, 0, 0, 0), (127, 2, 0, 0, 0), (128, 50, 1, 4, 0), (131, 1, 3, 0, 0), (132, 52, 0, 0, 0), (133, 2, 0, 0, 0), (134, 50, 1, 6, 0), (137, 1, 3, 0, 0), (138, 52, 0, 0, 0), (139, 53, 0, 0, 0), (140, 5, 3, 0, 1), (143, 6, 42, 0, 0), (146, 2, 0, 0, 0), (147, 1, 1, 0, 0), (148, 64, 12, 1, 401), (151, 71, 0, 0, 0)]
theorem fr_11_ok : fw_mk 11 5 1 (some .boolean) fr_11 = true := by decide +kernel
def ct_k_learn : List (Nat × fw_X) := [(12, x_k_isWhole)]
theorem ct_k_learn_ok (d : Nat) : fw_cok fw_T (d + 1) ct_k_learn := by
  intro q hq as W Q h
  simp only [ct_k_learn, List.mem_cons, List.not_mem_nil, or_false] at hq
  rcases hq with rfl
  · exact jc_of (x_k_isWhole_ok (d + 0) as W Q h)
theorem s_k_learn_0 {Post : Option fw_V → fw_W → Prop} {d : Nat} {W : fw_W} {nn kk : Int}
    (hw_ : jf fw_T (d + 2) 11 2 [(0, .inr (.inl 324)), (1, .inl nn), (2, .inl kk), (3, .inl (0 : Int))] [] W Post) :
    jf fw_T (d + 2) 11 0 [(0, .inr (.inl 324)), (1, .inl nn), (2, .inl kk)] [] W Post := fw_ok (n := 3) (ss := [(2, [0, 1, 2, 3]), (11, [0, 1, 2, 3, 4]), (42, [0, 1, 2, 3])]) (hv := []) fr_11_ok fv_doorsk_ok (ct_k_learn_ok d) hw_

theorem s_k_learn_11 {Post : Option fw_V → fw_W → Prop} {d : Nat} {W : fw_W} {nn kk a b : Int}
    (hw_ : (((6 : Int) ≤ b → -2147483648 ≤ a + (1 : Int) ∧ a + (1 : Int) ≤ 2147483647 ∧ (jf fw_T (d + 2) 11 2 [(0, .inr (.inl 324)), (1, .inl nn), (2, .inl kk), (3, .inl (a + (1 : Int)))] [] W Post)) ∧ (b < (6 : Int) → 0 ≤ a ∧ a < 6 ∧ (0 ≤ b ∧ b < 6 ∧ -2147483648 ≤ (0 : Int) ∧ (0 : Int) ≤ 2147483647 ∧ (-2147483648 ≤ b + (1 : Int) ∧ b + (1 : Int) ≤ 2147483647 ∧ (jf fw_T (d + 2) 11 11 [(0, .inr (.inl 324)), (1, .inl nn), (2, .inl kk), (3, .inl a), (4, .inl (b + (1 : Int)))] [] W Post)))))) :
    jf fw_T (d + 2) 11 11 [(0, .inr (.inl 324)), (1, .inl nn), (2, .inl kk), (3, .inl a), (4, .inl b)] [] W Post := fw_ok (n := 13) (ss := [(2, [0, 1, 2, 3]), (11, [0, 1, 2, 3, 4]), (42, [0, 1, 2, 3])]) (hv := []) fr_11_ok fv_doorsk_ok (ct_k_learn_ok d) hw_

set_option maxRecDepth 10000 in
theorem s_k_learn_42 {Post : Option fw_V → fw_W → Prop} {d : Nat} {W : fw_W} {nn kk a : Int}
    (hw_ : (0 ≤ (fw_g W 324 0) → (fw_g W 324 0) ≤ 40 → (((fw_g W 324 0) ≤ a → (nn ≤ 6) ∧ (∀ (r1 : Int), ((0 ≤ r1 ∧ r1 ≤ 1 ∧ (True))) → 0 ≤ r1 ∧ r1 ≤ 1 ∧ Post (some (.inl r1)) W)) ∧ (a < (fw_g W 324 0) → 0 ≤ a ∧ a < 40 ∧ (-2147483648 ≤ (fw_g W 329 a) → (fw_g W 329 a) ≤ 2147483647 → (((fw_g W 329 a) = (-1 : Int) → 0 ≤ a ∧ a < 40 ∧ (-2147483648 ≤ (fw_g W 328 a) → (fw_g W 328 a) ≤ 2147483647 → ((kk < (fw_g W 328 a) → -2147483648 ≤ a + (1 : Int) ∧ a + (1 : Int) ≤ 2147483647 ∧ (jf fw_T (d + 2) 11 42 [(0, .inr (.inl 324)), (1, .inl nn), (2, .inl kk), (3, .inl (a + (1 : Int)))] [] W Post)) ∧ ((fw_g W 328 a) ≤ kk → ((¬ (0 : Int) = 0 → -2147483648 ≤ a + (1 : Int) ∧ a + (1 : Int) ≤ 2147483647 ∧ (jf fw_T (d + 2) 11 42 [(0, .inr (.inl 324)), (1, .inl nn), (2, .inl kk), (3, .inl (a + (1 : Int)))] [] W Post)) ∧ ((0 : Int) = 0 → 0 ≤ a ∧ a < 40 ∧ (0 ≤ (fw_g W 325 a) → (fw_g W 325 a) ≤ 5 → 0 ≤ (fw_g W 325 a) ∧ (fw_g W 325 a) < 6 ∧ (0 ≤ a ∧ a < 40 ∧ (0 ≤ (fw_g W 326 a) → (fw_g W 326 a) ≤ 5 → 0 ≤ a ∧ a < 40 ∧ (-2147483648 ≤ (fw_g W 327 a) → (fw_g W 327 a) ≤ 2147483647 → 0 ≤ (fw_g W 326 a) ∧ (fw_g W 326 a) < 6 ∧ -2147483648 ≤ (fw_g W 327 a) ∧ (fw_g W 327 a) ≤ 2147483647 ∧ (0 ≤ a ∧ a < 40 ∧ (0 ≤ (fw_g W 326 a) → (fw_g W 326 a) ≤ 5 → 0 ≤ (fw_g W 326 a) ∧ (fw_g W 326 a) < 6 ∧ (0 ≤ a ∧ a < 40 ∧ (0 ≤ (fw_g W 325 a) → (fw_g W 325 a) ≤ 5 → 0 ≤ a ∧ a < 40 ∧ (-2147483648 ≤ (fw_g W 327 a) → (fw_g W 327 a) ≤ 2147483647 → 0 ≤ (fw_g W 325 a) ∧ (fw_g W 325 a) < 6 ∧ -2147483648 ≤ (fw_g W 327 a) ∧ (fw_g W 327 a) ≤ 2147483647 ∧ (-2147483648 ≤ a + (1 : Int) ∧ a + (1 : Int) ≤ 2147483647 ∧ (jf fw_T (d + 2) 11 42 [(0, .inr (.inl 324)), (1, .inl nn), (2, .inl kk), (3, .inl (a + (1 : Int)))] [] W Post))))))))))))))))) ∧ (¬ (fw_g W 329 a) = (-1 : Int) → 0 ≤ a ∧ a < 40 ∧ (-2147483648 ≤ (fw_g W 329 a) → (fw_g W 329 a) ≤ 2147483647 → ((kk < (fw_g W 329 a) → 0 ≤ a ∧ a < 40 ∧ (-2147483648 ≤ (fw_g W 328 a) → (fw_g W 328 a) ≤ 2147483647 → ((kk < (fw_g W 328 a) → -2147483648 ≤ a + (1 : Int) ∧ a + (1 : Int) ≤ 2147483647 ∧ (jf fw_T (d + 2) 11 42 [(0, .inr (.inl 324)), (1, .inl nn), (2, .inl kk), (3, .inl (a + (1 : Int)))] [] W Post)) ∧ ((fw_g W 328 a) ≤ kk → ((¬ (0 : Int) = 0 → -2147483648 ≤ a + (1 : Int) ∧ a + (1 : Int) ≤ 2147483647 ∧ (jf fw_T (d + 2) 11 42 [(0, .inr (.inl 324)), (1, .inl nn), (2, .inl kk), (3, .inl (a + (1 : Int)))] [] W Post)) ∧ ((0 : Int) = 0 → 0 ≤ a ∧ a < 40 ∧ (0 ≤ (fw_g W 325 a) → (fw_g W 325 a) ≤ 5 → 0 ≤ (fw_g W 325 a) ∧ (fw_g W 325 a) < 6 ∧ (0 ≤ a ∧ a < 40 ∧ (0 ≤ (fw_g W 326 a) → (fw_g W 326 a) ≤ 5 → 0 ≤ a ∧ a < 40 ∧ (-2147483648 ≤ (fw_g W 327 a) → (fw_g W 327 a) ≤ 2147483647 → 0 ≤ (fw_g W 326 a) ∧ (fw_g W 326 a) < 6 ∧ -2147483648 ≤ (fw_g W 327 a) ∧ (fw_g W 327 a) ≤ 2147483647 ∧ (0 ≤ a ∧ a < 40 ∧ (0 ≤ (fw_g W 326 a) → (fw_g W 326 a) ≤ 5 → 0 ≤ (fw_g W 326 a) ∧ (fw_g W 326 a) < 6 ∧ (0 ≤ a ∧ a < 40 ∧ (0 ≤ (fw_g W 325 a) → (fw_g W 325 a) ≤ 5 → 0 ≤ a ∧ a < 40 ∧ (-2147483648 ≤ (fw_g W 327 a) → (fw_g W 327 a) ≤ 2147483647 → 0 ≤ (fw_g W 325 a) ∧ (fw_g W 325 a) < 6 ∧ -2147483648 ≤ (fw_g W 327 a) ∧ (fw_g W 327 a) ≤ 2147483647 ∧ (-2147483648 ≤ a + (1 : Int) ∧ a + (1 : Int) ≤ 2147483647 ∧ (jf fw_T (d + 2) 11 42 [(0, .inr (.inl 324)), (1, .inl nn), (2, .inl kk), (3, .inl (a + (1 : Int)))] [] W Post))))))))))))))))) ∧ ((fw_g W 329 a) ≤ kk → 0 ≤ a ∧ a < 40 ∧ (-2147483648 ≤ (fw_g W 328 a) → (fw_g W 328 a) ≤ 2147483647 → ((kk < (fw_g W 328 a) → -2147483648 ≤ a + (1 : Int) ∧ a + (1 : Int) ≤ 2147483647 ∧ (jf fw_T (d + 2) 11 42 [(0, .inr (.inl 324)), (1, .inl nn), (2, .inl kk), (3, .inl (a + (1 : Int)))] [] W Post)) ∧ ((fw_g W 328 a) ≤ kk → ((¬ (1 : Int) = 0 → -2147483648 ≤ a + (1 : Int) ∧ a + (1 : Int) ≤ 2147483647 ∧ (jf fw_T (d + 2) 11 42 [(0, .inr (.inl 324)), (1, .inl nn), (2, .inl kk), (3, .inl (a + (1 : Int)))] [] W Post)) ∧ ((1 : Int) = 0 → 0 ≤ a ∧ a < 40 ∧ (0 ≤ (fw_g W 325 a) → (fw_g W 325 a) ≤ 5 → 0 ≤ (fw_g W 325 a) ∧ (fw_g W 325 a) < 6 ∧ (0 ≤ a ∧ a < 40 ∧ (0 ≤ (fw_g W 326 a) → (fw_g W 326 a) ≤ 5 → 0 ≤ a ∧ a < 40 ∧ (-2147483648 ≤ (fw_g W 327 a) → (fw_g W 327 a) ≤ 2147483647 → 0 ≤ (fw_g W 326 a) ∧ (fw_g W 326 a) < 6 ∧ -2147483648 ≤ (fw_g W 327 a) ∧ (fw_g W 327 a) ≤ 2147483647 ∧ (0 ≤ a ∧ a < 40 ∧ (0 ≤ (fw_g W 326 a) → (fw_g W 326 a) ≤ 5 → 0 ≤ (fw_g W 326 a) ∧ (fw_g W 326 a) < 6 ∧ (0 ≤ a ∧ a < 40 ∧ (0 ≤ (fw_g W 325 a) → (fw_g W 325 a) ≤ 5 → 0 ≤ a ∧ a < 40 ∧ (-2147483648 ≤ (fw_g W 327 a) → (fw_g W 327 a) ≤ 2147483647 → 0 ≤ (fw_g W 325 a) ∧ (fw_g W 325 a) < 6 ∧ -2147483648 ≤ (fw_g W 327 a) ∧ (fw_g W 327 a) ≤ 2147483647 ∧ (-2147483648 ≤ a + (1 : Int) ∧ a + (1 : Int) ≤ 2147483647 ∧ (jf fw_T (d + 2) 11 42 [(0, .inr (.inl 324)), (1, .inl nn), (2, .inl kk), (3, .inl (a + (1 : Int)))] [] W Post)))))))))))))))))))))))))) :
    jf fw_T (d + 2) 11 42 [(0, .inr (.inl 324)), (1, .inl nn), (2, .inl kk), (3, .inl a)] [] W Post := fw_ok (n := 62) (ss := [(2, [0, 1, 2, 3]), (11, [0, 1, 2, 3, 4]), (42, [0, 1, 2, 3])]) (hv := []) fr_11_ok fv_doorsk_ok (ct_k_learn_ok d) hw_

theorem s_k_learn_2 {Post : Option fw_V → fw_W → Prop} {d : Nat} {W : fw_W} {nn kk a : Int}
    (hw_ : (((6 : Int) ≤ a → jf fw_T (d + 2) 11 42 [(0, .inr (.inl 324)), (1, .inl nn), (2, .inl kk), (3, .inl (0 : Int))] [] W Post) ∧ (a < (6 : Int) → jf fw_T (d + 2) 11 11 [(0, .inr (.inl 324)), (1, .inl nn), (2, .inl kk), (3, .inl a), (4, .inl (0 : Int))] [] W Post))) :
    jf fw_T (d + 2) 11 2 [(0, .inr (.inl 324)), (1, .inl nn), (2, .inl kk), (3, .inl a)] [] W Post := fw_ok (n := 6) (ss := [(2, [0, 1, 2, 3]), (11, [0, 1, 2, 3, 4]), (42, [0, 1, 2, 3])]) (hv := []) fr_11_ok fv_doorsk_ok (ct_k_learn_ok d) hw_

theorem lm_k_learn_11 {Post : Option fw_V → fw_W → Prop} {d : Nat} {W : fw_W} {nn kk : Int} (hpre : nn ≤ 6) (hP : ∀ (v : Int) , (0 ≤ v ∧ v ≤ 1 ∧ (True)) → Post (some (.inl v)) W) (M2 : Int) (h2 : ∀ (a : Int), 0 ≤ a → (6 - a) < M2 → jf fw_T (d + 2) 11 2 [(0, .inr (.inl 324)), (1, .inl nn), (2, .inl kk), (3, .inl a)] [] W Post) : ∀ (m : Nat) (a b : Int), (6 - b).toNat = m → 0 ≤ b ∧ 0 ≤ a ∧ a < 6 → (6 - a) ≤ M2 → jf fw_T (d + 2) 11 11 [(0, .inr (.inl 324)), (1, .inl nn), (2, .inl kk), (3, .inl a), (4, .inl b)] [] W Post := by
  intro m
  induction m using Nat.strongRecOn with
  | ind m ih =>
    intro a b hm hi e2
    refine jf_rng (fun hrg => ?_)
    have hrg : -2147483648 ≤ nn ∧ nn ≤ 2147483647 ∧ -2147483648 ≤ kk ∧ kk ≤ 2147483647 ∧ -2147483648 ≤ a ∧ a ≤ 2147483647 ∧ -2147483648 ≤ b ∧ b ≤ 2147483647 ∧ True := hrg
    refine s_k_learn_11 ?_
    repeat' (first
      | (exact True.intro)
      | (exact hpre.1)
      | (refine And.intro ?_ ?_)
      | (refine (h2 _ ?_ (by omega)); (first | omega | trivial))
      | (refine (ih _ (by omega) _ _ rfl ?_ (by omega)); (first | omega | trivial))
      | (refine hP _ ?_; (refine ⟨by omega, by omega, ?_⟩; (first | trivial | omega)))
      | omega
      | (intro _))
theorem lm_k_learn_42 {Post : Option fw_V → fw_W → Prop} {d : Nat} {W : fw_W} {nn kk : Int} (hpre : nn ≤ 6) (hP : ∀ (v : Int) , (0 ≤ v ∧ v ≤ 1 ∧ (True)) → Post (some (.inl v)) W)  : ∀ (m : Nat) (a : Int), ((fw_g W 324 0) - a).toNat = m → 0 ≤ a → jf fw_T (d + 2) 11 42 [(0, .inr (.inl 324)), (1, .inl nn), (2, .inl kk), (3, .inl a)] [] W Post := by
  intro m
  induction m using Nat.strongRecOn with
  | ind m ih =>
    intro a hm hi
    refine jf_rng (fun hrg => ?_)
    have hrg : -2147483648 ≤ nn ∧ nn ≤ 2147483647 ∧ -2147483648 ≤ kk ∧ kk ≤ 2147483647 ∧ -2147483648 ≤ a ∧ a ≤ 2147483647 ∧ True := hrg
    refine s_k_learn_42 ?_
    repeat' (first
      | (exact True.intro)
      | (exact hpre.1)
      | (refine And.intro ?_ ?_)
      | (refine (ih _ (by omega) _ rfl ?_); (first | omega | trivial))
      | (refine hP _ ?_; (refine ⟨by omega, by omega, ?_⟩; (first | trivial | omega)))
      | omega
      | (intro _))
theorem lm_k_learn_2 {Post : Option fw_V → fw_W → Prop} {d : Nat} {W : fw_W} {nn kk : Int} (hpre : nn ≤ 6) (hP : ∀ (v : Int) , (0 ≤ v ∧ v ≤ 1 ∧ (True)) → Post (some (.inl v)) W)  : ∀ (m : Nat) (a : Int), (6 - a).toNat = m → 0 ≤ a → jf fw_T (d + 2) 11 2 [(0, .inr (.inl 324)), (1, .inl nn), (2, .inl kk), (3, .inl a)] [] W Post := by
  intro m
  induction m using Nat.strongRecOn with
  | ind m ih =>
    intro a hm hi
    refine jf_rng (fun hrg => ?_)
    have hrg : -2147483648 ≤ nn ∧ nn ≤ 2147483647 ∧ -2147483648 ≤ kk ∧ kk ≤ 2147483647 ∧ -2147483648 ≤ a ∧ a ≤ 2147483647 ∧ True := hrg
    refine s_k_learn_2 ?_
    repeat' (first
      | (exact True.intro)
      | (exact hpre.1)
      | (refine And.intro ?_ ?_)
      | (refine (ih _ (by omega) _ rfl ?_); (first | omega | trivial))
      | (refine (lm_k_learn_11 (nn := nn) (kk := kk) hpre hP (6 - a) (fun a0 hi hl => ih _ (by omega) a0 rfl hi) _ _ _ rfl ?_ (by omega)); (first | omega | trivial))
      | (refine (lm_k_learn_42 (nn := nn) (kk := kk) hpre hP _ _ rfl ?_); (first | omega | trivial))
      | (refine hP _ ?_; (refine ⟨by omega, by omega, ?_⟩; (first | trivial | omega)))
      | omega
      | (intro _))
def x_k_learn : fw_X := fun as W Q => match as with
  | [.inr (.inl s_), .inl nn, .inl kk] => fw_if (Nat.beq s_ 324) ((nn ≤ 6) ∧ (∀ (v : Int), (0 ≤ v ∧ v ≤ 1 ∧ (True)) → Q (some (.inl v)) W))
  | _ => False
theorem x_k_learn_ok (d : Nat) (as : List fw_V) (W : fw_W) (Q : Option fw_V → fw_W → Prop) (hx : x_k_learn as W Q) : jf fw_T (d + 2) 11 0 (fw_args 0 as) [] W Q := by
  unfold x_k_learn at hx
  split at hx
  · rename_i s_ nn kk
    obtain ⟨e_, hpre, hQ⟩ := fw_if_ok hx
    have e_ := Nat.eq_of_beq_eq_true e_
    subst e_
    have hP := hQ
    refine s_k_learn_0 ?_
    repeat' (first
      | (exact True.intro)
      | (exact hpre.1)
      | (refine And.intro ?_ ?_)
      | (refine (lm_k_learn_2 (nn := nn) (kk := kk) hpre hP _ _ rfl ?_); (first | omega | trivial))
      | (refine (lm_k_learn_11 (nn := nn) (kk := kk) hpre hP M2 h2 _ _ _ rfl ?_ (by omega)); (first | omega | trivial))
      | (refine (lm_k_learn_42 (nn := nn) (kk := kk) hpre hP _ _ rfl ?_); (first | omega | trivial))
      | (refine hP _ ?_; (refine ⟨by omega, by omega, ?_⟩; (first | trivial | omega)))
      | omega
      | (intro _))
  · exact hx.elim

def fr_14 : fw_P := [(0, 0, 0, 0, 0), (1, 3, 4, 0, 0), (3, 1, 4, 0, 0), (5, 0, 0, 0, 1), (6, 1, 1, 0, 0), (7, 39, 0, 0, 0), (8, 13, 82, 0, 0), (11, 1, 4, 0, 0), (13, 65, 317, 1, 100), (16, 1, 2, 0, 0), (17, 11, 36, 0, 0), (20, 1, 3, 0, 0), (21, 20, 32, 0, 0), (24, 1, 4, 0, 0), (26, 1, 3, 0, 0), (27, 36, 0, 0, 0), (28, 1, 3, 0, 0), (29, 10, 36, 0, 0), (32, 0, 0, 0, 1), (33, 6, 37, 0, 0), (36, 0, 0, 0, 0), (37, 3, 5, 0, 0), (39, 1, 5, 0, 0), (41, 20, 76, 0, 0), (44, 1, 2, 0, 0), (45, 0, 0, 0, 3), (46, 11, 61, 0, 0), (49, 2, 0, 0, 0), (50, 1, 4, 0, 0), (52, 64, 15, 1, 801), (55, 20, 73, 0, 0), (58, 6, 76, 0, 0), (61, 2, 0, 0, 0), (62, 50, 1, 9, 0), (65, 1, 4, 0, 0), (67, 65, 57, 2, 1200), (70, 21, 76, 0, 0), (73, 1, 4, 0, 0), (75, 70, 0, 0, 0), (76, 5, 4, 0, 1), (79, 6, 3, 0, 0), (82, 0, 0, 0, 0), (83, 70, 0, 0, 0)]
theorem fr_14_ok : fw_mk 14 6 1 (some .int) fr_14 = true := by decide +kernel
def ct_k_fwWithout : List (Nat × fw_X) := [(317, x_k_bitCount), (15, x_k_isThreeRight), (57, x_k_fourLikeD)]
theorem ct_k_fwWithout_ok (d : Nat) : fw_cok fw_T (d + 2) ct_k_fwWithout := by
  intro q hq as W Q h
  simp only [ct_k_fwWithout, List.mem_cons, List.not_mem_nil, or_false] at hq
  rcases hq with rfl | rfl | rfl
  · exact jc_of (x_k_bitCount_ok (d + 1) as W Q h)
  · exact jc_of (x_k_isThreeRight_ok (d + 0) as W Q h)
  · exact jc_of (x_k_fourLikeD_ok (d + 0) as W Q h)
theorem s_k_fwWithout_0 {Post : Option fw_V → fw_W → Prop} {d : Nat} {W : fw_W} {nn dr pr : Int}
    (hw_ : jf fw_T (d + 3) 14 3 [(0, .inr (.inl 324)), (1, .inl nn), (2, .inl dr), (3, .inl pr), (4, .inl (0 : Int))] [] W Post) :
    jf fw_T (d + 3) 14 0 [(0, .inr (.inl 324)), (1, .inl nn), (2, .inl dr), (3, .inl pr)] [] W Post := fw_ok (n := 3) (ss := [(3, [0, 1, 2, 3, 4])]) (hv := []) fr_14_ok fv_doorsk_ok (ct_k_fwWithout_ok d) hw_

theorem s_k_fwWithout_3 {Post : Option fw_V → fw_W → Prop} {d : Nat} {W : fw_W} {nn dr pr ma : Int}
    (hw_ : (-2147483648 ≤ (fw_shl (1 : Int) nn) → (fw_shl (1 : Int) nn) ≤ 2147483647 → (((fw_shl (1 : Int) nn) ≤ ma → (-2147483648 ≤ (0 : Int) → (0 : Int) ≤ 2147483647 → Post (some (.inl (0 : Int))) W)) ∧ (ma < (fw_shl (1 : Int) nn) → (True) ∧ (∀ (r1 : Int), ((-2147483648 ≤ r1 ∧ r1 ≤ 2147483647 ∧ (True))) → ((¬ r1 = dr → (((0 : Int) = 0 → -2147483648 ≤ ma + (1 : Int) ∧ ma + (1 : Int) ≤ 2147483647 ∧ (jf fw_T (d + 3) 14 3 [(0, .inr (.inl 324)), (1, .inl nn), (2, .inl dr), (3, .inl pr), (4, .inl (ma + (1 : Int)))] [] W Post)) ∧ (¬ (0 : Int) = 0 → ((¬ dr = (3 : Int) → (0 ≤ ma ∧ ma < 64) ∧ (∀ (r2 : Int), ((0 ≤ r2 ∧ r2 ≤ 1 ∧ (True))) → ((¬ r2 = 0 → -2147483648 ≤ ma + (1 : Int) ∧ ma + (1 : Int) ≤ 2147483647 ∧ (jf fw_T (d + 3) 14 3 [(0, .inr (.inl 324)), (1, .inl nn), (2, .inl dr), (3, .inl pr), (4, .inl (ma + (1 : Int)))] [] W Post)) ∧ (r2 = 0 → (-2147483648 ≤ ma → ma ≤ 2147483647 → Post (some (.inl ma)) W))))) ∧ (dr = (3 : Int) → (0 ≤ ma ∧ ma < 64) ∧ (∀ (r3 : Int), ((0 ≤ r3 ∧ r3 ≤ 1 ∧ (True))) → ((r3 = 0 → (-2147483648 ≤ ma → ma ≤ 2147483647 → Post (some (.inl ma)) W)) ∧ (¬ r3 = 0 → -2147483648 ≤ ma + (1 : Int) ∧ ma + (1 : Int) ≤ 2147483647 ∧ (jf fw_T (d + 3) 14 3 [(0, .inr (.inl 324)), (1, .inl nn), (2, .inl dr), (3, .inl pr), (4, .inl (ma + (1 : Int)))] [] W Post))))))))) ∧ (r1 = dr → ((pr = 0 → (((1 : Int) = 0 → -2147483648 ≤ ma + (1 : Int) ∧ ma + (1 : Int) ≤ 2147483647 ∧ (jf fw_T (d + 3) 14 3 [(0, .inr (.inl 324)), (1, .inl nn), (2, .inl dr), (3, .inl pr), (4, .inl (ma + (1 : Int)))] [] W Post)) ∧ (¬ (1 : Int) = 0 → ((¬ dr = (3 : Int) → (0 ≤ ma ∧ ma < 64) ∧ (∀ (r4 : Int), ((0 ≤ r4 ∧ r4 ≤ 1 ∧ (True))) → ((¬ r4 = 0 → -2147483648 ≤ ma + (1 : Int) ∧ ma + (1 : Int) ≤ 2147483647 ∧ (jf fw_T (d + 3) 14 3 [(0, .inr (.inl 324)), (1, .inl nn), (2, .inl dr), (3, .inl pr), (4, .inl (ma + (1 : Int)))] [] W Post)) ∧ (r4 = 0 → (-2147483648 ≤ ma → ma ≤ 2147483647 → Post (some (.inl ma)) W))))) ∧ (dr = (3 : Int) → (0 ≤ ma ∧ ma < 64) ∧ (∀ (r5 : Int), ((0 ≤ r5 ∧ r5 ≤ 1 ∧ (True))) → ((r5 = 0 → (-2147483648 ≤ ma → ma ≤ 2147483647 → Post (some (.inl ma)) W)) ∧ (¬ r5 = 0 → -2147483648 ≤ ma + (1 : Int) ∧ ma + (1 : Int) ≤ 2147483647 ∧ (jf fw_T (d + 3) 14 3 [(0, .inr (.inl 324)), (1, .inl nn), (2, .inl dr), (3, .inl pr), (4, .inl (ma + (1 : Int)))] [] W Post))))))))) ∧ (¬ pr = 0 → (-2147483648 ≤ (fw_and ma pr) → (fw_and ma pr) ≤ 2147483647 → (((fw_and ma pr) = pr → (((0 : Int) = 0 → -2147483648 ≤ ma + (1 : Int) ∧ ma + (1 : Int) ≤ 2147483647 ∧ (jf fw_T (d + 3) 14 3 [(0, .inr (.inl 324)), (1, .inl nn), (2, .inl dr), (3, .inl pr), (4, .inl (ma + (1 : Int)))] [] W Post)) ∧ (¬ (0 : Int) = 0 → ((¬ dr = (3 : Int) → (0 ≤ ma ∧ ma < 64) ∧ (∀ (r6 : Int), ((0 ≤ r6 ∧ r6 ≤ 1 ∧ (True))) → ((¬ r6 = 0 → -2147483648 ≤ ma + (1 : Int) ∧ ma + (1 : Int) ≤ 2147483647 ∧ (jf fw_T (d + 3) 14 3 [(0, .inr (.inl 324)), (1, .inl nn), (2, .inl dr), (3, .inl pr), (4, .inl (ma + (1 : Int)))] [] W Post)) ∧ (r6 = 0 → (-2147483648 ≤ ma → ma ≤ 2147483647 → Post (some (.inl ma)) W))))) ∧ (dr = (3 : Int) → (0 ≤ ma ∧ ma < 64) ∧ (∀ (r7 : Int), ((0 ≤ r7 ∧ r7 ≤ 1 ∧ (True))) → ((r7 = 0 → (-2147483648 ≤ ma → ma ≤ 2147483647 → Post (some (.inl ma)) W)) ∧ (¬ r7 = 0 → -2147483648 ≤ ma + (1 : Int) ∧ ma + (1 : Int) ≤ 2147483647 ∧ (jf fw_T (d + 3) 14 3 [(0, .inr (.inl 324)), (1, .inl nn), (2, .inl dr), (3, .inl pr), (4, .inl (ma + (1 : Int)))] [] W Post))))))))) ∧ (¬ (fw_and ma pr) = pr → (((1 : Int) = 0 → -2147483648 ≤ ma + (1 : Int) ∧ ma + (1 : Int) ≤ 2147483647 ∧ (jf fw_T (d + 3) 14 3 [(0, .inr (.inl 324)), (1, .inl nn), (2, .inl dr), (3, .inl pr), (4, .inl (ma + (1 : Int)))] [] W Post)) ∧ (¬ (1 : Int) = 0 → ((¬ dr = (3 : Int) → (0 ≤ ma ∧ ma < 64) ∧ (∀ (r8 : Int), ((0 ≤ r8 ∧ r8 ≤ 1 ∧ (True))) → ((¬ r8 = 0 → -2147483648 ≤ ma + (1 : Int) ∧ ma + (1 : Int) ≤ 2147483647 ∧ (jf fw_T (d + 3) 14 3 [(0, .inr (.inl 324)), (1, .inl nn), (2, .inl dr), (3, .inl pr), (4, .inl (ma + (1 : Int)))] [] W Post)) ∧ (r8 = 0 → (-2147483648 ≤ ma → ma ≤ 2147483647 → Post (some (.inl ma)) W))))) ∧ (dr = (3 : Int) → (0 ≤ ma ∧ ma < 64) ∧ (∀ (r9 : Int), ((0 ≤ r9 ∧ r9 ≤ 1 ∧ (True))) → ((r9 = 0 → (-2147483648 ≤ ma → ma ≤ 2147483647 → Post (some (.inl ma)) W)) ∧ (¬ r9 = 0 → -2147483648 ≤ ma + (1 : Int) ∧ ma + (1 : Int) ≤ 2147483647 ∧ (jf fw_T (d + 3) 14 3 [(0, .inr (.inl 324)), (1, .inl nn), (2, .inl dr), (3, .inl pr), (4, .inl (ma + (1 : Int)))] [] W Post)))))))))))))))))))) :
    jf fw_T (d + 3) 14 3 [(0, .inr (.inl 324)), (1, .inl nn), (2, .inl dr), (3, .inl pr), (4, .inl ma)] [] W Post := fw_ok (n := 32) (ss := [(3, [0, 1, 2, 3, 4])]) (hv := []) fr_14_ok fv_doorsk_ok (ct_k_fwWithout_ok d) hw_

theorem lm_k_fwWithout_3 {Post : Option fw_V → fw_W → Prop} {d : Nat} {W : fw_W} {nn dr pr : Int} (hpre : 2 ≤ nn ∧ nn ≤ 6) (hP : ∀ (v : Int) , (-2147483648 ≤ v ∧ v ≤ 2147483647 ∧ (True)) → Post (some (.inl v)) W)  : ∀ (m : Nat) (ma : Int), (fw_shl 1 nn - ma).toNat = m → 0 ≤ ma → jf fw_T (d + 3) 14 3 [(0, .inr (.inl 324)), (1, .inl nn), (2, .inl dr), (3, .inl pr), (4, .inl ma)] [] W Post := by
  intro m
  induction m using Nat.strongRecOn with
  | ind m ih =>
    intro ma hm hi
    refine jf_rng (fun hrg => ?_)
    have hrg : -2147483648 ≤ nn ∧ nn ≤ 2147483647 ∧ -2147483648 ≤ dr ∧ dr ≤ 2147483647 ∧ -2147483648 ≤ pr ∧ pr ≤ 2147483647 ∧ -2147483648 ≤ ma ∧ ma ≤ 2147483647 ∧ True := hrg
    refine s_k_fwWithout_3 ?_
    have q0 := shl6 (x := nn) (by omega) (by omega)
    repeat' (first
      | (exact True.intro)
      | (exact hpre.1)
      | (refine And.intro ?_ ?_)
      | (refine (ih _ (by omega) _ rfl ?_); (first | omega | trivial))
      | (refine hP _ ?_; (refine ⟨by omega, by omega, ?_⟩; (first | trivial | omega)))
      | omega
      | (intro _))
def x_k_fwWithout : fw_X := fun as W Q => match as with
  | [.inr (.inl s_), .inl nn, .inl dr, .inl pr] => fw_if (Nat.beq s_ 324) ((2 ≤ nn ∧ nn ≤ 6) ∧ (∀ (v : Int), (-2147483648 ≤ v ∧ v ≤ 2147483647 ∧ (True)) → Q (some (.inl v)) W))
  | _ => False
theorem x_k_fwWithout_ok (d : Nat) (as : List fw_V) (W : fw_W) (Q : Option fw_V → fw_W → Prop) (hx : x_k_fwWithout as W Q) : jf fw_T (d + 3) 14 0 (fw_args 0 as) [] W Q := by
  unfold x_k_fwWithout at hx
  split at hx
  · rename_i s_ nn dr pr
    obtain ⟨e_, hpre, hQ⟩ := fw_if_ok hx
    have e_ := Nat.eq_of_beq_eq_true e_
    subst e_
    have hP := hQ
    refine s_k_fwWithout_0 ?_
    repeat' (first
      | (exact True.intro)
      | (exact hpre.1)
      | (refine And.intro ?_ ?_)
      | (refine (lm_k_fwWithout_3 (nn := nn) (dr := dr) (pr := pr) hpre hP _ _ rfl ?_); (first | omega | trivial))
      | (refine hP _ ?_; (refine ⟨by omega, by omega, ?_⟩; (first | trivial | omega)))
      | omega
      | (intro _))
  · exact hx.elim

def fr_13 : fw_P := [(0, 2, 0, 0, 0), (1, 1, 1, 0, 0), (2, 0, 0, 0, 3), (3, 0, 0, 0, 0), (4, 64, 14, 3, 601), (7, 3, 2, 0, 0), (8, 1, 2, 0, 0), (9, 20, 16, 0, 0), (12, 1, 2, 0, 0), (13, 6, 23, 0, 0), (16, 2, 0, 0, 0), (17, 1, 1, 0, 0), (18, 0, 0, 0, 4), (19, 0, 0, 0, 0), (20, 64, 14, 3, 601), (23, 70, 0, 0, 0)]
theorem fr_13_ok : fw_mk 13 3 1 (some .int) fr_13 = true := by decide +kernel
def ct_k_firstWrong : List (Nat × fw_X) := [(14, x_k_fwWithout)]
theorem ct_k_firstWrong_ok (d : Nat) : fw_cok fw_T (d + 3) ct_k_firstWrong := by
  intro q hq as W Q h
  simp only [ct_k_firstWrong, List.mem_cons, List.not_mem_nil, or_false] at hq
  rcases hq with rfl
  · exact jc_of (x_k_fwWithout_ok (d + 0) as W Q h)
theorem s_k_firstWrong_0 {Post : Option fw_V → fw_W → Prop} {d : Nat} {W : fw_W} {nn : Int}
    (hw_ : (2 ≤ nn ∧ nn ≤ 6) ∧ (∀ (r1 : Int), ((-2147483648 ≤ r1 ∧ r1 ≤ 2147483647 ∧ (True))) → ((r1 = 0 → (2 ≤ nn ∧ nn ≤ 6) ∧ (∀ (r2 : Int), ((-2147483648 ≤ r2 ∧ r2 ≤ 2147483647 ∧ (True))) → (-2147483648 ≤ r2 → r2 ≤ 2147483647 → Post (some (.inl r2)) W))) ∧ (¬ r1 = 0 → (-2147483648 ≤ r1 → r1 ≤ 2147483647 → Post (some (.inl r1)) W))))) :
    jf fw_T (d + 4) 13 0 [(0, .inr (.inl 324)), (1, .inl nn)] [] W Post := fw_ok (n := 15) (ss := []) (hv := []) fr_13_ok fv_doorsk_ok (ct_k_firstWrong_ok d) hw_

def x_k_firstWrong : fw_X := fun as W Q => match as with
  | [.inr (.inl s_), .inl nn] => fw_if (Nat.beq s_ 324) ((2 ≤ nn ∧ nn ≤ 6) ∧ (∀ (v : Int), (-2147483648 ≤ v ∧ v ≤ 2147483647 ∧ (True)) → Q (some (.inl v)) W))
  | _ => False
theorem x_k_firstWrong_ok (d : Nat) (as : List fw_V) (W : fw_W) (Q : Option fw_V → fw_W → Prop) (hx : x_k_firstWrong as W Q) : jf fw_T (d + 4) 13 0 (fw_args 0 as) [] W Q := by
  unfold x_k_firstWrong at hx
  split at hx
  · rename_i s_ nn
    obtain ⟨e_, hpre, hQ⟩ := fw_if_ok hx
    have e_ := Nat.eq_of_beq_eq_true e_
    subst e_
    have hP := hQ
    refine s_k_firstWrong_0 ?_
    repeat' (first
      | (exact True.intro)
      | (exact hpre.1)
      | (refine And.intro ?_ ?_)
      | (refine hP _ ?_; (refine ⟨by omega, by omega, ?_⟩; (first | trivial | omega)))
      | omega
      | (intro _))
  · exact hx.elim

def fr_18 : fw_P := [(0, 2, 0, 0, 0), (1, 2, 0, 0, 0), (2, 50, 1, 10, 0), (5, 2, 0, 0, 0), (6, 50, 1, 9, 0), (9, 1, 1, 0, 0), (10, 56, 0, 0, 0), (11, 1, 3, 0, 0), (12, 52, 0, 0, 0), (13, 2, 0, 0, 0), (14, 50, 1, 9, 0), (17, 1, 2, 0, 0), (18, 56, 0, 0, 0), (19, 1, 3, 0, 0), (20, 52, 0, 0, 0), (21, 31, 0, 0, 0), (22, 62, 0, 0, 0), (25, 60, 0, 0, 0), (28, 51, 1, 10, 0), (31, 2, 0, 0, 0), (32, 2, 0, 0, 0), (33, 50, 1, 11, 0), (36, 2, 0, 0, 0), (37, 50, 1, 9, 0), (40, 1, 1, 0, 0), (41, 56, 0, 0, 0), (42, 1, 3, 0, 0), (43, 52, 0, 0, 0), (44, 2, 0, 0, 0), (45, 50, 1, 9, 0), (48, 1, 2, 0, 0), (49, 56, 0, 0, 0), (50, 1, 3, 0, 0), (51, 52, 0, 0, 0), (52, 30, 0, 0, 0), (53, 61, 0, 0, 0), (56, 51, 1, 11, 0), (59, 72, 0, 0, 0)]
theorem fr_18_ok : fw_mk 18 4 1 none fr_18 = true := by decide +kernel
theorem s_k_boundByThird_0 {Post : Option fw_V → fw_W → Prop} {d : Nat} {W : fw_W} {a b c : Int}
    (hw_ : (-2147483648 ≤ (fw_g W 324 10) → (fw_g W 324 10) ≤ 2147483647 → 0 ≤ a ∧ a < 6 ∧ (0 ≤ c ∧ c < 6 ∧ (∀ v1 : Int, -2147483648 ≤ v1 → v1 ≤ 2147483647 → 0 ≤ b ∧ b < 6 ∧ (0 ≤ c ∧ c < 6 ∧ (∀ v2 : Int, -2147483648 ≤ v2 → v2 ≤ 2147483647 → ∀ v3 : Int, -2147483648 ≤ v3 → v3 ≤ 2147483647 → (∀ v4 : Int, -2147483648 ≤ v4 → v4 ≤ 2147483647 → -2147483648 ≤ (max (fw_g W 324 10) v4) ∧ (max (fw_g W 324 10) v4) ≤ 2147483647 ∧ ((-2147483648 ≤ (fw_g W 324 11) → (fw_g W 324 11) ≤ 2147483647 → 0 ≤ a ∧ a < 6 ∧ (0 ≤ c ∧ c < 6 ∧ (∀ v5 : Int, -2147483648 ≤ v5 → v5 ≤ 2147483647 → 0 ≤ b ∧ b < 6 ∧ (0 ≤ c ∧ c < 6 ∧ (∀ v6 : Int, -2147483648 ≤ v6 → v6 ≤ 2147483647 → ∀ v7 : Int, -2147483648 ≤ v7 → v7 ≤ 2147483647 → -2147483648 ≤ (min (fw_g W 324 11) v7) ∧ (min (fw_g W 324 11) v7) ≤ 2147483647 ∧ (Post none (fw_up (fw_up W 324 10 (max (fw_g W 324 10) v4)) 324 11 (min (fw_g W 324 11) v7)))))))))))))))) :
    jf fw_T (d + 1) 18 0 [(0, .inr (.inl 324)), (1, .inl a), (2, .inl b), (3, .inl c)] [] W Post := fw_ok (n := 39) (ss := []) (hv := [21, 52]) fr_18_ok fv_doorsk_ok (fw_c0 _ _) hw_

def x_k_boundByThird : fw_X := fun as W Q => match as with
  | [.inr (.inl s_), .inl a, .inl b, .inl c] => fw_if (Nat.beq s_ 324) ((0 ≤ a ∧ a < 6 ∧ 0 ≤ b ∧ b < 6 ∧ 0 ≤ c ∧ c < 6) ∧ (∀ (f : fw_W), (True) → Q none (fw_put [] 0 [324010, 324011] W f)))
  | _ => False
theorem x_k_boundByThird_ok (d : Nat) (as : List fw_V) (W : fw_W) (Q : Option fw_V → fw_W → Prop) (hx : x_k_boundByThird as W Q) : jf fw_T (d + 1) 18 0 (fw_args 0 as) [] W Q := by
  unfold x_k_boundByThird at hx
  split at hx
  · rename_i s_ a b c
    obtain ⟨e_, hpre, hQ⟩ := fw_if_ok hx
    have e_ := Nat.eq_of_beq_eq_true e_
    subst e_
    have hP : ∀ (W2 : fw_W), fw_sm [] 0 [324010, 324011] W W2 → _ → Q none W2 := fun W2 hs hr => fw_sm_use (Q := fun Z => Q none Z) hs (hQ W2 hr)
    refine s_k_boundByThird_0 ?_
    repeat' (first
      | (exact True.intro)
      | (exact hpre.1)
      | (refine And.intro ?_ ?_)
      | (refine hP _ (by repeat (first | exact fw_sm_refl | exact fw_sm_put0 | refine fw_sm_arr ?_ rfl | refine fw_sm_up ?_ rfl | refine fw_sm_put ?_ rfl | refine fw_sm_cp ?_ rfl)) ?_; (first | trivial | omega))
      | omega
      | (intro _))
  · exact hx.elim

def fr_19 : fw_P := [(0, 2, 0, 0, 0), (1, 50, 1, 9, 0), (4, 1, 1, 0, 0), (5, 56, 0, 0, 0), (6, 1, 3, 0, 0), (7, 52, 0, 0, 0), (8, 2, 0, 0, 0), (9, 50, 1, 9, 0), (12, 1, 2, 0, 0), (13, 56, 0, 0, 0), (14, 1, 4, 0, 0), (16, 52, 0, 0, 0), (17, 30, 0, 0, 0), (18, 3, 5, 0, 0), (20, 2, 0, 0, 0), (21, 50, 1, 9, 0), (24, 1, 1, 0, 0), (25, 56, 0, 0, 0), (26, 1, 4, 0, 0), (28, 52, 0, 0, 0), (29, 2, 0, 0, 0), (30, 50, 1, 9, 0), (33, 1, 2, 0, 0), (34, 56, 0, 0, 0), (35, 1, 3, 0, 0), (36, 52, 0, 0, 0), (37, 30, 0, 0, 0), (38, 3, 6, 0, 0), (40, 1, 5, 0, 0), (42, 1, 6, 0, 0), (44, 60, 0, 0, 0), (47, 2, 0, 0, 0), (48, 50, 1, 9, 0), (51, 1, 3, 0, 0), (52, 56, 0, 0, 0), (53, 1, 4, 0, 0), (55, 52, 0, 0, 0), (56, 31, 0, 0, 0), (57, 3, 7, 0, 0), (59, 2, 0, 0, 0), (60, 2, 0, 0, 0), (61, 50, 1, 11, 0), (64, 1, 7, 0, 0), (66, 61, 0, 0, 0), (69, 51, 1, 11, 0), (72, 1, 5, 0, 0), (74, 1, 6, 0, 0), (76, 10, 92, 0, 0), (79, 2, 0, 0, 0), (80, 2, 0, 0, 0), (81, 50, 1, 10, 0), (84, 1, 7, 0, 0), (86, 60, 0, 0, 0), (89, 51, 1, 10, 0), (92, 72, 0, 0, 0)]
theorem fr_19_ok : fw_mk 19 8 1 none fr_19 = true := by decide +kernel
theorem s_k_boundByTwo_0 {Post : Option fw_V → fw_W → Prop} {d : Nat} {W : fw_W} {a b c e : Int}
    (hw_ : 0 ≤ a ∧ a < 6 ∧ (0 ≤ c ∧ c < 6 ∧ (∀ v1 : Int, -2147483648 ≤ v1 → v1 ≤ 2147483647 → 0 ≤ b ∧ b < 6 ∧ (0 ≤ e ∧ e < 6 ∧ (∀ v2 : Int, -2147483648 ≤ v2 → v2 ≤ 2147483647 → ∀ v3 : Int, -2147483648 ≤ v3 → v3 ≤ 2147483647 → 0 ≤ a ∧ a < 6 ∧ (0 ≤ e ∧ e < 6 ∧ (∀ v4 : Int, -2147483648 ≤ v4 → v4 ≤ 2147483647 → 0 ≤ b ∧ b < 6 ∧ (0 ≤ c ∧ c < 6 ∧ (∀ v5 : Int, -2147483648 ≤ v5 → v5 ≤ 2147483647 → ∀ v6 : Int, -2147483648 ≤ v6 → v6 ≤ 2147483647 → 0 ≤ c ∧ c < 6 ∧ (0 ≤ e ∧ e < 6 ∧ (∀ v7 : Int, -2147483648 ≤ v7 → v7 ≤ 2147483647 → ∀ v8 : Int, -2147483648 ≤ v8 → v8 ≤ 2147483647 → (-2147483648 ≤ (fw_g W 324 11) → (fw_g W 324 11) ≤ 2147483647 → -2147483648 ≤ (min (fw_g W 324 11) v8) ∧ (min (fw_g W 324 11) v8) ≤ 2147483647 ∧ (((v3 = v6 → Post none (fw_up W 324 11 (min (fw_g W 324 11) v8))) ∧ (¬ v3 = v6 → (-2147483648 ≤ (fw_g W 324 10) → (fw_g W 324 10) ≤ 2147483647 → -2147483648 ≤ (max (fw_g W 324 10) v8) ∧ (max (fw_g W 324 10) v8) ≤ 2147483647 ∧ (Post none (fw_up (fw_up W 324 11 (min (fw_g W 324 11) v8)) 324 10 (max (fw_g W 324 10) v8))))))))))))))))))) :
    jf fw_T (d + 1) 19 0 [(0, .inr (.inl 324)), (1, .inl a), (2, .inl b), (3, .inl c), (4, .inl e)] [] W Post := fw_ok (n := 56) (ss := []) (hv := [17, 37, 56]) fr_19_ok fv_doorsk_ok (fw_c0 _ _) hw_

def x_k_boundByTwo : fw_X := fun as W Q => match as with
  | [.inr (.inl s_), .inl a, .inl b, .inl c, .inl e] => fw_if (Nat.beq s_ 324) ((0 ≤ a ∧ a < 6 ∧ 0 ≤ b ∧ b < 6 ∧ 0 ≤ c ∧ c < 6 ∧ 0 ≤ e ∧ e < 6) ∧ (∀ (f : fw_W), (True) → Q none (fw_put [] 0 [324010, 324011] W f)))
  | _ => False
theorem x_k_boundByTwo_ok (d : Nat) (as : List fw_V) (W : fw_W) (Q : Option fw_V → fw_W → Prop) (hx : x_k_boundByTwo as W Q) : jf fw_T (d + 1) 19 0 (fw_args 0 as) [] W Q := by
  unfold x_k_boundByTwo at hx
  split at hx
  · rename_i s_ a b c e
    obtain ⟨e_, hpre, hQ⟩ := fw_if_ok hx
    have e_ := Nat.eq_of_beq_eq_true e_
    subst e_
    have hP : ∀ (W2 : fw_W), fw_sm [] 0 [324010, 324011] W W2 → _ → Q none W2 := fun W2 hs hr => fw_sm_use (Q := fun Z => Q none Z) hs (hQ W2 hr)
    refine s_k_boundByTwo_0 ?_
    repeat' (first
      | (exact True.intro)
      | (exact hpre.1)
      | (refine And.intro ?_ ?_)
      | (refine hP _ (by repeat (first | exact fw_sm_refl | exact fw_sm_put0 | refine fw_sm_arr ?_ rfl | refine fw_sm_up ?_ rfl | refine fw_sm_put ?_ rfl | refine fw_sm_cp ?_ rfl)) ?_; (first | trivial | omega))
      | omega
      | (intro _))
  · exact hx.elim

def fr_17 : fw_P := [(0, 0, 0, 0, 1), (1, 1, 1, 0, 0), (2, 39, 0, 0, 0), (3, 0, 0, 0, 1), (4, 1, 2, 0, 0), (5, 39, 0, 0, 0), (6, 37, 0, 0, 0), (7, 3, 4, 0, 0), (9, 2, 0, 0, 0), (10, 1, 3, 0, 0), (11, 0, 0, 0, 3), (12, 1, 4, 0, 0), (14, 64, 14, 3, 601), (17, 21, 31, 0, 0), (20, 2, 0, 0, 0), (21, 1, 3, 0, 0), (22, 0, 0, 0, 4), (23, 1, 4, 0, 0), (25, 64, 14, 3, 601), (28, 20, 33, 0, 0), (31, 0, 0, 0, 0), (32, 71, 0, 0, 0), (33, 2, 0, 0, 0), (34, 0, 0, 0, 1), (35, 51, 1, 10, 0), (38, 2, 0, 0, 0), (39, 0, 0, 0, 999), (42, 51, 1, 11, 0), (45, 0, 0, 0, 0), (46, 3, 5, 0, 0), (48, 1, 5, 0, 0), (50, 1, 3, 0, 0), (51, 13, 120, 0, 0), (54, 1, 5, 0, 0), (56, 1, 1, 0, 0), (57, 10, 114, 0, 0), (60, 1, 5, 0, 0), (62, 1, 2, 0, 0), (63, 10, 114, 0, 0), (66, 2, 0, 0, 0), (67, 1, 1, 0, 0), (68, 1, 2, 0, 0), (69, 1, 5, 0, 0), (71, 64, 18, 3, 401), (74, 1, 5, 0, 0), (76, 0, 0, 0, 1), (77, 30, 0, 0, 0), (78, 3, 6, 0, 0), (80, 1, 6, 0, 0), (82, 1, 3, 0, 0), (83, 13, 114, 0, 0), (86, 1, 6, 0, 0), (88, 1, 1, 0, 0), (89, 10, 108, 0, 0), (92, 1, 6, 0, 0), (94, 1, 2, 0, 0), (95, 10, 108, 0, 0), (98, 2, 0, 0, 0), (99, 1, 1, 0, 0), (100, 1, 2, 0, 0), (101, 1, 5, 0, 0), (103, 1, 6, 0, 0), (105, 64, 19, 4, 801), (108, 5, 6, 0, 1), (111, 6, 80, 0, 0), (114, 5, 5, 0, 1), (117, 6, 48, 0, 0), (120, 2, 0, 0, 0), (121, 50, 1, 10, 0), (124, 2, 0, 0, 0), (125, 50, 1, 11, 0), (128, 14, 135, 0, 0), (131, 0, 0, 0, 1), (132, 6, 136, 0, 0), (135, 0, 0, 0, 0), (136, 71, 0, 0, 0)]
theorem fr_17_ok : fw_mk 17 7 1 (some .boolean) fr_17 = true := by decide +kernel
def ct_k_canMend : List (Nat × fw_X) := [(14, x_k_fwWithout), (18, x_k_boundByThird), (19, x_k_boundByTwo)]
theorem ct_k_canMend_ok (d : Nat) : fw_cok fw_T (d + 3) ct_k_canMend := by
  intro q hq as W Q h
  simp only [ct_k_canMend, List.mem_cons, List.not_mem_nil, or_false] at hq
  rcases hq with rfl | rfl | rfl
  · exact jc_of (x_k_fwWithout_ok (d + 0) as W Q h)
  · exact jc_of (x_k_boundByThird_ok (d + 2) as W Q h)
  · exact jc_of (x_k_boundByTwo_ok (d + 2) as W Q h)
theorem s_k_canMend_0 {Post : Option fw_V → fw_W → Prop} {d : Nat} {W : fw_W} {a b nn : Int}
    (hw_ : (-2147483648 ≤ (fw_shl (1 : Int) a) → (fw_shl (1 : Int) a) ≤ 2147483647 → (-2147483648 ≤ (fw_shl (1 : Int) b) → (fw_shl (1 : Int) b) ≤ 2147483647 → (-2147483648 ≤ (fw_or (fw_shl (1 : Int) a) (fw_shl (1 : Int) b)) → (fw_or (fw_shl (1 : Int) a) (fw_shl (1 : Int) b)) ≤ 2147483647 → (2 ≤ nn ∧ nn ≤ 6) ∧ (∀ (r1 : Int), ((-2147483648 ≤ r1 ∧ r1 ≤ 2147483647 ∧ (True))) → ((¬ r1 = 0 → 0 ≤ (0 : Int) ∧ (0 : Int) ≤ 1 ∧ Post (some (.inl (0 : Int))) W) ∧ (r1 = 0 → (2 ≤ nn ∧ nn ≤ 6) ∧ (∀ (r2 : Int), ((-2147483648 ≤ r2 ∧ r2 ≤ 2147483647 ∧ (True))) → ((r2 = 0 → -2147483648 ≤ (1 : Int) ∧ (1 : Int) ≤ 2147483647 ∧ (-2147483648 ≤ (999 : Int) ∧ (999 : Int) ≤ 2147483647 ∧ (jf fw_T (d + 4) 17 48 [(0, .inr (.inl 324)), (1, .inl a), (2, .inl b), (3, .inl nn), (5, .inl (0 : Int))] [] (fw_up (fw_up W 324 10 (1 : Int)) 324 11 (999 : Int)) Post))) ∧ (¬ r2 = 0 → 0 ≤ (0 : Int) ∧ (0 : Int) ≤ 1 ∧ Post (some (.inl (0 : Int))) W)))))))))) :
    jf fw_T (d + 4) 17 0 [(0, .inr (.inl 324)), (1, .inl a), (2, .inl b), (3, .inl nn)] [] W Post := fw_ok (n := 29) (ss := [(48, [0, 1, 2, 3, 5]), (80, [0, 1, 2, 3, 5, 6])]) (hv := []) fr_17_ok fv_doorsk_ok (ct_k_canMend_ok d) hw_

theorem s_k_canMend_80 {Post : Option fw_V → fw_W → Prop} {d : Nat} {W : fw_W} {a b nn c e : Int} {f : fw_W}
    (hw_ : ((nn ≤ e → -2147483648 ≤ c + (1 : Int) ∧ c + (1 : Int) ≤ 2147483647 ∧ (jf fw_T (d + 4) 17 48 [(0, .inr (.inl 324)), (1, .inl a), (2, .inl b), (3, .inl nn), (5, .inl (c + (1 : Int)))] [] (fw_put [] 0 [324010, 324011] W f) Post)) ∧ (e < nn → ((e = a → -2147483648 ≤ e + (1 : Int) ∧ e + (1 : Int) ≤ 2147483647 ∧ (jf fw_T (d + 4) 17 80 [(0, .inr (.inl 324)), (1, .inl a), (2, .inl b), (3, .inl nn), (5, .inl c), (6, .inl (e + (1 : Int)))] [] (fw_put [] 0 [324010, 324011] W f) Post)) ∧ (¬ e = a → ((e = b → -2147483648 ≤ e + (1 : Int) ∧ e + (1 : Int) ≤ 2147483647 ∧ (jf fw_T (d + 4) 17 80 [(0, .inr (.inl 324)), (1, .inl a), (2, .inl b), (3, .inl nn), (5, .inl c), (6, .inl (e + (1 : Int)))] [] (fw_put [] 0 [324010, 324011] W f) Post)) ∧ (¬ e = b → (0 ≤ a ∧ a < 6 ∧ 0 ≤ b ∧ b < 6 ∧ 0 ≤ c ∧ c < 6 ∧ 0 ≤ e ∧ e < 6) ∧ (∀ (f1 : fw_W), ((True)) → -2147483648 ≤ e + (1 : Int) ∧ e + (1 : Int) ≤ 2147483647 ∧ (jf fw_T (d + 4) 17 80 [(0, .inr (.inl 324)), (1, .inl a), (2, .inl b), (3, .inl nn), (5, .inl c), (6, .inl (e + (1 : Int)))] [] (fw_put [] 0 [324010, 324011] (fw_put [] 0 [324010, 324011] W f) f1) Post))))))))) :
    jf fw_T (d + 4) 17 80 [(0, .inr (.inl 324)), (1, .inl a), (2, .inl b), (3, .inl nn), (5, .inl c), (6, .inl e)] [] (fw_put [] 0 [324010, 324011] W f) Post := fw_ok (n := 18) (ss := [(48, [0, 1, 2, 3, 5]), (80, [0, 1, 2, 3, 5, 6])]) (hv := []) fr_17_ok fv_doorsk_ok (ct_k_canMend_ok d) hw_

theorem s_k_canMend_48 {Post : Option fw_V → fw_W → Prop} {d : Nat} {W : fw_W} {a b nn c : Int} {f : fw_W}
    (hw_ : ((nn ≤ c → (-2147483648 ≤ (fw_g f 324 10) → (fw_g f 324 10) ≤ 2147483647 → (-2147483648 ≤ (fw_g f 324 11) → (fw_g f 324 11) ≤ 2147483647 → (((fw_g f 324 11) < (fw_g f 324 10) → 0 ≤ (0 : Int) ∧ (0 : Int) ≤ 1 ∧ Post (some (.inl (0 : Int))) (fw_put [] 0 [324010, 324011] W f)) ∧ ((fw_g f 324 10) ≤ (fw_g f 324 11) → 0 ≤ (1 : Int) ∧ (1 : Int) ≤ 1 ∧ Post (some (.inl (1 : Int))) (fw_put [] 0 [324010, 324011] W f)))))) ∧ (c < nn → ((c = a → -2147483648 ≤ c + (1 : Int) ∧ c + (1 : Int) ≤ 2147483647 ∧ (jf fw_T (d + 4) 17 48 [(0, .inr (.inl 324)), (1, .inl a), (2, .inl b), (3, .inl nn), (5, .inl (c + (1 : Int)))] [] (fw_put [] 0 [324010, 324011] W f) Post)) ∧ (¬ c = a → ((c = b → -2147483648 ≤ c + (1 : Int) ∧ c + (1 : Int) ≤ 2147483647 ∧ (jf fw_T (d + 4) 17 48 [(0, .inr (.inl 324)), (1, .inl a), (2, .inl b), (3, .inl nn), (5, .inl (c + (1 : Int)))] [] (fw_put [] 0 [324010, 324011] W f) Post)) ∧ (¬ c = b → (0 ≤ a ∧ a < 6 ∧ 0 ≤ b ∧ b < 6 ∧ 0 ≤ c ∧ c < 6) ∧ (∀ (f1 : fw_W), ((True)) → -2147483648 ≤ c + (1 : Int) ∧ c + (1 : Int) ≤ 2147483647 ∧ (jf fw_T (d + 4) 17 80 [(0, .inr (.inl 324)), (1, .inl a), (2, .inl b), (3, .inl nn), (5, .inl c), (6, .inl (c + (1 : Int)))] [] (fw_put [] 0 [324010, 324011] (fw_put [] 0 [324010, 324011] W f) f1) Post))))))))) :
    jf fw_T (d + 4) 17 48 [(0, .inr (.inl 324)), (1, .inl a), (2, .inl b), (3, .inl nn), (5, .inl c)] [] (fw_put [] 0 [324010, 324011] W f) Post := fw_ok (n := 19) (ss := [(48, [0, 1, 2, 3, 5]), (80, [0, 1, 2, 3, 5, 6])]) (hv := []) fr_17_ok fv_doorsk_ok (ct_k_canMend_ok d) hw_

theorem lm_k_canMend_80 {Post : Option fw_V → fw_W → Prop} {d : Nat} {W : fw_W} {a b nn : Int} (hpre : 0 ≤ a ∧ a < 6 ∧ 0 ≤ b ∧ b < 6 ∧ 2 ≤ nn ∧ nn ≤ 6) (hP : ∀ (v : Int) (W2 : fw_W), fw_sm [] 0 [324010, 324011] W W2 → (0 ≤ v ∧ v ≤ 1 ∧ (True)) → Post (some (.inl v)) W2) (M48 : Int) (h48 : ∀ (c : Int) (f : fw_W), 0 ≤ c → (nn - c) < M48 → jf fw_T (d + 4) 17 48 [(0, .inr (.inl 324)), (1, .inl a), (2, .inl b), (3, .inl nn), (5, .inl c)] [] (fw_put [] 0 [324010, 324011] W f) Post) : ∀ (m : Nat) (c e : Int) (f : fw_W), (nn - e).toNat = m → 0 ≤ c ∧ c < nn ∧ c < e → (nn - c) ≤ M48 → jf fw_T (d + 4) 17 80 [(0, .inr (.inl 324)), (1, .inl a), (2, .inl b), (3, .inl nn), (5, .inl c), (6, .inl e)] [] (fw_put [] 0 [324010, 324011] W f) Post := by
  intro m
  induction m using Nat.strongRecOn with
  | ind m ih =>
    intro c e f hm hi e48
    refine jf_rng (fun hrg => ?_)
    have hrg : -2147483648 ≤ a ∧ a ≤ 2147483647 ∧ -2147483648 ≤ b ∧ b ≤ 2147483647 ∧ -2147483648 ≤ nn ∧ nn ≤ 2147483647 ∧ -2147483648 ≤ c ∧ c ≤ 2147483647 ∧ -2147483648 ≤ e ∧ e ≤ 2147483647 ∧ True := hrg
    refine s_k_canMend_80 ?_
    repeat' (first
      | (exact True.intro)
      | (exact hpre.1)
      | (refine And.intro ?_ ?_)
      | (refine jf_put (S := []) (o := 0) (F := [324010, 324011]) (W := W) (by repeat (first | exact fw_sm_refl | exact fw_sm_put0 | refine fw_sm_arr ?_ rfl | refine fw_sm_up ?_ rfl | refine fw_sm_put ?_ rfl | refine fw_sm_cp ?_ rfl)) (h48 _ _ ?_ (by omega)); (first | omega | trivial | (simp (config := { decide := true }) only [fg_in, fg_fin, fg_out, fg_fout, fg_up, fg_same, true_and, and_true] <;> omega)))
      | (refine jf_put (S := []) (o := 0) (F := [324010, 324011]) (W := W) (by repeat (first | exact fw_sm_refl | exact fw_sm_put0 | refine fw_sm_arr ?_ rfl | refine fw_sm_up ?_ rfl | refine fw_sm_put ?_ rfl | refine fw_sm_cp ?_ rfl)) (ih _ (by omega) _ _ _ rfl ?_ (by omega)); (first | omega | trivial | (simp (config := { decide := true }) only [fg_in, fg_fin, fg_out, fg_fout, fg_up, fg_same, true_and, and_true] <;> omega)))
      | (refine hP _ _ (by repeat (first | exact fw_sm_refl | exact fw_sm_put0 | refine fw_sm_arr ?_ rfl | refine fw_sm_up ?_ rfl | refine fw_sm_put ?_ rfl | refine fw_sm_cp ?_ rfl)) ?_; (refine ⟨by omega, by omega, ?_⟩; (first | trivial | omega)))
      | omega
      | (intro _))
theorem lm_k_canMend_48 {Post : Option fw_V → fw_W → Prop} {d : Nat} {W : fw_W} {a b nn : Int} (hpre : 0 ≤ a ∧ a < 6 ∧ 0 ≤ b ∧ b < 6 ∧ 2 ≤ nn ∧ nn ≤ 6) (hP : ∀ (v : Int) (W2 : fw_W), fw_sm [] 0 [324010, 324011] W W2 → (0 ≤ v ∧ v ≤ 1 ∧ (True)) → Post (some (.inl v)) W2)  : ∀ (m : Nat) (c : Int) (f : fw_W), (nn - c).toNat = m → 0 ≤ c → jf fw_T (d + 4) 17 48 [(0, .inr (.inl 324)), (1, .inl a), (2, .inl b), (3, .inl nn), (5, .inl c)] [] (fw_put [] 0 [324010, 324011] W f) Post := by
  intro m
  induction m using Nat.strongRecOn with
  | ind m ih =>
    intro c f hm hi
    refine jf_rng (fun hrg => ?_)
    have hrg : -2147483648 ≤ a ∧ a ≤ 2147483647 ∧ -2147483648 ≤ b ∧ b ≤ 2147483647 ∧ -2147483648 ≤ nn ∧ nn ≤ 2147483647 ∧ -2147483648 ≤ c ∧ c ≤ 2147483647 ∧ True := hrg
    refine s_k_canMend_48 ?_
    repeat' (first
      | (exact True.intro)
      | (exact hpre.1)
      | (refine And.intro ?_ ?_)
      | (refine jf_put (S := []) (o := 0) (F := [324010, 324011]) (W := W) (by repeat (first | exact fw_sm_refl | exact fw_sm_put0 | refine fw_sm_arr ?_ rfl | refine fw_sm_up ?_ rfl | refine fw_sm_put ?_ rfl | refine fw_sm_cp ?_ rfl)) (ih _ (by omega) _ _ rfl ?_); (first | omega | trivial | (simp (config := { decide := true }) only [fg_in, fg_fin, fg_out, fg_fout, fg_up, fg_same, true_and, and_true] <;> omega)))
      | (refine jf_put (S := []) (o := 0) (F := [324010, 324011]) (W := W) (by repeat (first | exact fw_sm_refl | exact fw_sm_put0 | refine fw_sm_arr ?_ rfl | refine fw_sm_up ?_ rfl | refine fw_sm_put ?_ rfl | refine fw_sm_cp ?_ rfl)) (lm_k_canMend_80 (a := a) (b := b) (nn := nn) hpre hP (nn - c) (fun a0 af hi hl => ih _ (by omega) a0 af rfl hi) _ _ _ _ rfl ?_ (by omega)); (first | omega | trivial | (simp (config := { decide := true }) only [fg_in, fg_fin, fg_out, fg_fout, fg_up, fg_same, true_and, and_true] <;> omega)))
      | (refine hP _ _ (by repeat (first | exact fw_sm_refl | exact fw_sm_put0 | refine fw_sm_arr ?_ rfl | refine fw_sm_up ?_ rfl | refine fw_sm_put ?_ rfl | refine fw_sm_cp ?_ rfl)) ?_; (refine ⟨by omega, by omega, ?_⟩; (first | trivial | omega)))
      | omega
      | (intro _))
def x_k_canMend : fw_X := fun as W Q => match as with
  | [.inr (.inl s_), .inl a, .inl b, .inl nn] => fw_if (Nat.beq s_ 324) ((0 ≤ a ∧ a < 6 ∧ 0 ≤ b ∧ b < 6 ∧ 2 ≤ nn ∧ nn ≤ 6) ∧ (∀ (v : Int) (f : fw_W), (0 ≤ v ∧ v ≤ 1 ∧ (True)) → Q (some (.inl v)) (fw_put [] 0 [324010, 324011] W f)))
  | _ => False
theorem x_k_canMend_ok (d : Nat) (as : List fw_V) (W : fw_W) (Q : Option fw_V → fw_W → Prop) (hx : x_k_canMend as W Q) : jf fw_T (d + 4) 17 0 (fw_args 0 as) [] W Q := by
  unfold x_k_canMend at hx
  split at hx
  · rename_i s_ a b nn
    obtain ⟨e_, hpre, hQ⟩ := fw_if_ok hx
    have e_ := Nat.eq_of_beq_eq_true e_
    subst e_
    have hP : ∀ (v : Int) (W2 : fw_W), fw_sm [] 0 [324010, 324011] W W2 → _ → Q (some (.inl v)) W2 := fun v W2 hs hr => fw_sm_use (Q := fun Z => Q (some (.inl v)) Z) hs (hQ v W2 hr)
    refine s_k_canMend_0 ?_
    repeat' (first
      | (exact True.intro)
      | (exact hpre.1)
      | (refine And.intro ?_ ?_)
      | (refine jf_put (S := []) (o := 0) (F := [324010, 324011]) (W := W) (by repeat (first | exact fw_sm_refl | exact fw_sm_put0 | refine fw_sm_arr ?_ rfl | refine fw_sm_up ?_ rfl | refine fw_sm_put ?_ rfl | refine fw_sm_cp ?_ rfl)) (lm_k_canMend_48 (a := a) (b := b) (nn := nn) hpre hP _ _ _ rfl ?_); (first | omega | trivial | (simp (config := { decide := true }) only [fg_in, fg_fin, fg_out, fg_fout, fg_up, fg_same, true_and, and_true] <;> omega)))
      | (refine jf_put (S := []) (o := 0) (F := [324010, 324011]) (W := W) (by repeat (first | exact fw_sm_refl | exact fw_sm_put0 | refine fw_sm_arr ?_ rfl | refine fw_sm_up ?_ rfl | refine fw_sm_put ?_ rfl | refine fw_sm_cp ?_ rfl)) (lm_k_canMend_80 (a := a) (b := b) (nn := nn) hpre hP M48 h48 _ _ _ _ rfl ?_ (by omega)); (first | omega | trivial | (simp (config := { decide := true }) only [fg_in, fg_fin, fg_out, fg_fout, fg_up, fg_same, true_and, and_true] <;> omega)))
      | (refine hP _ _ (by repeat (first | exact fw_sm_refl | exact fw_sm_put0 | refine fw_sm_arr ?_ rfl | refine fw_sm_up ?_ rfl | refine fw_sm_put ?_ rfl | refine fw_sm_cp ?_ rfl)) ?_; (refine ⟨by omega, by omega, ?_⟩; (first | trivial | omega)))
      | omega
      | (intro _))
  · exact hx.elim

def fr_16 : fw_P := [(0, 0, 0, 0, 0), (1, 3, 2, 0, 0), (2, 1, 2, 0, 0), (3, 1, 1, 0, 0), (4, 13, 80, 0, 0), (7, 1, 2, 0, 0), (8, 0, 0, 0, 1), (9, 30, 0, 0, 0), (10, 3, 3, 0, 0), (11, 1, 3, 0, 0), (12, 1, 1, 0, 0), (13, 13, 74, 0, 0), (16, 2, 0, 0, 0), (17, 1, 2, 0, 0), (18, 1, 3, 0, 0), (19, 1, 1, 0, 0), (20, 64, 17, 3, 701), (23, 20, 68, 0, 0), (26, 2, 0, 0, 0), (27, 0, 0, 0, 10), (29, 1, 2, 0, 0), (30, 32, 0, 0, 0), (31, 1, 3, 0, 0), (32, 30, 0, 0, 0), (33, 51, 1, 2, 0), (36, 2, 0, 0, 0), (37, 2, 0, 0, 0), (38, 50, 1, 9, 0), (41, 1, 2, 0, 0), (42, 56, 0, 0, 0), (43, 1, 3, 0, 0), (44, 52, 0, 0, 0), (45, 2, 0, 0, 0), (46, 50, 1, 10, 0), (49, 13, 59, 0, 0), (52, 2, 0, 0, 0), (53, 50, 1, 10, 0), (56, 6, 63, 0, 0), (59, 2, 0, 0, 0), (60, 50, 1, 11, 0), (63, 51, 1, 3, 0), (66, 0, 0, 0, 1), (67, 71, 0, 0, 0), (68, 5, 3, 0, 1), (71, 6, 11, 0, 0), (74, 5, 2, 0, 1), (77, 6, 2, 0, 0), (80, 0, 0, 0, 0), (81, 71, 0, 0, 0)]
theorem fr_16_ok : fw_mk 16 4 1 (some .boolean) fr_16 = true := by decide +kernel
def ct_k_mend : List (Nat × fw_X) := [(17, x_k_canMend)]
theorem ct_k_mend_ok (d : Nat) : fw_cok fw_T (d + 4) ct_k_mend := by
  intro q hq as W Q h
  simp only [ct_k_mend, List.mem_cons, List.not_mem_nil, or_false] at hq
  rcases hq with rfl
  · exact jc_of (x_k_canMend_ok (d + 0) as W Q h)
theorem s_k_mend_0 {Post : Option fw_V → fw_W → Prop} {d : Nat} {W : fw_W} {nn : Int}
    (hw_ : jf fw_T (d + 5) 16 2 [(0, .inr (.inl 324)), (1, .inl nn), (2, .inl (0 : Int))] [] W Post) :
    jf fw_T (d + 5) 16 0 [(0, .inr (.inl 324)), (1, .inl nn)] [] W Post := fw_ok (n := 3) (ss := [(2, [0, 1, 2]), (11, [0, 1, 2, 3])]) (hv := [30, 32]) fr_16_ok fv_doorsk_ok (ct_k_mend_ok d) hw_

theorem s_k_mend_11 {Post : Option fw_V → fw_W → Prop} {d : Nat} {W : fw_W} {nn a b : Int} {f : fw_W}
    (hw_ : ((nn ≤ b → -2147483648 ≤ a + (1 : Int) ∧ a + (1 : Int) ≤ 2147483647 ∧ (jf fw_T (d + 5) 16 2 [(0, .inr (.inl 324)), (1, .inl nn), (2, .inl (a + (1 : Int)))] [] (fw_put [] 0 [324010, 324011, 324002, 324003] W f) Post)) ∧ (b < nn → (0 ≤ a ∧ a < 6 ∧ 0 ≤ b ∧ b < 6 ∧ 2 ≤ nn ∧ nn ≤ 6) ∧ (∀ (r1 : Int) (f2 : fw_W), ((0 ≤ r1 ∧ r1 ≤ 1 ∧ (True))) → ((r1 = 0 → -2147483648 ≤ b + (1 : Int) ∧ b + (1 : Int) ≤ 2147483647 ∧ (jf fw_T (d + 5) 16 11 [(0, .inr (.inl 324)), (1, .inl nn), (2, .inl a), (3, .inl (b + (1 : Int)))] [] (fw_put [] 0 [324010, 324011] (fw_put [] 0 [324010, 324011, 324002, 324003] W f) f2) Post)) ∧ (¬ r1 = 0 → ∀ v3 : Int, -2147483648 ≤ v3 → v3 ≤ 2147483647 → ∀ v4 : Int, -2147483648 ≤ v4 → v4 ≤ 2147483647 → -2147483648 ≤ v4 ∧ v4 ≤ 2147483647 ∧ (0 ≤ a ∧ a < 6 ∧ (0 ≤ b ∧ b < 6 ∧ (∀ v5 : Int, -2147483648 ≤ v5 → v5 ≤ 2147483647 → (-2147483648 ≤ (fw_g f2 324 10) → (fw_g f2 324 10) ≤ 2147483647 → (((fw_g f2 324 10) ≤ v5 → (-2147483648 ≤ (fw_g f2 324 11) → (fw_g f2 324 11) ≤ 2147483647 → -2147483648 ≤ (fw_g f2 324 11) ∧ (fw_g f2 324 11) ≤ 2147483647 ∧ (0 ≤ (1 : Int) ∧ (1 : Int) ≤ 1 ∧ Post (some (.inl (1 : Int))) (fw_up (fw_up (fw_put [] 0 [324010, 324011] (fw_put [] 0 [324010, 324011, 324002, 324003] W f) f2) 324 2 v4) 324 3 (fw_g f2 324 11))))) ∧ (v5 < (fw_g f2 324 10) → (-2147483648 ≤ (fw_g f2 324 10) → (fw_g f2 324 10) ≤ 2147483647 → -2147483648 ≤ (fw_g f2 324 10) ∧ (fw_g f2 324 10) ≤ 2147483647 ∧ (0 ≤ (1 : Int) ∧ (1 : Int) ≤ 1 ∧ Post (some (.inl (1 : Int))) (fw_up (fw_up (fw_put [] 0 [324010, 324011] (fw_put [] 0 [324010, 324011, 324002, 324003] W f) f2) 324 2 v4) 324 3 (fw_g f2 324 10)))))))))))))))) :
    jf fw_T (d + 5) 16 11 [(0, .inr (.inl 324)), (1, .inl nn), (2, .inl a), (3, .inl b)] [] (fw_put [] 0 [324010, 324011, 324002, 324003] W f) Post := fw_ok (n := 33) (ss := [(2, [0, 1, 2]), (11, [0, 1, 2, 3])]) (hv := [30, 32]) fr_16_ok fv_doorsk_ok (ct_k_mend_ok d) hw_

theorem s_k_mend_2 {Post : Option fw_V → fw_W → Prop} {d : Nat} {W : fw_W} {nn a : Int} {f : fw_W}
    (hw_ : ((nn ≤ a → 0 ≤ (0 : Int) ∧ (0 : Int) ≤ 1 ∧ Post (some (.inl (0 : Int))) (fw_put [] 0 [324010, 324011, 324002, 324003] W f)) ∧ (a < nn → -2147483648 ≤ a + (1 : Int) ∧ a + (1 : Int) ≤ 2147483647 ∧ (jf fw_T (d + 5) 16 11 [(0, .inr (.inl 324)), (1, .inl nn), (2, .inl a), (3, .inl (a + (1 : Int)))] [] (fw_put [] 0 [324010, 324011, 324002, 324003] W f) Post)))) :
    jf fw_T (d + 5) 16 2 [(0, .inr (.inl 324)), (1, .inl nn), (2, .inl a)] [] (fw_put [] 0 [324010, 324011, 324002, 324003] W f) Post := fw_ok (n := 8) (ss := [(2, [0, 1, 2]), (11, [0, 1, 2, 3])]) (hv := [30, 32]) fr_16_ok fv_doorsk_ok (ct_k_mend_ok d) hw_

theorem lm_k_mend_11 {Post : Option fw_V → fw_W → Prop} {d : Nat} {W : fw_W} {nn : Int} (hpre : 2 ≤ nn ∧ nn ≤ 6) (hP : ∀ (v : Int) (W2 : fw_W), fw_sm [] 0 [324010, 324011, 324002, 324003] W W2 → (0 ≤ v ∧ v ≤ 1 ∧ (True)) → Post (some (.inl v)) W2) (M2 : Int) (h2 : ∀ (a : Int) (f : fw_W), 0 ≤ a → (nn - a) < M2 → jf fw_T (d + 5) 16 2 [(0, .inr (.inl 324)), (1, .inl nn), (2, .inl a)] [] (fw_put [] 0 [324010, 324011, 324002, 324003] W f) Post) : ∀ (m : Nat) (a b : Int) (f : fw_W), (nn - b).toNat = m → 0 ≤ a ∧ a < nn ∧ a < b → (nn - a) ≤ M2 → jf fw_T (d + 5) 16 11 [(0, .inr (.inl 324)), (1, .inl nn), (2, .inl a), (3, .inl b)] [] (fw_put [] 0 [324010, 324011, 324002, 324003] W f) Post := by
  intro m
  induction m using Nat.strongRecOn with
  | ind m ih =>
    intro a b f hm hi e2
    refine jf_rng (fun hrg => ?_)
    have hrg : -2147483648 ≤ nn ∧ nn ≤ 2147483647 ∧ -2147483648 ≤ a ∧ a ≤ 2147483647 ∧ -2147483648 ≤ b ∧ b ≤ 2147483647 ∧ True := hrg
    refine s_k_mend_11 ?_
    repeat' (first
      | (exact True.intro)
      | (exact hpre.1)
      | (refine And.intro ?_ ?_)
      | (refine jf_put (S := []) (o := 0) (F := [324010, 324011, 324002, 324003]) (W := W) (by repeat (first | exact fw_sm_refl | exact fw_sm_put0 | refine fw_sm_arr ?_ rfl | refine fw_sm_up ?_ rfl | refine fw_sm_put ?_ rfl | refine fw_sm_cp ?_ rfl)) (h2 _ _ ?_ (by omega)); (first | omega | trivial | (simp (config := { decide := true }) only [fg_in, fg_fin, fg_out, fg_fout, fg_up, fg_same, true_and, and_true] <;> omega)))
      | (refine jf_put (S := []) (o := 0) (F := [324010, 324011, 324002, 324003]) (W := W) (by repeat (first | exact fw_sm_refl | exact fw_sm_put0 | refine fw_sm_arr ?_ rfl | refine fw_sm_up ?_ rfl | refine fw_sm_put ?_ rfl | refine fw_sm_cp ?_ rfl)) (ih _ (by omega) _ _ _ rfl ?_ (by omega)); (first | omega | trivial | (simp (config := { decide := true }) only [fg_in, fg_fin, fg_out, fg_fout, fg_up, fg_same, true_and, and_true] <;> omega)))
      | (refine hP _ _ (by repeat (first | exact fw_sm_refl | exact fw_sm_put0 | refine fw_sm_arr ?_ rfl | refine fw_sm_up ?_ rfl | refine fw_sm_put ?_ rfl | refine fw_sm_cp ?_ rfl)) ?_; (refine ⟨by omega, by omega, ?_⟩; (first | trivial | omega)))
      | omega
      | (intro _))
theorem lm_k_mend_2 {Post : Option fw_V → fw_W → Prop} {d : Nat} {W : fw_W} {nn : Int} (hpre : 2 ≤ nn ∧ nn ≤ 6) (hP : ∀ (v : Int) (W2 : fw_W), fw_sm [] 0 [324010, 324011, 324002, 324003] W W2 → (0 ≤ v ∧ v ≤ 1 ∧ (True)) → Post (some (.inl v)) W2)  : ∀ (m : Nat) (a : Int) (f : fw_W), (nn - a).toNat = m → 0 ≤ a → jf fw_T (d + 5) 16 2 [(0, .inr (.inl 324)), (1, .inl nn), (2, .inl a)] [] (fw_put [] 0 [324010, 324011, 324002, 324003] W f) Post := by
  intro m
  induction m using Nat.strongRecOn with
  | ind m ih =>
    intro a f hm hi
    refine jf_rng (fun hrg => ?_)
    have hrg : -2147483648 ≤ nn ∧ nn ≤ 2147483647 ∧ -2147483648 ≤ a ∧ a ≤ 2147483647 ∧ True := hrg
    refine s_k_mend_2 ?_
    repeat' (first
      | (exact True.intro)
      | (exact hpre.1)
      | (refine And.intro ?_ ?_)
      | (refine jf_put (S := []) (o := 0) (F := [324010, 324011, 324002, 324003]) (W := W) (by repeat (first | exact fw_sm_refl | exact fw_sm_put0 | refine fw_sm_arr ?_ rfl | refine fw_sm_up ?_ rfl | refine fw_sm_put ?_ rfl | refine fw_sm_cp ?_ rfl)) (ih _ (by omega) _ _ rfl ?_); (first | omega | trivial | (simp (config := { decide := true }) only [fg_in, fg_fin, fg_out, fg_fout, fg_up, fg_same, true_and, and_true] <;> omega)))
      | (refine jf_put (S := []) (o := 0) (F := [324010, 324011, 324002, 324003]) (W := W) (by repeat (first | exact fw_sm_refl | exact fw_sm_put0 | refine fw_sm_arr ?_ rfl | refine fw_sm_up ?_ rfl | refine fw_sm_put ?_ rfl | refine fw_sm_cp ?_ rfl)) (lm_k_mend_11 (nn := nn) hpre hP (nn - a) (fun a0 af hi hl => ih _ (by omega) a0 af rfl hi) _ _ _ _ rfl ?_ (by omega)); (first | omega | trivial | (simp (config := { decide := true }) only [fg_in, fg_fin, fg_out, fg_fout, fg_up, fg_same, true_and, and_true] <;> omega)))
      | (refine hP _ _ (by repeat (first | exact fw_sm_refl | exact fw_sm_put0 | refine fw_sm_arr ?_ rfl | refine fw_sm_up ?_ rfl | refine fw_sm_put ?_ rfl | refine fw_sm_cp ?_ rfl)) ?_; (refine ⟨by omega, by omega, ?_⟩; (first | trivial | omega)))
      | omega
      | (intro _))
def x_k_mend : fw_X := fun as W Q => match as with
  | [.inr (.inl s_), .inl nn] => fw_if (Nat.beq s_ 324) ((2 ≤ nn ∧ nn ≤ 6) ∧ (∀ (v : Int) (f : fw_W), (0 ≤ v ∧ v ≤ 1 ∧ (True)) → Q (some (.inl v)) (fw_put [] 0 [324010, 324011, 324002, 324003] W f)))
  | _ => False
theorem x_k_mend_ok (d : Nat) (as : List fw_V) (W : fw_W) (Q : Option fw_V → fw_W → Prop) (hx : x_k_mend as W Q) : jf fw_T (d + 5) 16 0 (fw_args 0 as) [] W Q := by
  unfold x_k_mend at hx
  split at hx
  · rename_i s_ nn
    obtain ⟨e_, hpre, hQ⟩ := fw_if_ok hx
    have e_ := Nat.eq_of_beq_eq_true e_
    subst e_
    have hP : ∀ (v : Int) (W2 : fw_W), fw_sm [] 0 [324010, 324011, 324002, 324003] W W2 → _ → Q (some (.inl v)) W2 := fun v W2 hs hr => fw_sm_use (Q := fun Z => Q (some (.inl v)) Z) hs (hQ v W2 hr)
    refine s_k_mend_0 ?_
    repeat' (first
      | (exact True.intro)
      | (exact hpre.1)
      | (refine And.intro ?_ ?_)
      | (refine jf_put (S := []) (o := 0) (F := [324010, 324011, 324002, 324003]) (W := W) (by repeat (first | exact fw_sm_refl | exact fw_sm_put0 | refine fw_sm_arr ?_ rfl | refine fw_sm_up ?_ rfl | refine fw_sm_put ?_ rfl | refine fw_sm_cp ?_ rfl)) (lm_k_mend_2 (nn := nn) hpre hP _ _ _ rfl ?_); (first | omega | trivial | (simp (config := { decide := true }) only [fg_in, fg_fin, fg_out, fg_fout, fg_up, fg_same, true_and, and_true] <;> omega)))
      | (refine jf_put (S := []) (o := 0) (F := [324010, 324011, 324002, 324003]) (W := W) (by repeat (first | exact fw_sm_refl | exact fw_sm_put0 | refine fw_sm_arr ?_ rfl | refine fw_sm_up ?_ rfl | refine fw_sm_put ?_ rfl | refine fw_sm_cp ?_ rfl)) (lm_k_mend_11 (nn := nn) hpre hP M2 h2 _ _ _ _ rfl ?_ (by omega)); (first | omega | trivial | (simp (config := { decide := true }) only [fg_in, fg_fin, fg_out, fg_fout, fg_up, fg_same, true_and, and_true] <;> omega)))
      | (refine hP _ _ (by repeat (first | exact fw_sm_refl | exact fw_sm_put0 | refine fw_sm_arr ?_ rfl | refine fw_sm_up ?_ rfl | refine fw_sm_put ?_ rfl | refine fw_sm_cp ?_ rfl)) ?_; (refine ⟨by omega, by omega, ?_⟩; (first | trivial | omega)))
      | omega
      | (intro _))
  · exact hx.elim

def fr_182 : fw_P := [(0, 1, 1, 0, 0), (1, 0, 0, 0, 2), (2, 12, 11, 0, 0), (5, 1, 1, 0, 0), (6, 0, 0, 0, 6), (8, 15, 13, 0, 0), (11, 0, 0, 0, -1), (12, 70, 0, 0, 0), (13, 2, 0, 0, 0), (14, 50, 11, 10, 0), (17, 1, 1, 0, 0), (18, 1, 2, 0, 0), (19, 64, 11, 2, 501), (22, 20, 36, 0, 0), (25, 2, 0, 0, 0), (26, 50, 11, 10, 0), (29, 1, 1, 0, 0), (30, 64, 13, 1, 301), (33, 6, 38, 0, 0), (36, 0, 0, 0, -2), (38, 70, 0, 0, 0)]
theorem fr_182_ok : fw_mk 182 3 11 (some .int) fr_182 = true := by decide +kernel
def ct_k_wrong : List (Nat × fw_X) := [(11, x_k_learn), (13, x_k_firstWrong)]
theorem ct_k_wrong_ok (d : Nat) : fw_cok fw_T (d + 4) ct_k_wrong := by
  intro q hq as W Q h
  simp only [ct_k_wrong, List.mem_cons, List.not_mem_nil, or_false] at hq
  rcases hq with rfl | rfl
  · exact jc_of (x_k_learn_ok (d + 2) as W Q h)
  · exact jc_of (x_k_firstWrong_ok (d + 0) as W Q h)
theorem s_k_wrong_0 {Post : Option fw_V → fw_W → Prop} {d : Nat} {W : fw_W} {nn kk : Int}
    (hw_ : ((nn < (2 : Int) → (-2147483648 ≤ (-1 : Int) → (-1 : Int) ≤ 2147483647 → Post (some (.inl (-1 : Int))) W)) ∧ ((2 : Int) ≤ nn → ((nn ≤ (6 : Int) → (nn ≤ 6) ∧ (∀ (r1 : Int), ((0 ≤ r1 ∧ r1 ≤ 1 ∧ (True))) → ((r1 = 0 → (-2147483648 ≤ (-2 : Int) → (-2 : Int) ≤ 2147483647 → Post (some (.inl (-2 : Int))) W)) ∧ (¬ r1 = 0 → (2 ≤ nn ∧ nn ≤ 6) ∧ (∀ (r2 : Int), ((-2147483648 ≤ r2 ∧ r2 ≤ 2147483647 ∧ (True))) → (-2147483648 ≤ r2 → r2 ≤ 2147483647 → Post (some (.inl r2)) W)))))) ∧ ((6 : Int) < nn → (-2147483648 ≤ (-1 : Int) → (-1 : Int) ≤ 2147483647 → Post (some (.inl (-1 : Int))) W)))))) :
    jf fw_T (d + 5) 182 0 [(0, .inr (.inl 0)), (1, .inl nn), (2, .inl kk)] [] W Post := fw_ok (n := 19) (ss := []) (hv := []) fr_182_ok fv_owt_ok (ct_k_wrong_ok d) hw_

def x_k_wrong : fw_X := fun as W Q => match as with
  | [.inr (.inl s_), .inl nn, .inl kk] => fw_if (Nat.beq s_ 0) ((True) ∧ (∀ (v : Int), (-2147483648 ≤ v ∧ v ≤ 2147483647 ∧ (True)) → Q (some (.inl v)) W))
  | _ => False
theorem x_k_wrong_ok (d : Nat) (as : List fw_V) (W : fw_W) (Q : Option fw_V → fw_W → Prop) (hx : x_k_wrong as W Q) : jf fw_T (d + 5) 182 0 (fw_args 0 as) [] W Q := by
  unfold x_k_wrong at hx
  split at hx
  · rename_i s_ nn kk
    obtain ⟨e_, hpre, hQ⟩ := fw_if_ok hx
    have e_ := Nat.eq_of_beq_eq_true e_
    subst e_
    have hP := hQ
    refine s_k_wrong_0 ?_
    repeat' (first
      | (exact True.intro)
      | (exact hpre.1)
      | (refine And.intro ?_ ?_)
      | (refine hP _ ?_; (refine ⟨by omega, by omega, ?_⟩; (first | trivial | omega)))
      | omega
      | (intro _))
  · exact hx.elim

def fr_183 : fw_P := [(0, 1, 1, 0, 0), (1, 0, 0, 0, 2), (2, 12, 20, 0, 0), (5, 1, 1, 0, 0), (6, 0, 0, 0, 6), (8, 14, 20, 0, 0), (11, 1, 2, 0, 0), (12, 22, 20, 0, 0), (15, 1, 2, 0, 0), (16, 0, 0, 0, 1), (17, 15, 23, 0, 0), (20, 0, 0, 0, -3), (22, 70, 0, 0, 0), (23, 2, 0, 0, 0), (24, 50, 11, 10, 0), (27, 1, 1, 0, 0), (28, 1, 3, 0, 0), (29, 64, 11, 2, 501), (32, 21, 38, 0, 0), (35, 0, 0, 0, -2), (37, 70, 0, 0, 0), (38, 2, 0, 0, 0), (39, 50, 11, 10, 0), (42, 1, 1, 0, 0), (43, 64, 13, 1, 301), (46, 21, 51, 0, 0), (49, 0, 0, 0, 0), (50, 70, 0, 0, 0), (51, 2, 0, 0, 0), (52, 50, 11, 10, 0), (55, 1, 1, 0, 0), (56, 64, 16, 1, 401), (59, 21, 64, 0, 0), (62, 0, 0, 0, -1), (63, 70, 0, 0, 0), (64, 1, 2, 0, 0), (65, 21, 78, 0, 0), (68, 2, 0, 0, 0), (69, 50, 11, 10, 0), (72, 50, 1, 2, 0), (75, 6, 85, 0, 0), (78, 2, 0, 0, 0), (79, 50, 11, 10, 0), (82, 50, 1, 3, 0), (85, 70, 0, 0, 0)]
theorem fr_183_ok : fw_mk 183 4 11 (some .int) fr_183 = true := by decide +kernel
def ct_k_mended : List (Nat × fw_X) := [(11, x_k_learn), (13, x_k_firstWrong), (16, x_k_mend)]
theorem ct_k_mended_ok (d : Nat) : fw_cok fw_T (d + 5) ct_k_mended := by
  intro q hq as W Q h
  simp only [ct_k_mended, List.mem_cons, List.not_mem_nil, or_false] at hq
  rcases hq with rfl | rfl | rfl
  · exact jc_of (x_k_learn_ok (d + 3) as W Q h)
  · exact jc_of (x_k_firstWrong_ok (d + 1) as W Q h)
  · exact jc_of (x_k_mend_ok (d + 0) as W Q h)
theorem s_k_mended_0 {Post : Option fw_V → fw_W → Prop} {d : Nat} {W : fw_W} {nn wh kk : Int}
    (hw_ : ((nn < (2 : Int) → (-2147483648 ≤ (-3 : Int) → (-3 : Int) ≤ 2147483647 → Post (some (.inl (-3 : Int))) W)) ∧ ((2 : Int) ≤ nn → (((6 : Int) < nn → (-2147483648 ≤ (-3 : Int) → (-3 : Int) ≤ 2147483647 → Post (some (.inl (-3 : Int))) W)) ∧ (nn ≤ (6 : Int) → ((wh < 0 → (-2147483648 ≤ (-3 : Int) → (-3 : Int) ≤ 2147483647 → Post (some (.inl (-3 : Int))) W)) ∧ (0 ≤ wh → ((wh ≤ (1 : Int) → (nn ≤ 6) ∧ (∀ (r1 : Int), ((0 ≤ r1 ∧ r1 ≤ 1 ∧ (True))) → ((¬ r1 = 0 → (2 ≤ nn ∧ nn ≤ 6) ∧ (∀ (r2 : Int), ((-2147483648 ≤ r2 ∧ r2 ≤ 2147483647 ∧ (True))) → ((¬ r2 = 0 → (2 ≤ nn ∧ nn ≤ 6) ∧ (∀ (r3 : Int) (f4 : fw_W), ((0 ≤ r3 ∧ r3 ≤ 1 ∧ (True))) → ((¬ r3 = 0 → ((¬ wh = 0 → (-2147483648 ≤ (fw_g f4 324 3) → (fw_g f4 324 3) ≤ 2147483647 → (-2147483648 ≤ (fw_g f4 324 3) → (fw_g f4 324 3) ≤ 2147483647 → Post (some (.inl (fw_g f4 324 3))) (fw_put [] 0 [324010, 324011, 324002, 324003] W f4)))) ∧ (wh = 0 → (-2147483648 ≤ (fw_g f4 324 2) → (fw_g f4 324 2) ≤ 2147483647 → (-2147483648 ≤ (fw_g f4 324 2) → (fw_g f4 324 2) ≤ 2147483647 → Post (some (.inl (fw_g f4 324 2))) (fw_put [] 0 [324010, 324011, 324002, 324003] W f4)))))) ∧ (r3 = 0 → (-2147483648 ≤ (-1 : Int) → (-1 : Int) ≤ 2147483647 → Post (some (.inl (-1 : Int))) (fw_put [] 0 [324010, 324011, 324002, 324003] W f4)))))) ∧ (r2 = 0 → (-2147483648 ≤ (0 : Int) → (0 : Int) ≤ 2147483647 → Post (some (.inl (0 : Int))) W))))) ∧ (r1 = 0 → (-2147483648 ≤ (-2 : Int) → (-2 : Int) ≤ 2147483647 → Post (some (.inl (-2 : Int))) W))))) ∧ ((1 : Int) < wh → (-2147483648 ≤ (-3 : Int) → (-3 : Int) ≤ 2147483647 → Post (some (.inl (-3 : Int))) W)))))))))) :
    jf fw_T (d + 6) 183 0 [(0, .inr (.inl 0)), (1, .inl nn), (2, .inl wh), (3, .inl kk)] [] W Post := fw_ok (n := 35) (ss := []) (hv := []) fr_183_ok fv_owt_ok (ct_k_mended_ok d) hw_

def x_k_mended : fw_X := fun as W Q => match as with
  | [.inr (.inl s_), .inl nn, .inl wh, .inl kk] => fw_if (Nat.beq s_ 0) ((True) ∧ (∀ (v : Int) (f : fw_W), (-2147483648 ≤ v ∧ v ≤ 2147483647 ∧ (True)) → Q (some (.inl v)) (fw_put [] 0 [324010, 324011, 324002, 324003] W f)))
  | _ => False
theorem x_k_mended_ok (d : Nat) (as : List fw_V) (W : fw_W) (Q : Option fw_V → fw_W → Prop) (hx : x_k_mended as W Q) : jf fw_T (d + 6) 183 0 (fw_args 0 as) [] W Q := by
  unfold x_k_mended at hx
  split at hx
  · rename_i s_ nn wh kk
    obtain ⟨e_, hpre, hQ⟩ := fw_if_ok hx
    have e_ := Nat.eq_of_beq_eq_true e_
    subst e_
    have hP : ∀ (v : Int) (W2 : fw_W), fw_sm [] 0 [324010, 324011, 324002, 324003] W W2 → _ → Q (some (.inl v)) W2 := fun v W2 hs hr => fw_sm_use (Q := fun Z => Q (some (.inl v)) Z) hs (hQ v W2 hr)
    refine s_k_mended_0 ?_
    repeat' (first
      | (exact True.intro)
      | (exact hpre.1)
      | (refine And.intro ?_ ?_)
      | (refine hP _ _ (by repeat (first | exact fw_sm_refl | exact fw_sm_put0 | refine fw_sm_arr ?_ rfl | refine fw_sm_up ?_ rfl | refine fw_sm_put ?_ rfl | refine fw_sm_cp ?_ rfl)) ?_; (refine ⟨by omega, by omega, ?_⟩; (first | trivial | omega)))
      | omega
      | (intro _))
  · exact hx.elim

