/-! the class, method by method -/
def fv_plP : List (Nat × ai_C) := [(268, .inr (.inr (.inr (4, [.inr (.inl [269]), .inr (.inl [270]), .inr (.inl [271]), .inr (.inl [272]), .inr (.inl [276]), .inr (.inl [296]), .inr (.inl [323])])))), (269, .inl (.int, 14, 0, 15, true)), (270, .inl (.int, 14, -2147483648, 2147483647, true)), (271, .inl (.int, 14, -2147483648, 2147483647, true)), (12, .inr (.inr (.inr (9, [.inl (0, 14, true), .inl (0, 999, true), .inr (.inl [13]), .inr (.inl [14]), .inr (.inl [15])])))), (13, .inl (.int, 14, -1, 13, true)), (14, .inl (.int, 14, 0, 99, true)), (15, .inl (.int, 14, 0, 99, true))]
def fg_plP_G : fw_G := []
theorem fv_plP_ok : fw_view fw_T fv_plP fg_plP_G := fw_vb_ok (by decide +kernel)
def fr_49 : fw_P := [(0, 0, 0, 0, 0), (1, 3, 3, 0, 0), (2, 1, 3, 0, 0), (3, 2, 0, 0, 0), (4, 50, 9, 0, 0), (7, 13, 31, 0, 0), (10, 1, 2, 0, 0), (11, 1, 3, 0, 0), (12, 40, 0, 0, 0), (13, 0, 0, 0, 1), (14, 36, 0, 0, 0), (15, 20, 25, 0, 0), (18, 2, 0, 0, 0), (19, 50, 9, 2, 0), (22, 1, 3, 0, 0), (23, 1, 1, 0, 0), (24, 53, 0, 0, 0), (25, 5, 3, 0, 1), (28, 6, 2, 0, 0), (31, 1, 2, 0, 0), (32, 70, 0, 0, 0)]
theorem fr_49_ok : fw_mk 49 4 4 (some .int) fr_49 = true := by decide +kernel
theorem s_k_hangNextP_0 {Post : Option fw_V → fw_W → Prop} {d : Nat} {W : fw_W} {h nx_ : Int}
    (hw_ : jf fw_T (d + 1) 49 2 [(0, .inr (.inl 12)), (1, .inl h), (2, .inl nx_), (3, .inl (0 : Int))] [] W Post) :
    jf fw_T (d + 1) 49 0 [(0, .inr (.inl 12)), (1, .inl h), (2, .inl nx_)] [] W Post := fw_ok (n := 3) (ss := [(2, [0, 1, 2, 3])]) (hv := []) fr_49_ok fv_plP_ok (fw_c0 _ _) hw_

theorem s_k_hangNextP_2 {Post : Option fw_V → fw_W → Prop} {d : Nat} {W : fw_W} {h nx_ o : Int} {f : fw_W}
    (hw_ : (0 ≤ (fw_g W 12 0) → (fw_g W 12 0) ≤ 14 → (((fw_g W 12 0) ≤ o → (-2147483648 ≤ nx_ → nx_ ≤ 2147483647 → Post (some (.inl nx_)) (fw_put [13] 0 [] W f))) ∧ (o < (fw_g W 12 0) → (-2147483648 ≤ (fw_shr nx_ o) → (fw_shr nx_ o) ≤ 2147483647 → (-2147483648 ≤ (fw_and (fw_shr nx_ o) (1 : Int)) → (fw_and (fw_shr nx_ o) (1 : Int)) ≤ 2147483647 → (((fw_and (fw_shr nx_ o) (1 : Int)) = 0 → -2147483648 ≤ o + (1 : Int) ∧ o + (1 : Int) ≤ 2147483647 ∧ (jf fw_T (d + 1) 49 2 [(0, .inr (.inl 12)), (1, .inl h), (2, .inl nx_), (3, .inl (o + (1 : Int)))] [] (fw_put [13] 0 [] W f) Post)) ∧ (¬ (fw_and (fw_shr nx_ o) (1 : Int)) = 0 → 0 ≤ o ∧ o < 14 ∧ -1 ≤ h ∧ h ≤ 13 ∧ (-2147483648 ≤ o + (1 : Int) ∧ o + (1 : Int) ≤ 2147483647 ∧ (jf fw_T (d + 1) 49 2 [(0, .inr (.inl 12)), (1, .inl h), (2, .inl nx_), (3, .inl (o + (1 : Int)))] [] (fw_up (fw_put [13] 0 [] W f) 13 o h) Post)))))))))) :
    jf fw_T (d + 1) 49 2 [(0, .inr (.inl 12)), (1, .inl h), (2, .inl nx_), (3, .inl o)] [] (fw_put [13] 0 [] W f) Post := fw_ok (n := 18) (ss := [(2, [0, 1, 2, 3])]) (hv := []) fr_49_ok fv_plP_ok (fw_c0 _ _) hw_

theorem lm_k_hangNextP_2 {Post : Option fw_V → fw_W → Prop} {d : Nat} {W : fw_W} {h nx_ : Int} (hpre : 0 ≤ nx_ ∧ nx_ < 16384 ∧ 0 ≤ h ∧ h < 14 ∧ 0 ≤ (fw_g W 12 0) ∧ (fw_g W 12 0) ≤ 14) (hP : ∀ (v : Int) (W2 : fw_W), fw_sm [13] 0 [] W W2 → (-2147483648 ≤ v ∧ v ≤ 2147483647 ∧ (v = nx_ ∧ ∀ x_, 0 ≤ x_ → x_ < (fw_g W 12 0) → (fw_g W2 13 x_) = if bt nx_ x_ = 1 then h else (fw_g W 13 x_))) → Post (some (.inl v)) W2)  : ∀ (m : Nat) (o : Int) (f : fw_W), ((fw_g W 12 0) - o).toNat = m → ((0 ≤ o ∧ o ≤ 14) ∧ ∀ x_, 0 ≤ x_ → x_ < fw_g W 12 0 → (fw_g f 13 x_) = if x_ < o ∧ bt nx_ x_ = 1 then h else fw_g W 13 x_) → jf fw_T (d + 1) 49 2 [(0, .inr (.inl 12)), (1, .inl h), (2, .inl nx_), (3, .inl o)] [] (fw_put [13] 0 [] W f) Post := by
  intro m
  induction m using Nat.strongRecOn with
  | ind m ih =>
    intro o f hm hi
    refine jf_rng (fun hrg => ?_)
    have hrg : -2147483648 ≤ h ∧ h ≤ 2147483647 ∧ -2147483648 ≤ nx_ ∧ nx_ ≤ 2147483647 ∧ -2147483648 ≤ o ∧ o ≤ 2147483647 ∧ True := hrg
    refine s_k_hangNextP_2 ?_
    have hi1 := hi.1
    have hb := bt_fw (m := nx_) (k := o) (by omega) (by omega) (by omega) (by omega)
    have hb2 := bt_01 nx_ o
    repeat' (first
      | (exact True.intro)
      | (exact hpre.1)
      | (refine And.intro ?_ ?_)
      | (refine (ih _ (by omega) _ _ rfl ?_); (
        first
          | (refine ⟨by omega, fun x x1 x2 => ?_⟩
             have c0 : bt nx_ o = 0 := by omega
             rw [hi.2 x x1 x2]
             by_cases c : x < o ∧ bt nx_ x = 1
             · rw [if_pos c, if_pos ⟨by omega, c.2⟩]
             · rw [if_neg c, if_neg (fun z => c ⟨by
                 apply Classical.byContradiction
                 intro q
                 have e : x = o := by omega
                 rw [e, c0] at z
                 exact absurd z.2 (by decide), z.2⟩)])
          | (refine ⟨by omega, fun x x1 x2 => ?_⟩
             have c0 : bt nx_ o = 1 := by omega
             rw [fg_if (by omega) (by omega) (by omega) (by omega)]
             by_cases e : o = x
             · rw [if_pos e, if_pos ⟨by omega, by rw [← e]; exact c0⟩]
             · rw [if_neg e]
               refine Eq.trans (hi.2 x x1 x2) ?_
               by_cases c : x < o ∧ bt nx_ x = 1
               · rw [if_pos c, if_pos ⟨by omega, c.2⟩]
               · rw [if_neg c, if_neg (fun z => c ⟨by omega, z.2⟩)])))
      | (refine jf_put (S := [13]) (o := 0) (F := []) (W := W) (by repeat (first | exact fw_sm_refl | exact fw_sm_put0 | refine fw_sm_arr ?_ rfl | refine fw_sm_up ?_ rfl | refine fw_sm_put ?_ rfl | refine fw_sm_cp ?_ rfl)) (ih _ (by omega) _ _ rfl ?_); (
        first
          | (refine ⟨by omega, fun x x1 x2 => ?_⟩
             have c0 : bt nx_ o = 0 := by omega
             rw [hi.2 x x1 x2]
             by_cases c : x < o ∧ bt nx_ x = 1
             · rw [if_pos c, if_pos ⟨by omega, c.2⟩]
             · rw [if_neg c, if_neg (fun z => c ⟨by
                 apply Classical.byContradiction
                 intro q
                 have e : x = o := by omega
                 rw [e, c0] at z
                 exact absurd z.2 (by decide), z.2⟩)])
          | (refine ⟨by omega, fun x x1 x2 => ?_⟩
             have c0 : bt nx_ o = 1 := by omega
             rw [fg_if (by omega) (by omega) (by omega) (by omega)]
             by_cases e : o = x
             · rw [if_pos e, if_pos ⟨by omega, by rw [← e]; exact c0⟩]
             · rw [if_neg e]
               refine Eq.trans (hi.2 x x1 x2) ?_
               by_cases c : x < o ∧ bt nx_ x = 1
               · rw [if_pos c, if_pos ⟨by omega, c.2⟩]
               · rw [if_neg c, if_neg (fun z => c ⟨by omega, z.2⟩)])))
      | (refine hP _ _ (by repeat (first | exact fw_sm_refl | exact fw_sm_put0 | refine fw_sm_arr ?_ rfl | refine fw_sm_up ?_ rfl | refine fw_sm_put ?_ rfl | refine fw_sm_cp ?_ rfl)) ?_; (refine ⟨by omega, by omega, ?_⟩; (
        refine ⟨rfl, fun x x1 x2 => Eq.trans (hi.2 x x1 x2) ?_⟩
        by_cases c : bt nx_ x = 1
        · rw [if_pos c, if_pos ⟨by omega, c⟩]
        · rw [if_neg c, if_neg (fun z => c z.2)])))
      | omega
      | (intro _))
def x_k_hangNextP : fw_X := fun as W Q => match as with
  | [.inr (.inl r0_), .inl h, .inl nx_] => fw_if (Nat.beq r0_ 12) ((0 ≤ nx_ ∧ nx_ < 16384 ∧ 0 ≤ h ∧ h < 14 ∧ 0 ≤ (fw_g W 12 0) ∧ (fw_g W 12 0) ≤ 14) ∧ (∀ (v : Int) (f : fw_W), (-2147483648 ≤ v ∧ v ≤ 2147483647 ∧ (v = nx_ ∧ ∀ x_, 0 ≤ x_ → x_ < (fw_g W 12 0) → (fw_g f 13 x_) = if bt nx_ x_ = 1 then h else (fw_g W 13 x_))) → Q (some (.inl v)) (fw_put [13] 0 [] W f)))
  | _ => False
theorem x_k_hangNextP_ok (d : Nat) (as : List fw_V) (W : fw_W) (Q : Option fw_V → fw_W → Prop) (hx : x_k_hangNextP as W Q) : jf fw_T (d + 1) 49 0 (fw_args 0 as) [] W Q := by
  unfold x_k_hangNextP at hx
  split at hx
  · rename_i r0_ h nx_
    obtain ⟨e0_, hx0⟩ := fw_if_ok hx
    have e0_ := Nat.eq_of_beq_eq_true e0_
    clear hx
    subst e0_
    obtain ⟨hpre, hQ⟩ := hx0
    have hP : ∀ (v : Int) (W2 : fw_W), fw_sm [13] 0 [] W W2 → _ → Q (some (.inl v)) W2 := fun v W2 hs hr => fw_sm_use (Q := fun Z => Q (some (.inl v)) Z) hs (hQ v W2 hr)
    refine s_k_hangNextP_0 ?_
    repeat' (first
      | (exact True.intro)
      | (exact hpre.1)
      | (refine And.intro ?_ ?_)
      | (refine jf_put (S := [13]) (o := 0) (F := []) (W := W) (by repeat (first | exact fw_sm_refl | exact fw_sm_put0 | refine fw_sm_arr ?_ rfl | refine fw_sm_up ?_ rfl | refine fw_sm_put ?_ rfl | refine fw_sm_cp ?_ rfl)) (lm_k_hangNextP_2 (h := h) (nx_ := nx_) hpre hP _ _ _ rfl ?_); (exact ⟨by omega, fun x x1 x2 => by rw [if_neg (by omega)]⟩))
      | (refine hP _ _ (by repeat (first | exact fw_sm_refl | exact fw_sm_put0 | refine fw_sm_arr ?_ rfl | refine fw_sm_up ?_ rfl | refine fw_sm_put ?_ rfl | refine fw_sm_cp ?_ rfl)) ?_; (refine ⟨by omega, by omega, ?_⟩; (
        refine ⟨rfl, fun x x1 x2 => Eq.trans (hi.2 x x1 x2) ?_⟩
        by_cases c : bt nx_ x = 1
        · rw [if_pos c, if_pos ⟨by omega, c⟩]
        · rw [if_neg c, if_neg (fun z => c z.2)])))
      | omega
      | (intro _))
  · exact hx.elim

def fr_48 : fw_P := [(0, 2, 2, 0, 0), (1, 1, 1, 0, 0), (2, 51, 9, 0, 0), (5, 0, 0, 0, 0), (6, 3, 3, 0, 0), (7, 1, 3, 0, 0), (8, 1, 1, 0, 0), (9, 13, 47, 0, 0), (12, 2, 2, 0, 0), (13, 50, 9, 2, 0), (16, 1, 3, 0, 0), (17, 0, 0, 0, -1), (18, 53, 0, 0, 0), (19, 2, 2, 0, 0), (20, 50, 9, 3, 0), (23, 1, 3, 0, 0), (24, 1, 3, 0, 0), (25, 21, 32, 0, 0), (28, 0, 0, 0, 0), (29, 6, 33, 0, 0), (32, 0, 0, 0, 1), (33, 53, 0, 0, 0), (34, 2, 2, 0, 0), (35, 50, 9, 4, 0), (38, 1, 3, 0, 0), (39, 0, 0, 0, 1), (40, 53, 0, 0, 0), (41, 5, 3, 0, 1), (44, 6, 7, 0, 0), (47, 0, 0, 0, 1), (48, 3, 3, 0, 0), (49, 0, 0, 0, 0), (50, 3, 4, 0, 0), (52, 1, 4, 0, 0), (54, 1, 1, 0, 0), (55, 13, 108, 0, 0), (58, 0, 0, 0, 0), (59, 3, 5, 0, 0), (61, 1, 5, 0, 0), (63, 1, 1, 0, 0), (64, 13, 102, 0, 0), (67, 1, 3, 0, 0), (68, 1, 5, 0, 0), (70, 40, 0, 0, 0), (71, 0, 0, 0, 1), (72, 36, 0, 0, 0), (73, 20, 96, 0, 0), (76, 1, 3, 0, 0), (77, 2, 2, 0, 0), (78, 1, 5, 0, 0), (80, 2, 0, 0, 0), (81, 50, 4, 2, 0), (84, 1, 5, 0, 0), (86, 52, 0, 0, 0), (87, 1, 3, 0, 0), (88, 0, 0, 0, -1), (89, 38, 0, 0, 0), (90, 36, 0, 0, 0), (91, 65, 49, 3, 400), (94, 37, 0, 0, 0), (95, 3, 3, 0, 0), (96, 5, 5, 0, 1), (99, 6, 61, 0, 0), (102, 5, 4, 0, 1), (105, 6, 52, 0, 0), (108, 72, 0, 0, 0)]
theorem fr_48_ok : fw_mk 48 6 4 none fr_48 = true := by decide +kernel
def ct_k_hangAllP : List (Nat × fw_X) := [(49, x_k_hangNextP)]
theorem ct_k_hangAllP_ok (d : Nat) : fw_cok fw_T (d + 1) ct_k_hangAllP := by
  intro q hq as W Q h
  simp only [ct_k_hangAllP, List.mem_cons, List.not_mem_nil, or_false] at hq
  rcases hq with rfl
  · exact jc_of (x_k_hangNextP_ok (d + 0) as W Q h)
theorem s_k_hangAllP_0 {Post : Option fw_V → fw_W → Prop} {d : Nat} {W : fw_W} {nn : Int}
    (hw_ : 0 ≤ nn ∧ nn ≤ 14 ∧ (jf fw_T (d + 2) 48 7 [(0, .inr (.inl 268)), (1, .inl nn), (2, .inr (.inl 12)), (3, .inl (0 : Int))] [] (fw_up W 12 0 nn) Post)) :
    jf fw_T (d + 2) 48 0 [(0, .inr (.inl 268)), (1, .inl nn), (2, .inr (.inl 12))] [] W Post := fw_ok (n := 6) (ss := [(7, [0, 1, 2, 3]), (52, [0, 1, 2, 3, 4]), (61, [0, 1, 2, 3, 4, 5])]) (hv := []) fr_48_ok fv_plP_ok (ct_k_hangAllP_ok d) hw_

theorem s_k_hangAllP_61 {Post : Option fw_V → fw_W → Prop} {d : Nat} {W : fw_W} {nn hu rr h : Int} {f : fw_W}
    (hw_ : ((nn ≤ h → -2147483648 ≤ rr + (1 : Int) ∧ rr + (1 : Int) ≤ 2147483647 ∧ (jf fw_T (d + 2) 48 52 [(0, .inr (.inl 268)), (1, .inl nn), (2, .inr (.inl 12)), (3, .inl hu), (4, .inl (rr + (1 : Int)))] [] (fw_put [13, 14, 15] 0 [12000] W f) Post)) ∧ (h < nn → (-2147483648 ≤ (fw_shr hu h) → (fw_shr hu h) ≤ 2147483647 → (-2147483648 ≤ (fw_and (fw_shr hu h) (1 : Int)) → (fw_and (fw_shr hu h) (1 : Int)) ≤ 2147483647 → (((fw_and (fw_shr hu h) (1 : Int)) = 0 → -2147483648 ≤ h + (1 : Int) ∧ h + (1 : Int) ≤ 2147483647 ∧ (jf fw_T (d + 2) 48 61 [(0, .inr (.inl 268)), (1, .inl nn), (2, .inr (.inl 12)), (3, .inl hu), (4, .inl rr), (5, .inl (h + (1 : Int)))] [] (fw_put [13, 14, 15] 0 [12000] W f) Post)) ∧ (¬ (fw_and (fw_shr hu h) (1 : Int)) = 0 → 0 ≤ h ∧ h < 14 ∧ (-2147483648 ≤ (fw_g W 271 h) → (fw_g W 271 h) ≤ 2147483647 → (-2147483648 ≤ (fw_xor hu (-1 : Int)) → (fw_xor hu (-1 : Int)) ≤ 2147483647 → (-2147483648 ≤ (fw_and (fw_g W 271 h) (fw_xor hu (-1 : Int))) → (fw_and (fw_g W 271 h) (fw_xor hu (-1 : Int))) ≤ 2147483647 → (0 ≤ (fw_and (fw_g W 271 h) (fw_xor hu (-1 : Int))) ∧ (fw_and (fw_g W 271 h) (fw_xor hu (-1 : Int))) < 16384 ∧ 0 ≤ h ∧ h < 14 ∧ 0 ≤ (fw_g f 12 0) ∧ (fw_g f 12 0) ≤ 14) ∧ (∀ (r1 : Int) (f2 : fw_W), ((-2147483648 ≤ r1 ∧ r1 ≤ 2147483647 ∧ (r1 = (fw_and (fw_g W 271 h) (fw_xor hu (-1 : Int))) ∧ ∀ x_, 0 ≤ x_ → x_ < (fw_g f 12 0) → (fw_g f2 13 x_) = if bt (fw_and (fw_g W 271 h) (fw_xor hu (-1 : Int))) x_ = 1 then h else (fw_g f 13 x_)))) → (-2147483648 ≤ (fw_or hu r1) → (fw_or hu r1) ≤ 2147483647 → -2147483648 ≤ h + (1 : Int) ∧ h + (1 : Int) ≤ 2147483647 ∧ (jf fw_T (d + 2) 48 61 [(0, .inr (.inl 268)), (1, .inl nn), (2, .inr (.inl 12)), (3, .inl (fw_or hu r1)), (4, .inl rr), (5, .inl (h + (1 : Int)))] [] (fw_put [13] 0 [] (fw_put [13, 14, 15] 0 [12000] W f) f2) Post))))))))))))) :
    jf fw_T (d + 2) 48 61 [(0, .inr (.inl 268)), (1, .inl nn), (2, .inr (.inl 12)), (3, .inl hu), (4, .inl rr), (5, .inl h)] [] (fw_put [13, 14, 15] 0 [12000] W f) Post := fw_ok (n := 26) (ss := [(7, [0, 1, 2, 3]), (52, [0, 1, 2, 3, 4]), (61, [0, 1, 2, 3, 4, 5])]) (hv := []) fr_48_ok fv_plP_ok (ct_k_hangAllP_ok d) hw_

theorem s_k_hangAllP_52 {Post : Option fw_V → fw_W → Prop} {d : Nat} {W : fw_W} {nn hu rr : Int} {f : fw_W}
    (hw_ : ((nn ≤ rr → Post none (fw_put [13, 14, 15] 0 [12000] W f)) ∧ (rr < nn → jf fw_T (d + 2) 48 61 [(0, .inr (.inl 268)), (1, .inl nn), (2, .inr (.inl 12)), (3, .inl hu), (4, .inl rr), (5, .inl (0 : Int))] [] (fw_put [13, 14, 15] 0 [12000] W f) Post))) :
    jf fw_T (d + 2) 48 52 [(0, .inr (.inl 268)), (1, .inl nn), (2, .inr (.inl 12)), (3, .inl hu), (4, .inl rr)] [] (fw_put [13, 14, 15] 0 [12000] W f) Post := fw_ok (n := 6) (ss := [(7, [0, 1, 2, 3]), (52, [0, 1, 2, 3, 4]), (61, [0, 1, 2, 3, 4, 5])]) (hv := []) fr_48_ok fv_plP_ok (ct_k_hangAllP_ok d) hw_

theorem s_k_hangAllP_7 {Post : Option fw_V → fw_W → Prop} {d : Nat} {W : fw_W} {nn hu : Int} {f : fw_W}
    (hw_ : ((nn ≤ hu → jf fw_T (d + 2) 48 52 [(0, .inr (.inl 268)), (1, .inl nn), (2, .inr (.inl 12)), (3, .inl (1 : Int)), (4, .inl (0 : Int))] [] (fw_put [13, 14, 15] 0 [12000] W f) Post) ∧ (hu < nn → 0 ≤ hu ∧ hu < 14 ∧ -1 ≤ (-1 : Int) ∧ (-1 : Int) ≤ 13 ∧ (((¬ hu = 0 → 0 ≤ hu ∧ hu < 14 ∧ 0 ≤ (1 : Int) ∧ (1 : Int) ≤ 99 ∧ (0 ≤ hu ∧ hu < 14 ∧ 0 ≤ (1 : Int) ∧ (1 : Int) ≤ 99 ∧ (-2147483648 ≤ hu + (1 : Int) ∧ hu + (1 : Int) ≤ 2147483647 ∧ (jf fw_T (d + 2) 48 7 [(0, .inr (.inl 268)), (1, .inl nn), (2, .inr (.inl 12)), (3, .inl (hu + (1 : Int)))] [] (fw_up (fw_up (fw_up (fw_put [13, 14, 15] 0 [12000] W f) 13 hu (-1 : Int)) 14 hu (1 : Int)) 15 hu (1 : Int)) Post)))) ∧ (hu = 0 → 0 ≤ hu ∧ hu < 14 ∧ 0 ≤ (0 : Int) ∧ (0 : Int) ≤ 99 ∧ (0 ≤ hu ∧ hu < 14 ∧ 0 ≤ (1 : Int) ∧ (1 : Int) ≤ 99 ∧ (-2147483648 ≤ hu + (1 : Int) ∧ hu + (1 : Int) ≤ 2147483647 ∧ (jf fw_T (d + 2) 48 7 [(0, .inr (.inl 268)), (1, .inl nn), (2, .inr (.inl 12)), (3, .inl (hu + (1 : Int)))] [] (fw_up (fw_up (fw_up (fw_put [13, 14, 15] 0 [12000] W f) 13 hu (-1 : Int)) 14 hu (0 : Int)) 15 hu (1 : Int)) Post))))))))) :
    jf fw_T (d + 2) 48 7 [(0, .inr (.inl 268)), (1, .inl nn), (2, .inr (.inl 12)), (3, .inl hu)] [] (fw_put [13, 14, 15] 0 [12000] W f) Post := fw_ok (n := 24) (ss := [(7, [0, 1, 2, 3]), (52, [0, 1, 2, 3, 4]), (61, [0, 1, 2, 3, 4, 5])]) (hv := []) fr_48_ok fv_plP_ok (ct_k_hangAllP_ok d) hw_

theorem lm_k_hangAllP_61 {Post : Option fw_V → fw_W → Prop} {d : Nat} {W : fw_W} {nn : Int} (hpre : 2 ≤ nn ∧ nn ≤ 14 ∧ gc_ok nn (nxb W) ∧ kb nn W) (hP : ∀ (W2 : fw_W), fw_sm [13, 14, 15] 0 [12000] W W2 → ((fw_g W2 12 0) = nn ∧ tr nn (fun z_ => (fw_g W2 13 z_))) → Post none W2) (M52 : Int) (h52 : ∀ (hu rr : Int) (f : fw_W), (0 ≤ rr ∧ 0 ≤ hu ∧ hu < 16384 ∧ (fw_g f 12 0) = nn) ∧ hu_ok nn (nxb W) (fun x_ => bt hu x_) (fun z_ => (fw_g f 13 z_)) rr 0 → (nn - rr) < M52 → jf fw_T (d + 2) 48 52 [(0, .inr (.inl 268)), (1, .inl nn), (2, .inr (.inl 12)), (3, .inl hu), (4, .inl rr)] [] (fw_put [13, 14, 15] 0 [12000] W f) Post) : ∀ (m : Nat) (hu rr h : Int) (f : fw_W), (nn - h).toNat = m → (0 ≤ rr ∧ rr < nn ∧ 0 ≤ h ∧ 0 ≤ hu ∧ hu < 16384 ∧ (fw_g f 12 0) = nn) ∧ hu_ok nn (nxb W) (fun x_ => bt hu x_) (fun z_ => (fw_g f 13 z_)) rr h → (nn - rr) ≤ M52 → jf fw_T (d + 2) 48 61 [(0, .inr (.inl 268)), (1, .inl nn), (2, .inr (.inl 12)), (3, .inl hu), (4, .inl rr), (5, .inl h)] [] (fw_put [13, 14, 15] 0 [12000] W f) Post := by
  intro m
  induction m using Nat.strongRecOn with
  | ind m ih =>
    intro hu rr h f hm hi e52
    refine jf_rng (fun hrg => ?_)
    have hrg : -2147483648 ≤ nn ∧ nn ≤ 2147483647 ∧ -2147483648 ≤ hu ∧ hu ≤ 2147483647 ∧ -2147483648 ≤ rr ∧ rr ≤ 2147483647 ∧ -2147483648 ≤ h ∧ h ≤ 2147483647 ∧ True := hrg
    refine s_k_hangAllP_61 ?_
    have hi1 := hi.1
    have hk : h < nn → 0 ≤ fw_g W 271 h ∧ fw_g W 271 h < 16384 := fun z => hpre.2.2.2 h (by omega) z
    have hb : h < 32 → fw_and (fw_shr hu h) 1 = bt hu h := fun z => bt_fw (by omega) (by omega) (by omega) z
    have hb2 := bt_01 hu h
    have hnx : h < nn → 0 ≤ fw_and (fw_g W 271 h) (fw_xor hu (-1)) ∧ fw_and (fw_g W 271 h) (fw_xor hu (-1)) < 16384 := fun z => by
      have q := nxt_bt (k := fw_g W 271 h) (h := hu) (hk z).1 (hk z).2 (by omega) (by omega)
      exact ⟨q.1, q.2.1⟩
    repeat' (first
      | (exact True.intro)
      | (exact hpre.1)
      | (refine And.intro ?_ ?_)
      | (refine (h52 _ _ _ ?_ (by omega)); (exact ⟨by omega, hu_next hi.2 (by omega) (by omega) hpre.2.2.1⟩))
      | (refine jf_put (S := [13, 14, 15]) (o := 0) (F := [12000]) (W := W) (by repeat (first | exact fw_sm_refl | exact fw_sm_put0 | refine fw_sm_arr ?_ rfl | refine fw_sm_up ?_ rfl | refine fw_sm_put ?_ rfl | refine fw_sm_cp ?_ rfl)) (h52 _ _ _ ?_ (by omega)); (exact ⟨by omega, hu_next hi.2 (by omega) (by omega) hpre.2.2.1⟩))
      | (refine (ih _ (by omega) _ _ _ _ rfl ?_ (by omega)); (
        first
          | (refine ⟨by omega, hu_skip hi.2 ?_⟩
             show bt hu h ≠ 1
             have := hb (by omega)
             omega)
          | (rename_i r9 f9 h9 w8 w9
             have hv := h9.2.2.1
             subst hv
             have q := hu_go (hg' := fun z_ => fw_g f9 13 z_) (k := fw_g W 271 h) hi.2 (by omega) (by omega) (by omega) (by omega) (by omega) (by have := hb (by omega); omega) rfl (hk (by omega)).1 (hk (by omega)).2 rfl (fun x x1 x2 => h9.2.2.2 x x1 (by omega))
             exact ⟨⟨by omega, by omega, by omega, q.2.1, q.2.2, hi1.2.2.2.2.2⟩, q.1⟩)))
      | (refine jf_put (S := [13, 14, 15]) (o := 0) (F := [12000]) (W := W) (by repeat (first | exact fw_sm_refl | exact fw_sm_put0 | refine fw_sm_arr ?_ rfl | refine fw_sm_up ?_ rfl | refine fw_sm_put ?_ rfl | refine fw_sm_cp ?_ rfl)) (ih _ (by omega) _ _ _ _ rfl ?_ (by omega)); (
        first
          | (refine ⟨by omega, hu_skip hi.2 ?_⟩
             show bt hu h ≠ 1
             have := hb (by omega)
             omega)
          | (rename_i r9 f9 h9 w8 w9
             have hv := h9.2.2.1
             subst hv
             have q := hu_go (hg' := fun z_ => fw_g f9 13 z_) (k := fw_g W 271 h) hi.2 (by omega) (by omega) (by omega) (by omega) (by omega) (by have := hb (by omega); omega) rfl (hk (by omega)).1 (hk (by omega)).2 rfl (fun x x1 x2 => h9.2.2.2 x x1 (by omega))
             exact ⟨⟨by omega, by omega, by omega, q.2.1, q.2.2, hi1.2.2.2.2.2⟩, q.1⟩)))
      | (refine hP _ (by repeat (first | exact fw_sm_refl | exact fw_sm_put0 | refine fw_sm_arr ?_ rfl | refine fw_sm_up ?_ rfl | refine fw_sm_put ?_ rfl | refine fw_sm_cp ?_ rfl)) ?_; (exact ⟨hi1.2.2.2, hu_end hi.2 (by omega) (by omega)⟩))
      | omega
      | (intro _))
theorem lm_k_hangAllP_52 {Post : Option fw_V → fw_W → Prop} {d : Nat} {W : fw_W} {nn : Int} (hpre : 2 ≤ nn ∧ nn ≤ 14 ∧ gc_ok nn (nxb W) ∧ kb nn W) (hP : ∀ (W2 : fw_W), fw_sm [13, 14, 15] 0 [12000] W W2 → ((fw_g W2 12 0) = nn ∧ tr nn (fun z_ => (fw_g W2 13 z_))) → Post none W2)  : ∀ (m : Nat) (hu rr : Int) (f : fw_W), (nn - rr).toNat = m → (0 ≤ rr ∧ 0 ≤ hu ∧ hu < 16384 ∧ (fw_g f 12 0) = nn) ∧ hu_ok nn (nxb W) (fun x_ => bt hu x_) (fun z_ => (fw_g f 13 z_)) rr 0 → jf fw_T (d + 2) 48 52 [(0, .inr (.inl 268)), (1, .inl nn), (2, .inr (.inl 12)), (3, .inl hu), (4, .inl rr)] [] (fw_put [13, 14, 15] 0 [12000] W f) Post := by
  intro m
  induction m using Nat.strongRecOn with
  | ind m ih =>
    intro hu rr f hm hi
    refine jf_rng (fun hrg => ?_)
    have hrg : -2147483648 ≤ nn ∧ nn ≤ 2147483647 ∧ -2147483648 ≤ hu ∧ hu ≤ 2147483647 ∧ -2147483648 ≤ rr ∧ rr ≤ 2147483647 ∧ True := hrg
    refine s_k_hangAllP_52 ?_
    have hi1 := hi.1
    repeat' (first
      | (exact True.intro)
      | (exact hpre.1)
      | (refine And.intro ?_ ?_)
      | (refine (ih _ (by omega) _ _ _ rfl ?_); (first | omega | trivial | (simp (config := { decide := true }) only [fg_in, fg_fin, fg_out, fg_fout, fg_up, fg_same, true_and, and_true] <;> omega)))
      | (refine jf_put (S := [13, 14, 15]) (o := 0) (F := [12000]) (W := W) (by repeat (first | exact fw_sm_refl | exact fw_sm_put0 | refine fw_sm_arr ?_ rfl | refine fw_sm_up ?_ rfl | refine fw_sm_put ?_ rfl | refine fw_sm_cp ?_ rfl)) (ih _ (by omega) _ _ _ rfl ?_); (first | omega | trivial | (simp (config := { decide := true }) only [fg_in, fg_fin, fg_out, fg_fout, fg_up, fg_same, true_and, and_true] <;> omega)))
      | (refine (lm_k_hangAllP_61 (nn := nn) hpre hP (nn - rr) (fun a0 a1 af hi hl => ih _ (by omega) a0 a1 af rfl hi) _ _ _ _ _ rfl ?_ (by omega)); (exact ⟨by omega, hi.2⟩))
      | (refine jf_put (S := [13, 14, 15]) (o := 0) (F := [12000]) (W := W) (by repeat (first | exact fw_sm_refl | exact fw_sm_put0 | refine fw_sm_arr ?_ rfl | refine fw_sm_up ?_ rfl | refine fw_sm_put ?_ rfl | refine fw_sm_cp ?_ rfl)) (lm_k_hangAllP_61 (nn := nn) hpre hP (nn - rr) (fun a0 a1 af hi hl => ih _ (by omega) a0 a1 af rfl hi) _ _ _ _ _ rfl ?_ (by omega)); (exact ⟨by omega, hi.2⟩))
      | (refine hP _ (by repeat (first | exact fw_sm_refl | exact fw_sm_put0 | refine fw_sm_arr ?_ rfl | refine fw_sm_up ?_ rfl | refine fw_sm_put ?_ rfl | refine fw_sm_cp ?_ rfl)) ?_; (exact ⟨hi1.2.2.2, hu_end hi.2 (by omega) (by omega)⟩))
      | omega
      | (intro _))
theorem lm_k_hangAllP_7 {Post : Option fw_V → fw_W → Prop} {d : Nat} {W : fw_W} {nn : Int} (hpre : 2 ≤ nn ∧ nn ≤ 14 ∧ gc_ok nn (nxb W) ∧ kb nn W) (hP : ∀ (W2 : fw_W), fw_sm [13, 14, 15] 0 [12000] W W2 → ((fw_g W2 12 0) = nn ∧ tr nn (fun z_ => (fw_g W2 13 z_))) → Post none W2)  : ∀ (m : Nat) (hu : Int) (f : fw_W), (nn - hu).toNat = m → ((0 ≤ hu ∧ hu ≤ nn ∧ (fw_g f 12 0) = nn) ∧ ∀ x_, 0 ≤ x_ → x_ < hu → (fw_g f 13 x_) = -1) → jf fw_T (d + 2) 48 7 [(0, .inr (.inl 268)), (1, .inl nn), (2, .inr (.inl 12)), (3, .inl hu)] [] (fw_put [13, 14, 15] 0 [12000] W f) Post := by
  intro m
  induction m using Nat.strongRecOn with
  | ind m ih =>
    intro hu f hm hi
    refine jf_rng (fun hrg => ?_)
    have hrg : -2147483648 ≤ nn ∧ nn ≤ 2147483647 ∧ -2147483648 ≤ hu ∧ hu ≤ 2147483647 ∧ True := hrg
    refine s_k_hangAllP_7 ?_
    have hi1 := hi.1
    repeat' (first
      | (exact True.intro)
      | (exact hpre.1)
      | (refine And.intro ?_ ?_)
      | (refine (ih _ (by omega) _ _ rfl ?_); (
        refine ⟨⟨by omega, by omega, by first | omega | (simp (disch := first | decide | omega) only [fg_same, fg_lit, fg_in, fg_fin, fg_out, fg_fout, fg_up, true_and, and_true, true_or, or_true, true_implies]; omega) | (simp (disch := first | decide | omega) only [fg_same, fg_lit, fg_in, fg_fin, fg_out, fg_fout, fg_up, true_and, and_true, true_or, or_true, true_implies]; first | done | omega)⟩, fun x x1 x2 => ?_⟩
        rw [fg_up rfl, fg_up rfl, fg_if (by omega) (by omega) (by omega) (by omega)]
        by_cases e : hu = x
        · rw [if_pos e]
        · rw [if_neg e]; exact hi.2 x x1 (by omega)))
      | (refine jf_put (S := [13, 14, 15]) (o := 0) (F := [12000]) (W := W) (by repeat (first | exact fw_sm_refl | exact fw_sm_put0 | refine fw_sm_arr ?_ rfl | refine fw_sm_up ?_ rfl | refine fw_sm_put ?_ rfl | refine fw_sm_cp ?_ rfl)) (ih _ (by omega) _ _ rfl ?_); (
        refine ⟨⟨by omega, by omega, by first | omega | (simp (disch := first | decide | omega) only [fg_same, fg_lit, fg_in, fg_fin, fg_out, fg_fout, fg_up, true_and, and_true, true_or, or_true, true_implies]; omega) | (simp (disch := first | decide | omega) only [fg_same, fg_lit, fg_in, fg_fin, fg_out, fg_fout, fg_up, true_and, and_true, true_or, or_true, true_implies]; first | done | omega)⟩, fun x x1 x2 => ?_⟩
        rw [fg_up rfl, fg_up rfl, fg_if (by omega) (by omega) (by omega) (by omega)]
        by_cases e : hu = x
        · rw [if_pos e]
        · rw [if_neg e]; exact hi.2 x x1 (by omega)))
      | (refine (lm_k_hangAllP_52 (nn := nn) hpre hP _ _ _ _ rfl ?_); (
        refine ⟨⟨by omega, by omega, by omega, hi1.2.2⟩, hu_init (by omega) ?_ (fun x x1 x2 => ?_) ?_⟩
        · exact (bt_1 (by omega)).trans (if_pos rfl)
        · show bt 1 x ≠ 1
          rw [bt_1 (by omega), if_neg (by omega)]
          decide
        · exact hi.2 0 (by omega) (by omega)))
      | (refine jf_put (S := [13, 14, 15]) (o := 0) (F := [12000]) (W := W) (by repeat (first | exact fw_sm_refl | exact fw_sm_put0 | refine fw_sm_arr ?_ rfl | refine fw_sm_up ?_ rfl | refine fw_sm_put ?_ rfl | refine fw_sm_cp ?_ rfl)) (lm_k_hangAllP_52 (nn := nn) hpre hP _ _ _ _ rfl ?_); (
        refine ⟨⟨by omega, by omega, by omega, hi1.2.2⟩, hu_init (by omega) ?_ (fun x x1 x2 => ?_) ?_⟩
        · exact (bt_1 (by omega)).trans (if_pos rfl)
        · show bt 1 x ≠ 1
          rw [bt_1 (by omega), if_neg (by omega)]
          decide
        · exact hi.2 0 (by omega) (by omega)))
      | (refine hP _ (by repeat (first | exact fw_sm_refl | exact fw_sm_put0 | refine fw_sm_arr ?_ rfl | refine fw_sm_up ?_ rfl | refine fw_sm_put ?_ rfl | refine fw_sm_cp ?_ rfl)) ?_; (exact ⟨hi1.2.2.2, hu_end hi.2 (by omega) (by omega)⟩))
      | omega
      | (intro _))
def x_k_hangAllP : fw_X := fun as W Q => match as with
  | [.inr (.inl s_), .inl nn, .inr (.inl r1_)] => fw_if (Nat.beq s_ 268) (fw_if (Nat.beq r1_ 12) ((2 ≤ nn ∧ nn ≤ 14 ∧ gc_ok nn (nxb W) ∧ kb nn W) ∧ (∀ (f : fw_W), ((fw_g f 12 0) = nn ∧ tr nn (fun z_ => (fw_g f 13 z_))) → Q none (fw_put [13, 14, 15] 0 [12000] W f))))
  | _ => False
theorem x_k_hangAllP_ok (d : Nat) (as : List fw_V) (W : fw_W) (Q : Option fw_V → fw_W → Prop) (hx : x_k_hangAllP as W Q) : jf fw_T (d + 2) 48 0 (fw_args 0 as) [] W Q := by
  unfold x_k_hangAllP at hx
  split at hx
  · rename_i s_ nn r1_
    obtain ⟨e0_, hx0⟩ := fw_if_ok hx
    have e0_ := Nat.eq_of_beq_eq_true e0_
    clear hx
    subst e0_
    obtain ⟨e1_, hx1⟩ := fw_if_ok hx0
    have e1_ := Nat.eq_of_beq_eq_true e1_
    clear hx0
    subst e1_
    obtain ⟨hpre, hQ⟩ := hx1
    have hP : ∀ (W2 : fw_W), fw_sm [13, 14, 15] 0 [12000] W W2 → _ → Q none W2 := fun W2 hs hr => fw_sm_use (Q := fun Z => Q none Z) hs (hQ W2 hr)
    refine s_k_hangAllP_0 ?_
    repeat' (first
      | (exact True.intro)
      | (exact hpre.1)
      | (refine And.intro ?_ ?_)
      | (refine jf_put (S := [13, 14, 15]) (o := 0) (F := [12000]) (W := W) (by repeat (first | exact fw_sm_refl | exact fw_sm_put0 | refine fw_sm_arr ?_ rfl | refine fw_sm_up ?_ rfl | refine fw_sm_put ?_ rfl | refine fw_sm_cp ?_ rfl)) (lm_k_hangAllP_7 (nn := nn) hpre hP _ _ _ rfl ?_); (exact ⟨⟨by omega, by omega, fg_same (by omega) (by omega)⟩, fun x x1 x2 => by omega⟩))
      | (refine jf_put (S := [13, 14, 15]) (o := 0) (F := [12000]) (W := W) (by repeat (first | exact fw_sm_refl | exact fw_sm_put0 | refine fw_sm_arr ?_ rfl | refine fw_sm_up ?_ rfl | refine fw_sm_put ?_ rfl | refine fw_sm_cp ?_ rfl)) (lm_k_hangAllP_52 (nn := nn) hpre hP _ _ _ _ rfl ?_); (first | omega | trivial | (simp (config := { decide := true }) only [fg_in, fg_fin, fg_out, fg_fout, fg_up, fg_same, true_and, and_true] <;> omega)))
      | (refine jf_put (S := [13, 14, 15]) (o := 0) (F := [12000]) (W := W) (by repeat (first | exact fw_sm_refl | exact fw_sm_put0 | refine fw_sm_arr ?_ rfl | refine fw_sm_up ?_ rfl | refine fw_sm_put ?_ rfl | refine fw_sm_cp ?_ rfl)) (lm_k_hangAllP_61 (nn := nn) hpre hP M52 h52 _ _ _ _ _ rfl ?_ (by omega)); (first | omega | trivial | (simp (config := { decide := true }) only [fg_in, fg_fin, fg_out, fg_fout, fg_up, fg_same, true_and, and_true] <;> omega)))
      | (refine hP _ (by repeat (first | exact fw_sm_refl | exact fw_sm_put0 | refine fw_sm_arr ?_ rfl | refine fw_sm_up ?_ rfl | refine fw_sm_put ?_ rfl | refine fw_sm_cp ?_ rfl)) ?_; (exact ⟨hi1.2.2.2, hu_end hi.2 (by omega) (by omega)⟩))
      | omega
      | (intro _))
  · exact hx.elim

def fv_plT : List (Nat × ai_C) := [(268, .inr (.inr (.inr (4, [.inr (.inl [269]), .inr (.inl [270]), .inr (.inl [271]), .inr (.inl [272]), .inr (.inl [276]), .inr (.inl [296]), .inr (.inl [323])])))), (269, .inl (.int, 14, 0, 15, true)), (270, .inl (.int, 14, -2147483648, 2147483647, true)), (271, .inl (.int, 14, -2147483648, 2147483647, true)), (272, .inr (.inr (.inr (9, [.inl (0, 14, true), .inl (0, 999, true), .inr (.inl [273]), .inr (.inl [274]), .inr (.inl [275])])))), (273, .inl (.int, 14, -1, 13, true)), (274, .inl (.int, 14, 0, 99, true)), (275, .inl (.int, 14, 0, 99, true))]
def fg_plT_G : fw_G := []
theorem fv_plT_ok : fw_view fw_T fv_plT fg_plT_G := fw_vb_ok (by decide +kernel)
theorem s_k_hangNextT_0 {Post : Option fw_V → fw_W → Prop} {d : Nat} {W : fw_W} {h nx_ : Int}
    (hw_ : jf fw_T (d + 1) 49 2 [(0, .inr (.inl 272)), (1, .inl h), (2, .inl nx_), (3, .inl (0 : Int))] [] W Post) :
    jf fw_T (d + 1) 49 0 [(0, .inr (.inl 272)), (1, .inl h), (2, .inl nx_)] [] W Post := fw_ok (n := 3) (ss := [(2, [0, 1, 2, 3])]) (hv := []) fr_49_ok fv_plT_ok (fw_c0 _ _) hw_

theorem s_k_hangNextT_2 {Post : Option fw_V → fw_W → Prop} {d : Nat} {W : fw_W} {h nx_ o : Int} {f : fw_W}
    (hw_ : (0 ≤ (fw_g W 272 0) → (fw_g W 272 0) ≤ 14 → (((fw_g W 272 0) ≤ o → (-2147483648 ≤ nx_ → nx_ ≤ 2147483647 → Post (some (.inl nx_)) (fw_put [273] 0 [] W f))) ∧ (o < (fw_g W 272 0) → (-2147483648 ≤ (fw_shr nx_ o) → (fw_shr nx_ o) ≤ 2147483647 → (-2147483648 ≤ (fw_and (fw_shr nx_ o) (1 : Int)) → (fw_and (fw_shr nx_ o) (1 : Int)) ≤ 2147483647 → (((fw_and (fw_shr nx_ o) (1 : Int)) = 0 → -2147483648 ≤ o + (1 : Int) ∧ o + (1 : Int) ≤ 2147483647 ∧ (jf fw_T (d + 1) 49 2 [(0, .inr (.inl 272)), (1, .inl h), (2, .inl nx_), (3, .inl (o + (1 : Int)))] [] (fw_put [273] 0 [] W f) Post)) ∧ (¬ (fw_and (fw_shr nx_ o) (1 : Int)) = 0 → 0 ≤ o ∧ o < 14 ∧ -1 ≤ h ∧ h ≤ 13 ∧ (-2147483648 ≤ o + (1 : Int) ∧ o + (1 : Int) ≤ 2147483647 ∧ (jf fw_T (d + 1) 49 2 [(0, .inr (.inl 272)), (1, .inl h), (2, .inl nx_), (3, .inl (o + (1 : Int)))] [] (fw_up (fw_put [273] 0 [] W f) 273 o h) Post)))))))))) :
    jf fw_T (d + 1) 49 2 [(0, .inr (.inl 272)), (1, .inl h), (2, .inl nx_), (3, .inl o)] [] (fw_put [273] 0 [] W f) Post := fw_ok (n := 18) (ss := [(2, [0, 1, 2, 3])]) (hv := []) fr_49_ok fv_plT_ok (fw_c0 _ _) hw_

theorem lm_k_hangNextT_2 {Post : Option fw_V → fw_W → Prop} {d : Nat} {W : fw_W} {h nx_ : Int} (hpre : 0 ≤ nx_ ∧ nx_ < 16384 ∧ 0 ≤ h ∧ h < 14 ∧ 0 ≤ (fw_g W 272 0) ∧ (fw_g W 272 0) ≤ 14) (hP : ∀ (v : Int) (W2 : fw_W), fw_sm [273] 0 [] W W2 → (-2147483648 ≤ v ∧ v ≤ 2147483647 ∧ (v = nx_ ∧ ∀ x_, 0 ≤ x_ → x_ < (fw_g W 272 0) → (fw_g W2 273 x_) = if bt nx_ x_ = 1 then h else (fw_g W 273 x_))) → Post (some (.inl v)) W2)  : ∀ (m : Nat) (o : Int) (f : fw_W), ((fw_g W 272 0) - o).toNat = m → ((0 ≤ o ∧ o ≤ 14) ∧ ∀ x_, 0 ≤ x_ → x_ < fw_g W 272 0 → (fw_g f 273 x_) = if x_ < o ∧ bt nx_ x_ = 1 then h else fw_g W 273 x_) → jf fw_T (d + 1) 49 2 [(0, .inr (.inl 272)), (1, .inl h), (2, .inl nx_), (3, .inl o)] [] (fw_put [273] 0 [] W f) Post := by
  intro m
  induction m using Nat.strongRecOn with
  | ind m ih =>
    intro o f hm hi
    refine jf_rng (fun hrg => ?_)
    have hrg : -2147483648 ≤ h ∧ h ≤ 2147483647 ∧ -2147483648 ≤ nx_ ∧ nx_ ≤ 2147483647 ∧ -2147483648 ≤ o ∧ o ≤ 2147483647 ∧ True := hrg
    refine s_k_hangNextT_2 ?_
    have hi1 := hi.1
    have hb := bt_fw (m := nx_) (k := o) (by omega) (by omega) (by omega) (by omega)
    have hb2 := bt_01 nx_ o
    repeat' (first
      | (exact True.intro)
      | (exact hpre.1)
      | (refine And.intro ?_ ?_)
      | (refine (ih _ (by omega) _ _ rfl ?_); (
        first
          | (refine ⟨by omega, fun x x1 x2 => ?_⟩
             have c0 : bt nx_ o = 0 := by omega
             rw [hi.2 x x1 x2]
             by_cases c : x < o ∧ bt nx_ x = 1
             · rw [if_pos c, if_pos ⟨by omega, c.2⟩]
             · rw [if_neg c, if_neg (fun z => c ⟨by
                 apply Classical.byContradiction
                 intro q
                 have e : x = o := by omega
                 rw [e, c0] at z
                 exact absurd z.2 (by decide), z.2⟩)])
          | (refine ⟨by omega, fun x x1 x2 => ?_⟩
             have c0 : bt nx_ o = 1 := by omega
             rw [fg_if (by omega) (by omega) (by omega) (by omega)]
             by_cases e : o = x
             · rw [if_pos e, if_pos ⟨by omega, by rw [← e]; exact c0⟩]
             · rw [if_neg e]
               refine Eq.trans (hi.2 x x1 x2) ?_
               by_cases c : x < o ∧ bt nx_ x = 1
               · rw [if_pos c, if_pos ⟨by omega, c.2⟩]
               · rw [if_neg c, if_neg (fun z => c ⟨by omega, z.2⟩)])))
      | (refine jf_put (S := [273]) (o := 0) (F := []) (W := W) (by repeat (first | exact fw_sm_refl | exact fw_sm_put0 | refine fw_sm_arr ?_ rfl | refine fw_sm_up ?_ rfl | refine fw_sm_put ?_ rfl | refine fw_sm_cp ?_ rfl)) (ih _ (by omega) _ _ rfl ?_); (
        first
          | (refine ⟨by omega, fun x x1 x2 => ?_⟩
             have c0 : bt nx_ o = 0 := by omega
             rw [hi.2 x x1 x2]
             by_cases c : x < o ∧ bt nx_ x = 1
             · rw [if_pos c, if_pos ⟨by omega, c.2⟩]
             · rw [if_neg c, if_neg (fun z => c ⟨by
                 apply Classical.byContradiction
                 intro q
                 have e : x = o := by omega
                 rw [e, c0] at z
                 exact absurd z.2 (by decide), z.2⟩)])
          | (refine ⟨by omega, fun x x1 x2 => ?_⟩
             have c0 : bt nx_ o = 1 := by omega
             rw [fg_if (by omega) (by omega) (by omega) (by omega)]
             by_cases e : o = x
             · rw [if_pos e, if_pos ⟨by omega, by rw [← e]; exact c0⟩]
             · rw [if_neg e]
               refine Eq.trans (hi.2 x x1 x2) ?_
               by_cases c : x < o ∧ bt nx_ x = 1
               · rw [if_pos c, if_pos ⟨by omega, c.2⟩]
               · rw [if_neg c, if_neg (fun z => c ⟨by omega, z.2⟩)])))
      | (refine hP _ _ (by repeat (first | exact fw_sm_refl | exact fw_sm_put0 | refine fw_sm_arr ?_ rfl | refine fw_sm_up ?_ rfl | refine fw_sm_put ?_ rfl | refine fw_sm_cp ?_ rfl)) ?_; (refine ⟨by omega, by omega, ?_⟩; (
        refine ⟨rfl, fun x x1 x2 => Eq.trans (hi.2 x x1 x2) ?_⟩
        by_cases c : bt nx_ x = 1
        · rw [if_pos c, if_pos ⟨by omega, c⟩]
        · rw [if_neg c, if_neg (fun z => c z.2)])))
      | omega
      | (intro _))
def x_k_hangNextT : fw_X := fun as W Q => match as with
  | [.inr (.inl r0_), .inl h, .inl nx_] => fw_if (Nat.beq r0_ 272) ((0 ≤ nx_ ∧ nx_ < 16384 ∧ 0 ≤ h ∧ h < 14 ∧ 0 ≤ (fw_g W 272 0) ∧ (fw_g W 272 0) ≤ 14) ∧ (∀ (v : Int) (f : fw_W), (-2147483648 ≤ v ∧ v ≤ 2147483647 ∧ (v = nx_ ∧ ∀ x_, 0 ≤ x_ → x_ < (fw_g W 272 0) → (fw_g f 273 x_) = if bt nx_ x_ = 1 then h else (fw_g W 273 x_))) → Q (some (.inl v)) (fw_put [273] 0 [] W f)))
  | _ => False
theorem x_k_hangNextT_ok (d : Nat) (as : List fw_V) (W : fw_W) (Q : Option fw_V → fw_W → Prop) (hx : x_k_hangNextT as W Q) : jf fw_T (d + 1) 49 0 (fw_args 0 as) [] W Q := by
  unfold x_k_hangNextT at hx
  split at hx
  · rename_i r0_ h nx_
    obtain ⟨e0_, hx0⟩ := fw_if_ok hx
    have e0_ := Nat.eq_of_beq_eq_true e0_
    clear hx
    subst e0_
    obtain ⟨hpre, hQ⟩ := hx0
    have hP : ∀ (v : Int) (W2 : fw_W), fw_sm [273] 0 [] W W2 → _ → Q (some (.inl v)) W2 := fun v W2 hs hr => fw_sm_use (Q := fun Z => Q (some (.inl v)) Z) hs (hQ v W2 hr)
    refine s_k_hangNextT_0 ?_
    repeat' (first
      | (exact True.intro)
      | (exact hpre.1)
      | (refine And.intro ?_ ?_)
      | (refine jf_put (S := [273]) (o := 0) (F := []) (W := W) (by repeat (first | exact fw_sm_refl | exact fw_sm_put0 | refine fw_sm_arr ?_ rfl | refine fw_sm_up ?_ rfl | refine fw_sm_put ?_ rfl | refine fw_sm_cp ?_ rfl)) (lm_k_hangNextT_2 (h := h) (nx_ := nx_) hpre hP _ _ _ rfl ?_); (exact ⟨by omega, fun x x1 x2 => by rw [if_neg (by omega)]⟩))
      | (refine hP _ _ (by repeat (first | exact fw_sm_refl | exact fw_sm_put0 | refine fw_sm_arr ?_ rfl | refine fw_sm_up ?_ rfl | refine fw_sm_put ?_ rfl | refine fw_sm_cp ?_ rfl)) ?_; (refine ⟨by omega, by omega, ?_⟩; (
        refine ⟨rfl, fun x x1 x2 => Eq.trans (hi.2 x x1 x2) ?_⟩
        by_cases c : bt nx_ x = 1
        · rw [if_pos c, if_pos ⟨by omega, c⟩]
        · rw [if_neg c, if_neg (fun z => c z.2)])))
      | omega
      | (intro _))
  · exact hx.elim

def ct_k_hangAllT : List (Nat × fw_X) := [(49, x_k_hangNextT)]
theorem ct_k_hangAllT_ok (d : Nat) : fw_cok fw_T (d + 1) ct_k_hangAllT := by
  intro q hq as W Q h
  simp only [ct_k_hangAllT, List.mem_cons, List.not_mem_nil, or_false] at hq
  rcases hq with rfl
  · exact jc_of (x_k_hangNextT_ok (d + 0) as W Q h)
theorem s_k_hangAllT_0 {Post : Option fw_V → fw_W → Prop} {d : Nat} {W : fw_W} {nn : Int}
    (hw_ : 0 ≤ nn ∧ nn ≤ 14 ∧ (jf fw_T (d + 2) 48 7 [(0, .inr (.inl 268)), (1, .inl nn), (2, .inr (.inl 272)), (3, .inl (0 : Int))] [] (fw_up W 272 0 nn) Post)) :
    jf fw_T (d + 2) 48 0 [(0, .inr (.inl 268)), (1, .inl nn), (2, .inr (.inl 272))] [] W Post := fw_ok (n := 6) (ss := [(7, [0, 1, 2, 3]), (52, [0, 1, 2, 3, 4]), (61, [0, 1, 2, 3, 4, 5])]) (hv := []) fr_48_ok fv_plT_ok (ct_k_hangAllT_ok d) hw_

theorem s_k_hangAllT_61 {Post : Option fw_V → fw_W → Prop} {d : Nat} {W : fw_W} {nn hu rr h : Int} {f : fw_W}
    (hw_ : ((nn ≤ h → -2147483648 ≤ rr + (1 : Int) ∧ rr + (1 : Int) ≤ 2147483647 ∧ (jf fw_T (d + 2) 48 52 [(0, .inr (.inl 268)), (1, .inl nn), (2, .inr (.inl 272)), (3, .inl hu), (4, .inl (rr + (1 : Int)))] [] (fw_put [273, 274, 275] 0 [272000] W f) Post)) ∧ (h < nn → (-2147483648 ≤ (fw_shr hu h) → (fw_shr hu h) ≤ 2147483647 → (-2147483648 ≤ (fw_and (fw_shr hu h) (1 : Int)) → (fw_and (fw_shr hu h) (1 : Int)) ≤ 2147483647 → (((fw_and (fw_shr hu h) (1 : Int)) = 0 → -2147483648 ≤ h + (1 : Int) ∧ h + (1 : Int) ≤ 2147483647 ∧ (jf fw_T (d + 2) 48 61 [(0, .inr (.inl 268)), (1, .inl nn), (2, .inr (.inl 272)), (3, .inl hu), (4, .inl rr), (5, .inl (h + (1 : Int)))] [] (fw_put [273, 274, 275] 0 [272000] W f) Post)) ∧ (¬ (fw_and (fw_shr hu h) (1 : Int)) = 0 → 0 ≤ h ∧ h < 14 ∧ (-2147483648 ≤ (fw_g W 271 h) → (fw_g W 271 h) ≤ 2147483647 → (-2147483648 ≤ (fw_xor hu (-1 : Int)) → (fw_xor hu (-1 : Int)) ≤ 2147483647 → (-2147483648 ≤ (fw_and (fw_g W 271 h) (fw_xor hu (-1 : Int))) → (fw_and (fw_g W 271 h) (fw_xor hu (-1 : Int))) ≤ 2147483647 → (0 ≤ (fw_and (fw_g W 271 h) (fw_xor hu (-1 : Int))) ∧ (fw_and (fw_g W 271 h) (fw_xor hu (-1 : Int))) < 16384 ∧ 0 ≤ h ∧ h < 14 ∧ 0 ≤ (fw_g f 272 0) ∧ (fw_g f 272 0) ≤ 14) ∧ (∀ (r1 : Int) (f2 : fw_W), ((-2147483648 ≤ r1 ∧ r1 ≤ 2147483647 ∧ (r1 = (fw_and (fw_g W 271 h) (fw_xor hu (-1 : Int))) ∧ ∀ x_, 0 ≤ x_ → x_ < (fw_g f 272 0) → (fw_g f2 273 x_) = if bt (fw_and (fw_g W 271 h) (fw_xor hu (-1 : Int))) x_ = 1 then h else (fw_g f 273 x_)))) → (-2147483648 ≤ (fw_or hu r1) → (fw_or hu r1) ≤ 2147483647 → -2147483648 ≤ h + (1 : Int) ∧ h + (1 : Int) ≤ 2147483647 ∧ (jf fw_T (d + 2) 48 61 [(0, .inr (.inl 268)), (1, .inl nn), (2, .inr (.inl 272)), (3, .inl (fw_or hu r1)), (4, .inl rr), (5, .inl (h + (1 : Int)))] [] (fw_put [273] 0 [] (fw_put [273, 274, 275] 0 [272000] W f) f2) Post))))))))))))) :
    jf fw_T (d + 2) 48 61 [(0, .inr (.inl 268)), (1, .inl nn), (2, .inr (.inl 272)), (3, .inl hu), (4, .inl rr), (5, .inl h)] [] (fw_put [273, 274, 275] 0 [272000] W f) Post := fw_ok (n := 26) (ss := [(7, [0, 1, 2, 3]), (52, [0, 1, 2, 3, 4]), (61, [0, 1, 2, 3, 4, 5])]) (hv := []) fr_48_ok fv_plT_ok (ct_k_hangAllT_ok d) hw_

theorem s_k_hangAllT_52 {Post : Option fw_V → fw_W → Prop} {d : Nat} {W : fw_W} {nn hu rr : Int} {f : fw_W}
    (hw_ : ((nn ≤ rr → Post none (fw_put [273, 274, 275] 0 [272000] W f)) ∧ (rr < nn → jf fw_T (d + 2) 48 61 [(0, .inr (.inl 268)), (1, .inl nn), (2, .inr (.inl 272)), (3, .inl hu), (4, .inl rr), (5, .inl (0 : Int))] [] (fw_put [273, 274, 275] 0 [272000] W f) Post))) :
    jf fw_T (d + 2) 48 52 [(0, .inr (.inl 268)), (1, .inl nn), (2, .inr (.inl 272)), (3, .inl hu), (4, .inl rr)] [] (fw_put [273, 274, 275] 0 [272000] W f) Post := fw_ok (n := 6) (ss := [(7, [0, 1, 2, 3]), (52, [0, 1, 2, 3, 4]), (61, [0, 1, 2, 3, 4, 5])]) (hv := []) fr_48_ok fv_plT_ok (ct_k_hangAllT_ok d) hw_

theorem s_k_hangAllT_7 {Post : Option fw_V → fw_W → Prop} {d : Nat} {W : fw_W} {nn hu : Int} {f : fw_W}
    (hw_ : ((nn ≤ hu → jf fw_T (d + 2) 48 52 [(0, .inr (.inl 268)), (1, .inl nn), (2, .inr (.inl 272)), (3, .inl (1 : Int)), (4, .inl (0 : Int))] [] (fw_put [273, 274, 275] 0 [272000] W f) Post) ∧ (hu < nn → 0 ≤ hu ∧ hu < 14 ∧ -1 ≤ (-1 : Int) ∧ (-1 : Int) ≤ 13 ∧ (((¬ hu = 0 → 0 ≤ hu ∧ hu < 14 ∧ 0 ≤ (1 : Int) ∧ (1 : Int) ≤ 99 ∧ (0 ≤ hu ∧ hu < 14 ∧ 0 ≤ (1 : Int) ∧ (1 : Int) ≤ 99 ∧ (-2147483648 ≤ hu + (1 : Int) ∧ hu + (1 : Int) ≤ 2147483647 ∧ (jf fw_T (d + 2) 48 7 [(0, .inr (.inl 268)), (1, .inl nn), (2, .inr (.inl 272)), (3, .inl (hu + (1 : Int)))] [] (fw_up (fw_up (fw_up (fw_put [273, 274, 275] 0 [272000] W f) 273 hu (-1 : Int)) 274 hu (1 : Int)) 275 hu (1 : Int)) Post)))) ∧ (hu = 0 → 0 ≤ hu ∧ hu < 14 ∧ 0 ≤ (0 : Int) ∧ (0 : Int) ≤ 99 ∧ (0 ≤ hu ∧ hu < 14 ∧ 0 ≤ (1 : Int) ∧ (1 : Int) ≤ 99 ∧ (-2147483648 ≤ hu + (1 : Int) ∧ hu + (1 : Int) ≤ 2147483647 ∧ (jf fw_T (d + 2) 48 7 [(0, .inr (.inl 268)), (1, .inl nn), (2, .inr (.inl 272)), (3, .inl (hu + (1 : Int)))] [] (fw_up (fw_up (fw_up (fw_put [273, 274, 275] 0 [272000] W f) 273 hu (-1 : Int)) 274 hu (0 : Int)) 275 hu (1 : Int)) Post))))))))) :
    jf fw_T (d + 2) 48 7 [(0, .inr (.inl 268)), (1, .inl nn), (2, .inr (.inl 272)), (3, .inl hu)] [] (fw_put [273, 274, 275] 0 [272000] W f) Post := fw_ok (n := 24) (ss := [(7, [0, 1, 2, 3]), (52, [0, 1, 2, 3, 4]), (61, [0, 1, 2, 3, 4, 5])]) (hv := []) fr_48_ok fv_plT_ok (ct_k_hangAllT_ok d) hw_

theorem lm_k_hangAllT_61 {Post : Option fw_V → fw_W → Prop} {d : Nat} {W : fw_W} {nn : Int} (hpre : 2 ≤ nn ∧ nn ≤ 14 ∧ gc_ok nn (nxb W) ∧ kb nn W) (hP : ∀ (W2 : fw_W), fw_sm [273, 274, 275] 0 [272000] W W2 → ((fw_g W2 272 0) = nn ∧ tr nn (fun z_ => (fw_g W2 273 z_))) → Post none W2) (M52 : Int) (h52 : ∀ (hu rr : Int) (f : fw_W), (0 ≤ rr ∧ 0 ≤ hu ∧ hu < 16384 ∧ (fw_g f 272 0) = nn) ∧ hu_ok nn (nxb W) (fun x_ => bt hu x_) (fun z_ => (fw_g f 273 z_)) rr 0 → (nn - rr) < M52 → jf fw_T (d + 2) 48 52 [(0, .inr (.inl 268)), (1, .inl nn), (2, .inr (.inl 272)), (3, .inl hu), (4, .inl rr)] [] (fw_put [273, 274, 275] 0 [272000] W f) Post) : ∀ (m : Nat) (hu rr h : Int) (f : fw_W), (nn - h).toNat = m → (0 ≤ rr ∧ rr < nn ∧ 0 ≤ h ∧ 0 ≤ hu ∧ hu < 16384 ∧ (fw_g f 272 0) = nn) ∧ hu_ok nn (nxb W) (fun x_ => bt hu x_) (fun z_ => (fw_g f 273 z_)) rr h → (nn - rr) ≤ M52 → jf fw_T (d + 2) 48 61 [(0, .inr (.inl 268)), (1, .inl nn), (2, .inr (.inl 272)), (3, .inl hu), (4, .inl rr), (5, .inl h)] [] (fw_put [273, 274, 275] 0 [272000] W f) Post := by
  intro m
  induction m using Nat.strongRecOn with
  | ind m ih =>
    intro hu rr h f hm hi e52
    refine jf_rng (fun hrg => ?_)
    have hrg : -2147483648 ≤ nn ∧ nn ≤ 2147483647 ∧ -2147483648 ≤ hu ∧ hu ≤ 2147483647 ∧ -2147483648 ≤ rr ∧ rr ≤ 2147483647 ∧ -2147483648 ≤ h ∧ h ≤ 2147483647 ∧ True := hrg
    refine s_k_hangAllT_61 ?_
    have hi1 := hi.1
    have hk : h < nn → 0 ≤ fw_g W 271 h ∧ fw_g W 271 h < 16384 := fun z => hpre.2.2.2 h (by omega) z
    have hb : h < 32 → fw_and (fw_shr hu h) 1 = bt hu h := fun z => bt_fw (by omega) (by omega) (by omega) z
    have hb2 := bt_01 hu h
    have hnx : h < nn → 0 ≤ fw_and (fw_g W 271 h) (fw_xor hu (-1)) ∧ fw_and (fw_g W 271 h) (fw_xor hu (-1)) < 16384 := fun z => by
      have q := nxt_bt (k := fw_g W 271 h) (h := hu) (hk z).1 (hk z).2 (by omega) (by omega)
      exact ⟨q.1, q.2.1⟩
    repeat' (first
      | (exact True.intro)
      | (exact hpre.1)
      | (refine And.intro ?_ ?_)
      | (refine (h52 _ _ _ ?_ (by omega)); (exact ⟨by omega, hu_next hi.2 (by omega) (by omega) hpre.2.2.1⟩))
      | (refine jf_put (S := [273, 274, 275]) (o := 0) (F := [272000]) (W := W) (by repeat (first | exact fw_sm_refl | exact fw_sm_put0 | refine fw_sm_arr ?_ rfl | refine fw_sm_up ?_ rfl | refine fw_sm_put ?_ rfl | refine fw_sm_cp ?_ rfl)) (h52 _ _ _ ?_ (by omega)); (exact ⟨by omega, hu_next hi.2 (by omega) (by omega) hpre.2.2.1⟩))
      | (refine (ih _ (by omega) _ _ _ _ rfl ?_ (by omega)); (
        first
          | (refine ⟨by omega, hu_skip hi.2 ?_⟩
             show bt hu h ≠ 1
             have := hb (by omega)
             omega)
          | (rename_i r9 f9 h9 w8 w9
             have hv := h9.2.2.1
             subst hv
             have q := hu_go (hg' := fun z_ => fw_g f9 273 z_) (k := fw_g W 271 h) hi.2 (by omega) (by omega) (by omega) (by omega) (by omega) (by have := hb (by omega); omega) rfl (hk (by omega)).1 (hk (by omega)).2 rfl (fun x x1 x2 => h9.2.2.2 x x1 (by omega))
             exact ⟨⟨by omega, by omega, by omega, q.2.1, q.2.2, hi1.2.2.2.2.2⟩, q.1⟩)))
      | (refine jf_put (S := [273, 274, 275]) (o := 0) (F := [272000]) (W := W) (by repeat (first | exact fw_sm_refl | exact fw_sm_put0 | refine fw_sm_arr ?_ rfl | refine fw_sm_up ?_ rfl | refine fw_sm_put ?_ rfl | refine fw_sm_cp ?_ rfl)) (ih _ (by omega) _ _ _ _ rfl ?_ (by omega)); (
        first
          | (refine ⟨by omega, hu_skip hi.2 ?_⟩
             show bt hu h ≠ 1
             have := hb (by omega)
             omega)
          | (rename_i r9 f9 h9 w8 w9
             have hv := h9.2.2.1
             subst hv
             have q := hu_go (hg' := fun z_ => fw_g f9 273 z_) (k := fw_g W 271 h) hi.2 (by omega) (by omega) (by omega) (by omega) (by omega) (by have := hb (by omega); omega) rfl (hk (by omega)).1 (hk (by omega)).2 rfl (fun x x1 x2 => h9.2.2.2 x x1 (by omega))
             exact ⟨⟨by omega, by omega, by omega, q.2.1, q.2.2, hi1.2.2.2.2.2⟩, q.1⟩)))
      | (refine hP _ (by repeat (first | exact fw_sm_refl | exact fw_sm_put0 | refine fw_sm_arr ?_ rfl | refine fw_sm_up ?_ rfl | refine fw_sm_put ?_ rfl | refine fw_sm_cp ?_ rfl)) ?_; (exact ⟨hi1.2.2.2, hu_end hi.2 (by omega) (by omega)⟩))
      | omega
      | (intro _))
theorem lm_k_hangAllT_52 {Post : Option fw_V → fw_W → Prop} {d : Nat} {W : fw_W} {nn : Int} (hpre : 2 ≤ nn ∧ nn ≤ 14 ∧ gc_ok nn (nxb W) ∧ kb nn W) (hP : ∀ (W2 : fw_W), fw_sm [273, 274, 275] 0 [272000] W W2 → ((fw_g W2 272 0) = nn ∧ tr nn (fun z_ => (fw_g W2 273 z_))) → Post none W2)  : ∀ (m : Nat) (hu rr : Int) (f : fw_W), (nn - rr).toNat = m → (0 ≤ rr ∧ 0 ≤ hu ∧ hu < 16384 ∧ (fw_g f 272 0) = nn) ∧ hu_ok nn (nxb W) (fun x_ => bt hu x_) (fun z_ => (fw_g f 273 z_)) rr 0 → jf fw_T (d + 2) 48 52 [(0, .inr (.inl 268)), (1, .inl nn), (2, .inr (.inl 272)), (3, .inl hu), (4, .inl rr)] [] (fw_put [273, 274, 275] 0 [272000] W f) Post := by
  intro m
  induction m using Nat.strongRecOn with
  | ind m ih =>
    intro hu rr f hm hi
    refine jf_rng (fun hrg => ?_)
    have hrg : -2147483648 ≤ nn ∧ nn ≤ 2147483647 ∧ -2147483648 ≤ hu ∧ hu ≤ 2147483647 ∧ -2147483648 ≤ rr ∧ rr ≤ 2147483647 ∧ True := hrg
    refine s_k_hangAllT_52 ?_
    have hi1 := hi.1
    repeat' (first
      | (exact True.intro)
      | (exact hpre.1)
      | (refine And.intro ?_ ?_)
      | (refine (ih _ (by omega) _ _ _ rfl ?_); (first | omega | trivial | (simp (config := { decide := true }) only [fg_in, fg_fin, fg_out, fg_fout, fg_up, fg_same, true_and, and_true] <;> omega)))
      | (refine jf_put (S := [273, 274, 275]) (o := 0) (F := [272000]) (W := W) (by repeat (first | exact fw_sm_refl | exact fw_sm_put0 | refine fw_sm_arr ?_ rfl | refine fw_sm_up ?_ rfl | refine fw_sm_put ?_ rfl | refine fw_sm_cp ?_ rfl)) (ih _ (by omega) _ _ _ rfl ?_); (first | omega | trivial | (simp (config := { decide := true }) only [fg_in, fg_fin, fg_out, fg_fout, fg_up, fg_same, true_and, and_true] <;> omega)))
      | (refine (lm_k_hangAllT_61 (nn := nn) hpre hP (nn - rr) (fun a0 a1 af hi hl => ih _ (by omega) a0 a1 af rfl hi) _ _ _ _ _ rfl ?_ (by omega)); (exact ⟨by omega, hi.2⟩))
      | (refine jf_put (S := [273, 274, 275]) (o := 0) (F := [272000]) (W := W) (by repeat (first | exact fw_sm_refl | exact fw_sm_put0 | refine fw_sm_arr ?_ rfl | refine fw_sm_up ?_ rfl | refine fw_sm_put ?_ rfl | refine fw_sm_cp ?_ rfl)) (lm_k_hangAllT_61 (nn := nn) hpre hP (nn - rr) (fun a0 a1 af hi hl => ih _ (by omega) a0 a1 af rfl hi) _ _ _ _ _ rfl ?_ (by omega)); (exact ⟨by omega, hi.2⟩))
      | (refine hP _ (by repeat (first | exact fw_sm_refl | exact fw_sm_put0 | refine fw_sm_arr ?_ rfl | refine fw_sm_up ?_ rfl | refine fw_sm_put ?_ rfl | refine fw_sm_cp ?_ rfl)) ?_; (exact ⟨hi1.2.2.2, hu_end hi.2 (by omega) (by omega)⟩))
      | omega
      | (intro _))
theorem lm_k_hangAllT_7 {Post : Option fw_V → fw_W → Prop} {d : Nat} {W : fw_W} {nn : Int} (hpre : 2 ≤ nn ∧ nn ≤ 14 ∧ gc_ok nn (nxb W) ∧ kb nn W) (hP : ∀ (W2 : fw_W), fw_sm [273, 274, 275] 0 [272000] W W2 → ((fw_g W2 272 0) = nn ∧ tr nn (fun z_ => (fw_g W2 273 z_))) → Post none W2)  : ∀ (m : Nat) (hu : Int) (f : fw_W), (nn - hu).toNat = m → ((0 ≤ hu ∧ hu ≤ nn ∧ (fw_g f 272 0) = nn) ∧ ∀ x_, 0 ≤ x_ → x_ < hu → (fw_g f 273 x_) = -1) → jf fw_T (d + 2) 48 7 [(0, .inr (.inl 268)), (1, .inl nn), (2, .inr (.inl 272)), (3, .inl hu)] [] (fw_put [273, 274, 275] 0 [272000] W f) Post := by
  intro m
  induction m using Nat.strongRecOn with
  | ind m ih =>
    intro hu f hm hi
    refine jf_rng (fun hrg => ?_)
    have hrg : -2147483648 ≤ nn ∧ nn ≤ 2147483647 ∧ -2147483648 ≤ hu ∧ hu ≤ 2147483647 ∧ True := hrg
    refine s_k_hangAllT_7 ?_
    have hi1 := hi.1
    repeat' (first
      | (exact True.intro)
      | (exact hpre.1)
      | (refine And.intro ?_ ?_)
      | (refine (ih _ (by omega) _ _ rfl ?_); (
        refine ⟨⟨by omega, by omega, by first | omega | (simp (disch := first | decide | omega) only [fg_same, fg_lit, fg_in, fg_fin, fg_out, fg_fout, fg_up, true_and, and_true, true_or, or_true, true_implies]; omega) | (simp (disch := first | decide | omega) only [fg_same, fg_lit, fg_in, fg_fin, fg_out, fg_fout, fg_up, true_and, and_true, true_or, or_true, true_implies]; first | done | omega)⟩, fun x x1 x2 => ?_⟩
        rw [fg_up rfl, fg_up rfl, fg_if (by omega) (by omega) (by omega) (by omega)]
        by_cases e : hu = x
        · rw [if_pos e]
        · rw [if_neg e]; exact hi.2 x x1 (by omega)))
      | (refine jf_put (S := [273, 274, 275]) (o := 0) (F := [272000]) (W := W) (by repeat (first | exact fw_sm_refl | exact fw_sm_put0 | refine fw_sm_arr ?_ rfl | refine fw_sm_up ?_ rfl | refine fw_sm_put ?_ rfl | refine fw_sm_cp ?_ rfl)) (ih _ (by omega) _ _ rfl ?_); (
        refine ⟨⟨by omega, by omega, by first | omega | (simp (disch := first | decide | omega) only [fg_same, fg_lit, fg_in, fg_fin, fg_out, fg_fout, fg_up, true_and, and_true, true_or, or_true, true_implies]; omega) | (simp (disch := first | decide | omega) only [fg_same, fg_lit, fg_in, fg_fin, fg_out, fg_fout, fg_up, true_and, and_true, true_or, or_true, true_implies]; first | done | omega)⟩, fun x x1 x2 => ?_⟩
        rw [fg_up rfl, fg_up rfl, fg_if (by omega) (by omega) (by omega) (by omega)]
        by_cases e : hu = x
        · rw [if_pos e]
        · rw [if_neg e]; exact hi.2 x x1 (by omega)))
      | (refine (lm_k_hangAllT_52 (nn := nn) hpre hP _ _ _ _ rfl ?_); (
        refine ⟨⟨by omega, by omega, by omega, hi1.2.2⟩, hu_init (by omega) ?_ (fun x x1 x2 => ?_) ?_⟩
        · exact (bt_1 (by omega)).trans (if_pos rfl)
        · show bt 1 x ≠ 1
          rw [bt_1 (by omega), if_neg (by omega)]
          decide
        · exact hi.2 0 (by omega) (by omega)))
      | (refine jf_put (S := [273, 274, 275]) (o := 0) (F := [272000]) (W := W) (by repeat (first | exact fw_sm_refl | exact fw_sm_put0 | refine fw_sm_arr ?_ rfl | refine fw_sm_up ?_ rfl | refine fw_sm_put ?_ rfl | refine fw_sm_cp ?_ rfl)) (lm_k_hangAllT_52 (nn := nn) hpre hP _ _ _ _ rfl ?_); (
        refine ⟨⟨by omega, by omega, by omega, hi1.2.2⟩, hu_init (by omega) ?_ (fun x x1 x2 => ?_) ?_⟩
        · exact (bt_1 (by omega)).trans (if_pos rfl)
        · show bt 1 x ≠ 1
          rw [bt_1 (by omega), if_neg (by omega)]
          decide
        · exact hi.2 0 (by omega) (by omega)))
      | (refine hP _ (by repeat (first | exact fw_sm_refl | exact fw_sm_put0 | refine fw_sm_arr ?_ rfl | refine fw_sm_up ?_ rfl | refine fw_sm_put ?_ rfl | refine fw_sm_cp ?_ rfl)) ?_; (exact ⟨hi1.2.2.2, hu_end hi.2 (by omega) (by omega)⟩))
      | omega
      | (intro _))
def x_k_hangAllT : fw_X := fun as W Q => match as with
  | [.inr (.inl s_), .inl nn, .inr (.inl r1_)] => fw_if (Nat.beq s_ 268) (fw_if (Nat.beq r1_ 272) ((2 ≤ nn ∧ nn ≤ 14 ∧ gc_ok nn (nxb W) ∧ kb nn W) ∧ (∀ (f : fw_W), ((fw_g f 272 0) = nn ∧ tr nn (fun z_ => (fw_g f 273 z_))) → Q none (fw_put [273, 274, 275] 0 [272000] W f))))
  | _ => False
theorem x_k_hangAllT_ok (d : Nat) (as : List fw_V) (W : fw_W) (Q : Option fw_V → fw_W → Prop) (hx : x_k_hangAllT as W Q) : jf fw_T (d + 2) 48 0 (fw_args 0 as) [] W Q := by
  unfold x_k_hangAllT at hx
  split at hx
  · rename_i s_ nn r1_
    obtain ⟨e0_, hx0⟩ := fw_if_ok hx
    have e0_ := Nat.eq_of_beq_eq_true e0_
    clear hx
    subst e0_
    obtain ⟨e1_, hx1⟩ := fw_if_ok hx0
    have e1_ := Nat.eq_of_beq_eq_true e1_
    clear hx0
    subst e1_
    obtain ⟨hpre, hQ⟩ := hx1
    have hP : ∀ (W2 : fw_W), fw_sm [273, 274, 275] 0 [272000] W W2 → _ → Q none W2 := fun W2 hs hr => fw_sm_use (Q := fun Z => Q none Z) hs (hQ W2 hr)
    refine s_k_hangAllT_0 ?_
    repeat' (first
      | (exact True.intro)
      | (exact hpre.1)
      | (refine And.intro ?_ ?_)
      | (refine jf_put (S := [273, 274, 275]) (o := 0) (F := [272000]) (W := W) (by repeat (first | exact fw_sm_refl | exact fw_sm_put0 | refine fw_sm_arr ?_ rfl | refine fw_sm_up ?_ rfl | refine fw_sm_put ?_ rfl | refine fw_sm_cp ?_ rfl)) (lm_k_hangAllT_7 (nn := nn) hpre hP _ _ _ rfl ?_); (exact ⟨⟨by omega, by omega, fg_same (by omega) (by omega)⟩, fun x x1 x2 => by omega⟩))
      | (refine jf_put (S := [273, 274, 275]) (o := 0) (F := [272000]) (W := W) (by repeat (first | exact fw_sm_refl | exact fw_sm_put0 | refine fw_sm_arr ?_ rfl | refine fw_sm_up ?_ rfl | refine fw_sm_put ?_ rfl | refine fw_sm_cp ?_ rfl)) (lm_k_hangAllT_52 (nn := nn) hpre hP _ _ _ _ rfl ?_); (first | omega | trivial | (simp (config := { decide := true }) only [fg_in, fg_fin, fg_out, fg_fout, fg_up, fg_same, true_and, and_true] <;> omega)))
      | (refine jf_put (S := [273, 274, 275]) (o := 0) (F := [272000]) (W := W) (by repeat (first | exact fw_sm_refl | exact fw_sm_put0 | refine fw_sm_arr ?_ rfl | refine fw_sm_up ?_ rfl | refine fw_sm_put ?_ rfl | refine fw_sm_cp ?_ rfl)) (lm_k_hangAllT_61 (nn := nn) hpre hP M52 h52 _ _ _ _ _ rfl ?_ (by omega)); (first | omega | trivial | (simp (config := { decide := true }) only [fg_in, fg_fin, fg_out, fg_fout, fg_up, fg_same, true_and, and_true] <;> omega)))
      | (refine hP _ (by repeat (first | exact fw_sm_refl | exact fw_sm_put0 | refine fw_sm_arr ?_ rfl | refine fw_sm_up ?_ rfl | refine fw_sm_put ?_ rfl | refine fw_sm_cp ?_ rfl)) ?_; (exact ⟨hi1.2.2.2, hu_end hi.2 (by omega) (by omega)⟩))
      | omega
      | (intro _))
  · exact hx.elim

