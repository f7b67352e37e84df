/-! the class, method by method -/
def fr_153 : fw_P := [(0, 2, 0, 0, 0), (1, 50, 11, 2, 0), (4, 1, 1, 0, 0), (5, 64, 111, 1, 209), (8, 20, 26, 0, 0), (11, 1, 1, 0, 0), (12, 20, 26, 0, 0), (15, 2, 0, 0, 0), (16, 50, 11, 2, 0), (19, 1, 2, 0, 0), (20, 64, 111, 1, 209), (23, 21, 28, 0, 0), (26, 0, 0, 0, 0), (27, 71, 0, 0, 0), (28, 2, 0, 0, 0), (29, 50, 11, 2, 0), (32, 1, 2, 0, 0), (33, 1, 1, 0, 0), (34, 64, 115, 2, 509), (37, 20, 42, 0, 0), (40, 0, 0, 0, 0), (41, 71, 0, 0, 0), (42, 2, 0, 0, 0), (43, 50, 11, 2, 0), (46, 50, 9, 2, 0), (49, 1, 1, 0, 0), (50, 1, 2, 0, 0), (51, 53, 0, 0, 0), (52, 2, 0, 0, 0), (53, 64, 152, 0, 111), (56, 0, 0, 0, 1), (57, 71, 0, 0, 0)]
theorem fr_153_ok : fw_mk 153 3 11 (some .boolean) fr_153 = true := by decide +kernel
def ct_k_move : List (Nat × fw_X) := [(111, x_k_has), (115, x_k_isWithin), (152, x_k_keepAct)]
theorem ct_k_move_ok (d : Nat) : fw_cok fw_T (d + 4) ct_k_move := by
  intro q hq as W Q h
  simp only [ct_k_move, List.mem_cons, List.not_mem_nil, or_false] at hq
  rcases hq with rfl | rfl | rfl
  · exact jc_of (x_k_has_ok (d + 3) as W Q h)
  · exact jc_of (x_k_isWithin_ok (d + 2) as W Q h)
  · exact jc_of (x_k_keepAct_ok (d + 0) as W Q h)
theorem s_k_move_0 {Post : Option fw_V → fw_W → Prop} {d : Nat} {W : fw_W} {hh to : Int}
    (hw_ : (True) ∧ (∀ (r1 : Int), ((0 ≤ r1 ∧ r1 ≤ 1 ∧ ((r1 = 1 ∧ 0 ≤ hh ∧ hh < (fw_g W 12 0)) ∨ (r1 = 0 ∧ (hh < 0 ∨ (fw_g W 12 0) ≤ hh))))) → ((r1 = 0 → 0 ≤ (0 : Int) ∧ (0 : Int) ≤ 1 ∧ Post (some (.inl (0 : Int))) W) ∧ (¬ r1 = 0 → ((hh = 0 → 0 ≤ (0 : Int) ∧ (0 : Int) ≤ 1 ∧ Post (some (.inl (0 : Int))) W) ∧ (¬ hh = 0 → (True) ∧ (∀ (r2 : Int), ((0 ≤ r2 ∧ r2 ≤ 1 ∧ ((r2 = 1 ∧ 0 ≤ to ∧ to < (fw_g W 12 0)) ∨ (r2 = 0 ∧ (to < 0 ∨ (fw_g W 12 0) ≤ to))))) → ((¬ r2 = 0 → (tr ((fw_g W 12 0)) (fun z_ => (fw_g W 13 z_)) ∧ 0 ≤ (fw_g W 12 0) ∧ (fw_g W 12 0) ≤ 14 ∧ 0 ≤ to ∧ to < (fw_g W 12 0)) ∧ (∀ (r3 : Int), ((0 ≤ r3 ∧ r3 ≤ 1 ∧ (∀ B, tr_beh ((fw_g W 12 0)) (fun z_ => (fw_g W 13 z_)) hh B → 0 ≤ hh → (r3 = 1 ↔ B to)))) → ((r3 = 0 → 0 ≤ hh ∧ hh < 14 ∧ -1 ≤ to ∧ to ≤ 13 ∧ ((ta (fw_up W 13 hh to) 12 ∧ kz (fw_up W 13 hh to)) ∧ (∀ (f4 : fw_W), ((kr (fw_up W 13 hh to) f4 ∧ kz f4 ∧ oi f4)) → 0 ≤ (1 : Int) ∧ (1 : Int) ≤ 1 ∧ Post (some (.inl (1 : Int))) f4))) ∧ (¬ r3 = 0 → 0 ≤ (0 : Int) ∧ (0 : Int) ≤ 1 ∧ Post (some (.inl (0 : Int))) W)))) ∧ (r2 = 0 → 0 ≤ (0 : Int) ∧ (0 : Int) ≤ 1 ∧ Post (some (.inl (0 : Int))) W))))))))) :
    jf fw_T (d + 5) 153 0 [(0, .inr (.inl 0)), (1, .inl hh), (2, .inl to)] [] W Post := fw_ok (n := 29) (ss := []) (hv := []) fr_153_ok fv_owtg_ok (ct_k_move_ok d) hw_

def x_k_move : fw_X := fun as W Q => match as with
  | [.inr (.inl s_), .inl hh, .inl to] => fw_if (Nat.beq s_ 0) ((ci W) ∧ (∀ (v : Int) (f : fw_W), (0 ≤ v ∧ v ≤ 1 ∧ (fs W f ∧ ci f)) → Q (some (.inl v)) f))
  | _ => False
theorem x_k_move_ok (d : Nat) (as : List fw_V) (W : fw_W) (Q : Option fw_V → fw_W → Prop) (hx : x_k_move as W Q) : jf fw_T (d + 5) 153 0 (fw_args 0 as) [] W Q := by
  unfold x_k_move at hx
  split at hx
  · rename_i s_ hh to
    obtain ⟨e_, hpre, hQ⟩ := fw_if_ok hx
    have e_ := Nat.eq_of_beq_eq_true e_
    subst e_
    have hP := hQ
    refine s_k_move_0 ?_
    have hp0 := ta_p hpre.1
    repeat' (first
      | (exact hpre.1)
      | (exact hpre.2.1)
      | (exact hp0.1)
      | (exact hp0.2.1)
      | (exact hp0.2.2)
      | (rename_i r3 h3 w3; exact ta_mv hpre.1 (by omega) (by omega) (by omega) (by omega) h3.2.2 (by omega))
      | (exact kz_sc (sc_up (by omega)) hpre.2.1)
      | (exact True.intro)
      | (exact hpre.1)
      | (refine And.intro ?_ ?_)
      | (refine hP _ _ ?_; (refine ⟨by omega, by omega, ?_⟩; (first | exact ⟨fs_refl, hpre⟩ | (rename_i r3 h3 w3 f2 h2; exact ci_act hpre (sc_up (by omega)) (ta_mv hpre.1 (by omega) (by omega) (by omega) (by omega) h3.2.2 (by omega)) h2))))
      | omega
      | (intro _))
  · exact hx.elim

def fr_154 : fw_P := [(0, 2, 0, 0, 0), (1, 50, 11, 2, 0), (4, 1, 1, 0, 0), (5, 64, 111, 1, 209), (8, 20, 21, 0, 0), (11, 1, 2, 0, 0), (12, 22, 21, 0, 0), (15, 1, 2, 0, 0), (16, 0, 0, 0, 99), (18, 15, 23, 0, 0), (21, 0, 0, 0, -1), (22, 70, 0, 0, 0), (23, 2, 0, 0, 0), (24, 50, 11, 2, 0), (27, 50, 9, 4, 0), (30, 1, 1, 0, 0), (31, 52, 0, 0, 0), (32, 3, 3, 0, 0), (33, 2, 0, 0, 0), (34, 50, 11, 2, 0), (37, 50, 9, 4, 0), (40, 1, 1, 0, 0), (41, 1, 2, 0, 0), (42, 53, 0, 0, 0), (43, 2, 0, 0, 0), (44, 50, 11, 4, 0), (47, 2, 0, 0, 0), (48, 50, 11, 2, 0), (51, 64, 3, 1, 200), (54, 1, 3, 0, 0), (55, 70, 0, 0, 0)]
theorem fr_154_ok : fw_mk 154 4 11 (some .int) fr_154 = true := by decide +kernel
def ct_k_live : List (Nat × fw_X) := [(111, x_k_has), (3, x_k_keep)]
theorem ct_k_live_ok (d : Nat) : fw_cok fw_T (d + 2) ct_k_live := by
  intro q hq as W Q h
  simp only [ct_k_live, List.mem_cons, List.not_mem_nil, or_false] at hq
  rcases hq with rfl | rfl
  · exact jc_of (x_k_has_ok (d + 1) as W Q h)
  · exact jc_of (x_k_keep_ok (d + 0) as W Q h)
theorem s_k_live_0 {Post : Option fw_V → fw_W → Prop} {d : Nat} {W : fw_W} {hh pe : Int}
    (hw_ : (True) ∧ (∀ (r1 : Int), ((0 ≤ r1 ∧ r1 ≤ 1 ∧ ((r1 = 1 ∧ 0 ≤ hh ∧ hh < (fw_g W 12 0)) ∨ (r1 = 0 ∧ (hh < 0 ∨ (fw_g W 12 0) ≤ hh))))) → ((r1 = 0 → (-2147483648 ≤ (-1 : Int) → (-1 : Int) ≤ 2147483647 → Post (some (.inl (-1 : Int))) W)) ∧ (¬ r1 = 0 → ((pe < 0 → (-2147483648 ≤ (-1 : Int) → (-1 : Int) ≤ 2147483647 → Post (some (.inl (-1 : Int))) W)) ∧ (0 ≤ pe → ((pe ≤ (99 : Int) → 0 ≤ hh ∧ hh < 14 ∧ (0 ≤ (fw_g W 15 hh) → (fw_g W 15 hh) ≤ 99 → 0 ≤ hh ∧ hh < 14 ∧ 0 ≤ pe ∧ pe ≤ 99 ∧ ((ta (fw_up W 15 hh pe) 12 ∧ kz (fw_up W 15 hh pe)) ∧ (∀ (f2 : fw_W), ((ak (fw_up W 15 hh pe) f2 ∧ kz f2)) → (-2147483648 ≤ (fw_g W 15 hh) → (fw_g W 15 hh) ≤ 2147483647 → Post (some (.inl (fw_g W 15 hh))) f2))))) ∧ ((99 : Int) < pe → (-2147483648 ≤ (-1 : Int) → (-1 : Int) ≤ 2147483647 → Post (some (.inl (-1 : Int))) W))))))))) :
    jf fw_T (d + 3) 154 0 [(0, .inr (.inl 0)), (1, .inl hh), (2, .inl pe)] [] W Post := fw_ok (n := 30) (ss := []) (hv := []) fr_154_ok fv_owtg_ok (ct_k_live_ok d) hw_

def x_k_live : fw_X := fun as W Q => match as with
  | [.inr (.inl s_), .inl hh, .inl pe] => fw_if (Nat.beq s_ 0) ((ci W) ∧ (∀ (v : Int) (f : fw_W), (-2147483648 ≤ v ∧ v ≤ 2147483647 ∧ (fs W f ∧ ci f)) → Q (some (.inl v)) f))
  | _ => False
theorem x_k_live_ok (d : Nat) (as : List fw_V) (W : fw_W) (Q : Option fw_V → fw_W → Prop) (hx : x_k_live as W Q) : jf fw_T (d + 3) 154 0 (fw_args 0 as) [] W Q := by
  unfold x_k_live at hx
  split at hx
  · rename_i s_ hh pe
    obtain ⟨e_, hpre, hQ⟩ := fw_if_ok hx
    have e_ := Nat.eq_of_beq_eq_true e_
    subst e_
    have hP := hQ
    refine s_k_live_0 ?_
    have hp0 := ta_p hpre.1
    repeat' (first
      | (exact hpre.1)
      | (exact hpre.2.1)
      | (exact hp0.1)
      | (exact hp0.2.1)
      | (exact hp0.2.2)
      | (exact ta_15 hpre.1)
      | (exact kz_sc (sc_up (by omega)) hpre.2.1)
      | (exact True.intro)
      | (exact hpre.1)
      | (refine And.intro ?_ ?_)
      | (refine hP _ _ ?_; (refine ⟨by omega, by omega, ?_⟩; (first | exact ⟨fs_refl, hpre⟩ | (rename_i f2 h2 w1 w2; exact ci_ak hpre (sc_up (by omega)) (ta_15 hpre.1) (sc_up (by omega)) h2))))
      | omega
      | (intro _))
  · exact hx.elim

def fr_155 : fw_P := [(0, 1, 1, 0, 0), (1, 22, 20, 0, 0), (4, 1, 1, 0, 0), (5, 0, 0, 0, 50), (7, 14, 20, 0, 0), (10, 2, 0, 0, 0), (11, 50, 11, 2, 0), (14, 50, 9, 0, 0), (17, 21, 22, 0, 0), (20, 0, 0, 0, -1), (21, 70, 0, 0, 0), (22, 0, 0, 0, 0), (23, 3, 2, 0, 0), (24, 1, 2, 0, 0), (25, 1, 1, 0, 0), (26, 13, 42, 0, 0), (29, 2, 0, 0, 0), (30, 50, 11, 2, 0), (33, 64, 116, 0, 209), (36, 5, 2, 0, 1), (39, 6, 24, 0, 0), (42, 2, 0, 0, 0), (43, 64, 152, 0, 111), (46, 2, 0, 0, 0), (47, 50, 11, 2, 0), (50, 50, 9, 0, 0), (53, 70, 0, 0, 0)]
theorem fr_155_ok : fw_mk 155 3 11 (some .int) fr_155 = true := by decide +kernel
def ct_k_years : List (Nat × fw_X) := [(116, x_k_passYear), (152, x_k_keepAct)]
theorem ct_k_years_ok (d : Nat) : fw_cok fw_T (d + 4) ct_k_years := by
  intro q hq as W Q h
  simp only [ct_k_years, List.mem_cons, List.not_mem_nil, or_false] at hq
  rcases hq with rfl | rfl
  · exact jc_of (x_k_passYear_ok (d + 1) as W Q h)
  · exact jc_of (x_k_keepAct_ok (d + 0) as W Q h)
theorem s_k_years_0 {Post : Option fw_V → fw_W → Prop} {d : Nat} {W : fw_W} {nn : Int}
    (hw_ : ((nn < 0 → (-2147483648 ≤ (-1 : Int) → (-1 : Int) ≤ 2147483647 → Post (some (.inl (-1 : Int))) W)) ∧ (0 ≤ nn → (((50 : Int) < nn → (-2147483648 ≤ (-1 : Int) → (-1 : Int) ≤ 2147483647 → Post (some (.inl (-1 : Int))) W)) ∧ (nn ≤ (50 : Int) → (0 ≤ (fw_g W 12 0) → (fw_g W 12 0) ≤ 14 → ((¬ (fw_g W 12 0) = 0 → jf fw_T (d + 5) 155 24 [(0, .inr (.inl 0)), (1, .inl nn), (2, .inl (0 : Int))] [] W Post) ∧ ((fw_g W 12 0) = 0 → (-2147483648 ≤ (-1 : Int) → (-1 : Int) ≤ 2147483647 → Post (some (.inl (-1 : Int))) W))))))))) :
    jf fw_T (d + 5) 155 0 [(0, .inr (.inl 0)), (1, .inl nn)] [] W Post := fw_ok (n := 12) (ss := [(24, [0, 1, 2])]) (hv := []) fr_155_ok fv_owtg_ok (ct_k_years_ok d) hw_

theorem s_k_years_24 {Post : Option fw_V → fw_W → Prop} {d : Nat} {W : fw_W} {nn ye : Int} {f : fw_W}
    (hw_ : ((nn ≤ ye → (ta f 12 ∧ kz f) ∧ (∀ (f1 : fw_W), ((kr f f1 ∧ kz f1 ∧ oi f1)) → (0 ≤ (fw_g f1 12 0) → (fw_g f1 12 0) ≤ 14 → (-2147483648 ≤ (fw_g f1 12 0) → (fw_g f1 12 0) ≤ 2147483647 → Post (some (.inl (fw_g f1 12 0))) f1)))) ∧ (ye < nn → (tr ((fw_g f 12 0)) (fun z_ => (fw_g f 13 z_)) ∧ 0 ≤ (fw_g f 12 0) ∧ (fw_g f 12 0) ≤ 14) ∧ (∀ (f2 : fw_W), (((0 ≤ (fw_g f2 12 0) ∧ (fw_g f2 12 0) ≤ 14 ∧ tr ((fw_g f2 12 0)) (fun z_ => (fw_g f2 13 z_))))) → -2147483648 ≤ ye + (1 : Int) ∧ ye + (1 : Int) ≤ 2147483647 ∧ (jf fw_T (d + 5) 155 24 [(0, .inr (.inl 0)), (1, .inl nn), (2, .inl (ye + (1 : Int)))] [] (fw_put [13, 14, 15] 0 [12000, 12001] f f2) Post))))) :
    jf fw_T (d + 5) 155 24 [(0, .inr (.inl 0)), (1, .inl nn), (2, .inl ye)] [] f Post := fw_ok (n := 10) (ss := [(24, [0, 1, 2])]) (hv := []) fr_155_ok fv_owtg_ok (ct_k_years_ok d) hw_

theorem lm_k_years_24 {Post : Option fw_V → fw_W → Prop} {d : Nat} {W : fw_W} {nn : Int} (hpre : ci W) (hP : ∀ (v : Int) (W2 : fw_W), (-2147483648 ≤ v ∧ v ≤ 2147483647 ∧ (fs W W2 ∧ ci W2)) → Post (some (.inl v)) W2)  : ∀ (m : Nat) (ye : Int) (f : fw_W), (nn - ye).toNat = m → 0 ≤ ye ∧ ta f 12 ∧ sc 16 1000 W f → jf fw_T (d + 5) 155 24 [(0, .inr (.inl 0)), (1, .inl nn), (2, .inl ye)] [] f Post := by
  intro m
  induction m using Nat.strongRecOn with
  | ind m ih =>
    intro ye f hm hi
    refine jf_rng (fun hrg => ?_)
    have hrg : -2147483648 ≤ nn ∧ nn ≤ 2147483647 ∧ -2147483648 ≤ ye ∧ ye ≤ 2147483647 ∧ True := hrg
    refine s_k_years_24 (W := W) ?_
    have hp0 := ta_p hi.2.1
    repeat' (first
      | (exact hp0.1)
      | (exact hp0.2.1)
      | (exact hp0.2.2)
      | (exact hi.2.1)
      | (exact kz_sc (sc_sub hi.2.2 (by omega) (by omega)) hpre.2.1)
      | (exact True.intro)
      | (exact hpre.1)
      | (refine And.intro ?_ ?_)
      | (refine (ih _ (by omega) _ _ rfl ?_); (rename_i f2 h2; exact ⟨by omega, ta_putf rfl rfl h2, sc_tr hi.2.2 (sc_put rfl)⟩))
      | (refine hP _ _ ?_; (refine ⟨by omega, by omega, ?_⟩; (first | exact ⟨fs_refl, hpre⟩ | (rename_i f2 h2 w0 w00 w1 w2; exact ci_act hpre hi.2.2 hi.2.1 h2))))
      | omega
      | (intro _))
def x_k_years : fw_X := fun as W Q => match as with
  | [.inr (.inl s_), .inl nn] => fw_if (Nat.beq s_ 0) ((ci W) ∧ (∀ (v : Int) (f : fw_W), (-2147483648 ≤ v ∧ v ≤ 2147483647 ∧ (fs W f ∧ ci f)) → Q (some (.inl v)) f))
  | _ => False
theorem x_k_years_ok (d : Nat) (as : List fw_V) (W : fw_W) (Q : Option fw_V → fw_W → Prop) (hx : x_k_years as W Q) : jf fw_T (d + 5) 155 0 (fw_args 0 as) [] W Q := by
  unfold x_k_years at hx
  split at hx
  · rename_i s_ nn
    obtain ⟨e_, hpre, hQ⟩ := fw_if_ok hx
    have e_ := Nat.eq_of_beq_eq_true e_
    subst e_
    have hP := hQ
    refine s_k_years_0 ?_
    have hp0 := ta_p hpre.1
    repeat' (first
      | (exact True.intro)
      | (exact hpre.1)
      | (refine And.intro ?_ ?_)
      | (refine (lm_k_years_24 (nn := nn) hpre hP _ _ _ rfl ?_); (exact ⟨by omega, hpre.1, sc_refl⟩))
      | (refine hP _ _ ?_; (refine ⟨by omega, by omega, ?_⟩; (first | exact ⟨fs_refl, hpre⟩ | (rename_i f2 h2 w0 w00 w1 w2; exact ci_act hpre hi.2.2 hi.2.1 h2))))
      | omega
      | (intro _))
  · exact hx.elim

def fr_157 : fw_P := [(0, 2, 0, 0, 0), (1, 50, 11, 4, 0), (4, 2, 0, 0, 0), (5, 50, 11, 2, 0), (8, 64, 4, 1, 200), (11, 21, 16, 0, 0), (14, 0, 0, 0, 0), (15, 71, 0, 0, 0), (16, 2, 0, 0, 0), (17, 64, 141, 0, 111), (20, 0, 0, 0, 1), (21, 71, 0, 0, 0)]
theorem fr_157_ok : fw_mk 157 1 11 (some .boolean) fr_157 = true := by decide +kernel
def ct_k_undo : List (Nat × fw_X) := [(4, x_k_stepBack), (141, x_k_renew)]
theorem ct_k_undo_ok (d : Nat) : fw_cok fw_T (d + 3) ct_k_undo := by
  intro q hq as W Q h
  simp only [ct_k_undo, List.mem_cons, List.not_mem_nil, or_false] at hq
  rcases hq with rfl | rfl
  · exact jc_of (x_k_stepBack_ok (d + 1) as W Q h)
  · exact jc_of (x_k_renew_ok (d + 0) as W Q h)
theorem s_k_undo_0 {Post : Option fw_V → fw_W → Prop} {d : Nat} {W : fw_W}
    (hw_ : (ta W 12 ∧ kz W) ∧ (∀ (r1 : Int) (f2 : fw_W), ((0 ≤ r1 ∧ r1 ≤ 1 ∧ ((r1 = 0 ∧ f2 = W) ∨ (r1 = 1 ∧ ab W f2 ∧ ta f2 12 ∧ nl f2)))) → ((¬ r1 = 0 → (ta f2 12) ∧ (∀ (f3 : fw_W), (((∀ j_, 1 ≤ j_ → j_ < (fw_g f2 12 0) → 1 ≤ (fw_g f3 204 j_) ∧ (fw_g f3 204 j_) < (fw_g f2 12 0)))) → 0 ≤ (1 : Int) ∧ (1 : Int) ≤ 1 ∧ Post (some (.inl (1 : Int))) (fw_put [204] 0 [16010] f2 f3))) ∧ (r1 = 0 → 0 ≤ (0 : Int) ∧ (0 : Int) ≤ 1 ∧ Post (some (.inl (0 : Int))) f2)))) :
    jf fw_T (d + 4) 157 0 [(0, .inr (.inl 0))] [] W Post := fw_ok (n := 11) (ss := []) (hv := []) fr_157_ok fv_owtg_ok (ct_k_undo_ok d) hw_

def x_k_undo : fw_X := fun as W Q => match as with
  | [.inr (.inl s_)] => fw_if (Nat.beq s_ 0) ((ci W) ∧ (∀ (v : Int) (f : fw_W), (0 ≤ v ∧ v ≤ 1 ∧ (fs W f ∧ ci f)) → Q (some (.inl v)) f))
  | _ => False
theorem x_k_undo_ok (d : Nat) (as : List fw_V) (W : fw_W) (Q : Option fw_V → fw_W → Prop) (hx : x_k_undo as W Q) : jf fw_T (d + 4) 157 0 (fw_args 0 as) [] W Q := by
  unfold x_k_undo at hx
  split at hx
  · rename_i s_
    obtain ⟨e_, hpre, hQ⟩ := fw_if_ok hx
    have e_ := Nat.eq_of_beq_eq_true e_
    subst e_
    have hP := hQ
    refine s_k_undo_0 ?_
    repeat' (first
      | (exact hpre.1)
      | (exact hpre.2.1)
      | (rename_i r1 f1 h1 w1; exact (h1.2.2.resolve_left (fun z => by omega)).2.2.1)
      | (exact True.intro)
      | (exact hpre.1)
      | (refine And.intro ?_ ?_)
      | (refine hP _ _ ?_; (refine ⟨by omega, by omega, ?_⟩; (first | (rename_i r1 f1 h1 w1; have e := h1.2.2.resolve_right (fun z => by omega); rw [e.2]; exact ⟨fs_refl, hpre⟩) | (rename_i r1 f1 h1 w1 f2 h2; have e := h1.2.2.resolve_left (fun z => by omega); exact ci_ab hpre e.2.1 e.2.2.1 e.2.2.2 h2))))
      | omega
      | (intro _))
  · exact hx.elim

def fr_158 : fw_P := [(0, 2, 0, 0, 0), (1, 50, 11, 4, 0), (4, 2, 0, 0, 0), (5, 50, 11, 2, 0), (8, 64, 5, 1, 200), (11, 21, 16, 0, 0), (14, 0, 0, 0, 0), (15, 71, 0, 0, 0), (16, 2, 0, 0, 0), (17, 64, 141, 0, 111), (20, 0, 0, 0, 1), (21, 71, 0, 0, 0)]
theorem fr_158_ok : fw_mk 158 1 11 (some .boolean) fr_158 = true := by decide +kernel
def ct_k_redo : List (Nat × fw_X) := [(5, x_k_stepOn), (141, x_k_renew)]
theorem ct_k_redo_ok (d : Nat) : fw_cok fw_T (d + 3) ct_k_redo := by
  intro q hq as W Q h
  simp only [ct_k_redo, List.mem_cons, List.not_mem_nil, or_false] at hq
  rcases hq with rfl | rfl
  · exact jc_of (x_k_stepOn_ok (d + 1) as W Q h)
  · exact jc_of (x_k_renew_ok (d + 0) as W Q h)
theorem s_k_redo_0 {Post : Option fw_V → fw_W → Prop} {d : Nat} {W : fw_W}
    (hw_ : (ta W 12 ∧ kz W) ∧ (∀ (r1 : Int) (f2 : fw_W), ((0 ≤ r1 ∧ r1 ≤ 1 ∧ ((r1 = 0 ∧ f2 = W) ∨ (r1 = 1 ∧ ab W f2 ∧ ta f2 12 ∧ nl f2)))) → ((¬ r1 = 0 → (ta f2 12) ∧ (∀ (f3 : fw_W), (((∀ j_, 1 ≤ j_ → j_ < (fw_g f2 12 0) → 1 ≤ (fw_g f3 204 j_) ∧ (fw_g f3 204 j_) < (fw_g f2 12 0)))) → 0 ≤ (1 : Int) ∧ (1 : Int) ≤ 1 ∧ Post (some (.inl (1 : Int))) (fw_put [204] 0 [16010] f2 f3))) ∧ (r1 = 0 → 0 ≤ (0 : Int) ∧ (0 : Int) ≤ 1 ∧ Post (some (.inl (0 : Int))) f2)))) :
    jf fw_T (d + 4) 158 0 [(0, .inr (.inl 0))] [] W Post := fw_ok (n := 11) (ss := []) (hv := []) fr_158_ok fv_owtg_ok (ct_k_redo_ok d) hw_

def x_k_redo : fw_X := fun as W Q => match as with
  | [.inr (.inl s_)] => fw_if (Nat.beq s_ 0) ((ci W) ∧ (∀ (v : Int) (f : fw_W), (0 ≤ v ∧ v ≤ 1 ∧ (fs W f ∧ ci f)) → Q (some (.inl v)) f))
  | _ => False
theorem x_k_redo_ok (d : Nat) (as : List fw_V) (W : fw_W) (Q : Option fw_V → fw_W → Prop) (hx : x_k_redo as W Q) : jf fw_T (d + 4) 158 0 (fw_args 0 as) [] W Q := by
  unfold x_k_redo at hx
  split at hx
  · rename_i s_
    obtain ⟨e_, hpre, hQ⟩ := fw_if_ok hx
    have e_ := Nat.eq_of_beq_eq_true e_
    subst e_
    have hP := hQ
    refine s_k_redo_0 ?_
    repeat' (first
      | (exact hpre.1)
      | (exact hpre.2.1)
      | (rename_i r1 f1 h1 w1; exact (h1.2.2.resolve_left (fun z => by omega)).2.2.1)
      | (exact True.intro)
      | (exact hpre.1)
      | (refine And.intro ?_ ?_)
      | (refine hP _ _ ?_; (refine ⟨by omega, by omega, ?_⟩; (first | (rename_i r1 f1 h1 w1; have e := h1.2.2.resolve_right (fun z => by omega); rw [e.2]; exact ⟨fs_refl, hpre⟩) | (rename_i r1 f1 h1 w1 f2 h2; have e := h1.2.2.resolve_left (fun z => by omega); exact ci_ab hpre e.2.1 e.2.2.1 e.2.2.2 h2))))
      | omega
      | (intro _))
  · exact hx.elim

def fv_boxf : List (Nat × ai_C) := [(0, .inr (.inr (.inr (11, [.inr (.inl [1]), .inr (.inl [3]), .inr (.inl [12]), .inr (.inl [16]), .inr (.inl [37]), .inr (.inl [203]), .inr (.inl [223]), .inr (.inl [239]), .inr (.inl [266]), .inr (.inl [268]), .inr (.inl [324]), .inr (.inl [337]), .inr (.inl [338]), .inr (.inl [339]), .inl (0, 14, true)])))), (338, .inl (.boolean, 3, 0, 1, true))]
def fg_boxf_G : fw_G := []
theorem fv_boxf_ok : fw_view fw_T fv_boxf fg_boxf_G := fw_vb_ok (by decide +kernel)
def fr_161 : fw_P := [(0, 1, 1, 0, 0), (1, 22, 22, 0, 0), (4, 1, 1, 0, 0), (5, 0, 0, 0, 3), (6, 13, 22, 0, 0), (9, 2, 0, 0, 0), (10, 50, 11, 12, 0), (13, 1, 1, 0, 0), (14, 54, 0, 0, 0), (15, 20, 22, 0, 0), (18, 0, 0, 0, 1), (19, 6, 23, 0, 0), (22, 0, 0, 0, 0), (23, 71, 0, 0, 0)]
theorem fr_161_ok : fw_mk 161 2 11 (some .boolean) fr_161 = true := by decide +kernel
theorem s_k_isFilled_0 {Post : Option fw_V → fw_W → Prop} {d : Nat} {W : fw_W} {box : Int}
    (hw_ : ((box < 0 → 0 ≤ (0 : Int) ∧ (0 : Int) ≤ 1 ∧ Post (some (.inl (0 : Int))) W) ∧ (0 ≤ box → (((3 : Int) ≤ box → 0 ≤ (0 : Int) ∧ (0 : Int) ≤ 1 ∧ Post (some (.inl (0 : Int))) W) ∧ (box < (3 : Int) → 0 ≤ box ∧ box < 3 ∧ (0 ≤ (fw_g W 338 box) → (fw_g W 338 box) ≤ 1 → (((fw_g W 338 box) = 0 → 0 ≤ (0 : Int) ∧ (0 : Int) ≤ 1 ∧ Post (some (.inl (0 : Int))) W) ∧ (¬ (fw_g W 338 box) = 0 → 0 ≤ (1 : Int) ∧ (1 : Int) ≤ 1 ∧ Post (some (.inl (1 : Int))) W)))))))) :
    jf fw_T (d + 1) 161 0 [(0, .inr (.inl 0)), (1, .inl box)] [] W Post := fw_ok (n := 14) (ss := []) (hv := []) fr_161_ok fv_boxf_ok (fw_c0 _ _) hw_

def x_k_isFilled : fw_X := fun as W Q => match as with
  | [.inr (.inl s_), .inl box] => fw_if (Nat.beq s_ 0) ((True) ∧ (∀ (v : Int), (0 ≤ v ∧ v ≤ 1 ∧ (v = 1 → 0 ≤ box ∧ box ≤ 2)) → Q (some (.inl v)) W))
  | _ => False
theorem x_k_isFilled_ok (d : Nat) (as : List fw_V) (W : fw_W) (Q : Option fw_V → fw_W → Prop) (hx : x_k_isFilled as W Q) : jf fw_T (d + 1) 161 0 (fw_args 0 as) [] W Q := by
  unfold x_k_isFilled at hx
  split at hx
  · rename_i s_ box
    obtain ⟨e_, hpre, hQ⟩ := fw_if_ok hx
    have e_ := Nat.eq_of_beq_eq_true e_
    subst e_
    have hP := hQ
    refine s_k_isFilled_0 ?_
    repeat' (first
      | (exact True.intro)
      | (exact hpre.1)
      | (refine And.intro ?_ ?_)
      | (refine hP _ ?_; (refine ⟨by omega, by omega, ?_⟩; (intro z; omega)))
      | omega
      | (intro _))
  · exact hx.elim

def fv_boxk : List (Nat × ai_C) := [(0, .inr (.inr (.inr (11, [.inr (.inl [1]), .inr (.inl [3]), .inr (.inl [12]), .inr (.inl [16]), .inr (.inl [37]), .inr (.inl [203]), .inr (.inl [223]), .inr (.inl [239]), .inr (.inl [266]), .inr (.inl [268]), .inr (.inl [324]), .inr (.inl [337]), .inr (.inl [338]), .inr (.inl [339]), .inl (0, 14, true)])))), (12, .inr (.inr (.inr (9, [.inl (0, 14, true), .inl (0, 999, true), .inr (.inl [13]), .inr (.inl [14]), .inr (.inl [15])])))), (13, .inl (.int, 14, -1, 13, true)), (16, .inr (.inr (.inr (2, [.inl (0, 4, true), .inr (.inl [12]), .inr (.inl [17]), .inr (.inl [18]), .inr (.inl [19]), .inr (.inl [34]), .inr (.inl [35]), .inr (.inl [36]), .inl (0, 20000, true), .inl (0, 65535, true), .inl (-2147483648, 2147483647, true)])))), (37, .inr (.inr (.inr (0, [.inl (0, 40, true), .inl (0, 40, true), .inr (.inl [38]), .inl (0, 40, true)])))), (203, .inr (.inr (.inr (10, [.inr (.inl [204]), .inr (.inl [205]), .inl (-2147483648, 2147483647, true), .inl (-2147483648, 2147483647, true), .inl (-2147483648, 2147483647, true), .inr (.inl [12]), .inr (.inl [220]), .inr (.inl [221]), .inr (.inl [222])])))), (337, .inr (.inr (.inl (.object "OneWayTown$Town", [340, 344, 348])))), (338, .inl (.boolean, 3, 0, 1, true)), (340, .inr (.inr (.inr (9, [.inl (0, 14, true), .inl (0, 999, true), .inr (.inl [341]), .inr (.inl [342]), .inr (.inl [343])])))), (344, .inr (.inr (.inr (9, [.inl (0, 14, true), .inl (0, 999, true), .inr (.inl [345]), .inr (.inl [346]), .inr (.inl [347])])))), (348, .inr (.inr (.inr (9, [.inl (0, 14, true), .inl (0, 999, true), .inr (.inl [349]), .inr (.inl [350]), .inr (.inl [351])]))))]
def fg_boxk_G : fw_G := []
theorem fv_boxk_ok : fw_view fw_T fv_boxk fg_boxk_G := fw_vb_ok (by decide +kernel)
def fr_160 : fw_P := [(0, 2, 0, 0, 0), (1, 1, 1, 0, 0), (2, 64, 161, 1, 211), (5, 21, 10, 0, 0), (8, 0, 0, 0, -1), (9, 70, 0, 0, 0), (10, 2, 0, 0, 0), (11, 50, 11, 2, 0), (14, 2, 0, 0, 0), (15, 50, 11, 11, 0), (18, 1, 1, 0, 0), (19, 56, 0, 0, 0), (20, 64, 110, 1, 209), (23, 2, 0, 0, 0), (24, 50, 11, 4, 0), (27, 2, 0, 0, 0), (28, 50, 11, 2, 0), (31, 64, 1, 1, 200), (34, 2, 0, 0, 0), (35, 64, 141, 0, 111), (38, 2, 0, 0, 0), (39, 50, 11, 2, 0), (42, 50, 9, 0, 0), (45, 70, 0, 0, 0)]
theorem fr_160_ok : fw_mk 160 2 11 (some .int) fr_160 = true := by decide +kernel
def ct_k_back : List (Nat × fw_X) := [(161, x_k_isFilled), (110, x_k_copy), (1, x_k_start), (141, x_k_renew)]
theorem ct_k_back_ok (d : Nat) : fw_cok fw_T (d + 3) ct_k_back := by
  intro q hq as W Q h
  simp only [ct_k_back, List.mem_cons, List.not_mem_nil, or_false] at hq
  rcases hq with rfl | rfl | rfl | rfl
  · exact jc_of (x_k_isFilled_ok (d + 2) as W Q h)
  · exact jc_of (x_k_copy_ok (d + 2) as W Q h)
  · exact jc_of (x_k_start_ok (d + 1) as W Q h)
  · exact jc_of (x_k_renew_ok (d + 0) as W Q h)
theorem s_k_back_0 {Post : Option fw_V → fw_W → Prop} {d : Nat} {W : fw_W} {box : Int}
    (hw_ : (True) ∧ (∀ (r1 : Int), ((0 ≤ r1 ∧ r1 ≤ 1 ∧ (r1 = 1 → 0 ≤ box ∧ box ≤ 2))) → ((¬ r1 = 0 → 0 ≤ box ∧ box < 3 ∧ (((True) ∧ ((ta (cpy W 12 340) 12 ∧ kz (cpy W 12 340)) ∧ (∀ (f6 : fw_W), ((ak (cpy W 12 340) f6 ∧ kz f6)) → (ta f6 12) ∧ (∀ (f7 : fw_W), (((∀ j_, 1 ≤ j_ → j_ < (fw_g f6 12 0) → 1 ≤ (fw_g f7 204 j_) ∧ (fw_g f7 204 j_) < (fw_g f6 12 0)))) → (0 ≤ (fw_g f6 12 0) → (fw_g f6 12 0) ≤ 14 → (-2147483648 ≤ (fw_g f6 12 0) → (fw_g f6 12 0) ≤ 2147483647 → Post (some (.inl (fw_g f6 12 0))) (fw_put [204] 0 [16010] f6 f7))))))) ∧ (((True) ∧ ((ta (cpy W 12 344) 12 ∧ kz (cpy W 12 344)) ∧ (∀ (f4 : fw_W), ((ak (cpy W 12 344) f4 ∧ kz f4)) → (ta f4 12) ∧ (∀ (f5 : fw_W), (((∀ j_, 1 ≤ j_ → j_ < (fw_g f4 12 0) → 1 ≤ (fw_g f5 204 j_) ∧ (fw_g f5 204 j_) < (fw_g f4 12 0)))) → (0 ≤ (fw_g f4 12 0) → (fw_g f4 12 0) ≤ 14 → (-2147483648 ≤ (fw_g f4 12 0) → (fw_g f4 12 0) ≤ 2147483647 → Post (some (.inl (fw_g f4 12 0))) (fw_put [204] 0 [16010] f4 f5))))))) ∧ (((True) ∧ ((ta (cpy W 12 348) 12 ∧ kz (cpy W 12 348)) ∧ (∀ (f2 : fw_W), ((ak (cpy W 12 348) f2 ∧ kz f2)) → (ta f2 12) ∧ (∀ (f3 : fw_W), (((∀ j_, 1 ≤ j_ → j_ < (fw_g f2 12 0) → 1 ≤ (fw_g f3 204 j_) ∧ (fw_g f3 204 j_) < (fw_g f2 12 0)))) → (0 ≤ (fw_g f2 12 0) → (fw_g f2 12 0) ≤ 14 → (-2147483648 ≤ (fw_g f2 12 0) → (fw_g f2 12 0) ≤ 2147483647 → Post (some (.inl (fw_g f2 12 0))) (fw_put [204] 0 [16010] f2 f3))))))) ∧ True)))) ∧ (r1 = 0 → (-2147483648 ≤ (-1 : Int) → (-1 : Int) ≤ 2147483647 → Post (some (.inl (-1 : Int))) W))))) :
    jf fw_T (d + 4) 160 0 [(0, .inr (.inl 0)), (1, .inl box)] [] W Post := fw_ok (n := 23) (ss := []) (hv := []) fr_160_ok fv_boxk_ok (ct_k_back_ok d) hw_

def x_k_back : fw_X := fun as W Q => match as with
  | [.inr (.inl s_), .inl box] => fw_if (Nat.beq s_ 0) ((ci W) ∧ (∀ (v : Int) (f : fw_W), (-2147483648 ≤ v ∧ v ≤ 2147483647 ∧ (fs W f ∧ ci f)) → Q (some (.inl v)) f))
  | _ => False
theorem x_k_back_ok (d : Nat) (as : List fw_V) (W : fw_W) (Q : Option fw_V → fw_W → Prop) (hx : x_k_back as W Q) : jf fw_T (d + 4) 160 0 (fw_args 0 as) [] W Q := by
  unfold x_k_back at hx
  split at hx
  · rename_i s_ box
    obtain ⟨e_, hpre, hQ⟩ := fw_if_ok hx
    have e_ := Nat.eq_of_beq_eq_true e_
    subst e_
    have hP := hQ
    refine s_k_back_0 ?_
    have b0 := bk_ta (b := 340) (Or.inl rfl) hpre
    have b1 := bk_ta (b := 344) (Or.inr (Or.inl rfl)) hpre
    have b2 := bk_ta (b := 348) (Or.inr (Or.inr rfl)) hpre
    repeat' (first
      | (with_reducible (first | exact b0.1 | exact b1.1 | exact b2.1))
      | (with_reducible (first | exact b0.2.1 | exact b1.2.1 | exact b2.2.1))
      | (rename_i f1 h1; refine ta_sc (lo := 12) (hi := 13) (sc_sub h1.1.1 (by omega) (by omega)) (by omega) (by omega) ?_; (with_reducible (first | exact b0.1 | exact b1.1 | exact b2.1)))
      | (exact True.intro)
      | (exact hpre.1)
      | (refine And.intro ?_ ?_)
      | (refine hP _ _ ?_; (refine ⟨by omega, by omega, ?_⟩; (first | exact ⟨fs_refl, hpre⟩ | (rename_i f1 h1 f2 h2 w0 w00 w1 w2; with_reducible (first | exact ci_bk hpre b0 h1 h2 | exact ci_bk hpre b1 h1 h2 | exact ci_bk hpre b2 h1 h2)))))
      | (rename_i h1 w1; have q := h1.2.2 (by omega); omega)
      | omega
      | (intro _))
  · exact hx.elim

