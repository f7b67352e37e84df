/-- but for the acts, the order, what is worked out of the streets -/
def kr (W W2 : fw_W) : Prop := sc 0 15 W W2 ∧ sc 17 36 W W2 ∧ sc 205 1000 W W2
theorem oi_put {S F : List Nat} {W f : fw_W} (h : ∀ j, 1 ≤ j → j < fw_g W 12 0 → 1 ≤ fw_g f 204 j ∧ fw_g f 204 j < fw_g W 12 0) (e : S.any (fun k => Nat.beq k 204) = true) (e2 : sc_b 12 12 S F = true) : oi (fw_put S 0 F W f) := fun j h1 h2 => by
  have a : fw_g (fw_put S 0 F W f) 12 0 = fw_g W 12 0 := sc_g (sc_put e2) (by omega) (by omega)
  have b : fw_g (fw_put S 0 F W f) 204 j = fw_g f 204 j := by
    unfold fw_g fw_put fw_inS
    rw [e]
    rfl
  rw [a] at h2
  rw [a, b]
  exact h j h1 h2
theorem ta_putf {S F : List Nat} {W f : fw_W} (e : S.any (fun k => Nat.beq k 13) = true) (e2 : fw_inS S 0 F 12 0 = true) (h : 0 ≤ fw_g f 12 0 ∧ fw_g f 12 0 ≤ 14 ∧ tr (fw_g f 12 0) (fun z => fw_g f 13 z)) : ta (fw_put S 0 F W f) 12 := by
  have a : fw_g (fw_put S 0 F W f) 12 0 = fw_g f 12 0 := by
    unfold fw_g fw_put
    rw [show (0 : Int).toNat = 0 from rfl, e2]
  have b : (fun z => fw_g (fw_put S 0 F W f) (12 + 1) z) = fun z => fw_g f 13 z := funext (fun z => by
    unfold fw_g fw_put fw_inS
    rw [show 12 + 1 = 13 from rfl, e]
    rfl)
  unfold ta
  rw [a, b]
  exact h
theorem kr_end {W f1 f2 : fw_W} (h : ak W f1 ∧ kz f1) (o : ∀ j, 1 ≤ j → j < fw_g f1 12 0 → 1 ≤ fw_g f2 204 j ∧ fw_g f2 204 j < fw_g f1 12 0) : kr W (fw_put [204] 0 [16010] f1 f2) ∧ kz (fw_put [204] 0 [16010] f1 f2) ∧ oi (fw_put [204] 0 [16010] f1 f2) :=
  ⟨⟨sc_tr (sc_sub h.1.1 (by omega) (by omega)) (sc_put rfl), sc_tr (sc_sub h.1.1 (by omega) (by omega)) (sc_put rfl), sc_tr (sc_sub h.1.2 (by omega) (by omega)) (sc_put rfl)⟩, kz_sc (sc_put rfl) h.2, oi_put o rfl rfl⟩
theorem ci_act {W W1 f : fw_W} (hc : ci W) (a : sc 16 1000 W W1) (b : ta W1 12) (h : kr W1 f ∧ kz f ∧ oi f) : fs W f ∧ ci f :=
  ⟨fs_tr (fs_sc1 (sc_sub a (by omega) (by omega))) (fs_sc1 (sc_sub h.1.2.2 (by omega) (by omega))), ta_sc h.1.1 (by omega) (by omega) b, h.2.1, ba_sc (sc_tr (sc_sub a (by omega) (by omega)) (sc_sub h.1.2.2 (by omega) (by omega))) hc.2.2.1, h.2.2⟩
theorem ci_ak {W W1 f : fw_W} (hc : ci W) (a : sc 16 1000 W W1) (b : ta W1 12) (e : sc 12 12 W W1) (h : ak W1 f ∧ kz f) : fs W f ∧ ci f :=
  ⟨fs_tr (fs_sc1 (sc_sub a (by omega) (by omega))) (fs_sc1 (sc_sub h.1.2 (by omega) (by omega))), ta_sc h.1.1 (by omega) (by omega) b, h.2, ba_sc (sc_tr (sc_sub a (by omega) (by omega)) (sc_sub h.1.2 (by omega) (by omega))) hc.2.2.1, oi_sc (sc_tr e (sc_sub h.1.1 (by omega) (by omega))) (sc_tr (sc_sub a (by omega) (by omega)) (sc_sub h.1.2 (by omega) (by omega))) hc.2.2.2⟩
theorem ci_ab {W f1 f2 : fw_W} (hc : ci W) (h : ab W f1) (t : ta f1 12) (n : nl f1) (o : ∀ j, 1 ≤ j → j < fw_g f1 12 0 → 1 ≤ fw_g f2 204 j ∧ fw_g f2 204 j < fw_g f1 12 0) : fs W (fw_put [204] 0 [16010] f1 f2) ∧ ci (fw_put [204] 0 [16010] f1 f2) :=
  ⟨fs_tr (fs_sc1 (sc_sub h.2.2 (by omega) (by omega))) (fs_sc1 (sc_put rfl)), ta_sc (lo := 12) (hi := 13) (sc_put rfl) (by omega) (by omega) t, ⟨ka_sc (sc_tr (sc_sub h.2.2 (by omega) (by omega)) (sc_put rfl)) hc.2.1.1, nl_sc (sc_put rfl) n⟩, ba_sc (sc_tr (sc_sub h.2.2 (by omega) (by omega)) (sc_put rfl)) hc.2.2.1, oi_put o rfl rfl⟩
theorem ta_p {W : fw_W} (h : ta W 12) : tr (fw_g W 12 0) (fun z => fw_g W 13 z) ∧ 0 ≤ fw_g W 12 0 ∧ fw_g W 12 0 ≤ 14 := ⟨h.2.2, h.1, h.2.1⟩
theorem ta_mv {W : fw_W} {h to : Int} {v : Int} (t : ta W 12) (h1 : 1 ≤ h) (h2 : h < fw_g W 12 0) (t1 : 0 ≤ to) (t2 : to < fw_g W 12 0) (hb : ∀ B, tr_beh (fw_g W 12 0) (fun z => fw_g W 13 z) h B → 0 ≤ h → (v = 1 ↔ B to)) (hv : v = 0) : ta (fw_up W 13 h to) 12 := by
  obtain ⟨B, b⟩ := tr_hasb t.2.2 h
  have a : fw_g (fw_up W 13 h to) 12 0 = fw_g W 12 0 := fg_up rfl
  have n := t.2.1
  have nb : ¬ B to := fun z => by have := (hb B b (by omega)).mpr z; omega
  have m : tr (fw_g W 12 0) (fun z => fw_g (fw_up W 13 h to) 13 z) := tr_move t.2.2 b h1 h2 t1 t2 nb (fg_same (by omega) (by omega)) (fun k k1 k2 k3 => by
    show fw_g (fw_up W 13 h to) 13 k = fw_g W 13 k
    rw [fg_if (by omega) (by omega) (by omega) (by omega), if_neg (by omega)])
  unfold ta
  rw [a]
  exact ⟨t.1, t.2.1, m⟩
theorem ta_15 {W : fw_W} {i z : Int} (t : ta W 12) : ta (fw_up W 15 i z) 12 := ta_up (by decide) (by decide) t
theorem bk_ta {W : fw_W} {b : Nat} (hb : b = 340 ∨ b = 344 ∨ b = 348) (hc : ci W) : ta (cpy W 12 b) 12 ∧ kz (cpy W 12 b) ∧ ab W (cpy W 12 b) := by
  have t : ta W b := by
    rcases hb with rfl | rfl | rfl
    · exact hc.2.2.1.1
    · exact hc.2.2.1.2.1
    · exact hc.2.2.1.2.2
  exact ⟨cpy_ta (by unfold far4; omega) t, kz_sc (sc_cpy (by omega)) hc.2.1, sc_cpy (by omega), sc_cpy (by omega), sc_cpy (by omega)⟩
theorem ci_bk {W W1 f1 f2 : fw_W} (hc : ci W) (h : ta W1 12 ∧ kz W1 ∧ ab W W1) (k : ak W1 f1 ∧ kz f1) (o : ∀ j, 1 ≤ j → j < fw_g f1 12 0 → 1 ≤ fw_g f2 204 j ∧ fw_g f2 204 j < fw_g f1 12 0) : fs W (fw_put [204] 0 [16010] f1 f2) ∧ ci (fw_put [204] 0 [16010] f1 f2) :=
  ⟨fs_tr (fs_sc1 (sc_sub h.2.2.2.2 (by omega) (by omega))) (fs_tr (fs_sc1 (sc_sub k.1.2 (by omega) (by omega))) (fs_sc1 (sc_put rfl))), ta_sc (lo := 12) (hi := 13) (sc_put rfl) (by omega) (by omega) (ta_sc (lo := 12) (hi := 13) (sc_sub k.1.1 (by omega) (by omega)) (by omega) (by omega) h.1), kz_sc (sc_put rfl) k.2, ba_sc (sc_tr (sc_sub h.2.2.2.2 (by omega) (by omega)) (sc_tr (sc_sub k.1.2 (by omega) (by omega)) (sc_put rfl))) hc.2.2.1, oi_put o rfl rfl⟩

def fv_fleeto : List (Nat × ai_C) := [(16, .inr (.inr (.inr (2, [.inl (0, 4, true), .inr (.inl [12]), .inr (.inl [17]), .inr (.inl [18]), .inr (.inl [19]), .inr (.inl [34]), .inr (.inl [35]), .inr (.inl [36]), .inl (0, 20000, true), .inl (0, 65535, true), .inl (-2147483648, 2147483647, true)]))))]
def fg_fleeto_G : fw_G := []
theorem fv_fleeto_ok : fw_view fw_T fv_fleeto fg_fleeto_G := fw_vb_ok (by decide +kernel)
def fr_22 : fw_P := [(0, 2, 0, 0, 0), (1, 0, 0, 0, -3), (3, 51, 2, 10, 0), (6, 72, 0, 0, 0)]
theorem fr_22_ok : fw_mk 22 1 2 none fr_22 = true := by decide +kernel
theorem s_k_forget_0 {Post : Option fw_V → fw_W → Prop} {d : Nat} {W : fw_W}
    (hw_ : -2147483648 ≤ (-3 : Int) ∧ (-3 : Int) ≤ 2147483647 ∧ (Post none (fw_up W 16 10 (-3 : Int)))) :
    jf fw_T (d + 1) 22 0 [(0, .inr (.inl 16))] [] W Post := fw_ok (n := 5) (ss := []) (hv := []) fr_22_ok fv_fleeto_ok (fw_c0 _ _) hw_

def x_k_forget : fw_X := fun as W Q => match as with
  | [.inr (.inl s_)] => fw_if (Nat.beq s_ 16) ((True) ∧ (∀ (f : fw_W), (True) → Q none (fw_put [] 0 [16010] W f)))
  | _ => False
theorem x_k_forget_ok (d : Nat) (as : List fw_V) (W : fw_W) (Q : Option fw_V → fw_W → Prop) (hx : x_k_forget as W Q) : jf fw_T (d + 1) 22 0 (fw_args 0 as) [] W Q := by
  unfold x_k_forget at hx
  split at hx
  · rename_i s_
    obtain ⟨e_, hpre, hQ⟩ := fw_if_ok hx
    have e_ := Nat.eq_of_beq_eq_true e_
    subst e_
    have hP : ∀ (W2 : fw_W), fw_sm [] 0 [16010] W W2 → _ → Q none W2 := fun W2 hs hr => fw_sm_use (Q := fun Z => Q none Z) hs (hQ W2 hr)
    refine s_k_forget_0 ?_
    repeat' (first
      | (exact True.intro)
      | (exact hpre.1)
      | (refine And.intro ?_ ?_)
      | (refine hP _ (by repeat (first | exact fw_sm_refl | exact fw_sm_put0 | refine fw_sm_arr ?_ rfl | refine fw_sm_up ?_ rfl | refine fw_sm_put ?_ rfl | refine fw_sm_cp ?_ rfl)) ?_; (first | trivial | omega))
      | omega
      | (intro _))
  · exact hx.elim

def fr_141 : fw_P := [(0, 2, 0, 0, 0), (1, 50, 11, 5, 0), (4, 64, 120, 0, 610), (7, 2, 0, 0, 0), (8, 50, 11, 3, 0), (11, 64, 22, 0, 102), (14, 72, 0, 0, 0)]
theorem fr_141_ok : fw_mk 141 1 11 none fr_141 = true := by decide +kernel
def ct_k_renew : List (Nat × fw_X) := [(120, x_k_measurep), (22, x_k_forget)]
theorem ct_k_renew_ok (d : Nat) : fw_cok fw_T (d + 2) ct_k_renew := by
  intro q hq as W Q h
  simp only [ct_k_renew, List.mem_cons, List.not_mem_nil, or_false] at hq
  rcases hq with rfl | rfl
  · exact jc_of (x_k_measurep_ok (d + 0) as W Q h)
  · exact jc_of (x_k_forget_ok (d + 1) as W Q h)
theorem s_k_renew_0 {Post : Option fw_V → fw_W → Prop} {d : Nat} {W : fw_W}
    (hw_ : (tr ((fw_g W 12 0)) (fun z_ => (fw_g W 13 z_)) ∧ 0 ≤ (fw_g W 12 0) ∧ (fw_g W 12 0) ≤ 14) ∧ (∀ (f1 : fw_W), (((∀ j_, 1 ≤ j_ → j_ < (fw_g W 12 0) → 1 ≤ (fw_g f1 204 j_) ∧ (fw_g f1 204 j_) < (fw_g W 12 0)))) → (True) ∧ (∀ (f2 : fw_W), ((True)) → Post none (fw_put [] 0 [16010] (fw_put [204] 0 [] W f1) f2)))) :
    jf fw_T (d + 3) 141 0 [(0, .inr (.inl 0))] [] W Post := fw_ok (n := 8) (ss := []) (hv := []) fr_141_ok fv_owt_ok (ct_k_renew_ok d) hw_

def x_k_renew : fw_X := fun as W Q => match as with
  | [.inr (.inl s_)] => fw_if (Nat.beq s_ 0) ((ta W 12) ∧ (∀ (f : fw_W), ((∀ j_, 1 ≤ j_ → j_ < (fw_g W 12 0) → 1 ≤ (fw_g f 204 j_) ∧ (fw_g f 204 j_) < (fw_g W 12 0))) → Q none (fw_put [204] 0 [16010] W f)))
  | _ => False
theorem x_k_renew_ok (d : Nat) (as : List fw_V) (W : fw_W) (Q : Option fw_V → fw_W → Prop) (hx : x_k_renew as W Q) : jf fw_T (d + 3) 141 0 (fw_args 0 as) [] W Q := by
  unfold x_k_renew at hx
  split at hx
  · rename_i s_
    obtain ⟨e_, hpre, hQ⟩ := fw_if_ok hx
    have e_ := Nat.eq_of_beq_eq_true e_
    subst e_
    have hP : ∀ (W2 : fw_W), fw_sm [204] 0 [16010] W W2 → _ → Q none W2 := fun W2 hs hr => fw_sm_use (Q := fun Z => Q none Z) hs (hQ W2 hr)
    refine s_k_renew_0 ?_
    have hp0 := ta_p hpre
    repeat' (first
      | (exact hp0.1)
      | (exact hp0.2.1)
      | (exact hp0.2.2)
      | (exact True.intro)
      | (exact hpre.1)
      | (refine And.intro ?_ ?_)
      | (refine hP _ (by repeat (first | exact fw_sm_refl | exact fw_sm_put0 | refine fw_sm_arr ?_ rfl | refine fw_sm_up ?_ rfl | refine fw_sm_put ?_ rfl | refine fw_sm_cp ?_ rfl)) ?_; (rename_i f1 h1 f2 h2; exact h1))
      | omega
      | (intro _))
  · exact hx.elim

def fr_152 : fw_P := [(0, 2, 0, 0, 0), (1, 50, 11, 4, 0), (4, 2, 0, 0, 0), (5, 50, 11, 2, 0), (8, 64, 3, 1, 200), (11, 2, 0, 0, 0), (12, 64, 141, 0, 111), (15, 72, 0, 0, 0)]
theorem fr_152_ok : fw_mk 152 1 11 none fr_152 = true := by decide +kernel
def ct_k_keepAct : List (Nat × fw_X) := [(3, x_k_keep), (141, x_k_renew)]
theorem ct_k_keepAct_ok (d : Nat) : fw_cok fw_T (d + 3) ct_k_keepAct := by
  intro q hq as W Q h
  simp only [ct_k_keepAct, List.mem_cons, List.not_mem_nil, or_false] at hq
  rcases hq with rfl | rfl
  · exact jc_of (x_k_keep_ok (d + 1) as W Q h)
  · exact jc_of (x_k_renew_ok (d + 0) as W Q h)
theorem s_k_keepAct_0 {Post : Option fw_V → fw_W → Prop} {d : Nat} {W : fw_W}
    (hw_ : (ta W 12 ∧ kz W) ∧ (∀ (f1 : fw_W), ((ak W f1 ∧ kz f1)) → (ta f1 12) ∧ (∀ (f2 : fw_W), (((∀ j_, 1 ≤ j_ → j_ < (fw_g f1 12 0) → 1 ≤ (fw_g f2 204 j_) ∧ (fw_g f2 204 j_) < (fw_g f1 12 0)))) → Post none (fw_put [204] 0 [16010] f1 f2)))) :
    jf fw_T (d + 4) 152 0 [(0, .inr (.inl 0))] [] W Post := fw_ok (n := 9) (ss := []) (hv := []) fr_152_ok fv_owt_ok (ct_k_keepAct_ok d) hw_

def x_k_keepAct : fw_X := fun as W Q => match as with
  | [.inr (.inl s_)] => fw_if (Nat.beq s_ 0) ((ta W 12 ∧ kz W) ∧ (∀ (f : fw_W), (kr W f ∧ kz f ∧ oi f) → Q none f))
  | _ => False
theorem x_k_keepAct_ok (d : Nat) (as : List fw_V) (W : fw_W) (Q : Option fw_V → fw_W → Prop) (hx : x_k_keepAct as W Q) : jf fw_T (d + 4) 152 0 (fw_args 0 as) [] W Q := by
  unfold x_k_keepAct at hx
  split at hx
  · rename_i s_
    obtain ⟨e_, hpre, hQ⟩ := fw_if_ok hx
    have e_ := Nat.eq_of_beq_eq_true e_
    subst e_
    have hP := hQ
    refine s_k_keepAct_0 ?_
    repeat' (first
      | (exact hpre.2)
      | (rename_i f1 h1; exact ta_sc h1.1.1 (by omega) (by omega) hpre.1)
      | (exact True.intro)
      | (exact hpre.1)
      | (refine And.intro ?_ ?_)
      | (refine hP _ ?_; (rename_i f1 h1 f2 h2; exact kr_end h1 h2))
      | omega
      | (intro _))
  · exact hx.elim

def fv_owtg : List (Nat × ai_C) := [(0, .inr (.inr (.inr (11, [.inr (.inl [1]), .inr (.inl [3]), .inr (.inl [12]), .inr (.inl [16]), .inr (.inl [37]), .inr (.inl [203]), .inr (.inl [223]), .inr (.inl [239]), .inr (.inl [266]), .inr (.inl [268]), .inr (.inl [324]), .inr (.inl [337]), .inr (.inl [338]), .inr (.inl [339]), .inl (0, 14, true)])))), (12, .inr (.inr (.inr (9, [.inl (0, 14, true), .inl (0, 999, true), .inr (.inl [13]), .inr (.inl [14]), .inr (.inl [15])])))), (13, .inl (.int, 14, -1, 13, true)), (14, .inl (.int, 14, 0, 99, true)), (15, .inl (.int, 14, 0, 99, true)), (16, .inr (.inr (.inr (2, [.inl (0, 4, true), .inr (.inl [12]), .inr (.inl [17]), .inr (.inl [18]), .inr (.inl [19]), .inr (.inl [34]), .inr (.inl [35]), .inr (.inl [36]), .inl (0, 20000, true), .inl (0, 65535, true), .inl (-2147483648, 2147483647, true)])))), (37, .inr (.inr (.inr (0, [.inl (0, 40, true), .inl (0, 40, true), .inr (.inl [38]), .inl (0, 40, true)])))), (203, .inr (.inr (.inr (10, [.inr (.inl [204]), .inr (.inl [205]), .inl (-2147483648, 2147483647, true), .inl (-2147483648, 2147483647, true), .inl (-2147483648, 2147483647, true), .inr (.inl [12]), .inr (.inl [220]), .inr (.inl [221]), .inr (.inl [222])]))))]
def fg_owtg_G : fw_G := []
theorem fv_owtg_ok : fw_view fw_T fv_owtg fg_owtg_G := fw_vb_ok (by decide +kernel)
def fr_151 : fw_P := [(0, 2, 0, 0, 0), (1, 50, 11, 2, 0), (4, 1, 1, 0, 0), (5, 64, 111, 1, 209), (8, 20, 23, 0, 0), (11, 2, 0, 0, 0), (12, 50, 11, 2, 0), (15, 50, 9, 0, 0), (18, 0, 0, 0, 14), (20, 12, 25, 0, 0), (23, 0, 0, 0, -1), (24, 70, 0, 0, 0), (25, 1, 2, 0, 0), (26, 0, 0, 0, 1), (27, 12, 46, 0, 0), (30, 1, 2, 0, 0), (31, 0, 0, 0, 99), (33, 14, 46, 0, 0), (36, 1, 3, 0, 0), (37, 22, 46, 0, 0), (40, 1, 3, 0, 0), (41, 0, 0, 0, 99), (43, 15, 48, 0, 0), (46, 0, 0, 0, -1), (47, 70, 0, 0, 0), (48, 2, 0, 0, 0), (49, 50, 11, 2, 0), (52, 1, 1, 0, 0), (53, 1, 2, 0, 0), (54, 1, 3, 0, 0), (55, 64, 109, 3, 409), (58, 3, 4, 0, 0), (60, 2, 0, 0, 0), (61, 64, 152, 0, 111), (64, 1, 4, 0, 0), (66, 70, 0, 0, 0)]
theorem fr_151_ok : fw_mk 151 5 11 (some .int) fr_151 = true := by decide +kernel
def ct_k_grow : List (Nat × fw_X) := [(111, x_k_has), (109, x_k_add), (152, x_k_keepAct)]
theorem ct_k_grow_ok (d : Nat) : fw_cok fw_T (d + 4) ct_k_grow := by
  intro q hq as W Q h
  simp only [ct_k_grow, List.mem_cons, List.not_mem_nil, or_false] at hq
  rcases hq with rfl | rfl | rfl
  · exact jc_of (x_k_has_ok (d + 3) as W Q h)
  · exact jc_of (x_k_add_ok (d + 3) as W Q h)
  · exact jc_of (x_k_keepAct_ok (d + 0) as W Q h)
theorem s_k_grow_0 {Post : Option fw_V → fw_W → Prop} {d : Nat} {W : fw_W} {at_ st pe : Int}
    (hw_ : (True) ∧ (∀ (r1 : Int), ((0 ≤ r1 ∧ r1 ≤ 1 ∧ ((r1 = 1 ∧ 0 ≤ at_ ∧ at_ < (fw_g W 12 0)) ∨ (r1 = 0 ∧ (at_ < 0 ∨ (fw_g W 12 0) ≤ at_))))) → ((r1 = 0 → (-2147483648 ≤ (-1 : Int) → (-1 : Int) ≤ 2147483647 → Post (some (.inl (-1 : Int))) W)) ∧ (¬ r1 = 0 → (0 ≤ (fw_g W 12 0) → (fw_g W 12 0) ≤ 14 → (((fw_g W 12 0) < (14 : Int) → ((st < (1 : Int) → (-2147483648 ≤ (-1 : Int) → (-1 : Int) ≤ 2147483647 → Post (some (.inl (-1 : Int))) W)) ∧ ((1 : Int) ≤ st → (((99 : Int) < st → (-2147483648 ≤ (-1 : Int) → (-1 : Int) ≤ 2147483647 → Post (some (.inl (-1 : Int))) W)) ∧ (st ≤ (99 : Int) → ((pe < 0 → (-2147483648 ≤ (-1 : Int) → (-1 : Int) ≤ 2147483647 → Post (some (.inl (-1 : Int))) W)) ∧ (0 ≤ pe → ((pe ≤ (99 : Int) → (tr ((fw_g W 12 0)) (fun z_ => (fw_g W 13 z_)) ∧ 0 ≤ (fw_g W 12 0) ∧ (fw_g W 12 0) ≤ 14 ∧ -1 ≤ at_ ∧ at_ ≤ 13 ∧ 0 ≤ st ∧ st ≤ 99 ∧ 0 ≤ pe ∧ pe ≤ 99 ∧ (1 ≤ (fw_g W 12 0) → 0 ≤ at_ ∧ at_ < (fw_g W 12 0)) ∧ ((fw_g W 12 0) = 0 → at_ = -1)) ∧ (∀ (r2 : Int) (f3 : fw_W), ((-2147483648 ≤ r2 ∧ r2 ≤ 2147483647 ∧ ((0 ≤ (fw_g f3 12 0) ∧ (fw_g f3 12 0) ≤ 14 ∧ tr ((fw_g f3 12 0)) (fun z_ => (fw_g f3 13 z_)))))) → (ta (fw_put [13, 14, 15] 0 [12000] W f3) 12 ∧ kz (fw_put [13, 14, 15] 0 [12000] W f3)) ∧ (∀ (f4 : fw_W), ((kr (fw_put [13, 14, 15] 0 [12000] W f3) f4 ∧ kz f4 ∧ oi f4)) → (-2147483648 ≤ r2 → r2 ≤ 2147483647 → Post (some (.inl r2)) f4)))) ∧ ((99 : Int) < pe → (-2147483648 ≤ (-1 : Int) → (-1 : Int) ≤ 2147483647 → Post (some (.inl (-1 : Int))) W)))))))))) ∧ ((14 : Int) ≤ (fw_g W 12 0) → (-2147483648 ≤ (-1 : Int) → (-1 : Int) ≤ 2147483647 → Post (some (.inl (-1 : Int))) W)))))))) :
    jf fw_T (d + 5) 151 0 [(0, .inr (.inl 0)), (1, .inl at_), (2, .inl st), (3, .inl pe)] [] W Post := fw_ok (n := 33) (ss := []) (hv := []) fr_151_ok fv_owtg_ok (ct_k_grow_ok d) hw_

def x_k_grow : fw_X := fun as W Q => match as with
  | [.inr (.inl s_), .inl at_, .inl st, .inl pe] => fw_if (Nat.beq s_ 0) ((ci W) ∧ (∀ (v : Int) (f : fw_W), (-2147483648 ≤ v ∧ v ≤ 2147483647 ∧ (fs W f ∧ ci f)) → Q (some (.inl v)) f))
  | _ => False
theorem x_k_grow_ok (d : Nat) (as : List fw_V) (W : fw_W) (Q : Option fw_V → fw_W → Prop) (hx : x_k_grow as W Q) : jf fw_T (d + 5) 151 0 (fw_args 0 as) [] W Q := by
  unfold x_k_grow at hx
  split at hx
  · rename_i s_ at_ st pe
    obtain ⟨e_, hpre, hQ⟩ := fw_if_ok hx
    have e_ := Nat.eq_of_beq_eq_true e_
    subst e_
    have hP := hQ
    refine s_k_grow_0 ?_
    have hp0 := ta_p hpre.1
    repeat' (first
      | (exact hpre.1)
      | (exact hpre.2.1)
      | (exact hp0.1)
      | (exact hp0.2.1)
      | (exact hp0.2.2)
      | (rename_i r1 f1 h1; exact ta_putf rfl rfl h1.2.2)
      | (exact kz_sc (sc_put rfl) hpre.2.1)
      | (exact True.intro)
      | (exact hpre.1)
      | (refine And.intro ?_ ?_)
      | (refine hP _ _ ?_; (refine ⟨by omega, by omega, ?_⟩; (first | exact ⟨fs_refl, hpre⟩ | (rename_i r1 f1 h1 f2 h2 w1 w2; exact ci_act hpre (sc_put rfl) (ta_putf rfl rfl h1.2.2) h2))))
      | omega
      | (intro _))
  · exact hx.elim

