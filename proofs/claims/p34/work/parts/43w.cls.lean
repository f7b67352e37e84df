/-! the class, the laws tried, exactly -/
theorem s_k_freeAllX_0 {Post : Option fw_V → fw_W → Prop} {d : Nat} {W : fw_W}
    (hw_ : jf fw_T (d + 1) 77 2 [(0, .inr (.inl 296)), (1, .inl (0 : Int))] [] W Post) :
    jf fw_T (d + 1) 77 0 [(0, .inr (.inl 296))] [] W Post := fw_ok (n := 3) (ss := [(2, [0, 1])]) (hv := []) fr_77_ok fv_tryx_ok (fw_c0 _ _) hw_

theorem s_k_freeAllX_2 {Post : Option fw_V → fw_W → Prop} {d : Nat} {W : fw_W} {h : Int} {f : fw_W}
    (hw_ : (((14 : Int) ≤ h → Post none (fw_put [297] 0 [] W f)) ∧ (h < (14 : Int) → 0 ≤ h ∧ h < 14 ∧ -2147483648 ≤ (0 : Int) ∧ (0 : Int) ≤ 2147483647 ∧ (-2147483648 ≤ h + (1 : Int) ∧ h + (1 : Int) ≤ 2147483647 ∧ (jf fw_T (d + 1) 77 2 [(0, .inr (.inl 296)), (1, .inl (h + (1 : Int)))] [] (fw_up (fw_put [297] 0 [] W f) 297 h (0 : Int)) Post))))) :
    jf fw_T (d + 1) 77 2 [(0, .inr (.inl 296)), (1, .inl h)] [] (fw_put [297] 0 [] W f) Post := fw_ok (n := 11) (ss := [(2, [0, 1])]) (hv := []) fr_77_ok fv_tryx_ok (fw_c0 _ _) hw_

theorem lm_k_freeAllX_2 {Post : Option fw_V → fw_W → Prop} {d : Nat} {W : fw_W} (hpre : True) (hP : ∀ (W2 : fw_W), fw_sm [297] 0 [] W W2 → ((∀ x_, 0 ≤ x_ → x_ < 14 → (fw_g W2 297 x_) = 0)) → Post none W2)  : ∀ (m : Nat) (h : Int) (f : fw_W), (14 - h).toNat = m → ((0 ≤ h ∧ h ≤ 14) ∧ (∀ x_, 0 ≤ x_ → x_ < h → (fw_g f 297 x_) = 0)) → jf fw_T (d + 1) 77 2 [(0, .inr (.inl 296)), (1, .inl h)] [] (fw_put [297] 0 [] W f) Post := by
  intro m
  induction m using Nat.strongRecOn with
  | ind m ih =>
    intro h f hm hi
    refine jf_rng (fun hrg => ?_)
    have hrg : -2147483648 ≤ h ∧ h ≤ 2147483647 ∧ True := hrg
    refine s_k_freeAllX_2 ?_
    have hi1 := hi.1
    repeat' (first
      | (exact True.intro)
      | (exact hpre.1)
      | (refine And.intro ?_ ?_)
      | (refine (ih _ (by omega) _ _ rfl ?_); (
        refine ⟨by omega, fun x x1 x2 => ?_⟩
        rw [fg_if (by omega) (by omega) (by omega) (by omega)]
        by_cases e : h = x
        · rw [if_pos e]
        · rw [if_neg e]; exact hi.2 x x1 (by omega)))
      | (refine jf_put (S := [297]) (o := 0) (F := []) (W := W) (by repeat (first | exact fw_sm_refl | exact fw_sm_put0 | refine fw_sm_arr ?_ rfl | refine fw_sm_up ?_ rfl | refine fw_sm_put ?_ rfl | refine fw_sm_cp ?_ rfl | refine fw_sm_upr ?_ rfl)) (ih _ (by omega) _ _ rfl ?_); (
        refine ⟨by omega, fun x x1 x2 => ?_⟩
        rw [fg_if (by omega) (by omega) (by omega) (by omega)]
        by_cases e : h = x
        · rw [if_pos e]
        · rw [if_neg e]; exact hi.2 x x1 (by omega)))
      | (refine hP _ (by repeat (first | exact fw_sm_refl | exact fw_sm_put0 | refine fw_sm_arr ?_ rfl | refine fw_sm_up ?_ rfl | refine fw_sm_put ?_ rfl | refine fw_sm_cp ?_ rfl | refine fw_sm_upr ?_ rfl)) ?_; (exact fun x x1 x2 => hi.2 x x1 (by omega)))
      | omega
      | (intro _))
def x_k_freeAllX : fw_X := fun as W Q => match as with
  | [.inr (.inl s_)] => fw_if (Nat.beq s_ 296) ((True) ∧ (∀ (f : fw_W), ((∀ x_, 0 ≤ x_ → x_ < 14 → (fw_g f 297 x_) = 0)) → Q none (fw_put [297] 0 [] W f)))
  | _ => False
theorem x_k_freeAllX_ok (d : Nat) (as : List fw_V) (W : fw_W) (Q : Option fw_V → fw_W → Prop) (hx : x_k_freeAllX as W Q) : jf fw_T (d + 1) 77 0 (fw_args 0 as) [] W Q := by
  unfold x_k_freeAllX at hx
  split at hx
  · rename_i s_
    obtain ⟨e_, hpre, hQ⟩ := fw_if_ok hx
    have e_ := Nat.eq_of_beq_eq_true e_
    subst e_
    have hP : ∀ (W2 : fw_W), fw_sm [297] 0 [] W W2 → _ → Q none W2 := fun W2 hs hr => fw_sm_use (Q := fun Z => Q none Z) hs (hQ W2 hr)
    refine s_k_freeAllX_0 ?_
    repeat' (first
      | (exact True.intro)
      | (exact hpre.1)
      | (refine And.intro ?_ ?_)
      | (refine jf_put (S := [297]) (o := 0) (F := []) (W := W) (by repeat (first | exact fw_sm_refl | exact fw_sm_put0 | refine fw_sm_arr ?_ rfl | refine fw_sm_up ?_ rfl | refine fw_sm_put ?_ rfl | refine fw_sm_cp ?_ rfl | refine fw_sm_upr ?_ rfl)) (lm_k_freeAllX_2 hpre hP _ _ _ rfl ?_); (exact ⟨by omega, fun x x1 x2 => by omega⟩))
      | (refine hP _ (by repeat (first | exact fw_sm_refl | exact fw_sm_put0 | refine fw_sm_arr ?_ rfl | refine fw_sm_up ?_ rfl | refine fw_sm_put ?_ rfl | refine fw_sm_cp ?_ rfl | refine fw_sm_upr ?_ rfl)) ?_; (exact fun x x1 x2 => hi.2 x x1 (by omega)))
      | omega
      | (intro _))
  · exact hx.elim

theorem s_k_priceX_0 {Post : Option fw_V → fw_W → Prop} {d : Nat} {W : fw_W} {wa : Int}
    (hw_ : 0 ≤ wa ∧ wa < 14 ∧ (-2147483648 ≤ (fw_g W 297 wa) → (fw_g W 297 wa) ≤ 2147483647 → ((¬ (fw_g W 297 wa) = 0 → (-2147483648 ≤ (0 : Int) → (0 : Int) ≤ 2147483647 → Post (some (.inl (0 : Int))) W)) ∧ ((fw_g W 297 wa) = 0 → (-2147483648 ≤ (1 : Int) → (1 : Int) ≤ 2147483647 → Post (some (.inl (1 : Int))) W))))) :
    jf fw_T (d + 1) 79 0 [(0, .inr (.inl 296)), (1, .inl wa)] [] W Post := fw_ok (n := 9) (ss := []) (hv := []) fr_79_ok fv_tryx_ok (fw_c0 _ _) hw_

def x_k_priceX : fw_X := fun as W Q => match as with
  | [.inr (.inl s_), .inl wa] => fw_if (Nat.beq s_ 296) ((0 ≤ wa ∧ wa < 14 ∧ (fw_g W 297 wa) = 0) ∧ (∀ (v : Int), (-2147483648 ≤ v ∧ v ≤ 2147483647 ∧ (v = 1)) → Q (some (.inl v)) W))
  | _ => False
theorem x_k_priceX_ok (d : Nat) (as : List fw_V) (W : fw_W) (Q : Option fw_V → fw_W → Prop) (hx : x_k_priceX as W Q) : jf fw_T (d + 1) 79 0 (fw_args 0 as) [] W Q := by
  unfold x_k_priceX at hx
  split at hx
  · rename_i s_ wa
    obtain ⟨e_, hpre, hQ⟩ := fw_if_ok hx
    have e_ := Nat.eq_of_beq_eq_true e_
    subst e_
    have hP := hQ
    refine s_k_priceX_0 ?_
    repeat' (first
      | (exact True.intro)
      | (exact hpre.1)
      | (refine And.intro ?_ ?_)
      | (refine hP _ ?_; (refine ⟨by omega, by omega, ?_⟩; (omega)))
      | omega
      | (intro _))
  · exact hx.elim

def ct_k_serveX : List (Nat × fw_X) := [(111, x_k_hasT), (79, x_k_priceX)]
theorem ct_k_serveX_ok (d : Nat) : fw_cok fw_T (d + 1) ct_k_serveX := by
  intro q hq as W Q h
  simp only [ct_k_serveX, List.mem_cons, List.not_mem_nil, or_false] at hq
  rcases hq with rfl | rfl
  · exact jc_of (x_k_hasT_ok (d + 0) as W Q h)
  · exact jc_of (x_k_priceX_ok (d + 0) as W Q h)
theorem s_k_serveX_0 {Post : Option fw_V → fw_W → Prop} {d : Nat} {W : fw_W} {h dd : Int}
    (hw_ : 0 ≤ h ∧ h < 14 ∧ -2147483648 ≤ (1000000 : Int) ∧ (1000000 : Int) ≤ 2147483647 ∧ (jf fw_T (d + 2) 80 10 [(0, .inr (.inl 296)), (1, .inl h), (2, .inl dd), (3, .inl (0 : Int))] [] (fw_up W 301 h (1000000 : Int)) Post)) :
    jf fw_T (d + 2) 80 0 [(0, .inr (.inl 296)), (1, .inl h), (2, .inl dd)] [] W Post := fw_ok (n := 8) (ss := [(10, [0, 1, 2, 3]), (110, [0, 1, 3, 4])]) (hv := []) fr_80_ok fv_tryx_ok (ct_k_serveX_ok d) hw_

theorem s_k_serveX_110_n10 {Post : Option fw_V → fw_W → Prop} {d : Nat} {W : fw_W} {h wa wb r1 : Int} {f : fw_W}
    (hw_ : -2147483648 ≤ wb + (1 : Int) ∧ wb + (1 : Int) ≤ 2147483647 ∧ (jf fw_T (d + 2) 80 110 [(0, .inr (.inl 296)), (1, .inl h), (3, .inl wa), (4, .inl (wb + (1 : Int)))] [] (fw_upr (fw_put [301, 303, 304, 305, 306, 307, 308, 309, 310, 311, 312, 313, 314, 315, 316] 0 [] W f) 302 wa wb ((fw_g (fw_put [301, 303, 304, 305, 306, 307, 308, 309, 310, 311, 312, 313, 314, 315, 316] 0 [] W f) (fw_rc 302 wa) wb) + (min (fw_g f 301 h) ((fw_g (fw_put [301, 303, 304, 305, 306, 307, 308, 309, 310, 311, 312, 313, 314, 315, 316] 0 [] W f) (fw_rc 302 h) wb) - r1)))) Post)) :
    jf fw_T (d + 2) 80 163 [(0, .inr (.inl 296)), (1, .inl h), (3, .inl wa), (4, .inl wb), (5, .inl ((fw_g (fw_put [301, 303, 304, 305, 306, 307, 308, 309, 310, 311, 312, 313, 314, 315, 316] 0 [] W f) (fw_rc 302 h) wb) - r1))] [] (fw_upr (fw_put [301, 303, 304, 305, 306, 307, 308, 309, 310, 311, 312, 313, 314, 315, 316] 0 [] W f) 302 wa wb ((fw_g (fw_put [301, 303, 304, 305, 306, 307, 308, 309, 310, 311, 312, 313, 314, 315, 316] 0 [] W f) (fw_rc 302 wa) wb) + (min (fw_g f 301 h) ((fw_g (fw_put [301, 303, 304, 305, 306, 307, 308, 309, 310, 311, 312, 313, 314, 315, 316] 0 [] W f) (fw_rc 302 h) wb) - r1)))) Post := fw_ok (n := 3) (ss := [(10, [0, 1, 2, 3]), (110, [0, 1, 3, 4])]) (hv := []) fr_80_ok fv_tryx_ok (ct_k_serveX_ok d) hw_

theorem s_k_serveX_110_l9 {Post : Option fw_V → fw_W → Prop} {d : Nat} {W : fw_W} {h wa wb r1 : Int} {f : fw_W}
    (hw_ : 0 ≤ wa ∧ wa < 14 ∧ 0 ≤ wb ∧ wb < 14 ∧ (-2147483648 ≤ wb + (1 : Int) ∧ wb + (1 : Int) ≤ 2147483647 ∧ (jf fw_T (d + 2) 80 110 [(0, .inr (.inl 296)), (1, .inl h), (3, .inl wa), (4, .inl (wb + (1 : Int)))] [] (fw_upr (fw_put [301, 303, 304, 305, 306, 307, 308, 309, 310, 311, 312, 313, 314, 315, 316] 0 [] W f) 302 wa wb ((fw_g (fw_put [301, 303, 304, 305, 306, 307, 308, 309, 310, 311, 312, 313, 314, 315, 316] 0 [] W f) (fw_rc 302 wa) wb) + (min (fw_g f 301 h) ((fw_g (fw_put [301, 303, 304, 305, 306, 307, 308, 309, 310, 311, 312, 313, 314, 315, 316] 0 [] W f) (fw_rc 302 h) wb) - r1)))) Post))) :
    jf fw_T (d + 2) 80 162 [(0, .inr (.inl 296)), (1, .inl h), (3, .inl wa), (4, .inl wb), (5, .inl ((fw_g (fw_put [301, 303, 304, 305, 306, 307, 308, 309, 310, 311, 312, 313, 314, 315, 316] 0 [] W f) (fw_rc 302 h) wb) - r1))] [.inl ((fw_g (fw_put [301, 303, 304, 305, 306, 307, 308, 309, 310, 311, 312, 313, 314, 315, 316] 0 [] W f) (fw_rc 302 wa) wb) + (min (fw_g f 301 h) ((fw_g (fw_put [301, 303, 304, 305, 306, 307, 308, 309, 310, 311, 312, 313, 314, 315, 316] 0 [] W f) (fw_rc 302 h) wb) - r1))), .inl wb, .inr (.inl (fw_rc 302 wa))] (fw_put [301, 303, 304, 305, 306, 307, 308, 309, 310, 311, 312, 313, 314, 315, 316] 0 [] W f) Post := jf_ias (j := 95) kr_302 fr_80_ok rfl ⟨hw_.1, hw_.2.1, hw_.2.2.1, hw_.2.2.2.1, s_k_serveX_110_n10 hw_.2.2.2.2⟩

theorem s_k_serveX_110_n8 {Post : Option fw_V → fw_W → Prop} {d : Nat} {W : fw_W} {h wa wb r1 : Int} {f : fw_W}
    (hw_ : 0 ≤ h ∧ h < 14 ∧ (-2147483648 ≤ (fw_g f 301 h) → (fw_g f 301 h) ≤ 2147483647 → -2147483648 ≤ (fw_g (fw_put [301, 303, 304, 305, 306, 307, 308, 309, 310, 311, 312, 313, 314, 315, 316] 0 [] W f) (fw_rc 302 wa) wb) + (min (fw_g f 301 h) ((fw_g (fw_put [301, 303, 304, 305, 306, 307, 308, 309, 310, 311, 312, 313, 314, 315, 316] 0 [] W f) (fw_rc 302 h) wb) - r1)) ∧ (fw_g (fw_put [301, 303, 304, 305, 306, 307, 308, 309, 310, 311, 312, 313, 314, 315, 316] 0 [] W f) (fw_rc 302 wa) wb) + (min (fw_g f 301 h) ((fw_g (fw_put [301, 303, 304, 305, 306, 307, 308, 309, 310, 311, 312, 313, 314, 315, 316] 0 [] W f) (fw_rc 302 h) wb) - r1)) ≤ 2147483647 ∧ (0 ≤ wa ∧ wa < 14 ∧ 0 ≤ wb ∧ wb < 14 ∧ (-2147483648 ≤ wb + (1 : Int) ∧ wb + (1 : Int) ≤ 2147483647 ∧ (jf fw_T (d + 2) 80 110 [(0, .inr (.inl 296)), (1, .inl h), (3, .inl wa), (4, .inl (wb + (1 : Int)))] [] (fw_upr (fw_put [301, 303, 304, 305, 306, 307, 308, 309, 310, 311, 312, 313, 314, 315, 316] 0 [] W f) 302 wa wb ((fw_g (fw_put [301, 303, 304, 305, 306, 307, 308, 309, 310, 311, 312, 313, 314, 315, 316] 0 [] W f) (fw_rc 302 wa) wb) + (min (fw_g f 301 h) ((fw_g (fw_put [301, 303, 304, 305, 306, 307, 308, 309, 310, 311, 312, 313, 314, 315, 316] 0 [] W f) (fw_rc 302 h) wb) - r1)))) Post))))) :
    jf fw_T (d + 2) 80 150 [(0, .inr (.inl 296)), (1, .inl h), (3, .inl wa), (4, .inl wb), (5, .inl ((fw_g (fw_put [301, 303, 304, 305, 306, 307, 308, 309, 310, 311, 312, 313, 314, 315, 316] 0 [] W f) (fw_rc 302 h) wb) - r1))] [.inl (fw_g (fw_put [301, 303, 304, 305, 306, 307, 308, 309, 310, 311, 312, 313, 314, 315, 316] 0 [] W f) (fw_rc 302 wa) wb), .inl wb, .inr (.inl (fw_rc 302 wa))] (fw_put [301, 303, 304, 305, 306, 307, 308, 309, 310, 311, 312, 313, 314, 315, 316] 0 [] W f) Post := by
  refine fw_ok (n := 8) (ss := [(10, [0, 1, 2, 3]), (110, [0, 1, 3, 4]), (162, [0, 1, 3, 4, 5])]) (hv := []) fr_80_ok fv_tryx_ok (ct_k_serveX_ok d) ?_
  show 0 ≤ h ∧ h < 14 ∧ (-2147483648 ≤ (fw_g f 301 h) → (fw_g f 301 h) ≤ 2147483647 → -2147483648 ≤ (fw_g (fw_put [301, 303, 304, 305, 306, 307, 308, 309, 310, 311, 312, 313, 314, 315, 316] 0 [] W f) (fw_rc 302 wa) wb) + (min (fw_g f 301 h) ((fw_g (fw_put [301, 303, 304, 305, 306, 307, 308, 309, 310, 311, 312, 313, 314, 315, 316] 0 [] W f) (fw_rc 302 h) wb) - r1)) ∧ (fw_g (fw_put [301, 303, 304, 305, 306, 307, 308, 309, 310, 311, 312, 313, 314, 315, 316] 0 [] W f) (fw_rc 302 wa) wb) + (min (fw_g f 301 h) ((fw_g (fw_put [301, 303, 304, 305, 306, 307, 308, 309, 310, 311, 312, 313, 314, 315, 316] 0 [] W f) (fw_rc 302 h) wb) - r1)) ≤ 2147483647 ∧ (jf fw_T (d + 2) 80 162 [(0, .inr (.inl 296)), (1, .inl h), (3, .inl wa), (4, .inl wb), (5, .inl ((fw_g (fw_put [301, 303, 304, 305, 306, 307, 308, 309, 310, 311, 312, 313, 314, 315, 316] 0 [] W f) (fw_rc 302 h) wb) - r1))] [.inl ((fw_g (fw_put [301, 303, 304, 305, 306, 307, 308, 309, 310, 311, 312, 313, 314, 315, 316] 0 [] W f) (fw_rc 302 wa) wb) + (min (fw_g f 301 h) ((fw_g (fw_put [301, 303, 304, 305, 306, 307, 308, 309, 310, 311, 312, 313, 314, 315, 316] 0 [] W f) (fw_rc 302 h) wb) - r1))), .inl wb, .inr (.inl (fw_rc 302 wa))] (fw_put [301, 303, 304, 305, 306, 307, 308, 309, 310, 311, 312, 313, 314, 315, 316] 0 [] W f) Post))
  revert hw_
  repeat' (first | (refine And.imp ?_ ?_) | (refine rw_imp ?_) | (refine rw_all ?_; intro _) | exact s_k_serveX_110_l9 | exact fun x_ => x_)

theorem s_k_serveX_110_l7 {Post : Option fw_V → fw_W → Prop} {d : Nat} {W : fw_W} {h wa wb r1 : Int} {f : fw_W}
    (hw_ : 0 ≤ wa ∧ wa < 14 ∧ 0 ≤ wb ∧ wb < 14 ∧ (-2147483648 ≤ (fw_g (fw_put [301, 303, 304, 305, 306, 307, 308, 309, 310, 311, 312, 313, 314, 315, 316] 0 [] W f) (fw_rc 302 wa) wb) → (fw_g (fw_put [301, 303, 304, 305, 306, 307, 308, 309, 310, 311, 312, 313, 314, 315, 316] 0 [] W f) (fw_rc 302 wa) wb) ≤ 2147483647 → 0 ≤ h ∧ h < 14 ∧ (-2147483648 ≤ (fw_g f 301 h) → (fw_g f 301 h) ≤ 2147483647 → -2147483648 ≤ (fw_g (fw_put [301, 303, 304, 305, 306, 307, 308, 309, 310, 311, 312, 313, 314, 315, 316] 0 [] W f) (fw_rc 302 wa) wb) + (min (fw_g f 301 h) ((fw_g (fw_put [301, 303, 304, 305, 306, 307, 308, 309, 310, 311, 312, 313, 314, 315, 316] 0 [] W f) (fw_rc 302 h) wb) - r1)) ∧ (fw_g (fw_put [301, 303, 304, 305, 306, 307, 308, 309, 310, 311, 312, 313, 314, 315, 316] 0 [] W f) (fw_rc 302 wa) wb) + (min (fw_g f 301 h) ((fw_g (fw_put [301, 303, 304, 305, 306, 307, 308, 309, 310, 311, 312, 313, 314, 315, 316] 0 [] W f) (fw_rc 302 h) wb) - r1)) ≤ 2147483647 ∧ (0 ≤ wa ∧ wa < 14 ∧ 0 ≤ wb ∧ wb < 14 ∧ (-2147483648 ≤ wb + (1 : Int) ∧ wb + (1 : Int) ≤ 2147483647 ∧ (jf fw_T (d + 2) 80 110 [(0, .inr (.inl 296)), (1, .inl h), (3, .inl wa), (4, .inl (wb + (1 : Int)))] [] (fw_upr (fw_put [301, 303, 304, 305, 306, 307, 308, 309, 310, 311, 312, 313, 314, 315, 316] 0 [] W f) 302 wa wb ((fw_g (fw_put [301, 303, 304, 305, 306, 307, 308, 309, 310, 311, 312, 313, 314, 315, 316] 0 [] W f) (fw_rc 302 wa) wb) + (min (fw_g f 301 h) ((fw_g (fw_put [301, 303, 304, 305, 306, 307, 308, 309, 310, 311, 312, 313, 314, 315, 316] 0 [] W f) (fw_rc 302 h) wb) - r1)))) Post)))))) :
    jf fw_T (d + 2) 80 149 [(0, .inr (.inl 296)), (1, .inl h), (3, .inl wa), (4, .inl wb), (5, .inl ((fw_g (fw_put [301, 303, 304, 305, 306, 307, 308, 309, 310, 311, 312, 313, 314, 315, 316] 0 [] W f) (fw_rc 302 h) wb) - r1))] [.inl wb, .inr (.inl (fw_rc 302 wa)), .inl wb, .inr (.inl (fw_rc 302 wa))] (fw_put [301, 303, 304, 305, 306, 307, 308, 309, 310, 311, 312, 313, 314, 315, 316] 0 [] W f) Post := jf_ial (j := 87) kr_302 fr_80_ok rfl ⟨hw_.1, hw_.2.1, hw_.2.2.1, hw_.2.2.2.1, fun g1_ g2_ => s_k_serveX_110_n8 (hw_.2.2.2.2 g1_ g2_)⟩

theorem s_k_serveX_110_n6 {Post : Option fw_V → fw_W → Prop} {d : Nat} {W : fw_W} {h wa wb r1 : Int} {f : fw_W}
    (hw_ : 0 ≤ wa ∧ wa < 14 ∧ 0 ≤ wb ∧ wb < 14 ∧ (-2147483648 ≤ (fw_g (fw_put [301, 303, 304, 305, 306, 307, 308, 309, 310, 311, 312, 313, 314, 315, 316] 0 [] W f) (fw_rc 302 wa) wb) → (fw_g (fw_put [301, 303, 304, 305, 306, 307, 308, 309, 310, 311, 312, 313, 314, 315, 316] 0 [] W f) (fw_rc 302 wa) wb) ≤ 2147483647 → 0 ≤ h ∧ h < 14 ∧ (-2147483648 ≤ (fw_g f 301 h) → (fw_g f 301 h) ≤ 2147483647 → -2147483648 ≤ (fw_g (fw_put [301, 303, 304, 305, 306, 307, 308, 309, 310, 311, 312, 313, 314, 315, 316] 0 [] W f) (fw_rc 302 wa) wb) + (min (fw_g f 301 h) ((fw_g (fw_put [301, 303, 304, 305, 306, 307, 308, 309, 310, 311, 312, 313, 314, 315, 316] 0 [] W f) (fw_rc 302 h) wb) - r1)) ∧ (fw_g (fw_put [301, 303, 304, 305, 306, 307, 308, 309, 310, 311, 312, 313, 314, 315, 316] 0 [] W f) (fw_rc 302 wa) wb) + (min (fw_g f 301 h) ((fw_g (fw_put [301, 303, 304, 305, 306, 307, 308, 309, 310, 311, 312, 313, 314, 315, 316] 0 [] W f) (fw_rc 302 h) wb) - r1)) ≤ 2147483647 ∧ (0 ≤ wa ∧ wa < 14 ∧ 0 ≤ wb ∧ wb < 14 ∧ (-2147483648 ≤ wb + (1 : Int) ∧ wb + (1 : Int) ≤ 2147483647 ∧ (jf fw_T (d + 2) 80 110 [(0, .inr (.inl 296)), (1, .inl h), (3, .inl wa), (4, .inl (wb + (1 : Int)))] [] (fw_upr (fw_put [301, 303, 304, 305, 306, 307, 308, 309, 310, 311, 312, 313, 314, 315, 316] 0 [] W f) 302 wa wb ((fw_g (fw_put [301, 303, 304, 305, 306, 307, 308, 309, 310, 311, 312, 313, 314, 315, 316] 0 [] W f) (fw_rc 302 wa) wb) + (min (fw_g f 301 h) ((fw_g (fw_put [301, 303, 304, 305, 306, 307, 308, 309, 310, 311, 312, 313, 314, 315, 316] 0 [] W f) (fw_rc 302 h) wb) - r1)))) Post)))))) :
    jf fw_T (d + 2) 80 146 [(0, .inr (.inl 296)), (1, .inl h), (3, .inl wa), (4, .inl wb), (5, .inl ((fw_g (fw_put [301, 303, 304, 305, 306, 307, 308, 309, 310, 311, 312, 313, 314, 315, 316] 0 [] W f) (fw_rc 302 h) wb) - r1))] [.inr (.inl (fw_rc 302 wa))] (fw_put [301, 303, 304, 305, 306, 307, 308, 309, 310, 311, 312, 313, 314, 315, 316] 0 [] W f) Post := by
  refine fw_ok (n := 3) (ss := [(10, [0, 1, 2, 3]), (110, [0, 1, 3, 4]), (149, [0, 1, 3, 4, 5])]) (hv := []) fr_80_ok fv_tryx_ok (ct_k_serveX_ok d) ?_
  show jf fw_T (d + 2) 80 149 [(0, .inr (.inl 296)), (1, .inl h), (3, .inl wa), (4, .inl wb), (5, .inl ((fw_g (fw_put [301, 303, 304, 305, 306, 307, 308, 309, 310, 311, 312, 313, 314, 315, 316] 0 [] W f) (fw_rc 302 h) wb) - r1))] [.inl wb, .inr (.inl (fw_rc 302 wa)), .inl wb, .inr (.inl (fw_rc 302 wa))] (fw_put [301, 303, 304, 305, 306, 307, 308, 309, 310, 311, 312, 313, 314, 315, 316] 0 [] W f) Post
  revert hw_
  repeat' (first | (refine And.imp ?_ ?_) | (refine rw_imp ?_) | (refine rw_all ?_; intro _) | exact s_k_serveX_110_l7 | exact fun x_ => x_)

theorem s_k_serveX_110_l5 {Post : Option fw_V → fw_W → Prop} {d : Nat} {W : fw_W} {h wa wb r1 : Int} {f : fw_W}
    (hw_ : 0 ≤ wa ∧ wa < 14 ∧ (0 ≤ wa ∧ wa < 14 ∧ 0 ≤ wb ∧ wb < 14 ∧ (-2147483648 ≤ (fw_g (fw_put [301, 303, 304, 305, 306, 307, 308, 309, 310, 311, 312, 313, 314, 315, 316] 0 [] W f) (fw_rc 302 wa) wb) → (fw_g (fw_put [301, 303, 304, 305, 306, 307, 308, 309, 310, 311, 312, 313, 314, 315, 316] 0 [] W f) (fw_rc 302 wa) wb) ≤ 2147483647 → 0 ≤ h ∧ h < 14 ∧ (-2147483648 ≤ (fw_g f 301 h) → (fw_g f 301 h) ≤ 2147483647 → -2147483648 ≤ (fw_g (fw_put [301, 303, 304, 305, 306, 307, 308, 309, 310, 311, 312, 313, 314, 315, 316] 0 [] W f) (fw_rc 302 wa) wb) + (min (fw_g f 301 h) ((fw_g (fw_put [301, 303, 304, 305, 306, 307, 308, 309, 310, 311, 312, 313, 314, 315, 316] 0 [] W f) (fw_rc 302 h) wb) - r1)) ∧ (fw_g (fw_put [301, 303, 304, 305, 306, 307, 308, 309, 310, 311, 312, 313, 314, 315, 316] 0 [] W f) (fw_rc 302 wa) wb) + (min (fw_g f 301 h) ((fw_g (fw_put [301, 303, 304, 305, 306, 307, 308, 309, 310, 311, 312, 313, 314, 315, 316] 0 [] W f) (fw_rc 302 h) wb) - r1)) ≤ 2147483647 ∧ (0 ≤ wa ∧ wa < 14 ∧ 0 ≤ wb ∧ wb < 14 ∧ (-2147483648 ≤ wb + (1 : Int) ∧ wb + (1 : Int) ≤ 2147483647 ∧ (jf fw_T (d + 2) 80 110 [(0, .inr (.inl 296)), (1, .inl h), (3, .inl wa), (4, .inl (wb + (1 : Int)))] [] (fw_upr (fw_put [301, 303, 304, 305, 306, 307, 308, 309, 310, 311, 312, 313, 314, 315, 316] 0 [] W f) 302 wa wb ((fw_g (fw_put [301, 303, 304, 305, 306, 307, 308, 309, 310, 311, 312, 313, 314, 315, 316] 0 [] W f) (fw_rc 302 wa) wb) + (min (fw_g f 301 h) ((fw_g (fw_put [301, 303, 304, 305, 306, 307, 308, 309, 310, 311, 312, 313, 314, 315, 316] 0 [] W f) (fw_rc 302 h) wb) - r1)))) Post))))))) :
    jf fw_T (d + 2) 80 145 [(0, .inr (.inl 296)), (1, .inl h), (3, .inl wa), (4, .inl wb), (5, .inl ((fw_g (fw_put [301, 303, 304, 305, 306, 307, 308, 309, 310, 311, 312, 313, 314, 315, 316] 0 [] W f) (fw_rc 302 h) wb) - r1))] [.inl wa, .inr (.inl 302)] (fw_put [301, 303, 304, 305, 306, 307, 308, 309, 310, 311, 312, 313, 314, 315, 316] 0 [] W f) Post := jf_aal (j := 84) kr_302 fr_80_ok rfl ⟨hw_.1, hw_.2.1, s_k_serveX_110_n6 hw_.2.2⟩

theorem s_k_serveX_110_n4 {Post : Option fw_V → fw_W → Prop} {d : Nat} {W : fw_W} {h wa wb : Int} {f : fw_W}
    (hw_ : (0 ≤ wb ∧ wb < 14 ∧ (fw_g W 297 wb) = 0) ∧ (∀ (r1 : Int), ((-2147483648 ≤ r1 ∧ r1 ≤ 2147483647 ∧ (r1 = 1))) → -2147483648 ≤ (fw_g (fw_put [301, 303, 304, 305, 306, 307, 308, 309, 310, 311, 312, 313, 314, 315, 316] 0 [] W f) (fw_rc 302 h) wb) - r1 ∧ (fw_g (fw_put [301, 303, 304, 305, 306, 307, 308, 309, 310, 311, 312, 313, 314, 315, 316] 0 [] W f) (fw_rc 302 h) wb) - r1 ≤ 2147483647 ∧ (0 ≤ wa ∧ wa < 14 ∧ (0 ≤ wa ∧ wa < 14 ∧ 0 ≤ wb ∧ wb < 14 ∧ (-2147483648 ≤ (fw_g (fw_put [301, 303, 304, 305, 306, 307, 308, 309, 310, 311, 312, 313, 314, 315, 316] 0 [] W f) (fw_rc 302 wa) wb) → (fw_g (fw_put [301, 303, 304, 305, 306, 307, 308, 309, 310, 311, 312, 313, 314, 315, 316] 0 [] W f) (fw_rc 302 wa) wb) ≤ 2147483647 → 0 ≤ h ∧ h < 14 ∧ (-2147483648 ≤ (fw_g f 301 h) → (fw_g f 301 h) ≤ 2147483647 → -2147483648 ≤ (fw_g (fw_put [301, 303, 304, 305, 306, 307, 308, 309, 310, 311, 312, 313, 314, 315, 316] 0 [] W f) (fw_rc 302 wa) wb) + (min (fw_g f 301 h) ((fw_g (fw_put [301, 303, 304, 305, 306, 307, 308, 309, 310, 311, 312, 313, 314, 315, 316] 0 [] W f) (fw_rc 302 h) wb) - r1)) ∧ (fw_g (fw_put [301, 303, 304, 305, 306, 307, 308, 309, 310, 311, 312, 313, 314, 315, 316] 0 [] W f) (fw_rc 302 wa) wb) + (min (fw_g f 301 h) ((fw_g (fw_put [301, 303, 304, 305, 306, 307, 308, 309, 310, 311, 312, 313, 314, 315, 316] 0 [] W f) (fw_rc 302 h) wb) - r1)) ≤ 2147483647 ∧ (0 ≤ wa ∧ wa < 14 ∧ 0 ≤ wb ∧ wb < 14 ∧ (-2147483648 ≤ wb + (1 : Int) ∧ wb + (1 : Int) ≤ 2147483647 ∧ (jf fw_T (d + 2) 80 110 [(0, .inr (.inl 296)), (1, .inl h), (3, .inl wa), (4, .inl (wb + (1 : Int)))] [] (fw_upr (fw_put [301, 303, 304, 305, 306, 307, 308, 309, 310, 311, 312, 313, 314, 315, 316] 0 [] W f) 302 wa wb ((fw_g (fw_put [301, 303, 304, 305, 306, 307, 308, 309, 310, 311, 312, 313, 314, 315, 316] 0 [] W f) (fw_rc 302 wa) wb) + (min (fw_g f 301 h) ((fw_g (fw_put [301, 303, 304, 305, 306, 307, 308, 309, 310, 311, 312, 313, 314, 315, 316] 0 [] W f) (fw_rc 302 h) wb) - r1)))) Post))))))))) :
    jf fw_T (d + 2) 80 131 [(0, .inr (.inl 296)), (1, .inl h), (3, .inl wa), (4, .inl wb)] [.inl (fw_g (fw_put [301, 303, 304, 305, 306, 307, 308, 309, 310, 311, 312, 313, 314, 315, 316] 0 [] W f) (fw_rc 302 h) wb)] (fw_put [301, 303, 304, 305, 306, 307, 308, 309, 310, 311, 312, 313, 314, 315, 316] 0 [] W f) Post := by
  refine fw_ok (n := 9) (ss := [(10, [0, 1, 2, 3]), (110, [0, 1, 3, 4]), (145, [0, 1, 3, 4, 5])]) (hv := []) fr_80_ok fv_tryx_ok (ct_k_serveX_ok d) ?_
  show (0 ≤ wb ∧ wb < 14 ∧ (fw_g W 297 wb) = 0) ∧ (∀ (r1 : Int), ((-2147483648 ≤ r1 ∧ r1 ≤ 2147483647 ∧ (r1 = 1))) → -2147483648 ≤ (fw_g (fw_put [301, 303, 304, 305, 306, 307, 308, 309, 310, 311, 312, 313, 314, 315, 316] 0 [] W f) (fw_rc 302 h) wb) - r1 ∧ (fw_g (fw_put [301, 303, 304, 305, 306, 307, 308, 309, 310, 311, 312, 313, 314, 315, 316] 0 [] W f) (fw_rc 302 h) wb) - r1 ≤ 2147483647 ∧ (jf fw_T (d + 2) 80 145 [(0, .inr (.inl 296)), (1, .inl h), (3, .inl wa), (4, .inl wb), (5, .inl ((fw_g (fw_put [301, 303, 304, 305, 306, 307, 308, 309, 310, 311, 312, 313, 314, 315, 316] 0 [] W f) (fw_rc 302 h) wb) - r1))] [.inl wa, .inr (.inl 302)] (fw_put [301, 303, 304, 305, 306, 307, 308, 309, 310, 311, 312, 313, 314, 315, 316] 0 [] W f) Post))
  revert hw_
  repeat' (first | (refine And.imp ?_ ?_) | (refine rw_imp ?_) | (refine rw_all ?_; intro _) | exact s_k_serveX_110_l5 | exact fun x_ => x_)

theorem s_k_serveX_110_l3 {Post : Option fw_V → fw_W → Prop} {d : Nat} {W : fw_W} {h wa wb : Int} {f : fw_W}
    (hw_ : 0 ≤ h ∧ h < 14 ∧ 0 ≤ wb ∧ wb < 14 ∧ (-2147483648 ≤ (fw_g (fw_put [301, 303, 304, 305, 306, 307, 308, 309, 310, 311, 312, 313, 314, 315, 316] 0 [] W f) (fw_rc 302 h) wb) → (fw_g (fw_put [301, 303, 304, 305, 306, 307, 308, 309, 310, 311, 312, 313, 314, 315, 316] 0 [] W f) (fw_rc 302 h) wb) ≤ 2147483647 → (0 ≤ wb ∧ wb < 14 ∧ (fw_g W 297 wb) = 0) ∧ (∀ (r1 : Int), ((-2147483648 ≤ r1 ∧ r1 ≤ 2147483647 ∧ (r1 = 1))) → -2147483648 ≤ (fw_g (fw_put [301, 303, 304, 305, 306, 307, 308, 309, 310, 311, 312, 313, 314, 315, 316] 0 [] W f) (fw_rc 302 h) wb) - r1 ∧ (fw_g (fw_put [301, 303, 304, 305, 306, 307, 308, 309, 310, 311, 312, 313, 314, 315, 316] 0 [] W f) (fw_rc 302 h) wb) - r1 ≤ 2147483647 ∧ (0 ≤ wa ∧ wa < 14 ∧ (0 ≤ wa ∧ wa < 14 ∧ 0 ≤ wb ∧ wb < 14 ∧ (-2147483648 ≤ (fw_g (fw_put [301, 303, 304, 305, 306, 307, 308, 309, 310, 311, 312, 313, 314, 315, 316] 0 [] W f) (fw_rc 302 wa) wb) → (fw_g (fw_put [301, 303, 304, 305, 306, 307, 308, 309, 310, 311, 312, 313, 314, 315, 316] 0 [] W f) (fw_rc 302 wa) wb) ≤ 2147483647 → 0 ≤ h ∧ h < 14 ∧ (-2147483648 ≤ (fw_g f 301 h) → (fw_g f 301 h) ≤ 2147483647 → -2147483648 ≤ (fw_g (fw_put [301, 303, 304, 305, 306, 307, 308, 309, 310, 311, 312, 313, 314, 315, 316] 0 [] W f) (fw_rc 302 wa) wb) + (min (fw_g f 301 h) ((fw_g (fw_put [301, 303, 304, 305, 306, 307, 308, 309, 310, 311, 312, 313, 314, 315, 316] 0 [] W f) (fw_rc 302 h) wb) - r1)) ∧ (fw_g (fw_put [301, 303, 304, 305, 306, 307, 308, 309, 310, 311, 312, 313, 314, 315, 316] 0 [] W f) (fw_rc 302 wa) wb) + (min (fw_g f 301 h) ((fw_g (fw_put [301, 303, 304, 305, 306, 307, 308, 309, 310, 311, 312, 313, 314, 315, 316] 0 [] W f) (fw_rc 302 h) wb) - r1)) ≤ 2147483647 ∧ (0 ≤ wa ∧ wa < 14 ∧ 0 ≤ wb ∧ wb < 14 ∧ (-2147483648 ≤ wb + (1 : Int) ∧ wb + (1 : Int) ≤ 2147483647 ∧ (jf fw_T (d + 2) 80 110 [(0, .inr (.inl 296)), (1, .inl h), (3, .inl wa), (4, .inl (wb + (1 : Int)))] [] (fw_upr (fw_put [301, 303, 304, 305, 306, 307, 308, 309, 310, 311, 312, 313, 314, 315, 316] 0 [] W f) 302 wa wb ((fw_g (fw_put [301, 303, 304, 305, 306, 307, 308, 309, 310, 311, 312, 313, 314, 315, 316] 0 [] W f) (fw_rc 302 wa) wb) + (min (fw_g f 301 h) ((fw_g (fw_put [301, 303, 304, 305, 306, 307, 308, 309, 310, 311, 312, 313, 314, 315, 316] 0 [] W f) (fw_rc 302 h) wb) - r1)))) Post)))))))))) :
    jf fw_T (d + 2) 80 130 [(0, .inr (.inl 296)), (1, .inl h), (3, .inl wa), (4, .inl wb)] [.inl wb, .inr (.inl (fw_rc 302 h))] (fw_put [301, 303, 304, 305, 306, 307, 308, 309, 310, 311, 312, 313, 314, 315, 316] 0 [] W f) Post := jf_ial (j := 75) kr_302 fr_80_ok rfl ⟨hw_.1, hw_.2.1, hw_.2.2.1, hw_.2.2.2.1, fun g1_ g2_ => s_k_serveX_110_n4 (hw_.2.2.2.2 g1_ g2_)⟩

theorem s_k_serveX_110_n2 {Post : Option fw_V → fw_W → Prop} {d : Nat} {W : fw_W} {h wa wb : Int} {f : fw_W}
    (hw_ : 0 ≤ h ∧ h < 14 ∧ 0 ≤ wb ∧ wb < 14 ∧ (-2147483648 ≤ (fw_g (fw_put [301, 303, 304, 305, 306, 307, 308, 309, 310, 311, 312, 313, 314, 315, 316] 0 [] W f) (fw_rc 302 h) wb) → (fw_g (fw_put [301, 303, 304, 305, 306, 307, 308, 309, 310, 311, 312, 313, 314, 315, 316] 0 [] W f) (fw_rc 302 h) wb) ≤ 2147483647 → (0 ≤ wb ∧ wb < 14 ∧ (fw_g W 297 wb) = 0) ∧ (∀ (r1 : Int), ((-2147483648 ≤ r1 ∧ r1 ≤ 2147483647 ∧ (r1 = 1))) → -2147483648 ≤ (fw_g (fw_put [301, 303, 304, 305, 306, 307, 308, 309, 310, 311, 312, 313, 314, 315, 316] 0 [] W f) (fw_rc 302 h) wb) - r1 ∧ (fw_g (fw_put [301, 303, 304, 305, 306, 307, 308, 309, 310, 311, 312, 313, 314, 315, 316] 0 [] W f) (fw_rc 302 h) wb) - r1 ≤ 2147483647 ∧ (0 ≤ wa ∧ wa < 14 ∧ (0 ≤ wa ∧ wa < 14 ∧ 0 ≤ wb ∧ wb < 14 ∧ (-2147483648 ≤ (fw_g (fw_put [301, 303, 304, 305, 306, 307, 308, 309, 310, 311, 312, 313, 314, 315, 316] 0 [] W f) (fw_rc 302 wa) wb) → (fw_g (fw_put [301, 303, 304, 305, 306, 307, 308, 309, 310, 311, 312, 313, 314, 315, 316] 0 [] W f) (fw_rc 302 wa) wb) ≤ 2147483647 → 0 ≤ h ∧ h < 14 ∧ (-2147483648 ≤ (fw_g f 301 h) → (fw_g f 301 h) ≤ 2147483647 → -2147483648 ≤ (fw_g (fw_put [301, 303, 304, 305, 306, 307, 308, 309, 310, 311, 312, 313, 314, 315, 316] 0 [] W f) (fw_rc 302 wa) wb) + (min (fw_g f 301 h) ((fw_g (fw_put [301, 303, 304, 305, 306, 307, 308, 309, 310, 311, 312, 313, 314, 315, 316] 0 [] W f) (fw_rc 302 h) wb) - r1)) ∧ (fw_g (fw_put [301, 303, 304, 305, 306, 307, 308, 309, 310, 311, 312, 313, 314, 315, 316] 0 [] W f) (fw_rc 302 wa) wb) + (min (fw_g f 301 h) ((fw_g (fw_put [301, 303, 304, 305, 306, 307, 308, 309, 310, 311, 312, 313, 314, 315, 316] 0 [] W f) (fw_rc 302 h) wb) - r1)) ≤ 2147483647 ∧ (0 ≤ wa ∧ wa < 14 ∧ 0 ≤ wb ∧ wb < 14 ∧ (-2147483648 ≤ wb + (1 : Int) ∧ wb + (1 : Int) ≤ 2147483647 ∧ (jf fw_T (d + 2) 80 110 [(0, .inr (.inl 296)), (1, .inl h), (3, .inl wa), (4, .inl (wb + (1 : Int)))] [] (fw_upr (fw_put [301, 303, 304, 305, 306, 307, 308, 309, 310, 311, 312, 313, 314, 315, 316] 0 [] W f) 302 wa wb ((fw_g (fw_put [301, 303, 304, 305, 306, 307, 308, 309, 310, 311, 312, 313, 314, 315, 316] 0 [] W f) (fw_rc 302 wa) wb) + (min (fw_g f 301 h) ((fw_g (fw_put [301, 303, 304, 305, 306, 307, 308, 309, 310, 311, 312, 313, 314, 315, 316] 0 [] W f) (fw_rc 302 h) wb) - r1)))) Post)))))))))) :
    jf fw_T (d + 2) 80 128 [(0, .inr (.inl 296)), (1, .inl h), (3, .inl wa), (4, .inl wb)] [.inr (.inl (fw_rc 302 h))] (fw_put [301, 303, 304, 305, 306, 307, 308, 309, 310, 311, 312, 313, 314, 315, 316] 0 [] W f) Post := by
  refine fw_ok (n := 2) (ss := [(10, [0, 1, 2, 3]), (110, [0, 1, 3, 4]), (130, [0, 1, 3, 4])]) (hv := []) fr_80_ok fv_tryx_ok (ct_k_serveX_ok d) ?_
  show jf fw_T (d + 2) 80 130 [(0, .inr (.inl 296)), (1, .inl h), (3, .inl wa), (4, .inl wb)] [.inl wb, .inr (.inl (fw_rc 302 h))] (fw_put [301, 303, 304, 305, 306, 307, 308, 309, 310, 311, 312, 313, 314, 315, 316] 0 [] W f) Post
  revert hw_
  repeat' (first | (refine And.imp ?_ ?_) | (refine rw_imp ?_) | (refine rw_all ?_; intro _) | exact s_k_serveX_110_l3 | exact fun x_ => x_)

theorem s_k_serveX_110_l1 {Post : Option fw_V → fw_W → Prop} {d : Nat} {W : fw_W} {h wa wb : Int} {f : fw_W}
    (hw_ : 0 ≤ h ∧ h < 14 ∧ (0 ≤ h ∧ h < 14 ∧ 0 ≤ wb ∧ wb < 14 ∧ (-2147483648 ≤ (fw_g (fw_put [301, 303, 304, 305, 306, 307, 308, 309, 310, 311, 312, 313, 314, 315, 316] 0 [] W f) (fw_rc 302 h) wb) → (fw_g (fw_put [301, 303, 304, 305, 306, 307, 308, 309, 310, 311, 312, 313, 314, 315, 316] 0 [] W f) (fw_rc 302 h) wb) ≤ 2147483647 → (0 ≤ wb ∧ wb < 14 ∧ (fw_g W 297 wb) = 0) ∧ (∀ (r1 : Int), ((-2147483648 ≤ r1 ∧ r1 ≤ 2147483647 ∧ (r1 = 1))) → -2147483648 ≤ (fw_g (fw_put [301, 303, 304, 305, 306, 307, 308, 309, 310, 311, 312, 313, 314, 315, 316] 0 [] W f) (fw_rc 302 h) wb) - r1 ∧ (fw_g (fw_put [301, 303, 304, 305, 306, 307, 308, 309, 310, 311, 312, 313, 314, 315, 316] 0 [] W f) (fw_rc 302 h) wb) - r1 ≤ 2147483647 ∧ (0 ≤ wa ∧ wa < 14 ∧ (0 ≤ wa ∧ wa < 14 ∧ 0 ≤ wb ∧ wb < 14 ∧ (-2147483648 ≤ (fw_g (fw_put [301, 303, 304, 305, 306, 307, 308, 309, 310, 311, 312, 313, 314, 315, 316] 0 [] W f) (fw_rc 302 wa) wb) → (fw_g (fw_put [301, 303, 304, 305, 306, 307, 308, 309, 310, 311, 312, 313, 314, 315, 316] 0 [] W f) (fw_rc 302 wa) wb) ≤ 2147483647 → 0 ≤ h ∧ h < 14 ∧ (-2147483648 ≤ (fw_g f 301 h) → (fw_g f 301 h) ≤ 2147483647 → -2147483648 ≤ (fw_g (fw_put [301, 303, 304, 305, 306, 307, 308, 309, 310, 311, 312, 313, 314, 315, 316] 0 [] W f) (fw_rc 302 wa) wb) + (min (fw_g f 301 h) ((fw_g (fw_put [301, 303, 304, 305, 306, 307, 308, 309, 310, 311, 312, 313, 314, 315, 316] 0 [] W f) (fw_rc 302 h) wb) - r1)) ∧ (fw_g (fw_put [301, 303, 304, 305, 306, 307, 308, 309, 310, 311, 312, 313, 314, 315, 316] 0 [] W f) (fw_rc 302 wa) wb) + (min (fw_g f 301 h) ((fw_g (fw_put [301, 303, 304, 305, 306, 307, 308, 309, 310, 311, 312, 313, 314, 315, 316] 0 [] W f) (fw_rc 302 h) wb) - r1)) ≤ 2147483647 ∧ (0 ≤ wa ∧ wa < 14 ∧ 0 ≤ wb ∧ wb < 14 ∧ (-2147483648 ≤ wb + (1 : Int) ∧ wb + (1 : Int) ≤ 2147483647 ∧ (jf fw_T (d + 2) 80 110 [(0, .inr (.inl 296)), (1, .inl h), (3, .inl wa), (4, .inl (wb + (1 : Int)))] [] (fw_upr (fw_put [301, 303, 304, 305, 306, 307, 308, 309, 310, 311, 312, 313, 314, 315, 316] 0 [] W f) 302 wa wb ((fw_g (fw_put [301, 303, 304, 305, 306, 307, 308, 309, 310, 311, 312, 313, 314, 315, 316] 0 [] W f) (fw_rc 302 wa) wb) + (min (fw_g f 301 h) ((fw_g (fw_put [301, 303, 304, 305, 306, 307, 308, 309, 310, 311, 312, 313, 314, 315, 316] 0 [] W f) (fw_rc 302 h) wb) - r1)))) Post))))))))))) :
    jf fw_T (d + 2) 80 127 [(0, .inr (.inl 296)), (1, .inl h), (3, .inl wa), (4, .inl wb)] [.inl h, .inr (.inl 302)] (fw_put [301, 303, 304, 305, 306, 307, 308, 309, 310, 311, 312, 313, 314, 315, 316] 0 [] W f) Post := jf_aal (j := 73) kr_302 fr_80_ok rfl ⟨hw_.1, hw_.2.1, s_k_serveX_110_n2 hw_.2.2⟩

theorem s_k_serveX_110 {Post : Option fw_V → fw_W → Prop} {d : Nat} {W : fw_W} {h wa wb : Int} {f : fw_W}
    (hw_ : (0 ≤ (fw_g W 272 0) → (fw_g W 272 0) ≤ 14 → (((fw_g W 272 0) ≤ wb → Post none (fw_put [301, 303, 304, 305, 306, 307, 308, 309, 310, 311, 312, 313, 314, 315, 316] 0 [] W f)) ∧ (wb < (fw_g W 272 0) → 0 ≤ h ∧ h < 14 ∧ (0 ≤ h ∧ h < 14 ∧ 0 ≤ wb ∧ wb < 14 ∧ (-2147483648 ≤ (fw_g (fw_put [301, 303, 304, 305, 306, 307, 308, 309, 310, 311, 312, 313, 314, 315, 316] 0 [] W f) (fw_rc 302 h) wb) → (fw_g (fw_put [301, 303, 304, 305, 306, 307, 308, 309, 310, 311, 312, 313, 314, 315, 316] 0 [] W f) (fw_rc 302 h) wb) ≤ 2147483647 → (0 ≤ wb ∧ wb < 14 ∧ (fw_g W 297 wb) = 0) ∧ (∀ (r1 : Int), ((-2147483648 ≤ r1 ∧ r1 ≤ 2147483647 ∧ (r1 = 1))) → -2147483648 ≤ (fw_g (fw_put [301, 303, 304, 305, 306, 307, 308, 309, 310, 311, 312, 313, 314, 315, 316] 0 [] W f) (fw_rc 302 h) wb) - r1 ∧ (fw_g (fw_put [301, 303, 304, 305, 306, 307, 308, 309, 310, 311, 312, 313, 314, 315, 316] 0 [] W f) (fw_rc 302 h) wb) - r1 ≤ 2147483647 ∧ (0 ≤ wa ∧ wa < 14 ∧ (0 ≤ wa ∧ wa < 14 ∧ 0 ≤ wb ∧ wb < 14 ∧ (-2147483648 ≤ (fw_g (fw_put [301, 303, 304, 305, 306, 307, 308, 309, 310, 311, 312, 313, 314, 315, 316] 0 [] W f) (fw_rc 302 wa) wb) → (fw_g (fw_put [301, 303, 304, 305, 306, 307, 308, 309, 310, 311, 312, 313, 314, 315, 316] 0 [] W f) (fw_rc 302 wa) wb) ≤ 2147483647 → 0 ≤ h ∧ h < 14 ∧ (-2147483648 ≤ (fw_g f 301 h) → (fw_g f 301 h) ≤ 2147483647 → -2147483648 ≤ (fw_g (fw_put [301, 303, 304, 305, 306, 307, 308, 309, 310, 311, 312, 313, 314, 315, 316] 0 [] W f) (fw_rc 302 wa) wb) + (min (fw_g f 301 h) ((fw_g (fw_put [301, 303, 304, 305, 306, 307, 308, 309, 310, 311, 312, 313, 314, 315, 316] 0 [] W f) (fw_rc 302 h) wb) - r1)) ∧ (fw_g (fw_put [301, 303, 304, 305, 306, 307, 308, 309, 310, 311, 312, 313, 314, 315, 316] 0 [] W f) (fw_rc 302 wa) wb) + (min (fw_g f 301 h) ((fw_g (fw_put [301, 303, 304, 305, 306, 307, 308, 309, 310, 311, 312, 313, 314, 315, 316] 0 [] W f) (fw_rc 302 h) wb) - r1)) ≤ 2147483647 ∧ (0 ≤ wa ∧ wa < 14 ∧ 0 ≤ wb ∧ wb < 14 ∧ (-2147483648 ≤ wb + (1 : Int) ∧ wb + (1 : Int) ≤ 2147483647 ∧ (jf fw_T (d + 2) 80 110 [(0, .inr (.inl 296)), (1, .inl h), (3, .inl wa), (4, .inl (wb + (1 : Int)))] [] (fw_upr (fw_put [301, 303, 304, 305, 306, 307, 308, 309, 310, 311, 312, 313, 314, 315, 316] 0 [] W f) 302 wa wb ((fw_g (fw_put [301, 303, 304, 305, 306, 307, 308, 309, 310, 311, 312, 313, 314, 315, 316] 0 [] W f) (fw_rc 302 wa) wb) + (min (fw_g f 301 h) ((fw_g (fw_put [301, 303, 304, 305, 306, 307, 308, 309, 310, 311, 312, 313, 314, 315, 316] 0 [] W f) (fw_rc 302 h) wb) - r1)))) Post)))))))))))))) :
    jf fw_T (d + 2) 80 110 [(0, .inr (.inl 296)), (1, .inl h), (3, .inl wa), (4, .inl wb)] [] (fw_put [301, 303, 304, 305, 306, 307, 308, 309, 310, 311, 312, 313, 314, 315, 316] 0 [] W f) Post := by
  refine fw_ok (n := 9) (ss := [(10, [0, 1, 2, 3]), (110, [0, 1, 3, 4]), (127, [0, 1, 3, 4])]) (hv := []) fr_80_ok fv_tryx_ok (ct_k_serveX_ok d) ?_
  show (0 ≤ (fw_g W 272 0) → (fw_g W 272 0) ≤ 14 → (((fw_g W 272 0) ≤ wb → Post none (fw_put [301, 303, 304, 305, 306, 307, 308, 309, 310, 311, 312, 313, 314, 315, 316] 0 [] W f)) ∧ (wb < (fw_g W 272 0) → jf fw_T (d + 2) 80 127 [(0, .inr (.inl 296)), (1, .inl h), (3, .inl wa), (4, .inl wb)] [.inl h, .inr (.inl 302)] (fw_put [301, 303, 304, 305, 306, 307, 308, 309, 310, 311, 312, 313, 314, 315, 316] 0 [] W f) Post)))
  revert hw_
  repeat' (first | (refine And.imp ?_ ?_) | (refine rw_imp ?_) | (refine rw_all ?_; intro _) | exact s_k_serveX_110_l1 | exact fun x_ => x_)

theorem s_k_serveX_10_n8 {Post : Option fw_V → fw_W → Prop} {d : Nat} {W : fw_W} {h dd wa : Int} {f : fw_W}
    (hw_ : 0 ≤ h ∧ h < 14 ∧ -2147483648 ≤ (min (fw_g f 301 h) (fw_g (fw_upr (fw_put [301, 303, 304, 305, 306, 307, 308, 309, 310, 311, 312, 313, 314, 315, 316] 0 [] W f) 302 h wa (1000000 : Int)) (fw_rc 302 h) wa)) ∧ (min (fw_g f 301 h) (fw_g (fw_upr (fw_put [301, 303, 304, 305, 306, 307, 308, 309, 310, 311, 312, 313, 314, 315, 316] 0 [] W f) 302 h wa (1000000 : Int)) (fw_rc 302 h) wa)) ≤ 2147483647 ∧ (-2147483648 ≤ wa + (1 : Int) ∧ wa + (1 : Int) ≤ 2147483647 ∧ (jf fw_T (d + 2) 80 10 [(0, .inr (.inl 296)), (1, .inl h), (2, .inl dd), (3, .inl (wa + (1 : Int)))] [] (fw_up (fw_upr (fw_put [301, 303, 304, 305, 306, 307, 308, 309, 310, 311, 312, 313, 314, 315, 316] 0 [] W f) 302 h wa (1000000 : Int)) 301 h (min (fw_g f 301 h) (fw_g (fw_upr (fw_put [301, 303, 304, 305, 306, 307, 308, 309, 310, 311, 312, 313, 314, 315, 316] 0 [] W f) 302 h wa (1000000 : Int)) (fw_rc 302 h) wa))) Post))) :
    jf fw_T (d + 2) 80 75 [(0, .inr (.inl 296)), (1, .inl h), (2, .inl dd), (3, .inl wa)] [.inl (fw_g (fw_upr (fw_put [301, 303, 304, 305, 306, 307, 308, 309, 310, 311, 312, 313, 314, 315, 316] 0 [] W f) 302 h wa (1000000 : Int)) (fw_rc 302 h) wa), .inl (fw_g f 301 h), .inl h, .inr (.inl 301)] (fw_upr (fw_put [301, 303, 304, 305, 306, 307, 308, 309, 310, 311, 312, 313, 314, 315, 316] 0 [] W f) 302 h wa (1000000 : Int)) Post := fw_ok (n := 5) (ss := [(10, [0, 1, 2, 3]), (110, [0, 1, 3, 4])]) (hv := []) fr_80_ok fv_tryx_ok (ct_k_serveX_ok d) hw_

theorem s_k_serveX_10_l7 {Post : Option fw_V → fw_W → Prop} {d : Nat} {W : fw_W} {h dd wa : Int} {f : fw_W}
    (hw_ : 0 ≤ h ∧ h < 14 ∧ 0 ≤ wa ∧ wa < 14 ∧ (-2147483648 ≤ (fw_g (fw_upr (fw_put [301, 303, 304, 305, 306, 307, 308, 309, 310, 311, 312, 313, 314, 315, 316] 0 [] W f) 302 h wa (1000000 : Int)) (fw_rc 302 h) wa) → (fw_g (fw_upr (fw_put [301, 303, 304, 305, 306, 307, 308, 309, 310, 311, 312, 313, 314, 315, 316] 0 [] W f) 302 h wa (1000000 : Int)) (fw_rc 302 h) wa) ≤ 2147483647 → 0 ≤ h ∧ h < 14 ∧ -2147483648 ≤ (min (fw_g f 301 h) (fw_g (fw_upr (fw_put [301, 303, 304, 305, 306, 307, 308, 309, 310, 311, 312, 313, 314, 315, 316] 0 [] W f) 302 h wa (1000000 : Int)) (fw_rc 302 h) wa)) ∧ (min (fw_g f 301 h) (fw_g (fw_upr (fw_put [301, 303, 304, 305, 306, 307, 308, 309, 310, 311, 312, 313, 314, 315, 316] 0 [] W f) 302 h wa (1000000 : Int)) (fw_rc 302 h) wa)) ≤ 2147483647 ∧ (-2147483648 ≤ wa + (1 : Int) ∧ wa + (1 : Int) ≤ 2147483647 ∧ (jf fw_T (d + 2) 80 10 [(0, .inr (.inl 296)), (1, .inl h), (2, .inl dd), (3, .inl (wa + (1 : Int)))] [] (fw_up (fw_upr (fw_put [301, 303, 304, 305, 306, 307, 308, 309, 310, 311, 312, 313, 314, 315, 316] 0 [] W f) 302 h wa (1000000 : Int)) 301 h (min (fw_g f 301 h) (fw_g (fw_upr (fw_put [301, 303, 304, 305, 306, 307, 308, 309, 310, 311, 312, 313, 314, 315, 316] 0 [] W f) 302 h wa (1000000 : Int)) (fw_rc 302 h) wa))) Post)))) :
    jf fw_T (d + 2) 80 74 [(0, .inr (.inl 296)), (1, .inl h), (2, .inl dd), (3, .inl wa)] [.inl wa, .inr (.inl (fw_rc 302 h)), .inl (fw_g f 301 h), .inl h, .inr (.inl 301)] (fw_upr (fw_put [301, 303, 304, 305, 306, 307, 308, 309, 310, 311, 312, 313, 314, 315, 316] 0 [] W f) 302 h wa (1000000 : Int)) Post := jf_ial (j := 46) kr_302 fr_80_ok rfl ⟨hw_.1, hw_.2.1, hw_.2.2.1, hw_.2.2.2.1, fun g1_ g2_ => s_k_serveX_10_n8 (hw_.2.2.2.2 g1_ g2_)⟩

theorem s_k_serveX_10_n6 {Post : Option fw_V → fw_W → Prop} {d : Nat} {W : fw_W} {h dd wa : Int} {f : fw_W}
    (hw_ : 0 ≤ h ∧ h < 14 ∧ 0 ≤ wa ∧ wa < 14 ∧ (-2147483648 ≤ (fw_g (fw_upr (fw_put [301, 303, 304, 305, 306, 307, 308, 309, 310, 311, 312, 313, 314, 315, 316] 0 [] W f) 302 h wa (1000000 : Int)) (fw_rc 302 h) wa) → (fw_g (fw_upr (fw_put [301, 303, 304, 305, 306, 307, 308, 309, 310, 311, 312, 313, 314, 315, 316] 0 [] W f) 302 h wa (1000000 : Int)) (fw_rc 302 h) wa) ≤ 2147483647 → 0 ≤ h ∧ h < 14 ∧ -2147483648 ≤ (min (fw_g f 301 h) (fw_g (fw_upr (fw_put [301, 303, 304, 305, 306, 307, 308, 309, 310, 311, 312, 313, 314, 315, 316] 0 [] W f) 302 h wa (1000000 : Int)) (fw_rc 302 h) wa)) ∧ (min (fw_g f 301 h) (fw_g (fw_upr (fw_put [301, 303, 304, 305, 306, 307, 308, 309, 310, 311, 312, 313, 314, 315, 316] 0 [] W f) 302 h wa (1000000 : Int)) (fw_rc 302 h) wa)) ≤ 2147483647 ∧ (-2147483648 ≤ wa + (1 : Int) ∧ wa + (1 : Int) ≤ 2147483647 ∧ (jf fw_T (d + 2) 80 10 [(0, .inr (.inl 296)), (1, .inl h), (2, .inl dd), (3, .inl (wa + (1 : Int)))] [] (fw_up (fw_upr (fw_put [301, 303, 304, 305, 306, 307, 308, 309, 310, 311, 312, 313, 314, 315, 316] 0 [] W f) 302 h wa (1000000 : Int)) 301 h (min (fw_g f 301 h) (fw_g (fw_upr (fw_put [301, 303, 304, 305, 306, 307, 308, 309, 310, 311, 312, 313, 314, 315, 316] 0 [] W f) 302 h wa (1000000 : Int)) (fw_rc 302 h) wa))) Post)))) :
    jf fw_T (d + 2) 80 73 [(0, .inr (.inl 296)), (1, .inl h), (2, .inl dd), (3, .inl wa)] [.inr (.inl (fw_rc 302 h)), .inl (fw_g f 301 h), .inl h, .inr (.inl 301)] (fw_upr (fw_put [301, 303, 304, 305, 306, 307, 308, 309, 310, 311, 312, 313, 314, 315, 316] 0 [] W f) 302 h wa (1000000 : Int)) Post := by
  refine fw_ok (n := 2) (ss := [(10, [0, 1, 2, 3]), (74, [0, 1, 2, 3]), (110, [0, 1, 3, 4])]) (hv := []) fr_80_ok fv_tryx_ok (ct_k_serveX_ok d) ?_
  show jf fw_T (d + 2) 80 74 [(0, .inr (.inl 296)), (1, .inl h), (2, .inl dd), (3, .inl wa)] [.inl wa, .inr (.inl (fw_rc 302 h)), .inl (fw_g f 301 h), .inl h, .inr (.inl 301)] (fw_upr (fw_put [301, 303, 304, 305, 306, 307, 308, 309, 310, 311, 312, 313, 314, 315, 316] 0 [] W f) 302 h wa (1000000 : Int)) Post
  revert hw_
  repeat' (first | (refine And.imp ?_ ?_) | (refine rw_imp ?_) | (refine rw_all ?_; intro _) | exact s_k_serveX_10_l7 | exact fun x_ => x_)

theorem s_k_serveX_10_l5 {Post : Option fw_V → fw_W → Prop} {d : Nat} {W : fw_W} {h dd wa : Int} {f : fw_W}
    (hw_ : 0 ≤ h ∧ h < 14 ∧ (0 ≤ h ∧ h < 14 ∧ 0 ≤ wa ∧ wa < 14 ∧ (-2147483648 ≤ (fw_g (fw_upr (fw_put [301, 303, 304, 305, 306, 307, 308, 309, 310, 311, 312, 313, 314, 315, 316] 0 [] W f) 302 h wa (1000000 : Int)) (fw_rc 302 h) wa) → (fw_g (fw_upr (fw_put [301, 303, 304, 305, 306, 307, 308, 309, 310, 311, 312, 313, 314, 315, 316] 0 [] W f) 302 h wa (1000000 : Int)) (fw_rc 302 h) wa) ≤ 2147483647 → 0 ≤ h ∧ h < 14 ∧ -2147483648 ≤ (min (fw_g f 301 h) (fw_g (fw_upr (fw_put [301, 303, 304, 305, 306, 307, 308, 309, 310, 311, 312, 313, 314, 315, 316] 0 [] W f) 302 h wa (1000000 : Int)) (fw_rc 302 h) wa)) ∧ (min (fw_g f 301 h) (fw_g (fw_upr (fw_put [301, 303, 304, 305, 306, 307, 308, 309, 310, 311, 312, 313, 314, 315, 316] 0 [] W f) 302 h wa (1000000 : Int)) (fw_rc 302 h) wa)) ≤ 2147483647 ∧ (-2147483648 ≤ wa + (1 : Int) ∧ wa + (1 : Int) ≤ 2147483647 ∧ (jf fw_T (d + 2) 80 10 [(0, .inr (.inl 296)), (1, .inl h), (2, .inl dd), (3, .inl (wa + (1 : Int)))] [] (fw_up (fw_upr (fw_put [301, 303, 304, 305, 306, 307, 308, 309, 310, 311, 312, 313, 314, 315, 316] 0 [] W f) 302 h wa (1000000 : Int)) 301 h (min (fw_g f 301 h) (fw_g (fw_upr (fw_put [301, 303, 304, 305, 306, 307, 308, 309, 310, 311, 312, 313, 314, 315, 316] 0 [] W f) 302 h wa (1000000 : Int)) (fw_rc 302 h) wa))) Post))))) :
    jf fw_T (d + 2) 80 72 [(0, .inr (.inl 296)), (1, .inl h), (2, .inl dd), (3, .inl wa)] [.inl h, .inr (.inl 302), .inl (fw_g f 301 h), .inl h, .inr (.inl 301)] (fw_upr (fw_put [301, 303, 304, 305, 306, 307, 308, 309, 310, 311, 312, 313, 314, 315, 316] 0 [] W f) 302 h wa (1000000 : Int)) Post := jf_aal (j := 44) kr_302 fr_80_ok rfl ⟨hw_.1, hw_.2.1, s_k_serveX_10_n6 hw_.2.2⟩

theorem s_k_serveX_10_n4 {Post : Option fw_V → fw_W → Prop} {d : Nat} {W : fw_W} {h dd wa : Int} {f : fw_W}
    (hw_ : 0 ≤ h ∧ h < 14 ∧ (-2147483648 ≤ (fw_g f 301 h) → (fw_g f 301 h) ≤ 2147483647 → 0 ≤ h ∧ h < 14 ∧ (0 ≤ h ∧ h < 14 ∧ 0 ≤ wa ∧ wa < 14 ∧ (-2147483648 ≤ (fw_g (fw_upr (fw_put [301, 303, 304, 305, 306, 307, 308, 309, 310, 311, 312, 313, 314, 315, 316] 0 [] W f) 302 h wa (1000000 : Int)) (fw_rc 302 h) wa) → (fw_g (fw_upr (fw_put [301, 303, 304, 305, 306, 307, 308, 309, 310, 311, 312, 313, 314, 315, 316] 0 [] W f) 302 h wa (1000000 : Int)) (fw_rc 302 h) wa) ≤ 2147483647 → 0 ≤ h ∧ h < 14 ∧ -2147483648 ≤ (min (fw_g f 301 h) (fw_g (fw_upr (fw_put [301, 303, 304, 305, 306, 307, 308, 309, 310, 311, 312, 313, 314, 315, 316] 0 [] W f) 302 h wa (1000000 : Int)) (fw_rc 302 h) wa)) ∧ (min (fw_g f 301 h) (fw_g (fw_upr (fw_put [301, 303, 304, 305, 306, 307, 308, 309, 310, 311, 312, 313, 314, 315, 316] 0 [] W f) 302 h wa (1000000 : Int)) (fw_rc 302 h) wa)) ≤ 2147483647 ∧ (-2147483648 ≤ wa + (1 : Int) ∧ wa + (1 : Int) ≤ 2147483647 ∧ (jf fw_T (d + 2) 80 10 [(0, .inr (.inl 296)), (1, .inl h), (2, .inl dd), (3, .inl (wa + (1 : Int)))] [] (fw_up (fw_upr (fw_put [301, 303, 304, 305, 306, 307, 308, 309, 310, 311, 312, 313, 314, 315, 316] 0 [] W f) 302 h wa (1000000 : Int)) 301 h (min (fw_g f 301 h) (fw_g (fw_upr (fw_put [301, 303, 304, 305, 306, 307, 308, 309, 310, 311, 312, 313, 314, 315, 316] 0 [] W f) 302 h wa (1000000 : Int)) (fw_rc 302 h) wa))) Post)))))) :
    jf fw_T (d + 2) 80 56 [(0, .inr (.inl 296)), (1, .inl h), (2, .inl dd), (3, .inl wa)] [] (fw_upr (fw_put [301, 303, 304, 305, 306, 307, 308, 309, 310, 311, 312, 313, 314, 315, 316] 0 [] W f) 302 h wa (1000000 : Int)) Post := by
  refine fw_ok (n := 11) (ss := [(10, [0, 1, 2, 3]), (72, [0, 1, 2, 3]), (110, [0, 1, 3, 4])]) (hv := []) fr_80_ok fv_tryx_ok (ct_k_serveX_ok d) ?_
  show 0 ≤ h ∧ h < 14 ∧ (-2147483648 ≤ (fw_g f 301 h) → (fw_g f 301 h) ≤ 2147483647 → jf fw_T (d + 2) 80 72 [(0, .inr (.inl 296)), (1, .inl h), (2, .inl dd), (3, .inl wa)] [.inl h, .inr (.inl 302), .inl (fw_g f 301 h), .inl h, .inr (.inl 301)] (fw_upr (fw_put [301, 303, 304, 305, 306, 307, 308, 309, 310, 311, 312, 313, 314, 315, 316] 0 [] W f) 302 h wa (1000000 : Int)) Post)
  revert hw_
  repeat' (first | (refine And.imp ?_ ?_) | (refine rw_imp ?_) | (refine rw_all ?_; intro _) | exact s_k_serveX_10_l5 | exact fun x_ => x_)

theorem s_k_serveX_10_l3 {Post : Option fw_V → fw_W → Prop} {d : Nat} {W : fw_W} {h dd wa : Int} {f : fw_W}
    (hw_ : 0 ≤ h ∧ h < 14 ∧ 0 ≤ wa ∧ wa < 14 ∧ (0 ≤ h ∧ h < 14 ∧ (-2147483648 ≤ (fw_g f 301 h) → (fw_g f 301 h) ≤ 2147483647 → 0 ≤ h ∧ h < 14 ∧ (0 ≤ h ∧ h < 14 ∧ 0 ≤ wa ∧ wa < 14 ∧ (-2147483648 ≤ (fw_g (fw_upr (fw_put [301, 303, 304, 305, 306, 307, 308, 309, 310, 311, 312, 313, 314, 315, 316] 0 [] W f) 302 h wa (1000000 : Int)) (fw_rc 302 h) wa) → (fw_g (fw_upr (fw_put [301, 303, 304, 305, 306, 307, 308, 309, 310, 311, 312, 313, 314, 315, 316] 0 [] W f) 302 h wa (1000000 : Int)) (fw_rc 302 h) wa) ≤ 2147483647 → 0 ≤ h ∧ h < 14 ∧ -2147483648 ≤ (min (fw_g f 301 h) (fw_g (fw_upr (fw_put [301, 303, 304, 305, 306, 307, 308, 309, 310, 311, 312, 313, 314, 315, 316] 0 [] W f) 302 h wa (1000000 : Int)) (fw_rc 302 h) wa)) ∧ (min (fw_g f 301 h) (fw_g (fw_upr (fw_put [301, 303, 304, 305, 306, 307, 308, 309, 310, 311, 312, 313, 314, 315, 316] 0 [] W f) 302 h wa (1000000 : Int)) (fw_rc 302 h) wa)) ≤ 2147483647 ∧ (-2147483648 ≤ wa + (1 : Int) ∧ wa + (1 : Int) ≤ 2147483647 ∧ (jf fw_T (d + 2) 80 10 [(0, .inr (.inl 296)), (1, .inl h), (2, .inl dd), (3, .inl (wa + (1 : Int)))] [] (fw_up (fw_upr (fw_put [301, 303, 304, 305, 306, 307, 308, 309, 310, 311, 312, 313, 314, 315, 316] 0 [] W f) 302 h wa (1000000 : Int)) 301 h (min (fw_g f 301 h) (fw_g (fw_upr (fw_put [301, 303, 304, 305, 306, 307, 308, 309, 310, 311, 312, 313, 314, 315, 316] 0 [] W f) 302 h wa (1000000 : Int)) (fw_rc 302 h) wa))) Post))))))) :
    jf fw_T (d + 2) 80 55 [(0, .inr (.inl 296)), (1, .inl h), (2, .inl dd), (3, .inl wa)] [.inl (1000000 : Int), .inl wa, .inr (.inl (fw_rc 302 h))] (fw_put [301, 303, 304, 305, 306, 307, 308, 309, 310, 311, 312, 313, 314, 315, 316] 0 [] W f) Post := jf_ias (j := 33) kr_302 fr_80_ok rfl ⟨hw_.1, hw_.2.1, hw_.2.2.1, hw_.2.2.2.1, s_k_serveX_10_n4 hw_.2.2.2.2⟩

theorem s_k_serveX_10_n2 {Post : Option fw_V → fw_W → Prop} {d : Nat} {W : fw_W} {h dd wa : Int} {f : fw_W}
    (hw_ : 0 ≤ h ∧ h < 14 ∧ 0 ≤ wa ∧ wa < 14 ∧ (0 ≤ h ∧ h < 14 ∧ (-2147483648 ≤ (fw_g f 301 h) → (fw_g f 301 h) ≤ 2147483647 → 0 ≤ h ∧ h < 14 ∧ (0 ≤ h ∧ h < 14 ∧ 0 ≤ wa ∧ wa < 14 ∧ (-2147483648 ≤ (fw_g (fw_upr (fw_put [301, 303, 304, 305, 306, 307, 308, 309, 310, 311, 312, 313, 314, 315, 316] 0 [] W f) 302 h wa (1000000 : Int)) (fw_rc 302 h) wa) → (fw_g (fw_upr (fw_put [301, 303, 304, 305, 306, 307, 308, 309, 310, 311, 312, 313, 314, 315, 316] 0 [] W f) 302 h wa (1000000 : Int)) (fw_rc 302 h) wa) ≤ 2147483647 → 0 ≤ h ∧ h < 14 ∧ -2147483648 ≤ (min (fw_g f 301 h) (fw_g (fw_upr (fw_put [301, 303, 304, 305, 306, 307, 308, 309, 310, 311, 312, 313, 314, 315, 316] 0 [] W f) 302 h wa (1000000 : Int)) (fw_rc 302 h) wa)) ∧ (min (fw_g f 301 h) (fw_g (fw_upr (fw_put [301, 303, 304, 305, 306, 307, 308, 309, 310, 311, 312, 313, 314, 315, 316] 0 [] W f) 302 h wa (1000000 : Int)) (fw_rc 302 h) wa)) ≤ 2147483647 ∧ (-2147483648 ≤ wa + (1 : Int) ∧ wa + (1 : Int) ≤ 2147483647 ∧ (jf fw_T (d + 2) 80 10 [(0, .inr (.inl 296)), (1, .inl h), (2, .inl dd), (3, .inl (wa + (1 : Int)))] [] (fw_up (fw_upr (fw_put [301, 303, 304, 305, 306, 307, 308, 309, 310, 311, 312, 313, 314, 315, 316] 0 [] W f) 302 h wa (1000000 : Int)) 301 h (min (fw_g f 301 h) (fw_g (fw_upr (fw_put [301, 303, 304, 305, 306, 307, 308, 309, 310, 311, 312, 313, 314, 315, 316] 0 [] W f) 302 h wa (1000000 : Int)) (fw_rc 302 h) wa))) Post))))))) :
    jf fw_T (d + 2) 80 52 [(0, .inr (.inl 296)), (1, .inl h), (2, .inl dd), (3, .inl wa)] [.inr (.inl (fw_rc 302 h))] (fw_put [301, 303, 304, 305, 306, 307, 308, 309, 310, 311, 312, 313, 314, 315, 316] 0 [] W f) Post := by
  refine fw_ok (n := 3) (ss := [(10, [0, 1, 2, 3]), (55, [0, 1, 2, 3]), (110, [0, 1, 3, 4])]) (hv := []) fr_80_ok fv_tryx_ok (ct_k_serveX_ok d) ?_
  show jf fw_T (d + 2) 80 55 [(0, .inr (.inl 296)), (1, .inl h), (2, .inl dd), (3, .inl wa)] [.inl (1000000 : Int), .inl wa, .inr (.inl (fw_rc 302 h))] (fw_put [301, 303, 304, 305, 306, 307, 308, 309, 310, 311, 312, 313, 314, 315, 316] 0 [] W f) Post
  revert hw_
  repeat' (first | (refine And.imp ?_ ?_) | (refine rw_imp ?_) | (refine rw_all ?_; intro _) | exact s_k_serveX_10_l3 | exact fun x_ => x_)

theorem s_k_serveX_10_l1 {Post : Option fw_V → fw_W → Prop} {d : Nat} {W : fw_W} {h dd wa : Int} {f : fw_W}
    (hw_ : 0 ≤ h ∧ h < 14 ∧ (0 ≤ h ∧ h < 14 ∧ 0 ≤ wa ∧ wa < 14 ∧ (0 ≤ h ∧ h < 14 ∧ (-2147483648 ≤ (fw_g f 301 h) → (fw_g f 301 h) ≤ 2147483647 → 0 ≤ h ∧ h < 14 ∧ (0 ≤ h ∧ h < 14 ∧ 0 ≤ wa ∧ wa < 14 ∧ (-2147483648 ≤ (fw_g (fw_upr (fw_put [301, 303, 304, 305, 306, 307, 308, 309, 310, 311, 312, 313, 314, 315, 316] 0 [] W f) 302 h wa (1000000 : Int)) (fw_rc 302 h) wa) → (fw_g (fw_upr (fw_put [301, 303, 304, 305, 306, 307, 308, 309, 310, 311, 312, 313, 314, 315, 316] 0 [] W f) 302 h wa (1000000 : Int)) (fw_rc 302 h) wa) ≤ 2147483647 → 0 ≤ h ∧ h < 14 ∧ -2147483648 ≤ (min (fw_g f 301 h) (fw_g (fw_upr (fw_put [301, 303, 304, 305, 306, 307, 308, 309, 310, 311, 312, 313, 314, 315, 316] 0 [] W f) 302 h wa (1000000 : Int)) (fw_rc 302 h) wa)) ∧ (min (fw_g f 301 h) (fw_g (fw_upr (fw_put [301, 303, 304, 305, 306, 307, 308, 309, 310, 311, 312, 313, 314, 315, 316] 0 [] W f) 302 h wa (1000000 : Int)) (fw_rc 302 h) wa)) ≤ 2147483647 ∧ (-2147483648 ≤ wa + (1 : Int) ∧ wa + (1 : Int) ≤ 2147483647 ∧ (jf fw_T (d + 2) 80 10 [(0, .inr (.inl 296)), (1, .inl h), (2, .inl dd), (3, .inl (wa + (1 : Int)))] [] (fw_up (fw_upr (fw_put [301, 303, 304, 305, 306, 307, 308, 309, 310, 311, 312, 313, 314, 315, 316] 0 [] W f) 302 h wa (1000000 : Int)) 301 h (min (fw_g f 301 h) (fw_g (fw_upr (fw_put [301, 303, 304, 305, 306, 307, 308, 309, 310, 311, 312, 313, 314, 315, 316] 0 [] W f) 302 h wa (1000000 : Int)) (fw_rc 302 h) wa))) Post)))))))) :
    jf fw_T (d + 2) 80 51 [(0, .inr (.inl 296)), (1, .inl h), (2, .inl dd), (3, .inl wa)] [.inl h, .inr (.inl 302)] (fw_put [301, 303, 304, 305, 306, 307, 308, 309, 310, 311, 312, 313, 314, 315, 316] 0 [] W f) Post := jf_aal (j := 30) kr_302 fr_80_ok rfl ⟨hw_.1, hw_.2.1, s_k_serveX_10_n2 hw_.2.2⟩

theorem s_k_serveX_10_n16 {Post : Option fw_V → fw_W → Prop} {d : Nat} {W : fw_W} {h dd wa : Int} {f : fw_W}
    (hw_ : 0 ≤ h ∧ h < 14 ∧ -2147483648 ≤ (min (fw_g f 301 h) (fw_g (fw_put [301, 303, 304, 305, 306, 307, 308, 309, 310, 311, 312, 313, 314, 315, 316] 0 [] W f) (fw_rc 302 h) wa)) ∧ (min (fw_g f 301 h) (fw_g (fw_put [301, 303, 304, 305, 306, 307, 308, 309, 310, 311, 312, 313, 314, 315, 316] 0 [] W f) (fw_rc 302 h) wa)) ≤ 2147483647 ∧ (-2147483648 ≤ wa + (1 : Int) ∧ wa + (1 : Int) ≤ 2147483647 ∧ (jf fw_T (d + 2) 80 10 [(0, .inr (.inl 296)), (1, .inl h), (2, .inl dd), (3, .inl (wa + (1 : Int)))] [] (fw_up (fw_put [301, 303, 304, 305, 306, 307, 308, 309, 310, 311, 312, 313, 314, 315, 316] 0 [] W f) 301 h (min (fw_g f 301 h) (fw_g (fw_put [301, 303, 304, 305, 306, 307, 308, 309, 310, 311, 312, 313, 314, 315, 316] 0 [] W f) (fw_rc 302 h) wa))) Post))) :
    jf fw_T (d + 2) 80 75 [(0, .inr (.inl 296)), (1, .inl h), (2, .inl dd), (3, .inl wa)] [.inl (fw_g (fw_put [301, 303, 304, 305, 306, 307, 308, 309, 310, 311, 312, 313, 314, 315, 316] 0 [] W f) (fw_rc 302 h) wa), .inl (fw_g f 301 h), .inl h, .inr (.inl 301)] (fw_put [301, 303, 304, 305, 306, 307, 308, 309, 310, 311, 312, 313, 314, 315, 316] 0 [] W f) Post := fw_ok (n := 5) (ss := [(10, [0, 1, 2, 3]), (110, [0, 1, 3, 4])]) (hv := []) fr_80_ok fv_tryx_ok (ct_k_serveX_ok d) hw_

theorem s_k_serveX_10_l15 {Post : Option fw_V → fw_W → Prop} {d : Nat} {W : fw_W} {h dd wa : Int} {f : fw_W}
    (hw_ : 0 ≤ h ∧ h < 14 ∧ 0 ≤ wa ∧ wa < 14 ∧ (-2147483648 ≤ (fw_g (fw_put [301, 303, 304, 305, 306, 307, 308, 309, 310, 311, 312, 313, 314, 315, 316] 0 [] W f) (fw_rc 302 h) wa) → (fw_g (fw_put [301, 303, 304, 305, 306, 307, 308, 309, 310, 311, 312, 313, 314, 315, 316] 0 [] W f) (fw_rc 302 h) wa) ≤ 2147483647 → 0 ≤ h ∧ h < 14 ∧ -2147483648 ≤ (min (fw_g f 301 h) (fw_g (fw_put [301, 303, 304, 305, 306, 307, 308, 309, 310, 311, 312, 313, 314, 315, 316] 0 [] W f) (fw_rc 302 h) wa)) ∧ (min (fw_g f 301 h) (fw_g (fw_put [301, 303, 304, 305, 306, 307, 308, 309, 310, 311, 312, 313, 314, 315, 316] 0 [] W f) (fw_rc 302 h) wa)) ≤ 2147483647 ∧ (-2147483648 ≤ wa + (1 : Int) ∧ wa + (1 : Int) ≤ 2147483647 ∧ (jf fw_T (d + 2) 80 10 [(0, .inr (.inl 296)), (1, .inl h), (2, .inl dd), (3, .inl (wa + (1 : Int)))] [] (fw_up (fw_put [301, 303, 304, 305, 306, 307, 308, 309, 310, 311, 312, 313, 314, 315, 316] 0 [] W f) 301 h (min (fw_g f 301 h) (fw_g (fw_put [301, 303, 304, 305, 306, 307, 308, 309, 310, 311, 312, 313, 314, 315, 316] 0 [] W f) (fw_rc 302 h) wa))) Post)))) :
    jf fw_T (d + 2) 80 74 [(0, .inr (.inl 296)), (1, .inl h), (2, .inl dd), (3, .inl wa)] [.inl wa, .inr (.inl (fw_rc 302 h)), .inl (fw_g f 301 h), .inl h, .inr (.inl 301)] (fw_put [301, 303, 304, 305, 306, 307, 308, 309, 310, 311, 312, 313, 314, 315, 316] 0 [] W f) Post := jf_ial (j := 46) kr_302 fr_80_ok rfl ⟨hw_.1, hw_.2.1, hw_.2.2.1, hw_.2.2.2.1, fun g1_ g2_ => s_k_serveX_10_n16 (hw_.2.2.2.2 g1_ g2_)⟩

theorem s_k_serveX_10_n14 {Post : Option fw_V → fw_W → Prop} {d : Nat} {W : fw_W} {h dd wa : Int} {f : fw_W}
    (hw_ : 0 ≤ h ∧ h < 14 ∧ 0 ≤ wa ∧ wa < 14 ∧ (-2147483648 ≤ (fw_g (fw_put [301, 303, 304, 305, 306, 307, 308, 309, 310, 311, 312, 313, 314, 315, 316] 0 [] W f) (fw_rc 302 h) wa) → (fw_g (fw_put [301, 303, 304, 305, 306, 307, 308, 309, 310, 311, 312, 313, 314, 315, 316] 0 [] W f) (fw_rc 302 h) wa) ≤ 2147483647 → 0 ≤ h ∧ h < 14 ∧ -2147483648 ≤ (min (fw_g f 301 h) (fw_g (fw_put [301, 303, 304, 305, 306, 307, 308, 309, 310, 311, 312, 313, 314, 315, 316] 0 [] W f) (fw_rc 302 h) wa)) ∧ (min (fw_g f 301 h) (fw_g (fw_put [301, 303, 304, 305, 306, 307, 308, 309, 310, 311, 312, 313, 314, 315, 316] 0 [] W f) (fw_rc 302 h) wa)) ≤ 2147483647 ∧ (-2147483648 ≤ wa + (1 : Int) ∧ wa + (1 : Int) ≤ 2147483647 ∧ (jf fw_T (d + 2) 80 10 [(0, .inr (.inl 296)), (1, .inl h), (2, .inl dd), (3, .inl (wa + (1 : Int)))] [] (fw_up (fw_put [301, 303, 304, 305, 306, 307, 308, 309, 310, 311, 312, 313, 314, 315, 316] 0 [] W f) 301 h (min (fw_g f 301 h) (fw_g (fw_put [301, 303, 304, 305, 306, 307, 308, 309, 310, 311, 312, 313, 314, 315, 316] 0 [] W f) (fw_rc 302 h) wa))) Post)))) :
    jf fw_T (d + 2) 80 73 [(0, .inr (.inl 296)), (1, .inl h), (2, .inl dd), (3, .inl wa)] [.inr (.inl (fw_rc 302 h)), .inl (fw_g f 301 h), .inl h, .inr (.inl 301)] (fw_put [301, 303, 304, 305, 306, 307, 308, 309, 310, 311, 312, 313, 314, 315, 316] 0 [] W f) Post := by
  refine fw_ok (n := 2) (ss := [(10, [0, 1, 2, 3]), (74, [0, 1, 2, 3]), (110, [0, 1, 3, 4])]) (hv := []) fr_80_ok fv_tryx_ok (ct_k_serveX_ok d) ?_
  show jf fw_T (d + 2) 80 74 [(0, .inr (.inl 296)), (1, .inl h), (2, .inl dd), (3, .inl wa)] [.inl wa, .inr (.inl (fw_rc 302 h)), .inl (fw_g f 301 h), .inl h, .inr (.inl 301)] (fw_put [301, 303, 304, 305, 306, 307, 308, 309, 310, 311, 312, 313, 314, 315, 316] 0 [] W f) Post
  revert hw_
  repeat' (first | (refine And.imp ?_ ?_) | (refine rw_imp ?_) | (refine rw_all ?_; intro _) | exact s_k_serveX_10_l15 | exact fun x_ => x_)

theorem s_k_serveX_10_l13 {Post : Option fw_V → fw_W → Prop} {d : Nat} {W : fw_W} {h dd wa : Int} {f : fw_W}
    (hw_ : 0 ≤ h ∧ h < 14 ∧ (0 ≤ h ∧ h < 14 ∧ 0 ≤ wa ∧ wa < 14 ∧ (-2147483648 ≤ (fw_g (fw_put [301, 303, 304, 305, 306, 307, 308, 309, 310, 311, 312, 313, 314, 315, 316] 0 [] W f) (fw_rc 302 h) wa) → (fw_g (fw_put [301, 303, 304, 305, 306, 307, 308, 309, 310, 311, 312, 313, 314, 315, 316] 0 [] W f) (fw_rc 302 h) wa) ≤ 2147483647 → 0 ≤ h ∧ h < 14 ∧ -2147483648 ≤ (min (fw_g f 301 h) (fw_g (fw_put [301, 303, 304, 305, 306, 307, 308, 309, 310, 311, 312, 313, 314, 315, 316] 0 [] W f) (fw_rc 302 h) wa)) ∧ (min (fw_g f 301 h) (fw_g (fw_put [301, 303, 304, 305, 306, 307, 308, 309, 310, 311, 312, 313, 314, 315, 316] 0 [] W f) (fw_rc 302 h) wa)) ≤ 2147483647 ∧ (-2147483648 ≤ wa + (1 : Int) ∧ wa + (1 : Int) ≤ 2147483647 ∧ (jf fw_T (d + 2) 80 10 [(0, .inr (.inl 296)), (1, .inl h), (2, .inl dd), (3, .inl (wa + (1 : Int)))] [] (fw_up (fw_put [301, 303, 304, 305, 306, 307, 308, 309, 310, 311, 312, 313, 314, 315, 316] 0 [] W f) 301 h (min (fw_g f 301 h) (fw_g (fw_put [301, 303, 304, 305, 306, 307, 308, 309, 310, 311, 312, 313, 314, 315, 316] 0 [] W f) (fw_rc 302 h) wa))) Post))))) :
    jf fw_T (d + 2) 80 72 [(0, .inr (.inl 296)), (1, .inl h), (2, .inl dd), (3, .inl wa)] [.inl h, .inr (.inl 302), .inl (fw_g f 301 h), .inl h, .inr (.inl 301)] (fw_put [301, 303, 304, 305, 306, 307, 308, 309, 310, 311, 312, 313, 314, 315, 316] 0 [] W f) Post := jf_aal (j := 44) kr_302 fr_80_ok rfl ⟨hw_.1, hw_.2.1, s_k_serveX_10_n14 hw_.2.2⟩

theorem s_k_serveX_10_n24 {Post : Option fw_V → fw_W → Prop} {d : Nat} {W : fw_W} {h dd wa : Int} {f : fw_W}
    (hw_ : 0 ≤ h ∧ h < 14 ∧ -2147483648 ≤ (min (fw_g f 301 h) (fw_g (fw_upr (fw_put [301, 303, 304, 305, 306, 307, 308, 309, 310, 311, 312, 313, 314, 315, 316] 0 [] W f) 302 h wa (1000000 : Int)) (fw_rc 302 h) wa)) ∧ (min (fw_g f 301 h) (fw_g (fw_upr (fw_put [301, 303, 304, 305, 306, 307, 308, 309, 310, 311, 312, 313, 314, 315, 316] 0 [] W f) 302 h wa (1000000 : Int)) (fw_rc 302 h) wa)) ≤ 2147483647 ∧ (-2147483648 ≤ wa + (1 : Int) ∧ wa + (1 : Int) ≤ 2147483647 ∧ (jf fw_T (d + 2) 80 10 [(0, .inr (.inl 296)), (1, .inl h), (2, .inl dd), (3, .inl (wa + (1 : Int)))] [] (fw_up (fw_upr (fw_put [301, 303, 304, 305, 306, 307, 308, 309, 310, 311, 312, 313, 314, 315, 316] 0 [] W f) 302 h wa (1000000 : Int)) 301 h (min (fw_g f 301 h) (fw_g (fw_upr (fw_put [301, 303, 304, 305, 306, 307, 308, 309, 310, 311, 312, 313, 314, 315, 316] 0 [] W f) 302 h wa (1000000 : Int)) (fw_rc 302 h) wa))) Post))) :
    jf fw_T (d + 2) 80 75 [(0, .inr (.inl 296)), (1, .inl h), (2, .inl dd), (3, .inl wa)] [.inl (fw_g (fw_upr (fw_put [301, 303, 304, 305, 306, 307, 308, 309, 310, 311, 312, 313, 314, 315, 316] 0 [] W f) 302 h wa (1000000 : Int)) (fw_rc 302 h) wa), .inl (fw_g f 301 h), .inl h, .inr (.inl 301)] (fw_upr (fw_put [301, 303, 304, 305, 306, 307, 308, 309, 310, 311, 312, 313, 314, 315, 316] 0 [] W f) 302 h wa (1000000 : Int)) Post := fw_ok (n := 5) (ss := [(10, [0, 1, 2, 3]), (110, [0, 1, 3, 4])]) (hv := []) fr_80_ok fv_tryx_ok (ct_k_serveX_ok d) hw_

theorem s_k_serveX_10_l23 {Post : Option fw_V → fw_W → Prop} {d : Nat} {W : fw_W} {h dd wa : Int} {f : fw_W}
    (hw_ : 0 ≤ h ∧ h < 14 ∧ 0 ≤ wa ∧ wa < 14 ∧ (-2147483648 ≤ (fw_g (fw_upr (fw_put [301, 303, 304, 305, 306, 307, 308, 309, 310, 311, 312, 313, 314, 315, 316] 0 [] W f) 302 h wa (1000000 : Int)) (fw_rc 302 h) wa) → (fw_g (fw_upr (fw_put [301, 303, 304, 305, 306, 307, 308, 309, 310, 311, 312, 313, 314, 315, 316] 0 [] W f) 302 h wa (1000000 : Int)) (fw_rc 302 h) wa) ≤ 2147483647 → 0 ≤ h ∧ h < 14 ∧ -2147483648 ≤ (min (fw_g f 301 h) (fw_g (fw_upr (fw_put [301, 303, 304, 305, 306, 307, 308, 309, 310, 311, 312, 313, 314, 315, 316] 0 [] W f) 302 h wa (1000000 : Int)) (fw_rc 302 h) wa)) ∧ (min (fw_g f 301 h) (fw_g (fw_upr (fw_put [301, 303, 304, 305, 306, 307, 308, 309, 310, 311, 312, 313, 314, 315, 316] 0 [] W f) 302 h wa (1000000 : Int)) (fw_rc 302 h) wa)) ≤ 2147483647 ∧ (-2147483648 ≤ wa + (1 : Int) ∧ wa + (1 : Int) ≤ 2147483647 ∧ (jf fw_T (d + 2) 80 10 [(0, .inr (.inl 296)), (1, .inl h), (2, .inl dd), (3, .inl (wa + (1 : Int)))] [] (fw_up (fw_upr (fw_put [301, 303, 304, 305, 306, 307, 308, 309, 310, 311, 312, 313, 314, 315, 316] 0 [] W f) 302 h wa (1000000 : Int)) 301 h (min (fw_g f 301 h) (fw_g (fw_upr (fw_put [301, 303, 304, 305, 306, 307, 308, 309, 310, 311, 312, 313, 314, 315, 316] 0 [] W f) 302 h wa (1000000 : Int)) (fw_rc 302 h) wa))) Post)))) :
    jf fw_T (d + 2) 80 74 [(0, .inr (.inl 296)), (1, .inl h), (2, .inl dd), (3, .inl wa)] [.inl wa, .inr (.inl (fw_rc 302 h)), .inl (fw_g f 301 h), .inl h, .inr (.inl 301)] (fw_upr (fw_put [301, 303, 304, 305, 306, 307, 308, 309, 310, 311, 312, 313, 314, 315, 316] 0 [] W f) 302 h wa (1000000 : Int)) Post := jf_ial (j := 46) kr_302 fr_80_ok rfl ⟨hw_.1, hw_.2.1, hw_.2.2.1, hw_.2.2.2.1, fun g1_ g2_ => s_k_serveX_10_n24 (hw_.2.2.2.2 g1_ g2_)⟩

theorem s_k_serveX_10_n22 {Post : Option fw_V → fw_W → Prop} {d : Nat} {W : fw_W} {h dd wa : Int} {f : fw_W}
    (hw_ : 0 ≤ h ∧ h < 14 ∧ 0 ≤ wa ∧ wa < 14 ∧ (-2147483648 ≤ (fw_g (fw_upr (fw_put [301, 303, 304, 305, 306, 307, 308, 309, 310, 311, 312, 313, 314, 315, 316] 0 [] W f) 302 h wa (1000000 : Int)) (fw_rc 302 h) wa) → (fw_g (fw_upr (fw_put [301, 303, 304, 305, 306, 307, 308, 309, 310, 311, 312, 313, 314, 315, 316] 0 [] W f) 302 h wa (1000000 : Int)) (fw_rc 302 h) wa) ≤ 2147483647 → 0 ≤ h ∧ h < 14 ∧ -2147483648 ≤ (min (fw_g f 301 h) (fw_g (fw_upr (fw_put [301, 303, 304, 305, 306, 307, 308, 309, 310, 311, 312, 313, 314, 315, 316] 0 [] W f) 302 h wa (1000000 : Int)) (fw_rc 302 h) wa)) ∧ (min (fw_g f 301 h) (fw_g (fw_upr (fw_put [301, 303, 304, 305, 306, 307, 308, 309, 310, 311, 312, 313, 314, 315, 316] 0 [] W f) 302 h wa (1000000 : Int)) (fw_rc 302 h) wa)) ≤ 2147483647 ∧ (-2147483648 ≤ wa + (1 : Int) ∧ wa + (1 : Int) ≤ 2147483647 ∧ (jf fw_T (d + 2) 80 10 [(0, .inr (.inl 296)), (1, .inl h), (2, .inl dd), (3, .inl (wa + (1 : Int)))] [] (fw_up (fw_upr (fw_put [301, 303, 304, 305, 306, 307, 308, 309, 310, 311, 312, 313, 314, 315, 316] 0 [] W f) 302 h wa (1000000 : Int)) 301 h (min (fw_g f 301 h) (fw_g (fw_upr (fw_put [301, 303, 304, 305, 306, 307, 308, 309, 310, 311, 312, 313, 314, 315, 316] 0 [] W f) 302 h wa (1000000 : Int)) (fw_rc 302 h) wa))) Post)))) :
    jf fw_T (d + 2) 80 73 [(0, .inr (.inl 296)), (1, .inl h), (2, .inl dd), (3, .inl wa)] [.inr (.inl (fw_rc 302 h)), .inl (fw_g f 301 h), .inl h, .inr (.inl 301)] (fw_upr (fw_put [301, 303, 304, 305, 306, 307, 308, 309, 310, 311, 312, 313, 314, 315, 316] 0 [] W f) 302 h wa (1000000 : Int)) Post := by
  refine fw_ok (n := 2) (ss := [(10, [0, 1, 2, 3]), (74, [0, 1, 2, 3]), (110, [0, 1, 3, 4])]) (hv := []) fr_80_ok fv_tryx_ok (ct_k_serveX_ok d) ?_
  show jf fw_T (d + 2) 80 74 [(0, .inr (.inl 296)), (1, .inl h), (2, .inl dd), (3, .inl wa)] [.inl wa, .inr (.inl (fw_rc 302 h)), .inl (fw_g f 301 h), .inl h, .inr (.inl 301)] (fw_upr (fw_put [301, 303, 304, 305, 306, 307, 308, 309, 310, 311, 312, 313, 314, 315, 316] 0 [] W f) 302 h wa (1000000 : Int)) Post
  revert hw_
  repeat' (first | (refine And.imp ?_ ?_) | (refine rw_imp ?_) | (refine rw_all ?_; intro _) | exact s_k_serveX_10_l23 | exact fun x_ => x_)

theorem s_k_serveX_10_l21 {Post : Option fw_V → fw_W → Prop} {d : Nat} {W : fw_W} {h dd wa : Int} {f : fw_W}
    (hw_ : 0 ≤ h ∧ h < 14 ∧ (0 ≤ h ∧ h < 14 ∧ 0 ≤ wa ∧ wa < 14 ∧ (-2147483648 ≤ (fw_g (fw_upr (fw_put [301, 303, 304, 305, 306, 307, 308, 309, 310, 311, 312, 313, 314, 315, 316] 0 [] W f) 302 h wa (1000000 : Int)) (fw_rc 302 h) wa) → (fw_g (fw_upr (fw_put [301, 303, 304, 305, 306, 307, 308, 309, 310, 311, 312, 313, 314, 315, 316] 0 [] W f) 302 h wa (1000000 : Int)) (fw_rc 302 h) wa) ≤ 2147483647 → 0 ≤ h ∧ h < 14 ∧ -2147483648 ≤ (min (fw_g f 301 h) (fw_g (fw_upr (fw_put [301, 303, 304, 305, 306, 307, 308, 309, 310, 311, 312, 313, 314, 315, 316] 0 [] W f) 302 h wa (1000000 : Int)) (fw_rc 302 h) wa)) ∧ (min (fw_g f 301 h) (fw_g (fw_upr (fw_put [301, 303, 304, 305, 306, 307, 308, 309, 310, 311, 312, 313, 314, 315, 316] 0 [] W f) 302 h wa (1000000 : Int)) (fw_rc 302 h) wa)) ≤ 2147483647 ∧ (-2147483648 ≤ wa + (1 : Int) ∧ wa + (1 : Int) ≤ 2147483647 ∧ (jf fw_T (d + 2) 80 10 [(0, .inr (.inl 296)), (1, .inl h), (2, .inl dd), (3, .inl (wa + (1 : Int)))] [] (fw_up (fw_upr (fw_put [301, 303, 304, 305, 306, 307, 308, 309, 310, 311, 312, 313, 314, 315, 316] 0 [] W f) 302 h wa (1000000 : Int)) 301 h (min (fw_g f 301 h) (fw_g (fw_upr (fw_put [301, 303, 304, 305, 306, 307, 308, 309, 310, 311, 312, 313, 314, 315, 316] 0 [] W f) 302 h wa (1000000 : Int)) (fw_rc 302 h) wa))) Post))))) :
    jf fw_T (d + 2) 80 72 [(0, .inr (.inl 296)), (1, .inl h), (2, .inl dd), (3, .inl wa)] [.inl h, .inr (.inl 302), .inl (fw_g f 301 h), .inl h, .inr (.inl 301)] (fw_upr (fw_put [301, 303, 304, 305, 306, 307, 308, 309, 310, 311, 312, 313, 314, 315, 316] 0 [] W f) 302 h wa (1000000 : Int)) Post := jf_aal (j := 44) kr_302 fr_80_ok rfl ⟨hw_.1, hw_.2.1, s_k_serveX_10_n22 hw_.2.2⟩

theorem s_k_serveX_10_n20 {Post : Option fw_V → fw_W → Prop} {d : Nat} {W : fw_W} {h dd wa : Int} {f : fw_W}
    (hw_ : 0 ≤ h ∧ h < 14 ∧ (-2147483648 ≤ (fw_g f 301 h) → (fw_g f 301 h) ≤ 2147483647 → 0 ≤ h ∧ h < 14 ∧ (0 ≤ h ∧ h < 14 ∧ 0 ≤ wa ∧ wa < 14 ∧ (-2147483648 ≤ (fw_g (fw_upr (fw_put [301, 303, 304, 305, 306, 307, 308, 309, 310, 311, 312, 313, 314, 315, 316] 0 [] W f) 302 h wa (1000000 : Int)) (fw_rc 302 h) wa) → (fw_g (fw_upr (fw_put [301, 303, 304, 305, 306, 307, 308, 309, 310, 311, 312, 313, 314, 315, 316] 0 [] W f) 302 h wa (1000000 : Int)) (fw_rc 302 h) wa) ≤ 2147483647 → 0 ≤ h ∧ h < 14 ∧ -2147483648 ≤ (min (fw_g f 301 h) (fw_g (fw_upr (fw_put [301, 303, 304, 305, 306, 307, 308, 309, 310, 311, 312, 313, 314, 315, 316] 0 [] W f) 302 h wa (1000000 : Int)) (fw_rc 302 h) wa)) ∧ (min (fw_g f 301 h) (fw_g (fw_upr (fw_put [301, 303, 304, 305, 306, 307, 308, 309, 310, 311, 312, 313, 314, 315, 316] 0 [] W f) 302 h wa (1000000 : Int)) (fw_rc 302 h) wa)) ≤ 2147483647 ∧ (-2147483648 ≤ wa + (1 : Int) ∧ wa + (1 : Int) ≤ 2147483647 ∧ (jf fw_T (d + 2) 80 10 [(0, .inr (.inl 296)), (1, .inl h), (2, .inl dd), (3, .inl (wa + (1 : Int)))] [] (fw_up (fw_upr (fw_put [301, 303, 304, 305, 306, 307, 308, 309, 310, 311, 312, 313, 314, 315, 316] 0 [] W f) 302 h wa (1000000 : Int)) 301 h (min (fw_g f 301 h) (fw_g (fw_upr (fw_put [301, 303, 304, 305, 306, 307, 308, 309, 310, 311, 312, 313, 314, 315, 316] 0 [] W f) 302 h wa (1000000 : Int)) (fw_rc 302 h) wa))) Post)))))) :
    jf fw_T (d + 2) 80 56 [(0, .inr (.inl 296)), (1, .inl h), (2, .inl dd), (3, .inl wa)] [] (fw_upr (fw_put [301, 303, 304, 305, 306, 307, 308, 309, 310, 311, 312, 313, 314, 315, 316] 0 [] W f) 302 h wa (1000000 : Int)) Post := by
  refine fw_ok (n := 11) (ss := [(10, [0, 1, 2, 3]), (72, [0, 1, 2, 3]), (110, [0, 1, 3, 4])]) (hv := []) fr_80_ok fv_tryx_ok (ct_k_serveX_ok d) ?_
  show 0 ≤ h ∧ h < 14 ∧ (-2147483648 ≤ (fw_g f 301 h) → (fw_g f 301 h) ≤ 2147483647 → jf fw_T (d + 2) 80 72 [(0, .inr (.inl 296)), (1, .inl h), (2, .inl dd), (3, .inl wa)] [.inl h, .inr (.inl 302), .inl (fw_g f 301 h), .inl h, .inr (.inl 301)] (fw_upr (fw_put [301, 303, 304, 305, 306, 307, 308, 309, 310, 311, 312, 313, 314, 315, 316] 0 [] W f) 302 h wa (1000000 : Int)) Post)
  revert hw_
  repeat' (first | (refine And.imp ?_ ?_) | (refine rw_imp ?_) | (refine rw_all ?_; intro _) | exact s_k_serveX_10_l21 | exact fun x_ => x_)

theorem s_k_serveX_10_l19 {Post : Option fw_V → fw_W → Prop} {d : Nat} {W : fw_W} {h dd wa : Int} {f : fw_W}
    (hw_ : 0 ≤ h ∧ h < 14 ∧ 0 ≤ wa ∧ wa < 14 ∧ (0 ≤ h ∧ h < 14 ∧ (-2147483648 ≤ (fw_g f 301 h) → (fw_g f 301 h) ≤ 2147483647 → 0 ≤ h ∧ h < 14 ∧ (0 ≤ h ∧ h < 14 ∧ 0 ≤ wa ∧ wa < 14 ∧ (-2147483648 ≤ (fw_g (fw_upr (fw_put [301, 303, 304, 305, 306, 307, 308, 309, 310, 311, 312, 313, 314, 315, 316] 0 [] W f) 302 h wa (1000000 : Int)) (fw_rc 302 h) wa) → (fw_g (fw_upr (fw_put [301, 303, 304, 305, 306, 307, 308, 309, 310, 311, 312, 313, 314, 315, 316] 0 [] W f) 302 h wa (1000000 : Int)) (fw_rc 302 h) wa) ≤ 2147483647 → 0 ≤ h ∧ h < 14 ∧ -2147483648 ≤ (min (fw_g f 301 h) (fw_g (fw_upr (fw_put [301, 303, 304, 305, 306, 307, 308, 309, 310, 311, 312, 313, 314, 315, 316] 0 [] W f) 302 h wa (1000000 : Int)) (fw_rc 302 h) wa)) ∧ (min (fw_g f 301 h) (fw_g (fw_upr (fw_put [301, 303, 304, 305, 306, 307, 308, 309, 310, 311, 312, 313, 314, 315, 316] 0 [] W f) 302 h wa (1000000 : Int)) (fw_rc 302 h) wa)) ≤ 2147483647 ∧ (-2147483648 ≤ wa + (1 : Int) ∧ wa + (1 : Int) ≤ 2147483647 ∧ (jf fw_T (d + 2) 80 10 [(0, .inr (.inl 296)), (1, .inl h), (2, .inl dd), (3, .inl (wa + (1 : Int)))] [] (fw_up (fw_upr (fw_put [301, 303, 304, 305, 306, 307, 308, 309, 310, 311, 312, 313, 314, 315, 316] 0 [] W f) 302 h wa (1000000 : Int)) 301 h (min (fw_g f 301 h) (fw_g (fw_upr (fw_put [301, 303, 304, 305, 306, 307, 308, 309, 310, 311, 312, 313, 314, 315, 316] 0 [] W f) 302 h wa (1000000 : Int)) (fw_rc 302 h) wa))) Post))))))) :
    jf fw_T (d + 2) 80 55 [(0, .inr (.inl 296)), (1, .inl h), (2, .inl dd), (3, .inl wa)] [.inl (1000000 : Int), .inl wa, .inr (.inl (fw_rc 302 h))] (fw_put [301, 303, 304, 305, 306, 307, 308, 309, 310, 311, 312, 313, 314, 315, 316] 0 [] W f) Post := jf_ias (j := 33) kr_302 fr_80_ok rfl ⟨hw_.1, hw_.2.1, hw_.2.2.1, hw_.2.2.2.1, s_k_serveX_10_n20 hw_.2.2.2.2⟩

theorem s_k_serveX_10_n18 {Post : Option fw_V → fw_W → Prop} {d : Nat} {W : fw_W} {h dd wa : Int} {f : fw_W}
    (hw_ : 0 ≤ h ∧ h < 14 ∧ 0 ≤ wa ∧ wa < 14 ∧ (0 ≤ h ∧ h < 14 ∧ (-2147483648 ≤ (fw_g f 301 h) → (fw_g f 301 h) ≤ 2147483647 → 0 ≤ h ∧ h < 14 ∧ (0 ≤ h ∧ h < 14 ∧ 0 ≤ wa ∧ wa < 14 ∧ (-2147483648 ≤ (fw_g (fw_upr (fw_put [301, 303, 304, 305, 306, 307, 308, 309, 310, 311, 312, 313, 314, 315, 316] 0 [] W f) 302 h wa (1000000 : Int)) (fw_rc 302 h) wa) → (fw_g (fw_upr (fw_put [301, 303, 304, 305, 306, 307, 308, 309, 310, 311, 312, 313, 314, 315, 316] 0 [] W f) 302 h wa (1000000 : Int)) (fw_rc 302 h) wa) ≤ 2147483647 → 0 ≤ h ∧ h < 14 ∧ -2147483648 ≤ (min (fw_g f 301 h) (fw_g (fw_upr (fw_put [301, 303, 304, 305, 306, 307, 308, 309, 310, 311, 312, 313, 314, 315, 316] 0 [] W f) 302 h wa (1000000 : Int)) (fw_rc 302 h) wa)) ∧ (min (fw_g f 301 h) (fw_g (fw_upr (fw_put [301, 303, 304, 305, 306, 307, 308, 309, 310, 311, 312, 313, 314, 315, 316] 0 [] W f) 302 h wa (1000000 : Int)) (fw_rc 302 h) wa)) ≤ 2147483647 ∧ (-2147483648 ≤ wa + (1 : Int) ∧ wa + (1 : Int) ≤ 2147483647 ∧ (jf fw_T (d + 2) 80 10 [(0, .inr (.inl 296)), (1, .inl h), (2, .inl dd), (3, .inl (wa + (1 : Int)))] [] (fw_up (fw_upr (fw_put [301, 303, 304, 305, 306, 307, 308, 309, 310, 311, 312, 313, 314, 315, 316] 0 [] W f) 302 h wa (1000000 : Int)) 301 h (min (fw_g f 301 h) (fw_g (fw_upr (fw_put [301, 303, 304, 305, 306, 307, 308, 309, 310, 311, 312, 313, 314, 315, 316] 0 [] W f) 302 h wa (1000000 : Int)) (fw_rc 302 h) wa))) Post))))))) :
    jf fw_T (d + 2) 80 52 [(0, .inr (.inl 296)), (1, .inl h), (2, .inl dd), (3, .inl wa)] [.inr (.inl (fw_rc 302 h))] (fw_put [301, 303, 304, 305, 306, 307, 308, 309, 310, 311, 312, 313, 314, 315, 316] 0 [] W f) Post := by
  refine fw_ok (n := 3) (ss := [(10, [0, 1, 2, 3]), (55, [0, 1, 2, 3]), (110, [0, 1, 3, 4])]) (hv := []) fr_80_ok fv_tryx_ok (ct_k_serveX_ok d) ?_
  show jf fw_T (d + 2) 80 55 [(0, .inr (.inl 296)), (1, .inl h), (2, .inl dd), (3, .inl wa)] [.inl (1000000 : Int), .inl wa, .inr (.inl (fw_rc 302 h))] (fw_put [301, 303, 304, 305, 306, 307, 308, 309, 310, 311, 312, 313, 314, 315, 316] 0 [] W f) Post
  revert hw_
  repeat' (first | (refine And.imp ?_ ?_) | (refine rw_imp ?_) | (refine rw_all ?_; intro _) | exact s_k_serveX_10_l19 | exact fun x_ => x_)

theorem s_k_serveX_10_l17 {Post : Option fw_V → fw_W → Prop} {d : Nat} {W : fw_W} {h dd wa : Int} {f : fw_W}
    (hw_ : 0 ≤ h ∧ h < 14 ∧ (0 ≤ h ∧ h < 14 ∧ 0 ≤ wa ∧ wa < 14 ∧ (0 ≤ h ∧ h < 14 ∧ (-2147483648 ≤ (fw_g f 301 h) → (fw_g f 301 h) ≤ 2147483647 → 0 ≤ h ∧ h < 14 ∧ (0 ≤ h ∧ h < 14 ∧ 0 ≤ wa ∧ wa < 14 ∧ (-2147483648 ≤ (fw_g (fw_upr (fw_put [301, 303, 304, 305, 306, 307, 308, 309, 310, 311, 312, 313, 314, 315, 316] 0 [] W f) 302 h wa (1000000 : Int)) (fw_rc 302 h) wa) → (fw_g (fw_upr (fw_put [301, 303, 304, 305, 306, 307, 308, 309, 310, 311, 312, 313, 314, 315, 316] 0 [] W f) 302 h wa (1000000 : Int)) (fw_rc 302 h) wa) ≤ 2147483647 → 0 ≤ h ∧ h < 14 ∧ -2147483648 ≤ (min (fw_g f 301 h) (fw_g (fw_upr (fw_put [301, 303, 304, 305, 306, 307, 308, 309, 310, 311, 312, 313, 314, 315, 316] 0 [] W f) 302 h wa (1000000 : Int)) (fw_rc 302 h) wa)) ∧ (min (fw_g f 301 h) (fw_g (fw_upr (fw_put [301, 303, 304, 305, 306, 307, 308, 309, 310, 311, 312, 313, 314, 315, 316] 0 [] W f) 302 h wa (1000000 : Int)) (fw_rc 302 h) wa)) ≤ 2147483647 ∧ (-2147483648 ≤ wa + (1 : Int) ∧ wa + (1 : Int) ≤ 2147483647 ∧ (jf fw_T (d + 2) 80 10 [(0, .inr (.inl 296)), (1, .inl h), (2, .inl dd), (3, .inl (wa + (1 : Int)))] [] (fw_up (fw_upr (fw_put [301, 303, 304, 305, 306, 307, 308, 309, 310, 311, 312, 313, 314, 315, 316] 0 [] W f) 302 h wa (1000000 : Int)) 301 h (min (fw_g f 301 h) (fw_g (fw_upr (fw_put [301, 303, 304, 305, 306, 307, 308, 309, 310, 311, 312, 313, 314, 315, 316] 0 [] W f) 302 h wa (1000000 : Int)) (fw_rc 302 h) wa))) Post)))))))) :
    jf fw_T (d + 2) 80 51 [(0, .inr (.inl 296)), (1, .inl h), (2, .inl dd), (3, .inl wa)] [.inl h, .inr (.inl 302)] (fw_put [301, 303, 304, 305, 306, 307, 308, 309, 310, 311, 312, 313, 314, 315, 316] 0 [] W f) Post := jf_aal (j := 30) kr_302 fr_80_ok rfl ⟨hw_.1, hw_.2.1, s_k_serveX_10_n18 hw_.2.2⟩

theorem s_k_serveX_10_n12 {Post : Option fw_V → fw_W → Prop} {d : Nat} {W : fw_W} {h dd wa : Int} {f : fw_W}
    (hw_ : (((fw_g (fw_put [301, 303, 304, 305, 306, 307, 308, 309, 310, 311, 312, 313, 314, 315, 316] 0 [] W f) (fw_rc 278 h) wa) ≤ dd → 0 ≤ h ∧ h < 14 ∧ (-2147483648 ≤ (fw_g f 301 h) → (fw_g f 301 h) ≤ 2147483647 → 0 ≤ h ∧ h < 14 ∧ (0 ≤ h ∧ h < 14 ∧ 0 ≤ wa ∧ wa < 14 ∧ (-2147483648 ≤ (fw_g (fw_put [301, 303, 304, 305, 306, 307, 308, 309, 310, 311, 312, 313, 314, 315, 316] 0 [] W f) (fw_rc 302 h) wa) → (fw_g (fw_put [301, 303, 304, 305, 306, 307, 308, 309, 310, 311, 312, 313, 314, 315, 316] 0 [] W f) (fw_rc 302 h) wa) ≤ 2147483647 → 0 ≤ h ∧ h < 14 ∧ -2147483648 ≤ (min (fw_g f 301 h) (fw_g (fw_put [301, 303, 304, 305, 306, 307, 308, 309, 310, 311, 312, 313, 314, 315, 316] 0 [] W f) (fw_rc 302 h) wa)) ∧ (min (fw_g f 301 h) (fw_g (fw_put [301, 303, 304, 305, 306, 307, 308, 309, 310, 311, 312, 313, 314, 315, 316] 0 [] W f) (fw_rc 302 h) wa)) ≤ 2147483647 ∧ (-2147483648 ≤ wa + (1 : Int) ∧ wa + (1 : Int) ≤ 2147483647 ∧ (jf fw_T (d + 2) 80 10 [(0, .inr (.inl 296)), (1, .inl h), (2, .inl dd), (3, .inl (wa + (1 : Int)))] [] (fw_up (fw_put [301, 303, 304, 305, 306, 307, 308, 309, 310, 311, 312, 313, 314, 315, 316] 0 [] W f) 301 h (min (fw_g f 301 h) (fw_g (fw_put [301, 303, 304, 305, 306, 307, 308, 309, 310, 311, 312, 313, 314, 315, 316] 0 [] W f) (fw_rc 302 h) wa))) Post)))))) ∧ (dd < (fw_g (fw_put [301, 303, 304, 305, 306, 307, 308, 309, 310, 311, 312, 313, 314, 315, 316] 0 [] W f) (fw_rc 278 h) wa) → 0 ≤ h ∧ h < 14 ∧ (0 ≤ h ∧ h < 14 ∧ 0 ≤ wa ∧ wa < 14 ∧ (0 ≤ h ∧ h < 14 ∧ (-2147483648 ≤ (fw_g f 301 h) → (fw_g f 301 h) ≤ 2147483647 → 0 ≤ h ∧ h < 14 ∧ (0 ≤ h ∧ h < 14 ∧ 0 ≤ wa ∧ wa < 14 ∧ (-2147483648 ≤ (fw_g (fw_upr (fw_put [301, 303, 304, 305, 306, 307, 308, 309, 310, 311, 312, 313, 314, 315, 316] 0 [] W f) 302 h wa (1000000 : Int)) (fw_rc 302 h) wa) → (fw_g (fw_upr (fw_put [301, 303, 304, 305, 306, 307, 308, 309, 310, 311, 312, 313, 314, 315, 316] 0 [] W f) 302 h wa (1000000 : Int)) (fw_rc 302 h) wa) ≤ 2147483647 → 0 ≤ h ∧ h < 14 ∧ -2147483648 ≤ (min (fw_g f 301 h) (fw_g (fw_upr (fw_put [301, 303, 304, 305, 306, 307, 308, 309, 310, 311, 312, 313, 314, 315, 316] 0 [] W f) 302 h wa (1000000 : Int)) (fw_rc 302 h) wa)) ∧ (min (fw_g f 301 h) (fw_g (fw_upr (fw_put [301, 303, 304, 305, 306, 307, 308, 309, 310, 311, 312, 313, 314, 315, 316] 0 [] W f) 302 h wa (1000000 : Int)) (fw_rc 302 h) wa)) ≤ 2147483647 ∧ (-2147483648 ≤ wa + (1 : Int) ∧ wa + (1 : Int) ≤ 2147483647 ∧ (jf fw_T (d + 2) 80 10 [(0, .inr (.inl 296)), (1, .inl h), (2, .inl dd), (3, .inl (wa + (1 : Int)))] [] (fw_up (fw_upr (fw_put [301, 303, 304, 305, 306, 307, 308, 309, 310, 311, 312, 313, 314, 315, 316] 0 [] W f) 302 h wa (1000000 : Int)) 301 h (min (fw_g f 301 h) (fw_g (fw_upr (fw_put [301, 303, 304, 305, 306, 307, 308, 309, 310, 311, 312, 313, 314, 315, 316] 0 [] W f) 302 h wa (1000000 : Int)) (fw_rc 302 h) wa))) Post)))))))))) :
    jf fw_T (d + 2) 80 42 [(0, .inr (.inl 296)), (1, .inl h), (2, .inl dd), (3, .inl wa)] [.inl (fw_g (fw_put [301, 303, 304, 305, 306, 307, 308, 309, 310, 311, 312, 313, 314, 315, 316] 0 [] W f) (fw_rc 278 h) wa)] (fw_put [301, 303, 304, 305, 306, 307, 308, 309, 310, 311, 312, 313, 314, 315, 316] 0 [] W f) Post := by
  refine fw_ok (n := 13) (ss := [(10, [0, 1, 2, 3]), (51, [0, 1, 2, 3]), (72, [0, 1, 2, 3]), (110, [0, 1, 3, 4])]) (hv := []) fr_80_ok fv_tryx_ok (ct_k_serveX_ok d) ?_
  show (((fw_g (fw_put [301, 303, 304, 305, 306, 307, 308, 309, 310, 311, 312, 313, 314, 315, 316] 0 [] W f) (fw_rc 278 h) wa) ≤ dd → 0 ≤ h ∧ h < 14 ∧ (-2147483648 ≤ (fw_g f 301 h) → (fw_g f 301 h) ≤ 2147483647 → jf fw_T (d + 2) 80 72 [(0, .inr (.inl 296)), (1, .inl h), (2, .inl dd), (3, .inl wa)] [.inl h, .inr (.inl 302), .inl (fw_g f 301 h), .inl h, .inr (.inl 301)] (fw_put [301, 303, 304, 305, 306, 307, 308, 309, 310, 311, 312, 313, 314, 315, 316] 0 [] W f) Post)) ∧ (dd < (fw_g (fw_put [301, 303, 304, 305, 306, 307, 308, 309, 310, 311, 312, 313, 314, 315, 316] 0 [] W f) (fw_rc 278 h) wa) → jf fw_T (d + 2) 80 51 [(0, .inr (.inl 296)), (1, .inl h), (2, .inl dd), (3, .inl wa)] [.inl h, .inr (.inl 302)] (fw_put [301, 303, 304, 305, 306, 307, 308, 309, 310, 311, 312, 313, 314, 315, 316] 0 [] W f) Post))
  revert hw_
  repeat' (first | (refine And.imp ?_ ?_) | (refine rw_imp ?_) | (refine rw_all ?_; intro _) | exact s_k_serveX_10_l13 | exact s_k_serveX_10_l17 | exact fun x_ => x_)

theorem s_k_serveX_10_l11 {Post : Option fw_V → fw_W → Prop} {d : Nat} {W : fw_W} {h dd wa : Int} {f : fw_W}
    (hw_ : 0 ≤ h ∧ h < 14 ∧ 0 ≤ wa ∧ wa < 14 ∧ (-2147483648 ≤ (fw_g (fw_put [301, 303, 304, 305, 306, 307, 308, 309, 310, 311, 312, 313, 314, 315, 316] 0 [] W f) (fw_rc 278 h) wa) → (fw_g (fw_put [301, 303, 304, 305, 306, 307, 308, 309, 310, 311, 312, 313, 314, 315, 316] 0 [] W f) (fw_rc 278 h) wa) ≤ 2147483647 → (((fw_g (fw_put [301, 303, 304, 305, 306, 307, 308, 309, 310, 311, 312, 313, 314, 315, 316] 0 [] W f) (fw_rc 278 h) wa) ≤ dd → 0 ≤ h ∧ h < 14 ∧ (-2147483648 ≤ (fw_g f 301 h) → (fw_g f 301 h) ≤ 2147483647 → 0 ≤ h ∧ h < 14 ∧ (0 ≤ h ∧ h < 14 ∧ 0 ≤ wa ∧ wa < 14 ∧ (-2147483648 ≤ (fw_g (fw_put [301, 303, 304, 305, 306, 307, 308, 309, 310, 311, 312, 313, 314, 315, 316] 0 [] W f) (fw_rc 302 h) wa) → (fw_g (fw_put [301, 303, 304, 305, 306, 307, 308, 309, 310, 311, 312, 313, 314, 315, 316] 0 [] W f) (fw_rc 302 h) wa) ≤ 2147483647 → 0 ≤ h ∧ h < 14 ∧ -2147483648 ≤ (min (fw_g f 301 h) (fw_g (fw_put [301, 303, 304, 305, 306, 307, 308, 309, 310, 311, 312, 313, 314, 315, 316] 0 [] W f) (fw_rc 302 h) wa)) ∧ (min (fw_g f 301 h) (fw_g (fw_put [301, 303, 304, 305, 306, 307, 308, 309, 310, 311, 312, 313, 314, 315, 316] 0 [] W f) (fw_rc 302 h) wa)) ≤ 2147483647 ∧ (-2147483648 ≤ wa + (1 : Int) ∧ wa + (1 : Int) ≤ 2147483647 ∧ (jf fw_T (d + 2) 80 10 [(0, .inr (.inl 296)), (1, .inl h), (2, .inl dd), (3, .inl (wa + (1 : Int)))] [] (fw_up (fw_put [301, 303, 304, 305, 306, 307, 308, 309, 310, 311, 312, 313, 314, 315, 316] 0 [] W f) 301 h (min (fw_g f 301 h) (fw_g (fw_put [301, 303, 304, 305, 306, 307, 308, 309, 310, 311, 312, 313, 314, 315, 316] 0 [] W f) (fw_rc 302 h) wa))) Post)))))) ∧ (dd < (fw_g (fw_put [301, 303, 304, 305, 306, 307, 308, 309, 310, 311, 312, 313, 314, 315, 316] 0 [] W f) (fw_rc 278 h) wa) → 0 ≤ h ∧ h < 14 ∧ (0 ≤ h ∧ h < 14 ∧ 0 ≤ wa ∧ wa < 14 ∧ (0 ≤ h ∧ h < 14 ∧ (-2147483648 ≤ (fw_g f 301 h) → (fw_g f 301 h) ≤ 2147483647 → 0 ≤ h ∧ h < 14 ∧ (0 ≤ h ∧ h < 14 ∧ 0 ≤ wa ∧ wa < 14 ∧ (-2147483648 ≤ (fw_g (fw_upr (fw_put [301, 303, 304, 305, 306, 307, 308, 309, 310, 311, 312, 313, 314, 315, 316] 0 [] W f) 302 h wa (1000000 : Int)) (fw_rc 302 h) wa) → (fw_g (fw_upr (fw_put [301, 303, 304, 305, 306, 307, 308, 309, 310, 311, 312, 313, 314, 315, 316] 0 [] W f) 302 h wa (1000000 : Int)) (fw_rc 302 h) wa) ≤ 2147483647 → 0 ≤ h ∧ h < 14 ∧ -2147483648 ≤ (min (fw_g f 301 h) (fw_g (fw_upr (fw_put [301, 303, 304, 305, 306, 307, 308, 309, 310, 311, 312, 313, 314, 315, 316] 0 [] W f) 302 h wa (1000000 : Int)) (fw_rc 302 h) wa)) ∧ (min (fw_g f 301 h) (fw_g (fw_upr (fw_put [301, 303, 304, 305, 306, 307, 308, 309, 310, 311, 312, 313, 314, 315, 316] 0 [] W f) 302 h wa (1000000 : Int)) (fw_rc 302 h) wa)) ≤ 2147483647 ∧ (-2147483648 ≤ wa + (1 : Int) ∧ wa + (1 : Int) ≤ 2147483647 ∧ (jf fw_T (d + 2) 80 10 [(0, .inr (.inl 296)), (1, .inl h), (2, .inl dd), (3, .inl (wa + (1 : Int)))] [] (fw_up (fw_upr (fw_put [301, 303, 304, 305, 306, 307, 308, 309, 310, 311, 312, 313, 314, 315, 316] 0 [] W f) 302 h wa (1000000 : Int)) 301 h (min (fw_g f 301 h) (fw_g (fw_upr (fw_put [301, 303, 304, 305, 306, 307, 308, 309, 310, 311, 312, 313, 314, 315, 316] 0 [] W f) 302 h wa (1000000 : Int)) (fw_rc 302 h) wa))) Post))))))))))) :
    jf fw_T (d + 2) 80 41 [(0, .inr (.inl 296)), (1, .inl h), (2, .inl dd), (3, .inl wa)] [.inl wa, .inr (.inl (fw_rc 278 h))] (fw_put [301, 303, 304, 305, 306, 307, 308, 309, 310, 311, 312, 313, 314, 315, 316] 0 [] W f) Post := jf_ial (j := 24) kr_278 fr_80_ok rfl ⟨hw_.1, hw_.2.1, hw_.2.2.1, hw_.2.2.2.1, fun g1_ g2_ => s_k_serveX_10_n12 (hw_.2.2.2.2 g1_ g2_)⟩

theorem s_k_serveX_10_n10 {Post : Option fw_V → fw_W → Prop} {d : Nat} {W : fw_W} {h dd wa : Int} {f : fw_W}
    (hw_ : 0 ≤ h ∧ h < 14 ∧ 0 ≤ wa ∧ wa < 14 ∧ (-2147483648 ≤ (fw_g (fw_put [301, 303, 304, 305, 306, 307, 308, 309, 310, 311, 312, 313, 314, 315, 316] 0 [] W f) (fw_rc 278 h) wa) → (fw_g (fw_put [301, 303, 304, 305, 306, 307, 308, 309, 310, 311, 312, 313, 314, 315, 316] 0 [] W f) (fw_rc 278 h) wa) ≤ 2147483647 → (((fw_g (fw_put [301, 303, 304, 305, 306, 307, 308, 309, 310, 311, 312, 313, 314, 315, 316] 0 [] W f) (fw_rc 278 h) wa) ≤ dd → 0 ≤ h ∧ h < 14 ∧ (-2147483648 ≤ (fw_g f 301 h) → (fw_g f 301 h) ≤ 2147483647 → 0 ≤ h ∧ h < 14 ∧ (0 ≤ h ∧ h < 14 ∧ 0 ≤ wa ∧ wa < 14 ∧ (-2147483648 ≤ (fw_g (fw_put [301, 303, 304, 305, 306, 307, 308, 309, 310, 311, 312, 313, 314, 315, 316] 0 [] W f) (fw_rc 302 h) wa) → (fw_g (fw_put [301, 303, 304, 305, 306, 307, 308, 309, 310, 311, 312, 313, 314, 315, 316] 0 [] W f) (fw_rc 302 h) wa) ≤ 2147483647 → 0 ≤ h ∧ h < 14 ∧ -2147483648 ≤ (min (fw_g f 301 h) (fw_g (fw_put [301, 303, 304, 305, 306, 307, 308, 309, 310, 311, 312, 313, 314, 315, 316] 0 [] W f) (fw_rc 302 h) wa)) ∧ (min (fw_g f 301 h) (fw_g (fw_put [301, 303, 304, 305, 306, 307, 308, 309, 310, 311, 312, 313, 314, 315, 316] 0 [] W f) (fw_rc 302 h) wa)) ≤ 2147483647 ∧ (-2147483648 ≤ wa + (1 : Int) ∧ wa + (1 : Int) ≤ 2147483647 ∧ (jf fw_T (d + 2) 80 10 [(0, .inr (.inl 296)), (1, .inl h), (2, .inl dd), (3, .inl (wa + (1 : Int)))] [] (fw_up (fw_put [301, 303, 304, 305, 306, 307, 308, 309, 310, 311, 312, 313, 314, 315, 316] 0 [] W f) 301 h (min (fw_g f 301 h) (fw_g (fw_put [301, 303, 304, 305, 306, 307, 308, 309, 310, 311, 312, 313, 314, 315, 316] 0 [] W f) (fw_rc 302 h) wa))) Post)))))) ∧ (dd < (fw_g (fw_put [301, 303, 304, 305, 306, 307, 308, 309, 310, 311, 312, 313, 314, 315, 316] 0 [] W f) (fw_rc 278 h) wa) → 0 ≤ h ∧ h < 14 ∧ (0 ≤ h ∧ h < 14 ∧ 0 ≤ wa ∧ wa < 14 ∧ (0 ≤ h ∧ h < 14 ∧ (-2147483648 ≤ (fw_g f 301 h) → (fw_g f 301 h) ≤ 2147483647 → 0 ≤ h ∧ h < 14 ∧ (0 ≤ h ∧ h < 14 ∧ 0 ≤ wa ∧ wa < 14 ∧ (-2147483648 ≤ (fw_g (fw_upr (fw_put [301, 303, 304, 305, 306, 307, 308, 309, 310, 311, 312, 313, 314, 315, 316] 0 [] W f) 302 h wa (1000000 : Int)) (fw_rc 302 h) wa) → (fw_g (fw_upr (fw_put [301, 303, 304, 305, 306, 307, 308, 309, 310, 311, 312, 313, 314, 315, 316] 0 [] W f) 302 h wa (1000000 : Int)) (fw_rc 302 h) wa) ≤ 2147483647 → 0 ≤ h ∧ h < 14 ∧ -2147483648 ≤ (min (fw_g f 301 h) (fw_g (fw_upr (fw_put [301, 303, 304, 305, 306, 307, 308, 309, 310, 311, 312, 313, 314, 315, 316] 0 [] W f) 302 h wa (1000000 : Int)) (fw_rc 302 h) wa)) ∧ (min (fw_g f 301 h) (fw_g (fw_upr (fw_put [301, 303, 304, 305, 306, 307, 308, 309, 310, 311, 312, 313, 314, 315, 316] 0 [] W f) 302 h wa (1000000 : Int)) (fw_rc 302 h) wa)) ≤ 2147483647 ∧ (-2147483648 ≤ wa + (1 : Int) ∧ wa + (1 : Int) ≤ 2147483647 ∧ (jf fw_T (d + 2) 80 10 [(0, .inr (.inl 296)), (1, .inl h), (2, .inl dd), (3, .inl (wa + (1 : Int)))] [] (fw_up (fw_upr (fw_put [301, 303, 304, 305, 306, 307, 308, 309, 310, 311, 312, 313, 314, 315, 316] 0 [] W f) 302 h wa (1000000 : Int)) 301 h (min (fw_g f 301 h) (fw_g (fw_upr (fw_put [301, 303, 304, 305, 306, 307, 308, 309, 310, 311, 312, 313, 314, 315, 316] 0 [] W f) 302 h wa (1000000 : Int)) (fw_rc 302 h) wa))) Post))))))))))) :
    jf fw_T (d + 2) 80 40 [(0, .inr (.inl 296)), (1, .inl h), (2, .inl dd), (3, .inl wa)] [.inr (.inl (fw_rc 278 h))] (fw_put [301, 303, 304, 305, 306, 307, 308, 309, 310, 311, 312, 313, 314, 315, 316] 0 [] W f) Post := by
  refine fw_ok (n := 2) (ss := [(10, [0, 1, 2, 3]), (41, [0, 1, 2, 3]), (110, [0, 1, 3, 4])]) (hv := []) fr_80_ok fv_tryx_ok (ct_k_serveX_ok d) ?_
  show jf fw_T (d + 2) 80 41 [(0, .inr (.inl 296)), (1, .inl h), (2, .inl dd), (3, .inl wa)] [.inl wa, .inr (.inl (fw_rc 278 h))] (fw_put [301, 303, 304, 305, 306, 307, 308, 309, 310, 311, 312, 313, 314, 315, 316] 0 [] W f) Post
  revert hw_
  repeat' (first | (refine And.imp ?_ ?_) | (refine rw_imp ?_) | (refine rw_all ?_; intro _) | exact s_k_serveX_10_l11 | exact fun x_ => x_)

theorem s_k_serveX_10_l9 {Post : Option fw_V → fw_W → Prop} {d : Nat} {W : fw_W} {h dd wa : Int} {f : fw_W}
    (hw_ : 0 ≤ h ∧ h < 14 ∧ (0 ≤ h ∧ h < 14 ∧ 0 ≤ wa ∧ wa < 14 ∧ (-2147483648 ≤ (fw_g (fw_put [301, 303, 304, 305, 306, 307, 308, 309, 310, 311, 312, 313, 314, 315, 316] 0 [] W f) (fw_rc 278 h) wa) → (fw_g (fw_put [301, 303, 304, 305, 306, 307, 308, 309, 310, 311, 312, 313, 314, 315, 316] 0 [] W f) (fw_rc 278 h) wa) ≤ 2147483647 → (((fw_g (fw_put [301, 303, 304, 305, 306, 307, 308, 309, 310, 311, 312, 313, 314, 315, 316] 0 [] W f) (fw_rc 278 h) wa) ≤ dd → 0 ≤ h ∧ h < 14 ∧ (-2147483648 ≤ (fw_g f 301 h) → (fw_g f 301 h) ≤ 2147483647 → 0 ≤ h ∧ h < 14 ∧ (0 ≤ h ∧ h < 14 ∧ 0 ≤ wa ∧ wa < 14 ∧ (-2147483648 ≤ (fw_g (fw_put [301, 303, 304, 305, 306, 307, 308, 309, 310, 311, 312, 313, 314, 315, 316] 0 [] W f) (fw_rc 302 h) wa) → (fw_g (fw_put [301, 303, 304, 305, 306, 307, 308, 309, 310, 311, 312, 313, 314, 315, 316] 0 [] W f) (fw_rc 302 h) wa) ≤ 2147483647 → 0 ≤ h ∧ h < 14 ∧ -2147483648 ≤ (min (fw_g f 301 h) (fw_g (fw_put [301, 303, 304, 305, 306, 307, 308, 309, 310, 311, 312, 313, 314, 315, 316] 0 [] W f) (fw_rc 302 h) wa)) ∧ (min (fw_g f 301 h) (fw_g (fw_put [301, 303, 304, 305, 306, 307, 308, 309, 310, 311, 312, 313, 314, 315, 316] 0 [] W f) (fw_rc 302 h) wa)) ≤ 2147483647 ∧ (-2147483648 ≤ wa + (1 : Int) ∧ wa + (1 : Int) ≤ 2147483647 ∧ (jf fw_T (d + 2) 80 10 [(0, .inr (.inl 296)), (1, .inl h), (2, .inl dd), (3, .inl (wa + (1 : Int)))] [] (fw_up (fw_put [301, 303, 304, 305, 306, 307, 308, 309, 310, 311, 312, 313, 314, 315, 316] 0 [] W f) 301 h (min (fw_g f 301 h) (fw_g (fw_put [301, 303, 304, 305, 306, 307, 308, 309, 310, 311, 312, 313, 314, 315, 316] 0 [] W f) (fw_rc 302 h) wa))) Post)))))) ∧ (dd < (fw_g (fw_put [301, 303, 304, 305, 306, 307, 308, 309, 310, 311, 312, 313, 314, 315, 316] 0 [] W f) (fw_rc 278 h) wa) → 0 ≤ h ∧ h < 14 ∧ (0 ≤ h ∧ h < 14 ∧ 0 ≤ wa ∧ wa < 14 ∧ (0 ≤ h ∧ h < 14 ∧ (-2147483648 ≤ (fw_g f 301 h) → (fw_g f 301 h) ≤ 2147483647 → 0 ≤ h ∧ h < 14 ∧ (0 ≤ h ∧ h < 14 ∧ 0 ≤ wa ∧ wa < 14 ∧ (-2147483648 ≤ (fw_g (fw_upr (fw_put [301, 303, 304, 305, 306, 307, 308, 309, 310, 311, 312, 313, 314, 315, 316] 0 [] W f) 302 h wa (1000000 : Int)) (fw_rc 302 h) wa) → (fw_g (fw_upr (fw_put [301, 303, 304, 305, 306, 307, 308, 309, 310, 311, 312, 313, 314, 315, 316] 0 [] W f) 302 h wa (1000000 : Int)) (fw_rc 302 h) wa) ≤ 2147483647 → 0 ≤ h ∧ h < 14 ∧ -2147483648 ≤ (min (fw_g f 301 h) (fw_g (fw_upr (fw_put [301, 303, 304, 305, 306, 307, 308, 309, 310, 311, 312, 313, 314, 315, 316] 0 [] W f) 302 h wa (1000000 : Int)) (fw_rc 302 h) wa)) ∧ (min (fw_g f 301 h) (fw_g (fw_upr (fw_put [301, 303, 304, 305, 306, 307, 308, 309, 310, 311, 312, 313, 314, 315, 316] 0 [] W f) 302 h wa (1000000 : Int)) (fw_rc 302 h) wa)) ≤ 2147483647 ∧ (-2147483648 ≤ wa + (1 : Int) ∧ wa + (1 : Int) ≤ 2147483647 ∧ (jf fw_T (d + 2) 80 10 [(0, .inr (.inl 296)), (1, .inl h), (2, .inl dd), (3, .inl (wa + (1 : Int)))] [] (fw_up (fw_upr (fw_put [301, 303, 304, 305, 306, 307, 308, 309, 310, 311, 312, 313, 314, 315, 316] 0 [] W f) 302 h wa (1000000 : Int)) 301 h (min (fw_g f 301 h) (fw_g (fw_upr (fw_put [301, 303, 304, 305, 306, 307, 308, 309, 310, 311, 312, 313, 314, 315, 316] 0 [] W f) 302 h wa (1000000 : Int)) (fw_rc 302 h) wa))) Post)))))))))))) :
    jf fw_T (d + 2) 80 39 [(0, .inr (.inl 296)), (1, .inl h), (2, .inl dd), (3, .inl wa)] [.inl h, .inr (.inl 278)] (fw_put [301, 303, 304, 305, 306, 307, 308, 309, 310, 311, 312, 313, 314, 315, 316] 0 [] W f) Post := jf_aal (j := 22) kr_278 fr_80_ok rfl ⟨hw_.1, hw_.2.1, s_k_serveX_10_n10 hw_.2.2⟩

theorem s_k_serveX_10 {Post : Option fw_V → fw_W → Prop} {d : Nat} {W : fw_W} {h dd wa : Int} {f : fw_W}
    (hw_ : (0 ≤ (fw_g W 272 0) → (fw_g W 272 0) ≤ 14 → (((fw_g W 272 0) ≤ wa → 0 ≤ h ∧ h < 14 ∧ (-1 ≤ (fw_g W 273 h) → (fw_g W 273 h) ≤ 13 → (True) ∧ (∀ (r1 : Int), ((0 ≤ r1 ∧ r1 ≤ 1 ∧ ((r1 = 1 ∧ 0 ≤ (fw_g W 273 h) ∧ (fw_g W 273 h) < (fw_g W 272 0)) ∨ (r1 = 0 ∧ ((fw_g W 273 h) < 0 ∨ (fw_g W 272 0) ≤ (fw_g W 273 h)))))) → ((¬ r1 = 0 → jf fw_T (d + 2) 80 110 [(0, .inr (.inl 296)), (1, .inl h), (3, .inl (fw_g W 273 h)), (4, .inl (0 : Int))] [] (fw_put [301, 303, 304, 305, 306, 307, 308, 309, 310, 311, 312, 313, 314, 315, 316] 0 [] W f) Post) ∧ (r1 = 0 → Post none (fw_put [301, 303, 304, 305, 306, 307, 308, 309, 310, 311, 312, 313, 314, 315, 316] 0 [] W f)))))) ∧ (wa < (fw_g W 272 0) → 0 ≤ wa ∧ wa < 14 ∧ (-2147483648 ≤ (fw_g W 297 wa) → (fw_g W 297 wa) ≤ 2147483647 → (((fw_g W 297 wa) = (2 : Int) → 0 ≤ h ∧ h < 14 ∧ (0 ≤ h ∧ h < 14 ∧ 0 ≤ wa ∧ wa < 14 ∧ (0 ≤ h ∧ h < 14 ∧ (-2147483648 ≤ (fw_g f 301 h) → (fw_g f 301 h) ≤ 2147483647 → 0 ≤ h ∧ h < 14 ∧ (0 ≤ h ∧ h < 14 ∧ 0 ≤ wa ∧ wa < 14 ∧ (-2147483648 ≤ (fw_g (fw_upr (fw_put [301, 303, 304, 305, 306, 307, 308, 309, 310, 311, 312, 313, 314, 315, 316] 0 [] W f) 302 h wa (1000000 : Int)) (fw_rc 302 h) wa) → (fw_g (fw_upr (fw_put [301, 303, 304, 305, 306, 307, 308, 309, 310, 311, 312, 313, 314, 315, 316] 0 [] W f) 302 h wa (1000000 : Int)) (fw_rc 302 h) wa) ≤ 2147483647 → 0 ≤ h ∧ h < 14 ∧ -2147483648 ≤ (min (fw_g f 301 h) (fw_g (fw_upr (fw_put [301, 303, 304, 305, 306, 307, 308, 309, 310, 311, 312, 313, 314, 315, 316] 0 [] W f) 302 h wa (1000000 : Int)) (fw_rc 302 h) wa)) ∧ (min (fw_g f 301 h) (fw_g (fw_upr (fw_put [301, 303, 304, 305, 306, 307, 308, 309, 310, 311, 312, 313, 314, 315, 316] 0 [] W f) 302 h wa (1000000 : Int)) (fw_rc 302 h) wa)) ≤ 2147483647 ∧ (-2147483648 ≤ wa + (1 : Int) ∧ wa + (1 : Int) ≤ 2147483647 ∧ (jf fw_T (d + 2) 80 10 [(0, .inr (.inl 296)), (1, .inl h), (2, .inl dd), (3, .inl (wa + (1 : Int)))] [] (fw_up (fw_upr (fw_put [301, 303, 304, 305, 306, 307, 308, 309, 310, 311, 312, 313, 314, 315, 316] 0 [] W f) 302 h wa (1000000 : Int)) 301 h (min (fw_g f 301 h) (fw_g (fw_upr (fw_put [301, 303, 304, 305, 306, 307, 308, 309, 310, 311, 312, 313, 314, 315, 316] 0 [] W f) 302 h wa (1000000 : Int)) (fw_rc 302 h) wa))) Post)))))))) ∧ (¬ (fw_g W 297 wa) = (2 : Int) → 0 ≤ h ∧ h < 14 ∧ (0 ≤ h ∧ h < 14 ∧ 0 ≤ wa ∧ wa < 14 ∧ (-2147483648 ≤ (fw_g (fw_put [301, 303, 304, 305, 306, 307, 308, 309, 310, 311, 312, 313, 314, 315, 316] 0 [] W f) (fw_rc 278 h) wa) → (fw_g (fw_put [301, 303, 304, 305, 306, 307, 308, 309, 310, 311, 312, 313, 314, 315, 316] 0 [] W f) (fw_rc 278 h) wa) ≤ 2147483647 → (((fw_g (fw_put [301, 303, 304, 305, 306, 307, 308, 309, 310, 311, 312, 313, 314, 315, 316] 0 [] W f) (fw_rc 278 h) wa) ≤ dd → 0 ≤ h ∧ h < 14 ∧ (-2147483648 ≤ (fw_g f 301 h) → (fw_g f 301 h) ≤ 2147483647 → 0 ≤ h ∧ h < 14 ∧ (0 ≤ h ∧ h < 14 ∧ 0 ≤ wa ∧ wa < 14 ∧ (-2147483648 ≤ (fw_g (fw_put [301, 303, 304, 305, 306, 307, 308, 309, 310, 311, 312, 313, 314, 315, 316] 0 [] W f) (fw_rc 302 h) wa) → (fw_g (fw_put [301, 303, 304, 305, 306, 307, 308, 309, 310, 311, 312, 313, 314, 315, 316] 0 [] W f) (fw_rc 302 h) wa) ≤ 2147483647 → 0 ≤ h ∧ h < 14 ∧ -2147483648 ≤ (min (fw_g f 301 h) (fw_g (fw_put [301, 303, 304, 305, 306, 307, 308, 309, 310, 311, 312, 313, 314, 315, 316] 0 [] W f) (fw_rc 302 h) wa)) ∧ (min (fw_g f 301 h) (fw_g (fw_put [301, 303, 304, 305, 306, 307, 308, 309, 310, 311, 312, 313, 314, 315, 316] 0 [] W f) (fw_rc 302 h) wa)) ≤ 2147483647 ∧ (-2147483648 ≤ wa + (1 : Int) ∧ wa + (1 : Int) ≤ 2147483647 ∧ (jf fw_T (d + 2) 80 10 [(0, .inr (.inl 296)), (1, .inl h), (2, .inl dd), (3, .inl (wa + (1 : Int)))] [] (fw_up (fw_put [301, 303, 304, 305, 306, 307, 308, 309, 310, 311, 312, 313, 314, 315, 316] 0 [] W f) 301 h (min (fw_g f 301 h) (fw_g (fw_put [301, 303, 304, 305, 306, 307, 308, 309, 310, 311, 312, 313, 314, 315, 316] 0 [] W f) (fw_rc 302 h) wa))) Post)))))) ∧ (dd < (fw_g (fw_put [301, 303, 304, 305, 306, 307, 308, 309, 310, 311, 312, 313, 314, 315, 316] 0 [] W f) (fw_rc 278 h) wa) → 0 ≤ h ∧ h < 14 ∧ (0 ≤ h ∧ h < 14 ∧ 0 ≤ wa ∧ wa < 14 ∧ (0 ≤ h ∧ h < 14 ∧ (-2147483648 ≤ (fw_g f 301 h) → (fw_g f 301 h) ≤ 2147483647 → 0 ≤ h ∧ h < 14 ∧ (0 ≤ h ∧ h < 14 ∧ 0 ≤ wa ∧ wa < 14 ∧ (-2147483648 ≤ (fw_g (fw_upr (fw_put [301, 303, 304, 305, 306, 307, 308, 309, 310, 311, 312, 313, 314, 315, 316] 0 [] W f) 302 h wa (1000000 : Int)) (fw_rc 302 h) wa) → (fw_g (fw_upr (fw_put [301, 303, 304, 305, 306, 307, 308, 309, 310, 311, 312, 313, 314, 315, 316] 0 [] W f) 302 h wa (1000000 : Int)) (fw_rc 302 h) wa) ≤ 2147483647 → 0 ≤ h ∧ h < 14 ∧ -2147483648 ≤ (min (fw_g f 301 h) (fw_g (fw_upr (fw_put [301, 303, 304, 305, 306, 307, 308, 309, 310, 311, 312, 313, 314, 315, 316] 0 [] W f) 302 h wa (1000000 : Int)) (fw_rc 302 h) wa)) ∧ (min (fw_g f 301 h) (fw_g (fw_upr (fw_put [301, 303, 304, 305, 306, 307, 308, 309, 310, 311, 312, 313, 314, 315, 316] 0 [] W f) 302 h wa (1000000 : Int)) (fw_rc 302 h) wa)) ≤ 2147483647 ∧ (-2147483648 ≤ wa + (1 : Int) ∧ wa + (1 : Int) ≤ 2147483647 ∧ (jf fw_T (d + 2) 80 10 [(0, .inr (.inl 296)), (1, .inl h), (2, .inl dd), (3, .inl (wa + (1 : Int)))] [] (fw_up (fw_upr (fw_put [301, 303, 304, 305, 306, 307, 308, 309, 310, 311, 312, 313, 314, 315, 316] 0 [] W f) 302 h wa (1000000 : Int)) 301 h (min (fw_g f 301 h) (fw_g (fw_upr (fw_put [301, 303, 304, 305, 306, 307, 308, 309, 310, 311, 312, 313, 314, 315, 316] 0 [] W f) 302 h wa (1000000 : Int)) (fw_rc 302 h) wa))) Post)))))))))))))))))) :
    jf fw_T (d + 2) 80 10 [(0, .inr (.inl 296)), (1, .inl h), (2, .inl dd), (3, .inl wa)] [] (fw_put [301, 303, 304, 305, 306, 307, 308, 309, 310, 311, 312, 313, 314, 315, 316] 0 [] W f) Post := by
  refine fw_ok (n := 19) (ss := [(10, [0, 1, 2, 3]), (39, [0, 1, 2, 3]), (51, [0, 1, 2, 3]), (110, [0, 1, 3, 4])]) (hv := []) fr_80_ok fv_tryx_ok (ct_k_serveX_ok d) ?_
  show (0 ≤ (fw_g W 272 0) → (fw_g W 272 0) ≤ 14 → (((fw_g W 272 0) ≤ wa → 0 ≤ h ∧ h < 14 ∧ (-1 ≤ (fw_g W 273 h) → (fw_g W 273 h) ≤ 13 → (True) ∧ (∀ (r1 : Int), ((0 ≤ r1 ∧ r1 ≤ 1 ∧ ((r1 = 1 ∧ 0 ≤ (fw_g W 273 h) ∧ (fw_g W 273 h) < (fw_g W 272 0)) ∨ (r1 = 0 ∧ ((fw_g W 273 h) < 0 ∨ (fw_g W 272 0) ≤ (fw_g W 273 h)))))) → ((¬ r1 = 0 → jf fw_T (d + 2) 80 110 [(0, .inr (.inl 296)), (1, .inl h), (3, .inl (fw_g W 273 h)), (4, .inl (0 : Int))] [] (fw_put [301, 303, 304, 305, 306, 307, 308, 309, 310, 311, 312, 313, 314, 315, 316] 0 [] W f) Post) ∧ (r1 = 0 → Post none (fw_put [301, 303, 304, 305, 306, 307, 308, 309, 310, 311, 312, 313, 314, 315, 316] 0 [] W f)))))) ∧ (wa < (fw_g W 272 0) → 0 ≤ wa ∧ wa < 14 ∧ (-2147483648 ≤ (fw_g W 297 wa) → (fw_g W 297 wa) ≤ 2147483647 → (((fw_g W 297 wa) = (2 : Int) → jf fw_T (d + 2) 80 51 [(0, .inr (.inl 296)), (1, .inl h), (2, .inl dd), (3, .inl wa)] [.inl h, .inr (.inl 302)] (fw_put [301, 303, 304, 305, 306, 307, 308, 309, 310, 311, 312, 313, 314, 315, 316] 0 [] W f) Post) ∧ (¬ (fw_g W 297 wa) = (2 : Int) → jf fw_T (d + 2) 80 39 [(0, .inr (.inl 296)), (1, .inl h), (2, .inl dd), (3, .inl wa)] [.inl h, .inr (.inl 278)] (fw_put [301, 303, 304, 305, 306, 307, 308, 309, 310, 311, 312, 313, 314, 315, 316] 0 [] W f) Post))))))
  revert hw_
  repeat' (first | (refine And.imp ?_ ?_) | (refine rw_imp ?_) | (refine rw_all ?_; intro _) | exact s_k_serveX_10_l1 | exact s_k_serveX_10_l9 | exact fun x_ => x_)

theorem lm_k_serveX_110 {Post : Option fw_V → fw_W → Prop} {d : Nat} {W : fw_W} {h dd : Int} (q : List Nat) (k : Int) (hgh : (qok ((fw_g W 272 0)).toNat q = true ∧ qk2 ((fw_g W 272 0)).toNat q = true) ∧ 2 ≤ (fw_g W 272 0) ∧ (fw_g W 272 0) ≤ 6 ∧ (∀ x_, 1 ≤ x_ → x_ < (fw_g W 272 0) → (fw_g W 273 x_) = ((qp q x_.toNat : Nat) : Int)) ∧ 0 ≤ k ∧ k < (fw_g W 272 0)) (hpre : (dd = 1 ∧ h = zo q ((fw_g W 272 0)) ((fw_g W 272 0) - 1 - k)) ∧ (∀ u_ t_, 0 ≤ u_ → u_ < (fw_g W 272 0) → 0 ≤ t_ → t_ < (fw_g W 272 0) → fw_g W (fw_rc 278 u_) t_ = zD q u_ t_) ∧ (∀ x_, 0 ≤ x_ → x_ < 14 → (fw_g W 297 x_) = 0) ∧ (fw_g W 273 0) = -1 ∧ (∀ a_ w_, 0 ≤ a_ → a_ < (fw_g W 272 0) → 0 ≤ w_ → w_ < (fw_g W 272 0) → fw_g W (fw_rc 302 a_) w_ = ztb q ((fw_g W 272 0)) (k) a_ w_ + 1)) (hP : ∀ (W2 : fw_W), fw_sm [301, 303, 304, 305, 306, 307, 308, 309, 310, 311, 312, 313, 314, 315, 316] 0 [] W W2 → ((∀ a_ w_, 0 ≤ a_ → a_ < (fw_g W 272 0) → 0 ≤ w_ → w_ < (fw_g W 272 0) → fw_g W2 (fw_rc 302 a_) w_ = ztb q ((fw_g W 272 0)) (k + 1) a_ w_ + 1) ∧ (fw_g W2 301 h) = zfm q ((fw_g W 272 0)) k h ((fw_g W 272 0)) + 1) → Post none W2)  : ∀ (m : Nat) (wa wb : Int) (f : fw_W), ((fw_g W 272 0) - wb).toNat = m → ((0 ≤ wb ∧ wb ≤ (fw_g W 272 0) ∧ 1 ≤ h ∧ wa = ((qp q h.toNat : Nat) : Int) ∧ wa < (fw_g W 272 0) ∧ wa ≠ h) ∧ (fw_g f 301 h) = zfm q ((fw_g W 272 0)) k h ((fw_g W 272 0)) + 1 ∧ (∀ w_, 0 ≤ w_ → w_ < (fw_g W 272 0) → (fw_g f (fw_rc 302 (h)) (w_)) = zsv q ((fw_g W 272 0)) k h w_ + 1) ∧ (∀ a_ w_, 0 ≤ a_ → a_ < (fw_g W 272 0) → 0 ≤ w_ → w_ < (fw_g W 272 0) → a_ ≠ h → (a_ ≠ wa ∨ wb ≤ w_) → (fw_g f (fw_rc 302 (a_)) (w_)) = ztb q ((fw_g W 272 0)) k a_ w_ + 1) ∧ (∀ w_, 0 ≤ w_ → w_ < wb → (fw_g f (fw_rc 302 (wa)) (w_)) = ztb q ((fw_g W 272 0)) (k + 1) wa w_ + 1)) → jf fw_T (d + 2) 80 110 [(0, .inr (.inl 296)), (1, .inl h), (3, .inl wa), (4, .inl wb)] [] (fw_put [301, 303, 304, 305, 306, 307, 308, 309, 310, 311, 312, 313, 314, 315, 316] 0 [] W f) Post := by
  intro m
  induction m using Nat.strongRecOn with
  | ind m ih =>
    intro wa wb f hm hi
    refine jf_rng (fun hrg => ?_)
    have hrg : -2147483648 ≤ h ∧ h ≤ 2147483647 ∧ -2147483648 ≤ wa ∧ wa ≤ 2147483647 ∧ -2147483648 ≤ wb ∧ wb ≤ 2147483647 ∧ True := hrg
    refine s_k_serveX_110 ?_
    have hd := hpre.1.1
    have hh := hpre.1.2
    have n2 := hgh.2.1
    have n6 := hgh.2.2.1
    have k0 := hgh.2.2.2.2.1
    have k1 := hgh.2.2.2.2.2
    have hr := zo_b hgh.1.2 (i := (fw_g W 272 0) - 1 - k) (by omega) (by omega)
    rw [← hh] at hr
    have h0 : 0 ≤ h ∧ h < (fw_g W 272 0) := ⟨hr.1, hr.2.1⟩
    have hz1 : 1 ≤ h → 1 ≤ ((fw_g W 272 0)) - 1 - k := fun z => by have := hr.2.2.1; omega
    have hi1 := hi.1
    have hi2 := hi.2.1
    have c0 : wb < (fw_g W 272 0) → (fw_g W 297 wb) = 0 := fun z => hpre.2.2.1 wb hi1.1 (by omega)
    have w1 : wb < (fw_g W 272 0) → fw_g (fw_put [301, 303, 304, 305, 306, 307, 308, 309, 310, 311, 312, 313, 314, 315, 316] 0 [] W f) (fw_rc 302 h) wb = zsv q ((fw_g W 272 0)) k h wb + 1 := fun z => (fr_in rfl (by omega) (by omega)).trans (hi.2.2.1 wb hi1.1 z)
    have w2 : wb < (fw_g W 272 0) → fw_g (fw_put [301, 303, 304, 305, 306, 307, 308, 309, 310, 311, 312, 313, 314, 315, 316] 0 [] W f) (fw_rc 302 wa) wb = ztb q ((fw_g W 272 0)) k wa wb + 1 := fun z => (fr_in rfl (by omega) (by omega)).trans (hi.2.2.2.1 wa wb (by omega) (by omega) hi1.1 z (by omega) (Or.inr (by omega)))
    have fb := zf_b q ((fw_g W 272 0)) k h ((fw_g W 272 0))
    have tb9 : wb < (fw_g W 272 0) → 0 ≤ ztb q ((fw_g W 272 0)) k wa wb ∧ ztb q ((fw_g W 272 0)) k wa wb ≤ 6999999 := fun z => zt_b q ((fw_g W 272 0)) k wa wb (by omega) (by omega) hi1.1 (by omega) (by omega) (by omega)
    have zb9 : wb < (fw_g W 272 0) → 0 ≤ zsv q ((fw_g W 272 0)) k h wb ∧ zsv q ((fw_g W 272 0)) k h wb ≤ 6999999 := fun z => by
      have e := zs_e q ((fw_g W 272 0)) k h wb
      have b := zt_b q ((fw_g W 272 0)) k h wb h0.1 (by omega) hi1.1 (by omega) (by omega) (by omega)
      by_cases y : zD q h wb ≤ 1
      · rw [e.1 y]; exact b
      · rw [e.2 y]; omega
    repeat' (first
      | (exact True.intro)
      | (exact hpre.1)
      | (refine And.intro ?_ ?_)
      | (refine (ih _ (by omega) _ _ _ rfl ?_); (
        have z : wb < (fw_g W 272 0) := by omega
        have y1 := w1 z
        have y2 := w2 z
        have yb := tb9 z
        have yc := zb9 z
        refine ⟨by omega, hi.2.1, fun w w0 w1 => ?_, fun a w a0 a1 w0 w1 ah hc => ?_, fun w w0 w1 => ?_⟩
        · rw [fr_if (by omega) (by omega) (by omega) (by omega) (by omega) (by omega) (by omega) (by omega), if_neg (fun y => by omega), fr_in rfl (by omega) (by omega)]
          exact hi.2.2.1 w w0 w1
        · rw [fr_if (by omega) (by omega) (by omega) (by omega) (by omega) (by omega) (by omega) (by omega), if_neg (fun y => by omega), fr_in rfl (by omega) (by omega)]
          exact hi.2.2.2.1 a w a0 a1 w0 w1 ah (by omega)
        · rw [fr_if (by omega) (by omega) (by omega) (by omega) (by omega) (by omega) (by omega) (by omega)]
          by_cases e : wb = w
          · rw [if_pos ⟨rfl, e⟩, ← e]
            have t := (zt_s q (n := (fw_g W 272 0)) (k := k) (x := h) (h := wa) (w := wb) k0 k1 hh (by omega) (by omega) (by omega) (by omega)).2.1 (by omega) (by omega) (by omega)
            omega
          · rw [if_neg (fun y => e y.2), fr_in rfl (by omega) (by omega)]
            exact hi.2.2.2.2 w w0 (by omega)))
      | (refine jf_put (S := [301, 303, 304, 305, 306, 307, 308, 309, 310, 311, 312, 313, 314, 315, 316]) (o := 0) (F := []) (W := W) (by repeat (first | exact fw_sm_refl | exact fw_sm_put0 | refine fw_sm_arr ?_ rfl | refine fw_sm_up ?_ rfl | refine fw_sm_put ?_ rfl | refine fw_sm_cp ?_ rfl | refine fw_sm_upr ?_ rfl)) (ih _ (by omega) _ _ _ rfl ?_); (
        have z : wb < (fw_g W 272 0) := by omega
        have y1 := w1 z
        have y2 := w2 z
        have yb := tb9 z
        have yc := zb9 z
        refine ⟨by omega, hi.2.1, fun w w0 w1 => ?_, fun a w a0 a1 w0 w1 ah hc => ?_, fun w w0 w1 => ?_⟩
        · rw [fr_if (by omega) (by omega) (by omega) (by omega) (by omega) (by omega) (by omega) (by omega), if_neg (fun y => by omega), fr_in rfl (by omega) (by omega)]
          exact hi.2.2.1 w w0 w1
        · rw [fr_if (by omega) (by omega) (by omega) (by omega) (by omega) (by omega) (by omega) (by omega), if_neg (fun y => by omega), fr_in rfl (by omega) (by omega)]
          exact hi.2.2.2.1 a w a0 a1 w0 w1 ah (by omega)
        · rw [fr_if (by omega) (by omega) (by omega) (by omega) (by omega) (by omega) (by omega) (by omega)]
          by_cases e : wb = w
          · rw [if_pos ⟨rfl, e⟩, ← e]
            have t := (zt_s q (n := (fw_g W 272 0)) (k := k) (x := h) (h := wa) (w := wb) k0 k1 hh (by omega) (by omega) (by omega) (by omega)).2.1 (by omega) (by omega) (by omega)
            omega
          · rw [if_neg (fun y => e y.2), fr_in rfl (by omega) (by omega)]
            exact hi.2.2.2.2 w w0 (by omega)))
      | (refine hP _ (by repeat (first | exact fw_sm_refl | exact fw_sm_put0 | refine fw_sm_arr ?_ rfl | refine fw_sm_up ?_ rfl | refine fw_sm_put ?_ rfl | refine fw_sm_cp ?_ rfl | refine fw_sm_upr ?_ rfl)) ?_; (
        first
          | (have hN : wb = (fw_g W 272 0) := by omega
             have hiN := hi
             rw [hN] at hiN
             refine ⟨fun a w a0 a1 w0 w1 => ?_, hiN.2.1⟩
             have t := zt_s q (n := (fw_g W 272 0)) (k := k) (x := h) (h := a) (w := w) k0 k1 hh a0 (by omega) w0 (by omega)
             refine (fr_in rfl (by omega) (by omega)).trans ?_
             by_cases e : a = h
             · rw [t.1 e, e]
               exact hiN.2.2.1 w w0 w1
             · by_cases e2 : a = wa
               · rw [e2]
                 exact hiN.2.2.2.2 w w0 w1
               · rw [t.2.2 e (Or.inr (by omega))]
                 exact hiN.2.2.2.1 a w a0 a1 w0 w1 e (Or.inl e2))
          | (have hN : wa = (fw_g W 272 0) := by omega
             have hiN := hi
             rw [hN] at hiN
             have e0 : h = 0 := by
               apply Classical.byContradiction
               intro z
               have := rts h0.2 (by omega)
               omega
             refine ⟨fun a w a0 a1 w0 w1 => ?_, hiN.2.1⟩
             have t := zt_s q (n := (fw_g W 272 0)) (k := k) (x := h) (h := a) (w := w) k0 k1 hh a0 (by omega) w0 (by omega)
             refine (fr_in rfl (by omega) (by omega)).trans ?_
             by_cases e : a = h
             · rw [t.1 e, e]
               exact hiN.2.2.1 w w0 w1
             · rw [t.2.2 e (Or.inl e0)]
               exact hiN.2.2.2 a w a0 a1 w0 w1 (Or.inl e))))
      | omega
      | (intro _))
theorem lm_k_serveX_10 {Post : Option fw_V → fw_W → Prop} {d : Nat} {W : fw_W} {h dd : Int} (q : List Nat) (k : Int) (hgh : (qok ((fw_g W 272 0)).toNat q = true ∧ qk2 ((fw_g W 272 0)).toNat q = true) ∧ 2 ≤ (fw_g W 272 0) ∧ (fw_g W 272 0) ≤ 6 ∧ (∀ x_, 1 ≤ x_ → x_ < (fw_g W 272 0) → (fw_g W 273 x_) = ((qp q x_.toNat : Nat) : Int)) ∧ 0 ≤ k ∧ k < (fw_g W 272 0)) (hpre : (dd = 1 ∧ h = zo q ((fw_g W 272 0)) ((fw_g W 272 0) - 1 - k)) ∧ (∀ u_ t_, 0 ≤ u_ → u_ < (fw_g W 272 0) → 0 ≤ t_ → t_ < (fw_g W 272 0) → fw_g W (fw_rc 278 u_) t_ = zD q u_ t_) ∧ (∀ x_, 0 ≤ x_ → x_ < 14 → (fw_g W 297 x_) = 0) ∧ (fw_g W 273 0) = -1 ∧ (∀ a_ w_, 0 ≤ a_ → a_ < (fw_g W 272 0) → 0 ≤ w_ → w_ < (fw_g W 272 0) → fw_g W (fw_rc 302 a_) w_ = ztb q ((fw_g W 272 0)) (k) a_ w_ + 1)) (hP : ∀ (W2 : fw_W), fw_sm [301, 303, 304, 305, 306, 307, 308, 309, 310, 311, 312, 313, 314, 315, 316] 0 [] W W2 → ((∀ a_ w_, 0 ≤ a_ → a_ < (fw_g W 272 0) → 0 ≤ w_ → w_ < (fw_g W 272 0) → fw_g W2 (fw_rc 302 a_) w_ = ztb q ((fw_g W 272 0)) (k + 1) a_ w_ + 1) ∧ (fw_g W2 301 h) = zfm q ((fw_g W 272 0)) k h ((fw_g W 272 0)) + 1) → Post none W2)  : ∀ (m : Nat) (wa : Int) (f : fw_W), ((fw_g W 272 0) - wa).toNat = m → ((0 ≤ wa ∧ wa ≤ (fw_g W 272 0)) ∧ (fw_g f 301 h) = zfm q ((fw_g W 272 0)) k h wa + 1 ∧ (∀ w_, 0 ≤ w_ → w_ < wa → (fw_g f (fw_rc 302 (h)) (w_)) = zsv q ((fw_g W 272 0)) k h w_ + 1) ∧ (∀ a_ w_, 0 ≤ a_ → a_ < (fw_g W 272 0) → 0 ≤ w_ → w_ < (fw_g W 272 0) → (a_ ≠ h ∨ wa ≤ w_) → (fw_g f (fw_rc 302 (a_)) (w_)) = ztb q ((fw_g W 272 0)) k a_ w_ + 1)) → jf fw_T (d + 2) 80 10 [(0, .inr (.inl 296)), (1, .inl h), (2, .inl dd), (3, .inl wa)] [] (fw_put [301, 303, 304, 305, 306, 307, 308, 309, 310, 311, 312, 313, 314, 315, 316] 0 [] W f) Post := by
  intro m
  induction m using Nat.strongRecOn with
  | ind m ih =>
    intro wa f hm hi
    refine jf_rng (fun hrg => ?_)
    have hrg : -2147483648 ≤ h ∧ h ≤ 2147483647 ∧ -2147483648 ≤ dd ∧ dd ≤ 2147483647 ∧ -2147483648 ≤ wa ∧ wa ≤ 2147483647 ∧ True := hrg
    refine s_k_serveX_10 ?_
    have hd := hpre.1.1
    have hh := hpre.1.2
    have n2 := hgh.2.1
    have n6 := hgh.2.2.1
    have k0 := hgh.2.2.2.2.1
    have k1 := hgh.2.2.2.2.2
    have hr := zo_b hgh.1.2 (i := (fw_g W 272 0) - 1 - k) (by omega) (by omega)
    rw [← hh] at hr
    have h0 : 0 ≤ h ∧ h < (fw_g W 272 0) := ⟨hr.1, hr.2.1⟩
    have hz1 : 1 ≤ h → 1 ≤ ((fw_g W 272 0)) - 1 - k := fun z => by have := hr.2.2.1; omega
    have hi1 := hi.1
    have hi2 := hi.2.1
    have c0 : wa < (fw_g W 272 0) → (fw_g W 297 wa) = 0 := fun z => hpre.2.2.1 wa hi1.1 (by omega)
    have wl : wa < (fw_g W 272 0) → fw_g (fw_put [301, 303, 304, 305, 306, 307, 308, 309, 310, 311, 312, 313, 314, 315, 316] 0 [] W f) (fw_rc 278 h) wa = zD q h wa := fun z => (fr_out rfl (by omega) (by omega)).trans (hpre.2.1 h wa h0.1 h0.2 hi1.1 z)
    have ws : wa < (fw_g W 272 0) → fw_g (fw_put [301, 303, 304, 305, 306, 307, 308, 309, 310, 311, 312, 313, 314, 315, 316] 0 [] W f) (fw_rc 302 h) wa = ztb q ((fw_g W 272 0)) k h wa + 1 := fun z => (fr_in rfl (by omega) (by omega)).trans (hi.2.2.2 h wa h0.1 h0.2 hi1.1 z (Or.inr (by omega)))
    have r2 : wa < (fw_g W 272 0) → fw_g (fw_upr (fw_put [301, 303, 304, 305, 306, 307, 308, 309, 310, 311, 312, 313, 314, 315, 316] 0 [] W f) 302 h wa (1000000 : Int)) (fw_rc 302 h) wa = 1000000 := fun z => (fr_if (by omega) (by omega) (by omega) (by omega) (by omega) (by omega) (by omega) (by omega)).trans (if_pos ⟨rfl, rfl⟩)
    have seU : Unit → _ := fun _ => zs_e q ((fw_g W 272 0)) k h wa
    have fs := zf_s q ((fw_g W 272 0)) k h hi1.1
    have fb := zf_b q ((fw_g W 272 0)) k h wa
    have tb9 : wa < (fw_g W 272 0) → 0 ≤ ztb q ((fw_g W 272 0)) k h wa ∧ ztb q ((fw_g W 272 0)) k h wa ≤ 6999999 := fun z => zt_b q ((fw_g W 272 0)) k h wa h0.1 (by omega) hi1.1 (by omega) (by omega) (by omega)
    have rts : h < (fw_g W 272 0) → 1 ≤ h → 0 ≤ (fw_g W 273 h) ∧ (fw_g W 273 h) < (fw_g W 272 0) := fun _ z => by
      have e := hgh.2.2.2.1 h z h0.2
      have p := zo_p hgh.1.2 (i := (fw_g W 272 0) - 1 - k) (hz1 z) (by omega)
      rw [← hh] at p
      omega
    repeat' (first
      | (exact True.intro)
      | (exact hpre.1)
      | (refine And.intro ?_ ?_)
      | (refine (ih _ (by omega) _ _ rfl ?_); (
        have z : wa < (fw_g W 272 0) := by omega
        have zc := c0 z
        have zl := wl z
        have zw := ws z
        have z2 := r2 z
        have ze := seU ()
        have zt := tb9 z
        first
          | (exfalso; omega)
          | (have e1 := ze.2 (by omega)
             refine ⟨by omega, ?_, fun w w1 w2 => ?_, fun a w a0 a1 w0 w1 hc => ?_⟩
             · refine (fg_same (by omega) (by omega)).trans ?_
               omega
             · rw [fr_up rfl (by omega) (by omega), fr_if (by omega) (by omega) (by omega) (by omega) (by omega) (by omega) (by omega) (by omega)]
               by_cases e : wa = w
               · rw [if_pos ⟨rfl, e⟩, ← e, e1]
                 omega
               · rw [if_neg (fun y => e y.2), fr_in rfl (by omega) (by omega)]
                 exact hi.2.2.1 w w1 (by omega)
             · rw [fr_up rfl (by omega) (by omega), fr_if (by omega) (by omega) (by omega) (by omega) (by omega) (by omega) (by omega) (by omega), if_neg (fun y => by omega), fr_in rfl (by omega) (by omega)]
               exact hi.2.2.2 a w a0 a1 w0 w1 (by omega))
          | (have e1 := ze.1 (by omega)
             refine ⟨by omega, ?_, fun w w1 w2 => ?_, fun a w a0 a1 w0 w1 hc => ?_⟩
             · refine (fg_same (by omega) (by omega)).trans ?_
               omega
             · rw [fr_up rfl (by omega) (by omega), fr_in rfl (by omega) (by omega)]
               by_cases e : wa = w
               · subst e
                 exact (hi.2.2.2 h wa h0.1 h0.2 (by omega) (by omega) (Or.inr (by omega))).trans (by omega)
               · exact hi.2.2.1 w w1 (by omega)
             · rw [fr_up rfl (by omega) (by omega), fr_in rfl (by omega) (by omega)]
               exact hi.2.2.2 a w a0 a1 w0 w1 (by omega))))
      | (refine jf_put (S := [301, 303, 304, 305, 306, 307, 308, 309, 310, 311, 312, 313, 314, 315, 316]) (o := 0) (F := []) (W := W) (by repeat (first | exact fw_sm_refl | exact fw_sm_put0 | refine fw_sm_arr ?_ rfl | refine fw_sm_up ?_ rfl | refine fw_sm_put ?_ rfl | refine fw_sm_cp ?_ rfl | refine fw_sm_upr ?_ rfl)) (ih _ (by omega) _ _ rfl ?_); (
        have z : wa < (fw_g W 272 0) := by omega
        have zc := c0 z
        have zl := wl z
        have zw := ws z
        have z2 := r2 z
        have ze := seU ()
        have zt := tb9 z
        first
          | (exfalso; omega)
          | (have e1 := ze.2 (by omega)
             refine ⟨by omega, ?_, fun w w1 w2 => ?_, fun a w a0 a1 w0 w1 hc => ?_⟩
             · refine (fg_same (by omega) (by omega)).trans ?_
               omega
             · rw [fr_up rfl (by omega) (by omega), fr_if (by omega) (by omega) (by omega) (by omega) (by omega) (by omega) (by omega) (by omega)]
               by_cases e : wa = w
               · rw [if_pos ⟨rfl, e⟩, ← e, e1]
                 omega
               · rw [if_neg (fun y => e y.2), fr_in rfl (by omega) (by omega)]
                 exact hi.2.2.1 w w1 (by omega)
             · rw [fr_up rfl (by omega) (by omega), fr_if (by omega) (by omega) (by omega) (by omega) (by omega) (by omega) (by omega) (by omega), if_neg (fun y => by omega), fr_in rfl (by omega) (by omega)]
               exact hi.2.2.2 a w a0 a1 w0 w1 (by omega))
          | (have e1 := ze.1 (by omega)
             refine ⟨by omega, ?_, fun w w1 w2 => ?_, fun a w a0 a1 w0 w1 hc => ?_⟩
             · refine (fg_same (by omega) (by omega)).trans ?_
               omega
             · rw [fr_up rfl (by omega) (by omega), fr_in rfl (by omega) (by omega)]
               by_cases e : wa = w
               · subst e
                 exact (hi.2.2.2 h wa h0.1 h0.2 (by omega) (by omega) (Or.inr (by omega))).trans (by omega)
               · exact hi.2.2.1 w w1 (by omega)
             · rw [fr_up rfl (by omega) (by omega), fr_in rfl (by omega) (by omega)]
               exact hi.2.2.2 a w a0 a1 w0 w1 (by omega))))
      | (refine (lm_k_serveX_110 (h := h) (dd := dd) q k hgh hpre hP _ _ _ _ rfl ?_); (
        have hN : wa = (fw_g W 272 0) := by omega
        have hiN := hi
        rw [hN] at hiN
        have h1 : 1 ≤ h := by
          apply Classical.byContradiction
          intro z
          have e0 : h = 0 := by omega
          have z0 := hpre.2.2.2.1
          rw [← e0] at z0
          omega
        have e := hgh.2.2.2.1 h h1 h0.2
        have p := zo_p hgh.1.2 (i := (fw_g W 272 0) - 1 - k) (hz1 h1) (by omega)
        rw [← hh] at p
        exact ⟨⟨by omega, by omega, h1, e, by omega, by omega⟩, hiN.2.1, hiN.2.2.1, fun a w a0 a1 w0 w1 ah _ => hi.2.2.2 a w a0 a1 w0 w1 (Or.inl ah), fun w w0 w1 => by omega⟩))
      | (refine jf_put (S := [301, 303, 304, 305, 306, 307, 308, 309, 310, 311, 312, 313, 314, 315, 316]) (o := 0) (F := []) (W := W) (by repeat (first | exact fw_sm_refl | exact fw_sm_put0 | refine fw_sm_arr ?_ rfl | refine fw_sm_up ?_ rfl | refine fw_sm_put ?_ rfl | refine fw_sm_cp ?_ rfl | refine fw_sm_upr ?_ rfl)) (lm_k_serveX_110 (h := h) (dd := dd) q k hgh hpre hP _ _ _ _ rfl ?_); (
        have hN : wa = (fw_g W 272 0) := by omega
        have hiN := hi
        rw [hN] at hiN
        have h1 : 1 ≤ h := by
          apply Classical.byContradiction
          intro z
          have e0 : h = 0 := by omega
          have z0 := hpre.2.2.2.1
          rw [← e0] at z0
          omega
        have e := hgh.2.2.2.1 h h1 h0.2
        have p := zo_p hgh.1.2 (i := (fw_g W 272 0) - 1 - k) (hz1 h1) (by omega)
        rw [← hh] at p
        exact ⟨⟨by omega, by omega, h1, e, by omega, by omega⟩, hiN.2.1, hiN.2.2.1, fun a w a0 a1 w0 w1 ah _ => hi.2.2.2 a w a0 a1 w0 w1 (Or.inl ah), fun w w0 w1 => by omega⟩))
      | (refine hP _ (by repeat (first | exact fw_sm_refl | exact fw_sm_put0 | refine fw_sm_arr ?_ rfl | refine fw_sm_up ?_ rfl | refine fw_sm_put ?_ rfl | refine fw_sm_cp ?_ rfl | refine fw_sm_upr ?_ rfl)) ?_; (
        first
          | (have hN : wb = (fw_g W 272 0) := by omega
             have hiN := hi
             rw [hN] at hiN
             refine ⟨fun a w a0 a1 w0 w1 => ?_, hiN.2.1⟩
             have t := zt_s q (n := (fw_g W 272 0)) (k := k) (x := h) (h := a) (w := w) k0 k1 hh a0 (by omega) w0 (by omega)
             refine (fr_in rfl (by omega) (by omega)).trans ?_
             by_cases e : a = h
             · rw [t.1 e, e]
               exact hiN.2.2.1 w w0 w1
             · by_cases e2 : a = wa
               · rw [e2]
                 exact hiN.2.2.2.2 w w0 w1
               · rw [t.2.2 e (Or.inr (by omega))]
                 exact hiN.2.2.2.1 a w a0 a1 w0 w1 e (Or.inl e2))
          | (have hN : wa = (fw_g W 272 0) := by omega
             have hiN := hi
             rw [hN] at hiN
             have e0 : h = 0 := by
               apply Classical.byContradiction
               intro z
               have := rts h0.2 (by omega)
               omega
             refine ⟨fun a w a0 a1 w0 w1 => ?_, hiN.2.1⟩
             have t := zt_s q (n := (fw_g W 272 0)) (k := k) (x := h) (h := a) (w := w) k0 k1 hh a0 (by omega) w0 (by omega)
             refine (fr_in rfl (by omega) (by omega)).trans ?_
             by_cases e : a = h
             · rw [t.1 e, e]
               exact hiN.2.2.1 w w0 w1
             · rw [t.2.2 e (Or.inl e0)]
               exact hiN.2.2.2 a w a0 a1 w0 w1 (Or.inl e))))
      | omega
      | (intro _))
def x_k_serveX : fw_X := fun as W Q => match as with
  | [.inr (.inl s_), .inl h, .inl dd] => fw_if (Nat.beq s_ 296) (∃ (q : List Nat), ∃ (k : Int), ((qok ((fw_g W 272 0)).toNat q = true ∧ qk2 ((fw_g W 272 0)).toNat q = true) ∧ 2 ≤ (fw_g W 272 0) ∧ (fw_g W 272 0) ≤ 6 ∧ (∀ x_, 1 ≤ x_ → x_ < (fw_g W 272 0) → (fw_g W 273 x_) = ((qp q x_.toNat : Nat) : Int)) ∧ 0 ≤ k ∧ k < (fw_g W 272 0)) ∧ ((dd = 1 ∧ h = zo q ((fw_g W 272 0)) ((fw_g W 272 0) - 1 - k)) ∧ (∀ u_ t_, 0 ≤ u_ → u_ < (fw_g W 272 0) → 0 ≤ t_ → t_ < (fw_g W 272 0) → fw_g W (fw_rc 278 u_) t_ = zD q u_ t_) ∧ (∀ x_, 0 ≤ x_ → x_ < 14 → (fw_g W 297 x_) = 0) ∧ (fw_g W 273 0) = -1 ∧ (∀ a_ w_, 0 ≤ a_ → a_ < (fw_g W 272 0) → 0 ≤ w_ → w_ < (fw_g W 272 0) → fw_g W (fw_rc 302 a_) w_ = ztb q ((fw_g W 272 0)) (k) a_ w_ + 1)) ∧ (∀ (f : fw_W), ((∀ a_ w_, 0 ≤ a_ → a_ < (fw_g W 272 0) → 0 ≤ w_ → w_ < (fw_g W 272 0) → fw_g f (fw_rc 302 a_) w_ = ztb q ((fw_g W 272 0)) (k + 1) a_ w_ + 1) ∧ (fw_g f 301 h) = zfm q ((fw_g W 272 0)) k h ((fw_g W 272 0)) + 1) → Q none (fw_put [301, 303, 304, 305, 306, 307, 308, 309, 310, 311, 312, 313, 314, 315, 316] 0 [] W f)))
  | _ => False
theorem x_k_serveX_ok (d : Nat) (as : List fw_V) (W : fw_W) (Q : Option fw_V → fw_W → Prop) (hx : x_k_serveX as W Q) : jf fw_T (d + 2) 80 0 (fw_args 0 as) [] W Q := by
  unfold x_k_serveX at hx
  split at hx
  · rename_i s_ h dd
    obtain ⟨e_, q, k, hgh, hpre, hQ⟩ := fw_if_ok hx
    have e_ := Nat.eq_of_beq_eq_true e_
    subst e_
    have hP : ∀ (W2 : fw_W), fw_sm [301, 303, 304, 305, 306, 307, 308, 309, 310, 311, 312, 313, 314, 315, 316] 0 [] W W2 → _ → Q none W2 := fun W2 hs hr => fw_sm_use (Q := fun Z => Q none Z) hs (hQ W2 hr)
    refine s_k_serveX_0 ?_
    have hd := hpre.1.1
    have hh := hpre.1.2
    have n2 := hgh.2.1
    have n6 := hgh.2.2.1
    have k0 := hgh.2.2.2.2.1
    have k1 := hgh.2.2.2.2.2
    have hr := zo_b hgh.1.2 (i := (fw_g W 272 0) - 1 - k) (by omega) (by omega)
    rw [← hh] at hr
    have h0 : 0 ≤ h ∧ h < (fw_g W 272 0) := ⟨hr.1, hr.2.1⟩
    have hz1 : 1 ≤ h → 1 ≤ ((fw_g W 272 0)) - 1 - k := fun z => by have := hr.2.2.1; omega
    repeat' (first
      | (exact True.intro)
      | (exact hpre.1)
      | (refine And.intro ?_ ?_)
      | (refine jf_put (S := [301, 303, 304, 305, 306, 307, 308, 309, 310, 311, 312, 313, 314, 315, 316]) (o := 0) (F := []) (W := W) (by repeat (first | exact fw_sm_refl | exact fw_sm_put0 | refine fw_sm_arr ?_ rfl | refine fw_sm_up ?_ rfl | refine fw_sm_put ?_ rfl | refine fw_sm_cp ?_ rfl | refine fw_sm_upr ?_ rfl)) (lm_k_serveX_10 (h := h) (dd := dd) q k hgh hpre hP _ _ _ rfl ?_); (
        refine ⟨by omega, ?_, fun w w1 w2 => by omega, fun a w a0 a1 w0 w1 _ => ?_⟩
        · exact (fg_same (by omega) (by omega)).trans (by rw [zf_0]; rfl)
        · rw [fr_up rfl (by omega) (by omega)]
          exact hpre.2.2.2.2 a w a0 a1 w0 w1))
      | (refine jf_put (S := [301, 303, 304, 305, 306, 307, 308, 309, 310, 311, 312, 313, 314, 315, 316]) (o := 0) (F := []) (W := W) (by repeat (first | exact fw_sm_refl | exact fw_sm_put0 | refine fw_sm_arr ?_ rfl | refine fw_sm_up ?_ rfl | refine fw_sm_put ?_ rfl | refine fw_sm_cp ?_ rfl | refine fw_sm_upr ?_ rfl)) (lm_k_serveX_110 (h := h) (dd := dd) q k hgh hpre hP _ _ _ _ rfl ?_); (first | omega | trivial | (simp (config := { decide := true }) only [fg_in, fg_fin, fg_out, fg_fout, fg_up, fg_same, true_and, and_true] <;> omega)))
      | (refine hP _ (by repeat (first | exact fw_sm_refl | exact fw_sm_put0 | refine fw_sm_arr ?_ rfl | refine fw_sm_up ?_ rfl | refine fw_sm_put ?_ rfl | refine fw_sm_cp ?_ rfl | refine fw_sm_upr ?_ rfl)) ?_; (
        first
          | (have hN : wb = (fw_g W 272 0) := by omega
             have hiN := hi
             rw [hN] at hiN
             refine ⟨fun a w a0 a1 w0 w1 => ?_, hiN.2.1⟩
             have t := zt_s q (n := (fw_g W 272 0)) (k := k) (x := h) (h := a) (w := w) k0 k1 hh a0 (by omega) w0 (by omega)
             refine (fr_in rfl (by omega) (by omega)).trans ?_
             by_cases e : a = h
             · rw [t.1 e, e]
               exact hiN.2.2.1 w w0 w1
             · by_cases e2 : a = wa
               · rw [e2]
                 exact hiN.2.2.2.2 w w0 w1
               · rw [t.2.2 e (Or.inr (by omega))]
                 exact hiN.2.2.2.1 a w a0 a1 w0 w1 e (Or.inl e2))
          | (have hN : wa = (fw_g W 272 0) := by omega
             have hiN := hi
             rw [hN] at hiN
             have e0 : h = 0 := by
               apply Classical.byContradiction
               intro z
               have := rts h0.2 (by omega)
               omega
             refine ⟨fun a w a0 a1 w0 w1 => ?_, hiN.2.1⟩
             have t := zt_s q (n := (fw_g W 272 0)) (k := k) (x := h) (h := a) (w := w) k0 k1 hh a0 (by omega) w0 (by omega)
             refine (fr_in rfl (by omega) (by omega)).trans ?_
             by_cases e : a = h
             · rw [t.1 e, e]
               exact hiN.2.2.1 w w0 w1
             · rw [t.2.2 e (Or.inl e0)]
               exact hiN.2.2.2 a w a0 a1 w0 w1 (Or.inl e))))
      | omega
      | (intro _))
  · exact hx.elim

