/-! the class, the laws tried, exactly -/
def fv_tryx : List (Nat × ai_C) := [(268, .inr (.inr (.inr (4, [.inr (.inl [269]), .inr (.inl [270]), .inr (.inl [271]), .inr (.inl [272]), .inr (.inl [276]), .inr (.inl [296]), .inr (.inl [323])])))), (269, .inl (.int, 14, 0, 15, true)), (270, .inl (.int, 14, -2147483648, 2147483647, true)), (271, .inl (.int, 14, -2147483648, 2147483647, true)), (323, .inl (.int, 21, 0, 1, true)), (272, .inr (.inr (.inr (9, [.inl (0, 14, true), .inl (0, 999, true), .inr (.inl [273]), .inr (.inl [274]), .inr (.inl [275])])))), (273, .inl (.int, 14, -1, 13, true)), (274, .inl (.int, 14, 0, 99, true)), (275, .inl (.int, 14, 0, 99, true)), (276, .inr (.inr (.inr (10, [.inr (.inl [277]), .inr (.inl [278]), .inl (-2147483648, 2147483647, true), .inl (-2147483648, 2147483647, true), .inl (-2147483648, 2147483647, true), .inr (.inl [272]), .inr (.inl [293]), .inr (.inl [294]), .inr (.inl [295])])))), (277, .inl (.int, 14, 0, 13, true)), (296, .inr (.inr (.inr (6, [.inl (-2147483648, 2147483647, true), .inl (-2147483648, 2147483647, true), .inr (.inl [272]), .inr (.inl [276]), .inr (.inl [297]), .inr (.inl [298]), .inr (.inl [299]), .inr (.inl [300]), .inr (.inl [301]), .inr (.inl [302]), .inr (.inl [317])])))), (297, .inl (.int, 14, -2147483648, 2147483647, true)), (298, .inl (.int, 14, -2147483648, 2147483647, true)), (299, .inl (.int, 14, -2147483648, 2147483647, true)), (300, .inl (.int, 14, -2147483648, 2147483647, true)), (301, .inl (.int, 14, -2147483648, 2147483647, true))]
def fg_tryx_G : fw_G := []
theorem fv_tryx_ok : fw_view fw_T fv_tryx fg_tryx_G := fw_vb_ok (by decide +kernel)
def ct_k_hangAllX : List (Nat × fw_X) := [(49, x_k_hangNextT)]
theorem ct_k_hangAllX_ok (d : Nat) : fw_cok fw_T (d + 1) ct_k_hangAllX := by
  intro q hq as W Q h
  simp only [ct_k_hangAllX, List.mem_cons, List.not_mem_nil, or_false] at hq
  rcases hq with rfl
  · exact jc_of (x_k_hangNextT_ok (d + 0) as W Q h)
theorem s_k_hangAllX_0 {Post : Option fw_V → fw_W → Prop} {d : Nat} {W : fw_W} {nn : Int}
    (hw_ : 0 ≤ nn ∧ nn ≤ 14 ∧ (jf fw_T (d + 2) 48 7 [(0, .inr (.inl 268)), (1, .inl nn), (2, .inr (.inl 272)), (3, .inl (0 : Int))] [] (fw_up W 272 0 nn) Post)) :
    jf fw_T (d + 2) 48 0 [(0, .inr (.inl 268)), (1, .inl nn), (2, .inr (.inl 272))] [] W Post := fw_ok (n := 6) (ss := [(7, [0, 1, 2, 3]), (52, [0, 1, 2, 3, 4]), (61, [0, 1, 2, 3, 4, 5])]) (hv := []) fr_48_ok fv_plT_ok (ct_k_hangAllX_ok d) hw_

theorem s_k_hangAllX_61 {Post : Option fw_V → fw_W → Prop} {d : Nat} {W : fw_W} {nn hu rr h : Int} {f : fw_W}
    (hw_ : ((nn ≤ h → -2147483648 ≤ rr + (1 : Int) ∧ rr + (1 : Int) ≤ 2147483647 ∧ (jf fw_T (d + 2) 48 52 [(0, .inr (.inl 268)), (1, .inl nn), (2, .inr (.inl 272)), (3, .inl hu), (4, .inl (rr + (1 : Int)))] [] (fw_put [273, 274, 275] 0 [272000] W f) Post)) ∧ (h < nn → (-2147483648 ≤ (fw_shr hu h) → (fw_shr hu h) ≤ 2147483647 → (-2147483648 ≤ (fw_and (fw_shr hu h) (1 : Int)) → (fw_and (fw_shr hu h) (1 : Int)) ≤ 2147483647 → (((fw_and (fw_shr hu h) (1 : Int)) = 0 → -2147483648 ≤ h + (1 : Int) ∧ h + (1 : Int) ≤ 2147483647 ∧ (jf fw_T (d + 2) 48 61 [(0, .inr (.inl 268)), (1, .inl nn), (2, .inr (.inl 272)), (3, .inl hu), (4, .inl rr), (5, .inl (h + (1 : Int)))] [] (fw_put [273, 274, 275] 0 [272000] W f) Post)) ∧ (¬ (fw_and (fw_shr hu h) (1 : Int)) = 0 → 0 ≤ h ∧ h < 14 ∧ (-2147483648 ≤ (fw_g W 271 h) → (fw_g W 271 h) ≤ 2147483647 → (-2147483648 ≤ (fw_xor hu (-1 : Int)) → (fw_xor hu (-1 : Int)) ≤ 2147483647 → (-2147483648 ≤ (fw_and (fw_g W 271 h) (fw_xor hu (-1 : Int))) → (fw_and (fw_g W 271 h) (fw_xor hu (-1 : Int))) ≤ 2147483647 → (0 ≤ (fw_and (fw_g W 271 h) (fw_xor hu (-1 : Int))) ∧ (fw_and (fw_g W 271 h) (fw_xor hu (-1 : Int))) < 16384 ∧ 0 ≤ h ∧ h < 14 ∧ 0 ≤ (fw_g f 272 0) ∧ (fw_g f 272 0) ≤ 14) ∧ (∀ (r1 : Int) (f2 : fw_W), ((-2147483648 ≤ r1 ∧ r1 ≤ 2147483647 ∧ (r1 = (fw_and (fw_g W 271 h) (fw_xor hu (-1 : Int))) ∧ ∀ x_, 0 ≤ x_ → x_ < (fw_g f 272 0) → (fw_g f2 273 x_) = if bt (fw_and (fw_g W 271 h) (fw_xor hu (-1 : Int))) x_ = 1 then h else (fw_g f 273 x_)))) → (-2147483648 ≤ (fw_or hu r1) → (fw_or hu r1) ≤ 2147483647 → -2147483648 ≤ h + (1 : Int) ∧ h + (1 : Int) ≤ 2147483647 ∧ (jf fw_T (d + 2) 48 61 [(0, .inr (.inl 268)), (1, .inl nn), (2, .inr (.inl 272)), (3, .inl (fw_or hu r1)), (4, .inl rr), (5, .inl (h + (1 : Int)))] [] (fw_put [273] 0 [] (fw_put [273, 274, 275] 0 [272000] W f) f2) Post))))))))))))) :
    jf fw_T (d + 2) 48 61 [(0, .inr (.inl 268)), (1, .inl nn), (2, .inr (.inl 272)), (3, .inl hu), (4, .inl rr), (5, .inl h)] [] (fw_put [273, 274, 275] 0 [272000] W f) Post := fw_ok (n := 26) (ss := [(7, [0, 1, 2, 3]), (52, [0, 1, 2, 3, 4]), (61, [0, 1, 2, 3, 4, 5])]) (hv := []) fr_48_ok fv_plT_ok (ct_k_hangAllX_ok d) hw_

theorem s_k_hangAllX_52 {Post : Option fw_V → fw_W → Prop} {d : Nat} {W : fw_W} {nn hu rr : Int} {f : fw_W}
    (hw_ : ((nn ≤ rr → Post none (fw_put [273, 274, 275] 0 [272000] W f)) ∧ (rr < nn → jf fw_T (d + 2) 48 61 [(0, .inr (.inl 268)), (1, .inl nn), (2, .inr (.inl 272)), (3, .inl hu), (4, .inl rr), (5, .inl (0 : Int))] [] (fw_put [273, 274, 275] 0 [272000] W f) Post))) :
    jf fw_T (d + 2) 48 52 [(0, .inr (.inl 268)), (1, .inl nn), (2, .inr (.inl 272)), (3, .inl hu), (4, .inl rr)] [] (fw_put [273, 274, 275] 0 [272000] W f) Post := fw_ok (n := 6) (ss := [(7, [0, 1, 2, 3]), (52, [0, 1, 2, 3, 4]), (61, [0, 1, 2, 3, 4, 5])]) (hv := []) fr_48_ok fv_plT_ok (ct_k_hangAllX_ok d) hw_

theorem s_k_hangAllX_7 {Post : Option fw_V → fw_W → Prop} {d : Nat} {W : fw_W} {nn hu : Int} {f : fw_W}
    (hw_ : ((nn ≤ hu → jf fw_T (d + 2) 48 52 [(0, .inr (.inl 268)), (1, .inl nn), (2, .inr (.inl 272)), (3, .inl (1 : Int)), (4, .inl (0 : Int))] [] (fw_put [273, 274, 275] 0 [272000] W f) Post) ∧ (hu < nn → 0 ≤ hu ∧ hu < 14 ∧ -1 ≤ (-1 : Int) ∧ (-1 : Int) ≤ 13 ∧ (((¬ hu = 0 → 0 ≤ hu ∧ hu < 14 ∧ 0 ≤ (1 : Int) ∧ (1 : Int) ≤ 99 ∧ (0 ≤ hu ∧ hu < 14 ∧ 0 ≤ (1 : Int) ∧ (1 : Int) ≤ 99 ∧ (-2147483648 ≤ hu + (1 : Int) ∧ hu + (1 : Int) ≤ 2147483647 ∧ (jf fw_T (d + 2) 48 7 [(0, .inr (.inl 268)), (1, .inl nn), (2, .inr (.inl 272)), (3, .inl (hu + (1 : Int)))] [] (fw_up (fw_up (fw_up (fw_put [273, 274, 275] 0 [272000] W f) 273 hu (-1 : Int)) 274 hu (1 : Int)) 275 hu (1 : Int)) Post)))) ∧ (hu = 0 → 0 ≤ hu ∧ hu < 14 ∧ 0 ≤ (0 : Int) ∧ (0 : Int) ≤ 99 ∧ (0 ≤ hu ∧ hu < 14 ∧ 0 ≤ (1 : Int) ∧ (1 : Int) ≤ 99 ∧ (-2147483648 ≤ hu + (1 : Int) ∧ hu + (1 : Int) ≤ 2147483647 ∧ (jf fw_T (d + 2) 48 7 [(0, .inr (.inl 268)), (1, .inl nn), (2, .inr (.inl 272)), (3, .inl (hu + (1 : Int)))] [] (fw_up (fw_up (fw_up (fw_put [273, 274, 275] 0 [272000] W f) 273 hu (-1 : Int)) 274 hu (0 : Int)) 275 hu (1 : Int)) Post))))))))) :
    jf fw_T (d + 2) 48 7 [(0, .inr (.inl 268)), (1, .inl nn), (2, .inr (.inl 272)), (3, .inl hu)] [] (fw_put [273, 274, 275] 0 [272000] W f) Post := fw_ok (n := 24) (ss := [(7, [0, 1, 2, 3]), (52, [0, 1, 2, 3, 4]), (61, [0, 1, 2, 3, 4, 5])]) (hv := []) fr_48_ok fv_plT_ok (ct_k_hangAllX_ok d) hw_

theorem lm_k_hangAllX_61 {Post : Option fw_V → fw_W → Prop} {d : Nat} {W : fw_W} {nn : Int} (hpre : 2 ≤ nn ∧ nn ≤ 14 ∧ gc_ok nn (nxb W) ∧ kb nn W) (hP : ∀ (W2 : fw_W), fw_sm [273, 274, 275] 0 [272000] W W2 → ((fw_g W2 272 0) = nn ∧ tr nn (fun z_ => (fw_g W2 273 z_)) ∧ (∀ x_, 1 ≤ x_ → x_ < nn → (fw_g W2 274 x_) = 1)) → Post none W2) (M52 : Int) (h52 : ∀ (hu rr : Int) (f : fw_W), ((0 ≤ rr ∧ 0 ≤ hu ∧ hu < 16384 ∧ (fw_g f 272 0) = nn) ∧ hu_ok nn (nxb W) (fun x_ => bt hu x_) (fun z_ => (fw_g f 273 z_)) rr 0 ∧ (∀ x_, 1 ≤ x_ → x_ < nn → (fw_g f 274 x_) = 1)) → (nn - rr) < M52 → jf fw_T (d + 2) 48 52 [(0, .inr (.inl 268)), (1, .inl nn), (2, .inr (.inl 272)), (3, .inl hu), (4, .inl rr)] [] (fw_put [273, 274, 275] 0 [272000] W f) Post) : ∀ (m : Nat) (hu rr h : Int) (f : fw_W), (nn - h).toNat = m → ((0 ≤ rr ∧ rr < nn ∧ 0 ≤ h ∧ 0 ≤ hu ∧ hu < 16384 ∧ (fw_g f 272 0) = nn) ∧ hu_ok nn (nxb W) (fun x_ => bt hu x_) (fun z_ => (fw_g f 273 z_)) rr h ∧ (∀ x_, 1 ≤ x_ → x_ < nn → (fw_g f 274 x_) = 1)) → (nn - rr) ≤ M52 → jf fw_T (d + 2) 48 61 [(0, .inr (.inl 268)), (1, .inl nn), (2, .inr (.inl 272)), (3, .inl hu), (4, .inl rr), (5, .inl h)] [] (fw_put [273, 274, 275] 0 [272000] W f) Post := by
  intro m
  induction m using Nat.strongRecOn with
  | ind m ih =>
    intro hu rr h f hm hi e52
    refine jf_rng (fun hrg => ?_)
    have hrg : -2147483648 ≤ nn ∧ nn ≤ 2147483647 ∧ -2147483648 ≤ hu ∧ hu ≤ 2147483647 ∧ -2147483648 ≤ rr ∧ rr ≤ 2147483647 ∧ -2147483648 ≤ h ∧ h ≤ 2147483647 ∧ True := hrg
    refine s_k_hangAllX_61 ?_
    have hi1 := hi.1
    have hk : h < nn → 0 ≤ fw_g W 271 h ∧ fw_g W 271 h < 16384 := fun z => hpre.2.2.2 h (by omega) z
    have hb : h < 32 → fw_and (fw_shr hu h) 1 = bt hu h := fun z => bt_fw (by omega) (by omega) (by omega) z
    have hb2 := bt_01 hu h
    have hnx : h < nn → 0 ≤ fw_and (fw_g W 271 h) (fw_xor hu (-1)) ∧ fw_and (fw_g W 271 h) (fw_xor hu (-1)) < 16384 := fun z => by
      have q := nxt_bt (k := fw_g W 271 h) (h := hu) (hk z).1 (hk z).2 (by omega) (by omega)
      exact ⟨q.1, q.2.1⟩
    repeat' (first
      | (exact True.intro)
      | (exact hpre.1)
      | (refine And.intro ?_ ?_)
      | (refine (h52 _ _ _ ?_ (by omega)); (exact ⟨by omega, hu_next hi.2.1 (by omega) (by omega) hpre.2.2.1, hi.2.2⟩))
      | (refine jf_put (S := [273, 274, 275]) (o := 0) (F := [272000]) (W := W) (by repeat (first | exact fw_sm_refl | exact fw_sm_put0 | refine fw_sm_arr ?_ rfl | refine fw_sm_up ?_ rfl | refine fw_sm_put ?_ rfl | refine fw_sm_cp ?_ rfl | refine fw_sm_upr ?_ rfl)) (h52 _ _ _ ?_ (by omega)); (exact ⟨by omega, hu_next hi.2.1 (by omega) (by omega) hpre.2.2.1, hi.2.2⟩))
      | (refine (ih _ (by omega) _ _ _ _ rfl ?_ (by omega)); (
        first
          | (refine ⟨by omega, hu_skip hi.2.1 ?_, hi.2.2⟩
             show bt hu h ≠ 1
             have := hb (by omega)
             omega)
          | (rename_i r9 f9 h9 w8 w9
             have hv := h9.2.2.1
             subst hv
             have q := hu_go (hg' := fun z_ => fw_g f9 273 z_) (k := fw_g W 271 h) hi.2.1 (by omega) (by omega) (by omega) (by omega) (by omega) (by have := hb (by omega); omega) rfl (hk (by omega)).1 (hk (by omega)).2 rfl (fun x x1 x2 => h9.2.2.2 x x1 (by omega))
             exact ⟨⟨by omega, by omega, by omega, q.2.1, q.2.2, hi1.2.2.2.2.2⟩, q.1, hi.2.2⟩)))
      | (refine jf_put (S := [273, 274, 275]) (o := 0) (F := [272000]) (W := W) (by repeat (first | exact fw_sm_refl | exact fw_sm_put0 | refine fw_sm_arr ?_ rfl | refine fw_sm_up ?_ rfl | refine fw_sm_put ?_ rfl | refine fw_sm_cp ?_ rfl | refine fw_sm_upr ?_ rfl)) (ih _ (by omega) _ _ _ _ rfl ?_ (by omega)); (
        first
          | (refine ⟨by omega, hu_skip hi.2.1 ?_, hi.2.2⟩
             show bt hu h ≠ 1
             have := hb (by omega)
             omega)
          | (rename_i r9 f9 h9 w8 w9
             have hv := h9.2.2.1
             subst hv
             have q := hu_go (hg' := fun z_ => fw_g f9 273 z_) (k := fw_g W 271 h) hi.2.1 (by omega) (by omega) (by omega) (by omega) (by omega) (by have := hb (by omega); omega) rfl (hk (by omega)).1 (hk (by omega)).2 rfl (fun x x1 x2 => h9.2.2.2 x x1 (by omega))
             exact ⟨⟨by omega, by omega, by omega, q.2.1, q.2.2, hi1.2.2.2.2.2⟩, q.1, hi.2.2⟩)))
      | (refine hP _ (by repeat (first | exact fw_sm_refl | exact fw_sm_put0 | refine fw_sm_arr ?_ rfl | refine fw_sm_up ?_ rfl | refine fw_sm_put ?_ rfl | refine fw_sm_cp ?_ rfl | refine fw_sm_upr ?_ rfl)) ?_; (exact ⟨hi1.2.2.2, hu_end hi.2.1 (by omega) (by omega), hi.2.2⟩))
      | omega
      | (intro _))
theorem lm_k_hangAllX_52 {Post : Option fw_V → fw_W → Prop} {d : Nat} {W : fw_W} {nn : Int} (hpre : 2 ≤ nn ∧ nn ≤ 14 ∧ gc_ok nn (nxb W) ∧ kb nn W) (hP : ∀ (W2 : fw_W), fw_sm [273, 274, 275] 0 [272000] W W2 → ((fw_g W2 272 0) = nn ∧ tr nn (fun z_ => (fw_g W2 273 z_)) ∧ (∀ x_, 1 ≤ x_ → x_ < nn → (fw_g W2 274 x_) = 1)) → Post none W2)  : ∀ (m : Nat) (hu rr : Int) (f : fw_W), (nn - rr).toNat = m → ((0 ≤ rr ∧ 0 ≤ hu ∧ hu < 16384 ∧ (fw_g f 272 0) = nn) ∧ hu_ok nn (nxb W) (fun x_ => bt hu x_) (fun z_ => (fw_g f 273 z_)) rr 0 ∧ (∀ x_, 1 ≤ x_ → x_ < nn → (fw_g f 274 x_) = 1)) → jf fw_T (d + 2) 48 52 [(0, .inr (.inl 268)), (1, .inl nn), (2, .inr (.inl 272)), (3, .inl hu), (4, .inl rr)] [] (fw_put [273, 274, 275] 0 [272000] W f) Post := by
  intro m
  induction m using Nat.strongRecOn with
  | ind m ih =>
    intro hu rr f hm hi
    refine jf_rng (fun hrg => ?_)
    have hrg : -2147483648 ≤ nn ∧ nn ≤ 2147483647 ∧ -2147483648 ≤ hu ∧ hu ≤ 2147483647 ∧ -2147483648 ≤ rr ∧ rr ≤ 2147483647 ∧ True := hrg
    refine s_k_hangAllX_52 ?_
    have hi1 := hi.1
    repeat' (first
      | (exact True.intro)
      | (exact hpre.1)
      | (refine And.intro ?_ ?_)
      | (refine (ih _ (by omega) _ _ _ rfl ?_); (first | omega | trivial | (simp (config := { decide := true }) only [fg_in, fg_fin, fg_out, fg_fout, fg_up, fg_same, true_and, and_true] <;> omega)))
      | (refine jf_put (S := [273, 274, 275]) (o := 0) (F := [272000]) (W := W) (by repeat (first | exact fw_sm_refl | exact fw_sm_put0 | refine fw_sm_arr ?_ rfl | refine fw_sm_up ?_ rfl | refine fw_sm_put ?_ rfl | refine fw_sm_cp ?_ rfl | refine fw_sm_upr ?_ rfl)) (ih _ (by omega) _ _ _ rfl ?_); (first | omega | trivial | (simp (config := { decide := true }) only [fg_in, fg_fin, fg_out, fg_fout, fg_up, fg_same, true_and, and_true] <;> omega)))
      | (refine (lm_k_hangAllX_61 (nn := nn) hpre hP (nn - rr) (fun a0 a1 af hi hl => ih _ (by omega) a0 a1 af rfl hi) _ _ _ _ _ rfl ?_ (by omega)); (exact ⟨by omega, hi.2⟩))
      | (refine jf_put (S := [273, 274, 275]) (o := 0) (F := [272000]) (W := W) (by repeat (first | exact fw_sm_refl | exact fw_sm_put0 | refine fw_sm_arr ?_ rfl | refine fw_sm_up ?_ rfl | refine fw_sm_put ?_ rfl | refine fw_sm_cp ?_ rfl | refine fw_sm_upr ?_ rfl)) (lm_k_hangAllX_61 (nn := nn) hpre hP (nn - rr) (fun a0 a1 af hi hl => ih _ (by omega) a0 a1 af rfl hi) _ _ _ _ _ rfl ?_ (by omega)); (exact ⟨by omega, hi.2⟩))
      | (refine hP _ (by repeat (first | exact fw_sm_refl | exact fw_sm_put0 | refine fw_sm_arr ?_ rfl | refine fw_sm_up ?_ rfl | refine fw_sm_put ?_ rfl | refine fw_sm_cp ?_ rfl | refine fw_sm_upr ?_ rfl)) ?_; (exact ⟨hi1.2.2.2, hu_end hi.2.1 (by omega) (by omega), hi.2.2⟩))
      | omega
      | (intro _))
theorem lm_k_hangAllX_7 {Post : Option fw_V → fw_W → Prop} {d : Nat} {W : fw_W} {nn : Int} (hpre : 2 ≤ nn ∧ nn ≤ 14 ∧ gc_ok nn (nxb W) ∧ kb nn W) (hP : ∀ (W2 : fw_W), fw_sm [273, 274, 275] 0 [272000] W W2 → ((fw_g W2 272 0) = nn ∧ tr nn (fun z_ => (fw_g W2 273 z_)) ∧ (∀ x_, 1 ≤ x_ → x_ < nn → (fw_g W2 274 x_) = 1)) → Post none W2)  : ∀ (m : Nat) (hu : Int) (f : fw_W), (nn - hu).toNat = m → ((0 ≤ hu ∧ hu ≤ nn ∧ (fw_g f 272 0) = nn) ∧ (∀ x_, 0 ≤ x_ → x_ < hu → (fw_g f 273 x_) = -1) ∧ (∀ x_, 1 ≤ x_ → x_ < hu → (fw_g f 274 x_) = 1)) → jf fw_T (d + 2) 48 7 [(0, .inr (.inl 268)), (1, .inl nn), (2, .inr (.inl 272)), (3, .inl hu)] [] (fw_put [273, 274, 275] 0 [272000] W f) Post := by
  intro m
  induction m using Nat.strongRecOn with
  | ind m ih =>
    intro hu f hm hi
    refine jf_rng (fun hrg => ?_)
    have hrg : -2147483648 ≤ nn ∧ nn ≤ 2147483647 ∧ -2147483648 ≤ hu ∧ hu ≤ 2147483647 ∧ True := hrg
    refine s_k_hangAllX_7 ?_
    have hi1 := hi.1
    repeat' (first
      | (exact True.intro)
      | (exact hpre.1)
      | (refine And.intro ?_ ?_)
      | (refine (ih _ (by omega) _ _ rfl ?_); (
        refine ⟨⟨by omega, by omega, by first | omega | (simp (disch := first | decide | omega) only [fg_same, fg_lit, fg_in, fg_fin, fg_out, fg_fout, fg_up, true_and, and_true, true_or, or_true, true_implies]; omega) | (simp (disch := first | decide | omega) only [fg_same, fg_lit, fg_in, fg_fin, fg_out, fg_fout, fg_up, true_and, and_true, true_or, or_true, true_implies]; first | done | omega)⟩, fun x x1 x2 => ?_, fun x x1 x2 => ?_⟩
        · rw [fg_up rfl, fg_up rfl, fg_if (by omega) (by omega) (by omega) (by omega)]
          by_cases e : hu = x
          · rw [if_pos e]
          · rw [if_neg e]; exact hi.2.1 x x1 (by omega)
        · rw [fg_up rfl, fg_if (by omega) (by omega) (by omega) (by omega)]
          by_cases e : hu = x
          · rw [if_pos e]
            try omega
          · rw [if_neg e, fg_up rfl]; exact hi.2.2 x x1 (by omega)))
      | (refine jf_put (S := [273, 274, 275]) (o := 0) (F := [272000]) (W := W) (by repeat (first | exact fw_sm_refl | exact fw_sm_put0 | refine fw_sm_arr ?_ rfl | refine fw_sm_up ?_ rfl | refine fw_sm_put ?_ rfl | refine fw_sm_cp ?_ rfl | refine fw_sm_upr ?_ rfl)) (ih _ (by omega) _ _ rfl ?_); (
        refine ⟨⟨by omega, by omega, by first | omega | (simp (disch := first | decide | omega) only [fg_same, fg_lit, fg_in, fg_fin, fg_out, fg_fout, fg_up, true_and, and_true, true_or, or_true, true_implies]; omega) | (simp (disch := first | decide | omega) only [fg_same, fg_lit, fg_in, fg_fin, fg_out, fg_fout, fg_up, true_and, and_true, true_or, or_true, true_implies]; first | done | omega)⟩, fun x x1 x2 => ?_, fun x x1 x2 => ?_⟩
        · rw [fg_up rfl, fg_up rfl, fg_if (by omega) (by omega) (by omega) (by omega)]
          by_cases e : hu = x
          · rw [if_pos e]
          · rw [if_neg e]; exact hi.2.1 x x1 (by omega)
        · rw [fg_up rfl, fg_if (by omega) (by omega) (by omega) (by omega)]
          by_cases e : hu = x
          · rw [if_pos e]
            try omega
          · rw [if_neg e, fg_up rfl]; exact hi.2.2 x x1 (by omega)))
      | (refine (lm_k_hangAllX_52 (nn := nn) hpre hP _ _ _ _ rfl ?_); (
        refine ⟨⟨by omega, by omega, by omega, hi1.2.2⟩, hu_init (by omega) ?_ (fun x x1 x2 => ?_) ?_, fun x x1 x2 => hi.2.2 x x1 (by omega)⟩
        · exact (bt_1 (by omega)).trans (if_pos rfl)
        · show bt 1 x ≠ 1
          rw [bt_1 (by omega), if_neg (by omega)]
          decide
        · exact hi.2.1 0 (by omega) (by omega)))
      | (refine jf_put (S := [273, 274, 275]) (o := 0) (F := [272000]) (W := W) (by repeat (first | exact fw_sm_refl | exact fw_sm_put0 | refine fw_sm_arr ?_ rfl | refine fw_sm_up ?_ rfl | refine fw_sm_put ?_ rfl | refine fw_sm_cp ?_ rfl | refine fw_sm_upr ?_ rfl)) (lm_k_hangAllX_52 (nn := nn) hpre hP _ _ _ _ rfl ?_); (
        refine ⟨⟨by omega, by omega, by omega, hi1.2.2⟩, hu_init (by omega) ?_ (fun x x1 x2 => ?_) ?_, fun x x1 x2 => hi.2.2 x x1 (by omega)⟩
        · exact (bt_1 (by omega)).trans (if_pos rfl)
        · show bt 1 x ≠ 1
          rw [bt_1 (by omega), if_neg (by omega)]
          decide
        · exact hi.2.1 0 (by omega) (by omega)))
      | (refine hP _ (by repeat (first | exact fw_sm_refl | exact fw_sm_put0 | refine fw_sm_arr ?_ rfl | refine fw_sm_up ?_ rfl | refine fw_sm_put ?_ rfl | refine fw_sm_cp ?_ rfl | refine fw_sm_upr ?_ rfl)) ?_; (exact ⟨hi1.2.2.2, hu_end hi.2.1 (by omega) (by omega), hi.2.2⟩))
      | omega
      | (intro _))
def x_k_hangAllX : fw_X := fun as W Q => match as with
  | [.inr (.inl s_), .inl nn, .inr (.inl r1_)] => fw_if (Nat.beq s_ 268) (fw_if (Nat.beq r1_ 272) ((2 ≤ nn ∧ nn ≤ 14 ∧ gc_ok nn (nxb W) ∧ kb nn W) ∧ (∀ (f : fw_W), ((fw_g f 272 0) = nn ∧ tr nn (fun z_ => (fw_g f 273 z_)) ∧ (∀ x_, 1 ≤ x_ → x_ < nn → (fw_g f 274 x_) = 1)) → Q none (fw_put [273, 274, 275] 0 [272000] W f))))
  | _ => False
theorem x_k_hangAllX_ok (d : Nat) (as : List fw_V) (W : fw_W) (Q : Option fw_V → fw_W → Prop) (hx : x_k_hangAllX as W Q) : jf fw_T (d + 2) 48 0 (fw_args 0 as) [] W Q := by
  unfold x_k_hangAllX at hx
  split at hx
  · rename_i s_ nn r1_
    obtain ⟨e0_, hx0⟩ := fw_if_ok hx
    have e0_ := Nat.eq_of_beq_eq_true e0_
    clear hx
    subst e0_
    obtain ⟨e1_, hx1⟩ := fw_if_ok hx0
    have e1_ := Nat.eq_of_beq_eq_true e1_
    clear hx0
    subst e1_
    obtain ⟨hpre, hQ⟩ := hx1
    have hP : ∀ (W2 : fw_W), fw_sm [273, 274, 275] 0 [272000] W W2 → _ → Q none W2 := fun W2 hs hr => fw_sm_use (Q := fun Z => Q none Z) hs (hQ W2 hr)
    refine s_k_hangAllX_0 ?_
    repeat' (first
      | (exact True.intro)
      | (exact hpre.1)
      | (refine And.intro ?_ ?_)
      | (refine jf_put (S := [273, 274, 275]) (o := 0) (F := [272000]) (W := W) (by repeat (first | exact fw_sm_refl | exact fw_sm_put0 | refine fw_sm_arr ?_ rfl | refine fw_sm_up ?_ rfl | refine fw_sm_put ?_ rfl | refine fw_sm_cp ?_ rfl | refine fw_sm_upr ?_ rfl)) (lm_k_hangAllX_7 (nn := nn) hpre hP _ _ _ rfl ?_); (exact ⟨⟨by omega, by omega, fg_same (by omega) (by omega)⟩, fun x x1 x2 => by omega, fun x x1 x2 => by omega⟩))
      | (refine jf_put (S := [273, 274, 275]) (o := 0) (F := [272000]) (W := W) (by repeat (first | exact fw_sm_refl | exact fw_sm_put0 | refine fw_sm_arr ?_ rfl | refine fw_sm_up ?_ rfl | refine fw_sm_put ?_ rfl | refine fw_sm_cp ?_ rfl | refine fw_sm_upr ?_ rfl)) (lm_k_hangAllX_52 (nn := nn) hpre hP _ _ _ _ rfl ?_); (first | omega | trivial | (simp (config := { decide := true }) only [fg_in, fg_fin, fg_out, fg_fout, fg_up, fg_same, true_and, and_true] <;> omega)))
      | (refine jf_put (S := [273, 274, 275]) (o := 0) (F := [272000]) (W := W) (by repeat (first | exact fw_sm_refl | exact fw_sm_put0 | refine fw_sm_arr ?_ rfl | refine fw_sm_up ?_ rfl | refine fw_sm_put ?_ rfl | refine fw_sm_cp ?_ rfl | refine fw_sm_upr ?_ rfl)) (lm_k_hangAllX_61 (nn := nn) hpre hP M52 h52 _ _ _ _ _ rfl ?_ (by omega)); (first | omega | trivial | (simp (config := { decide := true }) only [fg_in, fg_fin, fg_out, fg_fout, fg_up, fg_same, true_and, and_true] <;> omega)))
      | (refine hP _ (by repeat (first | exact fw_sm_refl | exact fw_sm_put0 | refine fw_sm_arr ?_ rfl | refine fw_sm_up ?_ rfl | refine fw_sm_put ?_ rfl | refine fw_sm_cp ?_ rfl | refine fw_sm_upr ?_ rfl)) ?_; (exact ⟨hi1.2.2.2, hu_end hi.2.1 (by omega) (by omega), hi.2.2⟩))
      | omega
      | (intro _))
  · exact hx.elim

def ct_k_plantX : List (Nat × fw_X) := [(46, x_k_linkFirstEnd), (48, x_k_hangAllX)]
theorem ct_k_plantX_ok (d : Nat) : fw_cok fw_T (d + 2) ct_k_plantX := by
  intro q hq as W Q h
  simp only [ct_k_plantX, List.mem_cons, List.not_mem_nil, or_false] at hq
  rcases hq with rfl | rfl
  · exact jc_of (x_k_linkFirstEnd_ok (d + 0) as W Q h)
  · exact jc_of (x_k_hangAllX_ok (d + 0) as W Q h)
theorem s_k_plantX_0 {Post : Option fw_V → fw_W → Prop} {d : Nat} {W : fw_W} {nn : Int}
    (hw_ : jf fw_T (d + 3) 45 2 [(0, .inr (.inl 268)), (1, .inl nn), (2, .inr (.inl 272)), (3, .inl (0 : Int))] [] W Post) :
    jf fw_T (d + 3) 45 0 [(0, .inr (.inl 268)), (1, .inl nn), (2, .inr (.inl 272))] [] W Post := fw_ok (n := 3) (ss := [(2, [0, 1, 2, 3]), (29, [0, 1, 2, 3]), (59, [0, 1, 2, 3]), (98, [0, 1, 2])]) (hv := []) fr_45_ok fv_plT_ok (ct_k_plantX_ok d) hw_

theorem s_k_plantX_98 {Post : Option fw_V → fw_W → Prop} {d : Nat} {W : fw_W} {nn : Int} {f : fw_W}
    (hw_ : -2147483648 ≤ nn - (1 : Int) ∧ nn - (1 : Int) ≤ 2147483647 ∧ (((2 ≤ nn ∧ nn ≤ 14 ∧ 0 ≤ (nn - (1 : Int)) ∧ (nn - (1 : Int)) < nn) ∧ (∃ l_, 0 ≤ l_ ∧ l_ < nn ∧ (fw_g f 270 l_) = 1) ∧ kb nn (fw_put [270, 271, 273, 274, 275] 0 [272000] W f)) ∧ (∀ (f1 : fw_W), ((lk_ok nn (nn - (1 : Int)) (fw_put [270, 271, 273, 274, 275] 0 [272000] W f) (fw_put [270, 271] 0 [] (fw_put [270, 271, 273, 274, 275] 0 [272000] W f) f1))) → (2 ≤ nn ∧ nn ≤ 14 ∧ gc_ok nn (nxb (fw_put [270, 271] 0 [] (fw_put [270, 271, 273, 274, 275] 0 [272000] W f) f1)) ∧ kb nn (fw_put [270, 271] 0 [] (fw_put [270, 271, 273, 274, 275] 0 [272000] W f) f1)) ∧ (∀ (f2 : fw_W), (((fw_g f2 272 0) = nn ∧ tr nn (fun z_ => (fw_g f2 273 z_)) ∧ (∀ x_, 1 ≤ x_ → x_ < nn → (fw_g f2 274 x_) = 1))) → Post none (fw_put [273, 274, 275] 0 [272000] (fw_put [270, 271] 0 [] (fw_put [270, 271, 273, 274, 275] 0 [272000] W f) f1) f2))))) :
    jf fw_T (d + 3) 45 98 [(0, .inr (.inl 268)), (1, .inl nn), (2, .inr (.inl 272))] [] (fw_put [270, 271, 273, 274, 275] 0 [272000] W f) Post := fw_ok (n := 12) (ss := [(2, [0, 1, 2, 3]), (29, [0, 1, 2, 3]), (59, [0, 1, 2, 3]), (98, [0, 1, 2])]) (hv := []) fr_45_ok fv_plT_ok (ct_k_plantX_ok d) hw_

theorem s_k_plantX_59 {Post : Option fw_V → fw_W → Prop} {d : Nat} {W : fw_W} {nn h : Int} {f : fw_W}
    (hw_ : -2147483648 ≤ nn - (2 : Int) ∧ nn - (2 : Int) ≤ 2147483647 ∧ ((((nn - (2 : Int)) ≤ h → jf fw_T (d + 3) 45 98 [(0, .inr (.inl 268)), (1, .inl nn), (2, .inr (.inl 272))] [] (fw_put [270, 271, 273, 274, 275] 0 [272000] W f) Post) ∧ (h < (nn - (2 : Int)) → 0 ≤ h ∧ h < 14 ∧ (0 ≤ (fw_g W 269 h) → (fw_g W 269 h) ≤ 15 → ((2 ≤ nn ∧ nn ≤ 14 ∧ 0 ≤ (fw_g W 269 h) ∧ (fw_g W 269 h) < nn) ∧ (∃ l_, 0 ≤ l_ ∧ l_ < nn ∧ (fw_g f 270 l_) = 1) ∧ kb nn (fw_put [270, 271, 273, 274, 275] 0 [272000] W f)) ∧ (∀ (f1 : fw_W), ((lk_ok nn (fw_g W 269 h) (fw_put [270, 271, 273, 274, 275] 0 [272000] W f) (fw_put [270, 271] 0 [] (fw_put [270, 271, 273, 274, 275] 0 [272000] W f) f1))) → 0 ≤ h ∧ h < 14 ∧ (0 ≤ (fw_g W 269 h) → (fw_g W 269 h) ≤ 15 → 0 ≤ (fw_g W 269 h) ∧ (fw_g W 269 h) < 14 ∧ (-2147483648 ≤ (fw_g f1 270 (fw_g W 269 h)) → (fw_g f1 270 (fw_g W 269 h)) ≤ 2147483647 → -2147483648 ≤ (fw_g f1 270 (fw_g W 269 h)) - (1 : Int) ∧ (fw_g f1 270 (fw_g W 269 h)) - (1 : Int) ≤ 2147483647 ∧ (0 ≤ (fw_g W 269 h) ∧ (fw_g W 269 h) < 14 ∧ -2147483648 ≤ ((fw_g f1 270 (fw_g W 269 h)) - (1 : Int)) ∧ ((fw_g f1 270 (fw_g W 269 h)) - (1 : Int)) ≤ 2147483647 ∧ (-2147483648 ≤ h + (1 : Int) ∧ h + (1 : Int) ≤ 2147483647 ∧ (jf fw_T (d + 3) 45 59 [(0, .inr (.inl 268)), (1, .inl nn), (2, .inr (.inl 272)), (3, .inl (h + (1 : Int)))] [] (fw_up (fw_put [270, 271] 0 [] (fw_put [270, 271, 273, 274, 275] 0 [272000] W f) f1) 270 (fw_g W 269 h) ((fw_g f1 270 (fw_g W 269 h)) - (1 : Int))) Post))))))))))) :
    jf fw_T (d + 3) 45 59 [(0, .inr (.inl 268)), (1, .inl nn), (2, .inr (.inl 272)), (3, .inl h)] [] (fw_put [270, 271, 273, 274, 275] 0 [272000] W f) Post := fw_ok (n := 26) (ss := [(2, [0, 1, 2, 3]), (29, [0, 1, 2, 3]), (59, [0, 1, 2, 3]), (98, [0, 1, 2])]) (hv := []) fr_45_ok fv_plT_ok (ct_k_plantX_ok d) hw_

theorem s_k_plantX_29 {Post : Option fw_V → fw_W → Prop} {d : Nat} {W : fw_W} {nn h : Int} {f : fw_W}
    (hw_ : -2147483648 ≤ nn - (2 : Int) ∧ nn - (2 : Int) ≤ 2147483647 ∧ ((((nn - (2 : Int)) ≤ h → jf fw_T (d + 3) 45 59 [(0, .inr (.inl 268)), (1, .inl nn), (2, .inr (.inl 272)), (3, .inl (0 : Int))] [] (fw_put [270, 271, 273, 274, 275] 0 [272000] W f) Post) ∧ (h < (nn - (2 : Int)) → 0 ≤ h ∧ h < 14 ∧ (0 ≤ (fw_g W 269 h) → (fw_g W 269 h) ≤ 15 → 0 ≤ (fw_g W 269 h) ∧ (fw_g W 269 h) < 14 ∧ (-2147483648 ≤ (fw_g f 270 (fw_g W 269 h)) → (fw_g f 270 (fw_g W 269 h)) ≤ 2147483647 → -2147483648 ≤ (fw_g f 270 (fw_g W 269 h)) + (1 : Int) ∧ (fw_g f 270 (fw_g W 269 h)) + (1 : Int) ≤ 2147483647 ∧ (0 ≤ (fw_g W 269 h) ∧ (fw_g W 269 h) < 14 ∧ -2147483648 ≤ ((fw_g f 270 (fw_g W 269 h)) + (1 : Int)) ∧ ((fw_g f 270 (fw_g W 269 h)) + (1 : Int)) ≤ 2147483647 ∧ (-2147483648 ≤ h + (1 : Int) ∧ h + (1 : Int) ≤ 2147483647 ∧ (jf fw_T (d + 3) 45 29 [(0, .inr (.inl 268)), (1, .inl nn), (2, .inr (.inl 272)), (3, .inl (h + (1 : Int)))] [] (fw_up (fw_put [270, 271, 273, 274, 275] 0 [272000] W f) 270 (fw_g W 269 h) ((fw_g f 270 (fw_g W 269 h)) + (1 : Int))) Post))))))))) :
    jf fw_T (d + 3) 45 29 [(0, .inr (.inl 268)), (1, .inl nn), (2, .inr (.inl 272)), (3, .inl h)] [] (fw_put [270, 271, 273, 274, 275] 0 [272000] W f) Post := fw_ok (n := 19) (ss := [(2, [0, 1, 2, 3]), (29, [0, 1, 2, 3]), (59, [0, 1, 2, 3]), (98, [0, 1, 2])]) (hv := []) fr_45_ok fv_plT_ok (ct_k_plantX_ok d) hw_

theorem s_k_plantX_2 {Post : Option fw_V → fw_W → Prop} {d : Nat} {W : fw_W} {nn h : Int} {f : fw_W}
    (hw_ : ((nn ≤ h → jf fw_T (d + 3) 45 29 [(0, .inr (.inl 268)), (1, .inl nn), (2, .inr (.inl 272)), (3, .inl (0 : Int))] [] (fw_put [270, 271, 273, 274, 275] 0 [272000] W f) Post) ∧ (h < nn → 0 ≤ h ∧ h < 14 ∧ -2147483648 ≤ (1 : Int) ∧ (1 : Int) ≤ 2147483647 ∧ (0 ≤ h ∧ h < 14 ∧ -2147483648 ≤ (0 : Int) ∧ (0 : Int) ≤ 2147483647 ∧ (-2147483648 ≤ h + (1 : Int) ∧ h + (1 : Int) ≤ 2147483647 ∧ (jf fw_T (d + 3) 45 2 [(0, .inr (.inl 268)), (1, .inl nn), (2, .inr (.inl 272)), (3, .inl (h + (1 : Int)))] [] (fw_up (fw_up (fw_put [270, 271, 273, 274, 275] 0 [272000] W f) 270 h (1 : Int)) 271 h (0 : Int)) Post)))))) :
    jf fw_T (d + 3) 45 2 [(0, .inr (.inl 268)), (1, .inl nn), (2, .inr (.inl 272)), (3, .inl h)] [] (fw_put [270, 271, 273, 274, 275] 0 [272000] W f) Post := fw_ok (n := 16) (ss := [(2, [0, 1, 2, 3]), (29, [0, 1, 2, 3]), (59, [0, 1, 2, 3]), (98, [0, 1, 2])]) (hv := []) fr_45_ok fv_plT_ok (ct_k_plantX_ok d) hw_

theorem lm_k_plantX_98 {Post : Option fw_V → fw_W → Prop} {d : Nat} {W : fw_W} {nn : Int} (hpre : 2 ≤ nn ∧ nn ≤ 14 ∧ ∀ i_, 0 ≤ i_ → i_ < nn - 2 → 0 ≤ (fw_g W 269 i_) ∧ (fw_g W 269 i_) < nn) (hP : ∀ (W2 : fw_W), fw_sm [270, 271, 273, 274, 275] 0 [272000] W W2 → ((fw_g W2 272 0) = nn ∧ tr nn (fun z_ => (fw_g W2 273 z_)) ∧ (∀ x_, 1 ≤ x_ → x_ < nn → (fw_g W2 274 x_) = 1)) → Post none W2)  : ∀ (f : fw_W), 1 ≤ (fw_g f 270 (nn - 1)) ∧ pf_ok nn (fun z_ => (fw_g W 269 z_)) (fun z_ => (fw_g f 270 z_)) (nxb (fw_put [270, 271, 273, 274, 275] 0 [272000] W f)) (nn - 2) ∧ kb nn (fw_put [270, 271, 273, 274, 275] 0 [272000] W f) → jf fw_T (d + 3) 45 98 [(0, .inr (.inl 268)), (1, .inl nn), (2, .inr (.inl 272))] [] (fw_put [270, 271, 273, 274, 275] 0 [272000] W f) Post := by
  intro f hi
  refine jf_rng (fun hrg => ?_)
  have hrg : -2147483648 ≤ nn ∧ nn ≤ 2147483647 ∧ True := hrg
  refine s_k_plantX_98 ?_
  have hl := pf_end2 hi.2.1 (by omega) (by omega) (by omega)
  repeat' (first
    | (exact hi.2.2)
    | (obtain ⟨l, l1, l2, l3⟩ := hl; exact ⟨l, l1, by omega, l3⟩)
    | (rename_i f2 h2; exact (lk_gc (by omega) hi.2.1 hi.1 h2).1)
    | (rename_i f2 h2; exact (lk_gc (by omega) hi.2.1 hi.1 h2).2)
    | (exact True.intro)
    | (exact hpre.1)
    | (refine And.intro ?_ ?_)
    | (refine hP _ (by repeat (first | exact fw_sm_refl | exact fw_sm_put0 | refine fw_sm_arr ?_ rfl | refine fw_sm_up ?_ rfl | refine fw_sm_put ?_ rfl | refine fw_sm_cp ?_ rfl | refine fw_sm_upr ?_ rfl)) ?_; (rename_i f2 h2 f3 h3; exact h3))
    | omega
    | (intro _))
theorem lm_k_plantX_59 {Post : Option fw_V → fw_W → Prop} {d : Nat} {W : fw_W} {nn : Int} (hpre : 2 ≤ nn ∧ nn ≤ 14 ∧ ∀ i_, 0 ≤ i_ → i_ < nn - 2 → 0 ≤ (fw_g W 269 i_) ∧ (fw_g W 269 i_) < nn) (hP : ∀ (W2 : fw_W), fw_sm [270, 271, 273, 274, 275] 0 [272000] W W2 → ((fw_g W2 272 0) = nn ∧ tr nn (fun z_ => (fw_g W2 273 z_)) ∧ (∀ x_, 1 ≤ x_ → x_ < nn → (fw_g W2 274 x_) = 1)) → Post none W2)  : ∀ (m : Nat) (h : Int) (f : fw_W), (nn - h).toNat = m → (0 ≤ h ∧ h ≤ nn - 2 ∧ 1 ≤ (fw_g f 270 (nn - 1))) ∧ pf_ok nn (fun z_ => (fw_g W 269 z_)) (fun z_ => (fw_g f 270 z_)) (nxb (fw_put [270, 271, 273, 274, 275] 0 [272000] W f)) h ∧ kb nn (fw_put [270, 271, 273, 274, 275] 0 [272000] W f) → jf fw_T (d + 3) 45 59 [(0, .inr (.inl 268)), (1, .inl nn), (2, .inr (.inl 272)), (3, .inl h)] [] (fw_put [270, 271, 273, 274, 275] 0 [272000] W f) Post := by
  intro m
  induction m using Nat.strongRecOn with
  | ind m ih =>
    intro h f hm hi
    refine jf_rng (fun hrg => ?_)
    have hrg : -2147483648 ≤ nn ∧ nn ≤ 2147483647 ∧ -2147483648 ≤ h ∧ h ≤ 2147483647 ∧ True := hrg
    refine s_k_plantX_59 ?_
    have hi1 := hi.1
    have hb : h < nn - 2 → 0 ≤ (fw_g W 269 h) ∧ (fw_g W 269 h) < nn := fun z => hpre.2.2 h hi1.1 z
    have hl := fun z : h < nn - 2 => pf_end2 hi.2.1 (by omega) (by omega) (by omega)
    repeat' (first
      | (exact hi.2.2)
      | (obtain ⟨l, l1, l2, l3⟩ := hl (by omega); exact ⟨l, l1, by omega, l3⟩)
      | (exact True.intro)
      | (exact hpre.1)
      | (refine And.intro ?_ ?_)
      | (refine (ih _ (by omega) _ _ rfl ?_); (
        first
          | (rename_i f9 h9 w1 w2 w3 w4
             have hb1 := hb (by omega)
             have q := lk_step (by omega) (by omega) hi.2.1 hi1.2.2 (by omega) (by omega) rfl hb1.1 hb1.2 h9
             exact ⟨⟨by omega, by omega, q.2.2.1⟩, q.2.1, q.2.2.2⟩)))
      | (refine jf_put (S := [270, 271, 273, 274, 275]) (o := 0) (F := [272000]) (W := W) (by repeat (first | exact fw_sm_refl | exact fw_sm_put0 | refine fw_sm_arr ?_ rfl | refine fw_sm_up ?_ rfl | refine fw_sm_put ?_ rfl | refine fw_sm_cp ?_ rfl | refine fw_sm_upr ?_ rfl)) (ih _ (by omega) _ _ rfl ?_); (
        first
          | (rename_i f9 h9 w1 w2 w3 w4
             have hb1 := hb (by omega)
             have q := lk_step (by omega) (by omega) hi.2.1 hi1.2.2 (by omega) (by omega) rfl hb1.1 hb1.2 h9
             exact ⟨⟨by omega, by omega, q.2.2.1⟩, q.2.1, q.2.2.2⟩)))
      | (refine (lm_k_plantX_98 (nn := nn) hpre hP _ ?_); (
        have ei : h = nn - 2 := by omega
        rw [ei] at hi
        exact ⟨hi.1.2.2, hi.2⟩))
      | (refine jf_put (S := [270, 271, 273, 274, 275]) (o := 0) (F := [272000]) (W := W) (by repeat (first | exact fw_sm_refl | exact fw_sm_put0 | refine fw_sm_arr ?_ rfl | refine fw_sm_up ?_ rfl | refine fw_sm_put ?_ rfl | refine fw_sm_cp ?_ rfl | refine fw_sm_upr ?_ rfl)) (lm_k_plantX_98 (nn := nn) hpre hP _ ?_); (
        have ei : h = nn - 2 := by omega
        rw [ei] at hi
        exact ⟨hi.1.2.2, hi.2⟩))
      | (refine hP _ (by repeat (first | exact fw_sm_refl | exact fw_sm_put0 | refine fw_sm_arr ?_ rfl | refine fw_sm_up ?_ rfl | refine fw_sm_put ?_ rfl | refine fw_sm_cp ?_ rfl | refine fw_sm_upr ?_ rfl)) ?_; (rename_i f2 h2 f3 h3; exact h3))
      | (rename_i f9 h9 w1 w2 w3 w4; have hb1 := hb (by omega); have q := lk_step (by omega) (by omega) hi.2.1 hi1.2.2 (by omega) (by omega) rfl hb1.1 hb1.2 h9; have q2 : 2 ≤ fw_g f9 270 (fw_g W 269 h) ∧ fw_g f9 270 (fw_g W 269 h) ≤ 14 := q.1; omega)
      | omega
      | (intro _))
theorem lm_k_plantX_29 {Post : Option fw_V → fw_W → Prop} {d : Nat} {W : fw_W} {nn : Int} (hpre : 2 ≤ nn ∧ nn ≤ 14 ∧ ∀ i_, 0 ≤ i_ → i_ < nn - 2 → 0 ≤ (fw_g W 269 i_) ∧ (fw_g W 269 i_) < nn) (hP : ∀ (W2 : fw_W), fw_sm [270, 271, 273, 274, 275] 0 [272000] W W2 → ((fw_g W2 272 0) = nn ∧ tr nn (fun z_ => (fw_g W2 273 z_)) ∧ (∀ x_, 1 ≤ x_ → x_ < nn → (fw_g W2 274 x_) = 1)) → Post none W2)  : ∀ (m : Nat) (h : Int) (f : fw_W), (nn - h).toNat = m → ((0 ≤ h ∧ h ≤ nn - 2) ∧ (∀ x_, 0 ≤ x_ → x_ < nn → (fw_g f 270 x_) = 1 + ((fd_c (fun z_ => (fw_g W 269 z_)) h.toNat x_ : Nat) : Int)) ∧ sml (fun z_ => (fw_g f 270 z_)) nn.toNat = nn + h ∧ (∀ x_, 0 ≤ x_ → x_ < nn → (fw_g f 271 x_) = 0)) → jf fw_T (d + 3) 45 29 [(0, .inr (.inl 268)), (1, .inl nn), (2, .inr (.inl 272)), (3, .inl h)] [] (fw_put [270, 271, 273, 274, 275] 0 [272000] W f) Post := by
  intro m
  induction m using Nat.strongRecOn with
  | ind m ih =>
    intro h f hm hi
    refine jf_rng (fun hrg => ?_)
    have hrg : -2147483648 ≤ nn ∧ nn ≤ 2147483647 ∧ -2147483648 ≤ h ∧ h ≤ 2147483647 ∧ True := hrg
    refine s_k_plantX_29 ?_
    have hi1 := hi.1
    have hb : h < nn - 2 → 0 ≤ (fw_g W 269 h) ∧ (fw_g W 269 h) < nn ∧ 1 ≤ (fw_g f 270 (fw_g W 269 h)) ∧ (fw_g f 270 (fw_g W 269 h)) ≤ nn := fun z => by
      have a := hpre.2.2 h hi1.1 z
      have b := hi.2.1 ((fw_g W 269 h)) a.1 a.2
      have c := fd_le (fun z_ => (fw_g W 269 z_)) h.toNat ((fw_g W 269 h))
      exact ⟨a.1, a.2, by omega, by omega⟩
    repeat' (first
      | (exact True.intro)
      | (exact hpre.1)
      | (refine And.intro ?_ ?_)
      | (refine (ih _ (by omega) _ _ rfl ?_); (
        have hb1 := hb (by omega)
        have hu : ∀ x, 0 ≤ x → fw_g (fw_up (fw_put [270, 271, 273, 274, 275] 0 [272000] W f) 270 ((fw_g W 269 h)) ((fw_g f 270 (fw_g W 269 h)) + 1)) 270 x = if (fw_g W 269 h) = x then (fw_g f 270 (fw_g W 269 h)) + 1 else (fw_g f 270 x) := fun x x1 => fg_if (by omega) x1 (by omega) (by omega)
        refine ⟨by omega, fun x x1 x2 => ?_, ?_, fun x x1 x2 => ?_⟩
        · have hs := fd_c_s (fun z_ => (fw_g W 269 z_)) h x hi1.1
          have h0 := hi.2.1 x x1 x2
          rw [hu x x1, hs]
          by_cases e : (fw_g W 269 h) = x
          · rw [if_pos e, if_pos e, e]; omega
          · rw [if_neg e, if_neg e]; omega
        · have s := sml_up (L := (fun z_ => (fw_g f 270 z_))) (L' := fun z_ => fw_g (fw_up (fw_put [270, 271, 273, 274, 275] 0 [272000] W f) 270 ((fw_g W 269 h)) ((fw_g f 270 (fw_g W 269 h)) + 1)) 270 z_) hb1.1 nn.toNat (by omega) (fun y y1 y2 y3 => by
            show fw_g _ 270 y = (fw_g f 270 y)
            rw [hu y y1, if_neg (fun z => y3 z.symm)])
          have h0 := hi.2.2.1
          have h2 := hu ((fw_g W 269 h)) hb1.1
          rw [if_pos rfl] at h2
          refine s.trans ?_
          show sml (fun z_ => (fw_g f 270 z_)) nn.toNat + (fw_g _ 270 ((fw_g W 269 h)) - (fw_g f 270 (fw_g W 269 h))) = nn + (h + 1)
          rw [h2]
          omega
        · rw [fg_up rfl]; exact hi.2.2.2 x x1 x2))
      | (refine jf_put (S := [270, 271, 273, 274, 275]) (o := 0) (F := [272000]) (W := W) (by repeat (first | exact fw_sm_refl | exact fw_sm_put0 | refine fw_sm_arr ?_ rfl | refine fw_sm_up ?_ rfl | refine fw_sm_put ?_ rfl | refine fw_sm_cp ?_ rfl | refine fw_sm_upr ?_ rfl)) (ih _ (by omega) _ _ rfl ?_); (
        have hb1 := hb (by omega)
        have hu : ∀ x, 0 ≤ x → fw_g (fw_up (fw_put [270, 271, 273, 274, 275] 0 [272000] W f) 270 ((fw_g W 269 h)) ((fw_g f 270 (fw_g W 269 h)) + 1)) 270 x = if (fw_g W 269 h) = x then (fw_g f 270 (fw_g W 269 h)) + 1 else (fw_g f 270 x) := fun x x1 => fg_if (by omega) x1 (by omega) (by omega)
        refine ⟨by omega, fun x x1 x2 => ?_, ?_, fun x x1 x2 => ?_⟩
        · have hs := fd_c_s (fun z_ => (fw_g W 269 z_)) h x hi1.1
          have h0 := hi.2.1 x x1 x2
          rw [hu x x1, hs]
          by_cases e : (fw_g W 269 h) = x
          · rw [if_pos e, if_pos e, e]; omega
          · rw [if_neg e, if_neg e]; omega
        · have s := sml_up (L := (fun z_ => (fw_g f 270 z_))) (L' := fun z_ => fw_g (fw_up (fw_put [270, 271, 273, 274, 275] 0 [272000] W f) 270 ((fw_g W 269 h)) ((fw_g f 270 (fw_g W 269 h)) + 1)) 270 z_) hb1.1 nn.toNat (by omega) (fun y y1 y2 y3 => by
            show fw_g _ 270 y = (fw_g f 270 y)
            rw [hu y y1, if_neg (fun z => y3 z.symm)])
          have h0 := hi.2.2.1
          have h2 := hu ((fw_g W 269 h)) hb1.1
          rw [if_pos rfl] at h2
          refine s.trans ?_
          show sml (fun z_ => (fw_g f 270 z_)) nn.toNat + (fw_g _ 270 ((fw_g W 269 h)) - (fw_g f 270 (fw_g W 269 h))) = nn + (h + 1)
          rw [h2]
          omega
        · rw [fg_up rfl]; exact hi.2.2.2 x x1 x2))
      | (refine (lm_k_plantX_59 (nn := nn) hpre hP _ _ _ rfl ?_); (
        have ei : h = nn - 2 := by omega
        refine ⟨⟨by omega, by omega, ?_⟩, pf_init (by omega) (fun x x1 x2 => ?_) ?_, fun x x1 x2 => ?_⟩
        · have := hi.2.1 (nn - 1) (by omega) (by omega)
          omega
        · rw [← ei]; exact hi.2.1 x x1 x2
        · refine hi.2.2.1.trans ?_; omega
        · have e : (fw_g f 271 x) = 0 := hi.2.2.2 x x1 x2
          exact ⟨Int.le_of_eq e.symm, Int.lt_of_le_of_lt (Int.le_of_eq e) (by omega)⟩))
      | (refine jf_put (S := [270, 271, 273, 274, 275]) (o := 0) (F := [272000]) (W := W) (by repeat (first | exact fw_sm_refl | exact fw_sm_put0 | refine fw_sm_arr ?_ rfl | refine fw_sm_up ?_ rfl | refine fw_sm_put ?_ rfl | refine fw_sm_cp ?_ rfl | refine fw_sm_upr ?_ rfl)) (lm_k_plantX_59 (nn := nn) hpre hP _ _ _ rfl ?_); (
        have ei : h = nn - 2 := by omega
        refine ⟨⟨by omega, by omega, ?_⟩, pf_init (by omega) (fun x x1 x2 => ?_) ?_, fun x x1 x2 => ?_⟩
        · have := hi.2.1 (nn - 1) (by omega) (by omega)
          omega
        · rw [← ei]; exact hi.2.1 x x1 x2
        · refine hi.2.2.1.trans ?_; omega
        · have e : (fw_g f 271 x) = 0 := hi.2.2.2 x x1 x2
          exact ⟨Int.le_of_eq e.symm, Int.lt_of_le_of_lt (Int.le_of_eq e) (by omega)⟩))
      | (refine hP _ (by repeat (first | exact fw_sm_refl | exact fw_sm_put0 | refine fw_sm_arr ?_ rfl | refine fw_sm_up ?_ rfl | refine fw_sm_put ?_ rfl | refine fw_sm_cp ?_ rfl | refine fw_sm_upr ?_ rfl)) ?_; (rename_i f2 h2 f3 h3; exact h3))
      | omega
      | (intro _))
theorem lm_k_plantX_2 {Post : Option fw_V → fw_W → Prop} {d : Nat} {W : fw_W} {nn : Int} (hpre : 2 ≤ nn ∧ nn ≤ 14 ∧ ∀ i_, 0 ≤ i_ → i_ < nn - 2 → 0 ≤ (fw_g W 269 i_) ∧ (fw_g W 269 i_) < nn) (hP : ∀ (W2 : fw_W), fw_sm [270, 271, 273, 274, 275] 0 [272000] W W2 → ((fw_g W2 272 0) = nn ∧ tr nn (fun z_ => (fw_g W2 273 z_)) ∧ (∀ x_, 1 ≤ x_ → x_ < nn → (fw_g W2 274 x_) = 1)) → Post none W2)  : ∀ (m : Nat) (h : Int) (f : fw_W), (nn - h).toNat = m → ((0 ≤ h ∧ h ≤ nn) ∧ ∀ x_, 0 ≤ x_ → x_ < h → (fw_g f 270 x_) = 1 ∧ (fw_g f 271 x_) = 0) → jf fw_T (d + 3) 45 2 [(0, .inr (.inl 268)), (1, .inl nn), (2, .inr (.inl 272)), (3, .inl h)] [] (fw_put [270, 271, 273, 274, 275] 0 [272000] W f) Post := by
  intro m
  induction m using Nat.strongRecOn with
  | ind m ih =>
    intro h f hm hi
    refine jf_rng (fun hrg => ?_)
    have hrg : -2147483648 ≤ nn ∧ nn ≤ 2147483647 ∧ -2147483648 ≤ h ∧ h ≤ 2147483647 ∧ True := hrg
    refine s_k_plantX_2 ?_
    have hi1 := hi.1
    repeat' (first
      | (exact True.intro)
      | (exact hpre.1)
      | (refine And.intro ?_ ?_)
      | (refine (ih _ (by omega) _ _ rfl ?_); (
        refine ⟨by omega, fun x x1 x2 => ⟨?_, ?_⟩⟩
        · rw [fg_up rfl, fg_if (by omega) (by omega) (by omega) (by omega)]
          by_cases e : h = x
          · rw [if_pos e]
          · rw [if_neg e]; exact (hi.2 x x1 (by omega)).1
        · rw [fg_if (by omega) (by omega) (by omega) (by omega)]
          by_cases e : h = x
          · rw [if_pos e]
          · rw [if_neg e, fg_up rfl]; exact (hi.2 x x1 (by omega)).2))
      | (refine jf_put (S := [270, 271, 273, 274, 275]) (o := 0) (F := [272000]) (W := W) (by repeat (first | exact fw_sm_refl | exact fw_sm_put0 | refine fw_sm_arr ?_ rfl | refine fw_sm_up ?_ rfl | refine fw_sm_put ?_ rfl | refine fw_sm_cp ?_ rfl | refine fw_sm_upr ?_ rfl)) (ih _ (by omega) _ _ rfl ?_); (
        refine ⟨by omega, fun x x1 x2 => ⟨?_, ?_⟩⟩
        · rw [fg_up rfl, fg_if (by omega) (by omega) (by omega) (by omega)]
          by_cases e : h = x
          · rw [if_pos e]
          · rw [if_neg e]; exact (hi.2 x x1 (by omega)).1
        · rw [fg_if (by omega) (by omega) (by omega) (by omega)]
          by_cases e : h = x
          · rw [if_pos e]
          · rw [if_neg e, fg_up rfl]; exact (hi.2 x x1 (by omega)).2))
      | (refine (lm_k_plantX_29 (nn := nn) hpre hP _ _ _ rfl ?_); (
        refine ⟨by omega, fun x x1 x2 => Eq.trans (hi.2 x x1 (by omega)).1 ?_, Eq.trans (sml_one nn.toNat (fun y y1 y2 => (hi.2 y y1 (by omega)).1)) (by omega), fun x x1 x2 => (hi.2 x x1 (by omega)).2⟩
        show (1 : Int) = 1 + ((fd_c (fun z_ => (fw_g W 269 z_)) 0 x : Nat) : Int)
        simp [fd_c]))
      | (refine jf_put (S := [270, 271, 273, 274, 275]) (o := 0) (F := [272000]) (W := W) (by repeat (first | exact fw_sm_refl | exact fw_sm_put0 | refine fw_sm_arr ?_ rfl | refine fw_sm_up ?_ rfl | refine fw_sm_put ?_ rfl | refine fw_sm_cp ?_ rfl | refine fw_sm_upr ?_ rfl)) (lm_k_plantX_29 (nn := nn) hpre hP _ _ _ rfl ?_); (
        refine ⟨by omega, fun x x1 x2 => Eq.trans (hi.2 x x1 (by omega)).1 ?_, Eq.trans (sml_one nn.toNat (fun y y1 y2 => (hi.2 y y1 (by omega)).1)) (by omega), fun x x1 x2 => (hi.2 x x1 (by omega)).2⟩
        show (1 : Int) = 1 + ((fd_c (fun z_ => (fw_g W 269 z_)) 0 x : Nat) : Int)
        simp [fd_c]))
      | (refine hP _ (by repeat (first | exact fw_sm_refl | exact fw_sm_put0 | refine fw_sm_arr ?_ rfl | refine fw_sm_up ?_ rfl | refine fw_sm_put ?_ rfl | refine fw_sm_cp ?_ rfl | refine fw_sm_upr ?_ rfl)) ?_; (rename_i f2 h2 f3 h3; exact h3))
      | omega
      | (intro _))
def x_k_plantX : fw_X := fun as W Q => match as with
  | [.inr (.inl s_), .inl nn, .inr (.inl r1_)] => fw_if (Nat.beq s_ 268) (fw_if (Nat.beq r1_ 272) ((2 ≤ nn ∧ nn ≤ 14 ∧ ∀ i_, 0 ≤ i_ → i_ < nn - 2 → 0 ≤ (fw_g W 269 i_) ∧ (fw_g W 269 i_) < nn) ∧ (∀ (f : fw_W), ((fw_g f 272 0) = nn ∧ tr nn (fun z_ => (fw_g f 273 z_)) ∧ (∀ x_, 1 ≤ x_ → x_ < nn → (fw_g f 274 x_) = 1)) → Q none (fw_put [270, 271, 273, 274, 275] 0 [272000] W f))))
  | _ => False
theorem x_k_plantX_ok (d : Nat) (as : List fw_V) (W : fw_W) (Q : Option fw_V → fw_W → Prop) (hx : x_k_plantX as W Q) : jf fw_T (d + 3) 45 0 (fw_args 0 as) [] W Q := by
  unfold x_k_plantX at hx
  split at hx
  · rename_i s_ nn r1_
    obtain ⟨e0_, hx0⟩ := fw_if_ok hx
    have e0_ := Nat.eq_of_beq_eq_true e0_
    clear hx
    subst e0_
    obtain ⟨e1_, hx1⟩ := fw_if_ok hx0
    have e1_ := Nat.eq_of_beq_eq_true e1_
    clear hx0
    subst e1_
    obtain ⟨hpre, hQ⟩ := hx1
    have hP : ∀ (W2 : fw_W), fw_sm [270, 271, 273, 274, 275] 0 [272000] W W2 → _ → Q none W2 := fun W2 hs hr => fw_sm_use (Q := fun Z => Q none Z) hs (hQ W2 hr)
    refine s_k_plantX_0 ?_
    repeat' (first
      | (exact True.intro)
      | (exact hpre.1)
      | (refine And.intro ?_ ?_)
      | (refine jf_put (S := [270, 271, 273, 274, 275]) (o := 0) (F := [272000]) (W := W) (by repeat (first | exact fw_sm_refl | exact fw_sm_put0 | refine fw_sm_arr ?_ rfl | refine fw_sm_up ?_ rfl | refine fw_sm_put ?_ rfl | refine fw_sm_cp ?_ rfl | refine fw_sm_upr ?_ rfl)) (lm_k_plantX_2 (nn := nn) hpre hP _ _ _ rfl ?_); (exact ⟨by omega, fun x x1 x2 => by omega⟩))
      | (refine jf_put (S := [270, 271, 273, 274, 275]) (o := 0) (F := [272000]) (W := W) (by repeat (first | exact fw_sm_refl | exact fw_sm_put0 | refine fw_sm_arr ?_ rfl | refine fw_sm_up ?_ rfl | refine fw_sm_put ?_ rfl | refine fw_sm_cp ?_ rfl | refine fw_sm_upr ?_ rfl)) (lm_k_plantX_29 (nn := nn) hpre hP _ _ _ rfl ?_); (first | omega | trivial | (simp (config := { decide := true }) only [fg_in, fg_fin, fg_out, fg_fout, fg_up, fg_same, true_and, and_true] <;> omega)))
      | (refine jf_put (S := [270, 271, 273, 274, 275]) (o := 0) (F := [272000]) (W := W) (by repeat (first | exact fw_sm_refl | exact fw_sm_put0 | refine fw_sm_arr ?_ rfl | refine fw_sm_up ?_ rfl | refine fw_sm_put ?_ rfl | refine fw_sm_cp ?_ rfl | refine fw_sm_upr ?_ rfl)) (lm_k_plantX_59 (nn := nn) hpre hP _ _ _ rfl ?_); (first | omega | trivial | (simp (config := { decide := true }) only [fg_in, fg_fin, fg_out, fg_fout, fg_up, fg_same, true_and, and_true] <;> omega)))
      | (refine jf_put (S := [270, 271, 273, 274, 275]) (o := 0) (F := [272000]) (W := W) (by repeat (first | exact fw_sm_refl | exact fw_sm_put0 | refine fw_sm_arr ?_ rfl | refine fw_sm_up ?_ rfl | refine fw_sm_put ?_ rfl | refine fw_sm_cp ?_ rfl | refine fw_sm_upr ?_ rfl)) (lm_k_plantX_98 (nn := nn) hpre hP _ ?_); (first | omega | trivial | (simp (config := { decide := true }) only [fg_in, fg_fin, fg_out, fg_fout, fg_up, fg_same, true_and, and_true] <;> omega)))
      | (refine hP _ (by repeat (first | exact fw_sm_refl | exact fw_sm_put0 | refine fw_sm_arr ?_ rfl | refine fw_sm_up ?_ rfl | refine fw_sm_put ?_ rfl | refine fw_sm_cp ?_ rfl | refine fw_sm_upr ?_ rfl)) ?_; (rename_i f2 h2 f3 h3; exact h3))
      | omega
      | (intro _))
  · exact hx.elim

