/-! marks planted -/
theorem lk_ne {n to i : Int} {mk : Int → Int} {W : fw_W} {e : Int} (hn : 2 ≤ n) (h : pf_ok n mk (fun z => fw_g W 270 z) (nxb W) i) (i0 : 0 ≤ i) (hi : i ≤ n - 2) (e3 : ∀ x, 0 ≤ x → x < e → fw_g W 270 x ≠ 1) : e < n - 1 := by
  obtain ⟨l, l1, l2, l3⟩ := pf_end2 h i0 hi hn
  apply Classical.byContradiction
  intro q
  exact e3 l l1 (by omega) l3
theorem lk_gc {n : Int} {mk : Int → Int} {W f : fw_W} (hn : 2 ≤ n) (h : pf_ok n mk (fun z => fw_g W 270 z) (nxb W) (n - 2)) (l1 : 1 ≤ fw_g W 270 (n - 1)) (k : lk_ok n (n - 1) W f) : gc_ok n (nxb f) ∧ kb n f := by
  obtain ⟨e, ⟨e0, e1, e2, e3⟩, j1, j2, j3⟩ := k
  have e4 := lk_ne (to := 0) hn h (by omega) (by omega) e3
  have l2 : fw_g W 270 (n - 1) = 0 ∨ fw_g W 270 (n - 1) = 1 := pf_01 h (x := n - 1) (by omega) (by omega)
  refine ⟨(pf_last hn h (a := e) (b := n - 1) e0 e1 (by omega) (by omega) (by omega) e2 (by show fw_g W 270 (n - 1) = 1; omega) (fun x y x1 x2 y1 y2 z => lk_mono j2 x1 x2 y1 z) ?_ ?_).1, j3⟩
  · rw [j2 e (n - 1) e0 e1 (by omega), if_pos (Or.inl ⟨rfl, rfl⟩)]
  · rw [j2 (n - 1) e (by omega) (by omega) e0, if_pos (Or.inr ⟨rfl, rfl⟩)]
theorem lk_step {n i b : Int} {mk : Int → Int} {W f : fw_W} (hn : 2 ≤ n) (n14 : n ≤ 14) (h : pf_ok n mk (fun z => fw_g W 270 z) (nxb W) i) (l1 : 1 ≤ fw_g W 270 (n - 1)) (i0 : 0 ≤ i) (hi : i < n - 2) (hb : b = mk i) (b1 : 0 ≤ b) (b2 : b < n) (k : lk_ok n b W f) : (2 ≤ fw_g f 270 b ∧ fw_g f 270 b ≤ 14) ∧ pf_ok n mk (fun z => fw_g (fw_up f 270 b (fw_g f 270 b - 1)) 270 z) (nxb (fw_up f 270 b (fw_g f 270 b - 1))) (i + 1) ∧ 1 ≤ fw_g (fw_up f 270 b (fw_g f 270 b - 1)) 270 (n - 1) ∧ kb n (fw_up f 270 b (fw_g f 270 b - 1)) := by
  obtain ⟨e, ⟨e0, e1, e2, e3⟩, j1, j2, j3⟩ := k
  have e4 := lk_ne (to := 0) hn h i0 (by omega) e3
  have bb : 2 ≤ fw_g W 270 (mk i) := pf_b h i0 hi (by omega) (by omega)
  rw [← hb] at bb
  have bd : 0 ≤ fw_g W 270 b ∧ fw_g W 270 b ≤ n := pf_bd h (by omega) hn b1 b2
  have eb : e ≠ b := fun z => by rw [z] at e2; omega
  have fb : fw_g f 270 b = fw_g W 270 b := by rw [j1 b b1, if_neg eb]
  have hu : ∀ x, 0 ≤ x → fw_g (fw_up f 270 b (fw_g f 270 b - 1)) 270 x = if b = x then fw_g W 270 b - 1 else if e = x then 0 else fw_g W 270 x := fun x x1 => by
    rw [fg_if b1 x1 (by omega) (by omega), fb, j1 x x1]
  have hx : ∀ x y, nxb (fw_up f 270 b (fw_g f 270 b - 1)) x y = nxb f x y := fun x y => by
    unfold nxb
    rw [fg_up rfl]
  refine ⟨by omega, pf_step h i0 hi hb b1 b2 e0 e1 e2 ?_ ?_ (fun x x1 x2 x3 x4 => ?_) (fun x y x1 x2 y1 y2 z => ?_) ?_ ?_, ?_, fun x x1 x2 => ?_⟩
  · show fw_g _ 270 e = 0
    rw [hu e e0, if_neg (fun z => eb z.symm), if_pos rfl]
  · show fw_g _ 270 b = fw_g W 270 b - 1
    rw [hu b b1, if_pos rfl]
  · show fw_g _ 270 x = fw_g W 270 x
    rw [hu x x1, if_neg (fun z => x4 z.symm), if_neg (fun z => x3 z.symm)]
  · rw [hx]; exact lk_mono j2 x1 x2 y1 z
  · rw [hx, j2 e b e0 e1 b1, if_pos (Or.inl ⟨rfl, rfl⟩)]
  · rw [hx, j2 b e b1 b2 e0, if_pos (Or.inr ⟨rfl, rfl⟩)]
  · rw [hu (n - 1) (by omega)]
    by_cases c : b = n - 1
    · rw [if_pos c]; omega
    · rw [if_neg c, if_neg (by omega)]; exact l1
  · rw [fg_up rfl]; exact j3 x x1 x2

def fr_45 : fw_P := [(0, 0, 0, 0, 0), (1, 3, 3, 0, 0), (2, 1, 3, 0, 0), (3, 1, 1, 0, 0), (4, 13, 27, 0, 0), (7, 2, 0, 0, 0), (8, 50, 4, 1, 0), (11, 1, 3, 0, 0), (12, 0, 0, 0, 1), (13, 53, 0, 0, 0), (14, 2, 0, 0, 0), (15, 50, 4, 2, 0), (18, 1, 3, 0, 0), (19, 0, 0, 0, 0), (20, 53, 0, 0, 0), (21, 5, 3, 0, 1), (24, 6, 2, 0, 0), (27, 0, 0, 0, 0), (28, 3, 3, 0, 0), (29, 1, 3, 0, 0), (30, 1, 1, 0, 0), (31, 0, 0, 0, 2), (32, 31, 0, 0, 0), (33, 13, 57, 0, 0), (36, 2, 0, 0, 0), (37, 50, 4, 1, 0), (40, 2, 0, 0, 0), (41, 50, 4, 0, 0), (44, 1, 3, 0, 0), (45, 52, 0, 0, 0), (46, 44, 0, 0, 0), (47, 52, 0, 0, 0), (48, 0, 0, 0, 1), (49, 30, 0, 0, 0), (50, 53, 0, 0, 0), (51, 5, 3, 0, 1), (54, 6, 29, 0, 0), (57, 0, 0, 0, 0), (58, 3, 3, 0, 0), (59, 1, 3, 0, 0), (60, 1, 1, 0, 0), (61, 0, 0, 0, 2), (62, 31, 0, 0, 0), (63, 13, 98, 0, 0), (66, 2, 0, 0, 0), (67, 1, 1, 0, 0), (68, 2, 0, 0, 0), (69, 50, 4, 0, 0), (72, 1, 3, 0, 0), (73, 52, 0, 0, 0), (74, 64, 46, 2, 404), (77, 2, 0, 0, 0), (78, 50, 4, 1, 0), (81, 2, 0, 0, 0), (82, 50, 4, 0, 0), (85, 1, 3, 0, 0), (86, 52, 0, 0, 0), (87, 44, 0, 0, 0), (88, 52, 0, 0, 0), (89, 0, 0, 0, 1), (90, 31, 0, 0, 0), (91, 53, 0, 0, 0), (92, 5, 3, 0, 1), (95, 6, 59, 0, 0), (98, 2, 0, 0, 0), (99, 1, 1, 0, 0), (100, 1, 1, 0, 0), (101, 0, 0, 0, 1), (102, 31, 0, 0, 0), (103, 64, 46, 2, 404), (106, 2, 0, 0, 0), (107, 1, 1, 0, 0), (108, 2, 2, 0, 0), (109, 64, 48, 2, 604), (112, 72, 0, 0, 0)]
theorem fr_45_ok : fw_mk 45 4 4 none fr_45 = true := by decide +kernel
def ct_k_plantP : List (Nat × fw_X) := [(46, x_k_linkFirstEnd), (48, x_k_hangAllP)]
theorem ct_k_plantP_ok (d : Nat) : fw_cok fw_T (d + 2) ct_k_plantP := by
  intro q hq as W Q h
  simp only [ct_k_plantP, List.mem_cons, List.not_mem_nil, or_false] at hq
  rcases hq with rfl | rfl
  · exact jc_of (x_k_linkFirstEnd_ok (d + 0) as W Q h)
  · exact jc_of (x_k_hangAllP_ok (d + 0) as W Q h)
theorem s_k_plantP_0 {Post : Option fw_V → fw_W → Prop} {d : Nat} {W : fw_W} {nn : Int}
    (hw_ : jf fw_T (d + 3) 45 2 [(0, .inr (.inl 268)), (1, .inl nn), (2, .inr (.inl 12)), (3, .inl (0 : Int))] [] W Post) :
    jf fw_T (d + 3) 45 0 [(0, .inr (.inl 268)), (1, .inl nn), (2, .inr (.inl 12))] [] W Post := fw_ok (n := 3) (ss := [(2, [0, 1, 2, 3]), (29, [0, 1, 2, 3]), (59, [0, 1, 2, 3]), (98, [0, 1, 2])]) (hv := []) fr_45_ok fv_plP_ok (ct_k_plantP_ok d) hw_

theorem s_k_plantP_98 {Post : Option fw_V → fw_W → Prop} {d : Nat} {W : fw_W} {nn : Int} {f : fw_W}
    (hw_ : -2147483648 ≤ nn - (1 : Int) ∧ nn - (1 : Int) ≤ 2147483647 ∧ (((2 ≤ nn ∧ nn ≤ 14 ∧ 0 ≤ (nn - (1 : Int)) ∧ (nn - (1 : Int)) < nn) ∧ (∃ l_, 0 ≤ l_ ∧ l_ < nn ∧ (fw_g f 270 l_) = 1) ∧ kb nn (fw_put [270, 271, 13, 14, 15] 0 [12000] W f)) ∧ (∀ (f1 : fw_W), ((lk_ok nn (nn - (1 : Int)) (fw_put [270, 271, 13, 14, 15] 0 [12000] W f) (fw_put [270, 271] 0 [] (fw_put [270, 271, 13, 14, 15] 0 [12000] W f) f1))) → (2 ≤ nn ∧ nn ≤ 14 ∧ gc_ok nn (nxb (fw_put [270, 271] 0 [] (fw_put [270, 271, 13, 14, 15] 0 [12000] W f) f1)) ∧ kb nn (fw_put [270, 271] 0 [] (fw_put [270, 271, 13, 14, 15] 0 [12000] W f) f1)) ∧ (∀ (f2 : fw_W), (((fw_g f2 12 0) = nn ∧ tr nn (fun z_ => (fw_g f2 13 z_)))) → Post none (fw_put [13, 14, 15] 0 [12000] (fw_put [270, 271] 0 [] (fw_put [270, 271, 13, 14, 15] 0 [12000] W f) f1) f2))))) :
    jf fw_T (d + 3) 45 98 [(0, .inr (.inl 268)), (1, .inl nn), (2, .inr (.inl 12))] [] (fw_put [270, 271, 13, 14, 15] 0 [12000] W f) Post := fw_ok (n := 12) (ss := [(2, [0, 1, 2, 3]), (29, [0, 1, 2, 3]), (59, [0, 1, 2, 3]), (98, [0, 1, 2])]) (hv := []) fr_45_ok fv_plP_ok (ct_k_plantP_ok d) hw_

theorem s_k_plantP_59 {Post : Option fw_V → fw_W → Prop} {d : Nat} {W : fw_W} {nn h : Int} {f : fw_W}
    (hw_ : -2147483648 ≤ nn - (2 : Int) ∧ nn - (2 : Int) ≤ 2147483647 ∧ ((((nn - (2 : Int)) ≤ h → jf fw_T (d + 3) 45 98 [(0, .inr (.inl 268)), (1, .inl nn), (2, .inr (.inl 12))] [] (fw_put [270, 271, 13, 14, 15] 0 [12000] W f) Post) ∧ (h < (nn - (2 : Int)) → 0 ≤ h ∧ h < 14 ∧ (0 ≤ (fw_g W 269 h) → (fw_g W 269 h) ≤ 15 → ((2 ≤ nn ∧ nn ≤ 14 ∧ 0 ≤ (fw_g W 269 h) ∧ (fw_g W 269 h) < nn) ∧ (∃ l_, 0 ≤ l_ ∧ l_ < nn ∧ (fw_g f 270 l_) = 1) ∧ kb nn (fw_put [270, 271, 13, 14, 15] 0 [12000] W f)) ∧ (∀ (f1 : fw_W), ((lk_ok nn (fw_g W 269 h) (fw_put [270, 271, 13, 14, 15] 0 [12000] W f) (fw_put [270, 271] 0 [] (fw_put [270, 271, 13, 14, 15] 0 [12000] W f) f1))) → 0 ≤ h ∧ h < 14 ∧ (0 ≤ (fw_g W 269 h) → (fw_g W 269 h) ≤ 15 → 0 ≤ (fw_g W 269 h) ∧ (fw_g W 269 h) < 14 ∧ (-2147483648 ≤ (fw_g f1 270 (fw_g W 269 h)) → (fw_g f1 270 (fw_g W 269 h)) ≤ 2147483647 → -2147483648 ≤ (fw_g f1 270 (fw_g W 269 h)) - (1 : Int) ∧ (fw_g f1 270 (fw_g W 269 h)) - (1 : Int) ≤ 2147483647 ∧ (0 ≤ (fw_g W 269 h) ∧ (fw_g W 269 h) < 14 ∧ -2147483648 ≤ ((fw_g f1 270 (fw_g W 269 h)) - (1 : Int)) ∧ ((fw_g f1 270 (fw_g W 269 h)) - (1 : Int)) ≤ 2147483647 ∧ (-2147483648 ≤ h + (1 : Int) ∧ h + (1 : Int) ≤ 2147483647 ∧ (jf fw_T (d + 3) 45 59 [(0, .inr (.inl 268)), (1, .inl nn), (2, .inr (.inl 12)), (3, .inl (h + (1 : Int)))] [] (fw_up (fw_put [270, 271] 0 [] (fw_put [270, 271, 13, 14, 15] 0 [12000] W f) f1) 270 (fw_g W 269 h) ((fw_g f1 270 (fw_g W 269 h)) - (1 : Int))) Post))))))))))) :
    jf fw_T (d + 3) 45 59 [(0, .inr (.inl 268)), (1, .inl nn), (2, .inr (.inl 12)), (3, .inl h)] [] (fw_put [270, 271, 13, 14, 15] 0 [12000] W f) Post := fw_ok (n := 26) (ss := [(2, [0, 1, 2, 3]), (29, [0, 1, 2, 3]), (59, [0, 1, 2, 3]), (98, [0, 1, 2])]) (hv := []) fr_45_ok fv_plP_ok (ct_k_plantP_ok d) hw_

theorem s_k_plantP_29 {Post : Option fw_V → fw_W → Prop} {d : Nat} {W : fw_W} {nn h : Int} {f : fw_W}
    (hw_ : -2147483648 ≤ nn - (2 : Int) ∧ nn - (2 : Int) ≤ 2147483647 ∧ ((((nn - (2 : Int)) ≤ h → jf fw_T (d + 3) 45 59 [(0, .inr (.inl 268)), (1, .inl nn), (2, .inr (.inl 12)), (3, .inl (0 : Int))] [] (fw_put [270, 271, 13, 14, 15] 0 [12000] W f) Post) ∧ (h < (nn - (2 : Int)) → 0 ≤ h ∧ h < 14 ∧ (0 ≤ (fw_g W 269 h) → (fw_g W 269 h) ≤ 15 → 0 ≤ (fw_g W 269 h) ∧ (fw_g W 269 h) < 14 ∧ (-2147483648 ≤ (fw_g f 270 (fw_g W 269 h)) → (fw_g f 270 (fw_g W 269 h)) ≤ 2147483647 → -2147483648 ≤ (fw_g f 270 (fw_g W 269 h)) + (1 : Int) ∧ (fw_g f 270 (fw_g W 269 h)) + (1 : Int) ≤ 2147483647 ∧ (0 ≤ (fw_g W 269 h) ∧ (fw_g W 269 h) < 14 ∧ -2147483648 ≤ ((fw_g f 270 (fw_g W 269 h)) + (1 : Int)) ∧ ((fw_g f 270 (fw_g W 269 h)) + (1 : Int)) ≤ 2147483647 ∧ (-2147483648 ≤ h + (1 : Int) ∧ h + (1 : Int) ≤ 2147483647 ∧ (jf fw_T (d + 3) 45 29 [(0, .inr (.inl 268)), (1, .inl nn), (2, .inr (.inl 12)), (3, .inl (h + (1 : Int)))] [] (fw_up (fw_put [270, 271, 13, 14, 15] 0 [12000] W f) 270 (fw_g W 269 h) ((fw_g f 270 (fw_g W 269 h)) + (1 : Int))) Post))))))))) :
    jf fw_T (d + 3) 45 29 [(0, .inr (.inl 268)), (1, .inl nn), (2, .inr (.inl 12)), (3, .inl h)] [] (fw_put [270, 271, 13, 14, 15] 0 [12000] W f) Post := fw_ok (n := 19) (ss := [(2, [0, 1, 2, 3]), (29, [0, 1, 2, 3]), (59, [0, 1, 2, 3]), (98, [0, 1, 2])]) (hv := []) fr_45_ok fv_plP_ok (ct_k_plantP_ok d) hw_

theorem s_k_plantP_2 {Post : Option fw_V → fw_W → Prop} {d : Nat} {W : fw_W} {nn h : Int} {f : fw_W}
    (hw_ : ((nn ≤ h → jf fw_T (d + 3) 45 29 [(0, .inr (.inl 268)), (1, .inl nn), (2, .inr (.inl 12)), (3, .inl (0 : Int))] [] (fw_put [270, 271, 13, 14, 15] 0 [12000] W f) Post) ∧ (h < nn → 0 ≤ h ∧ h < 14 ∧ -2147483648 ≤ (1 : Int) ∧ (1 : Int) ≤ 2147483647 ∧ (0 ≤ h ∧ h < 14 ∧ -2147483648 ≤ (0 : Int) ∧ (0 : Int) ≤ 2147483647 ∧ (-2147483648 ≤ h + (1 : Int) ∧ h + (1 : Int) ≤ 2147483647 ∧ (jf fw_T (d + 3) 45 2 [(0, .inr (.inl 268)), (1, .inl nn), (2, .inr (.inl 12)), (3, .inl (h + (1 : Int)))] [] (fw_up (fw_up (fw_put [270, 271, 13, 14, 15] 0 [12000] W f) 270 h (1 : Int)) 271 h (0 : Int)) Post)))))) :
    jf fw_T (d + 3) 45 2 [(0, .inr (.inl 268)), (1, .inl nn), (2, .inr (.inl 12)), (3, .inl h)] [] (fw_put [270, 271, 13, 14, 15] 0 [12000] W f) Post := fw_ok (n := 16) (ss := [(2, [0, 1, 2, 3]), (29, [0, 1, 2, 3]), (59, [0, 1, 2, 3]), (98, [0, 1, 2])]) (hv := []) fr_45_ok fv_plP_ok (ct_k_plantP_ok d) hw_

theorem lm_k_plantP_98 {Post : Option fw_V → fw_W → Prop} {d : Nat} {W : fw_W} {nn : Int} (hpre : 2 ≤ nn ∧ nn ≤ 14 ∧ ∀ i_, 0 ≤ i_ → i_ < nn - 2 → 0 ≤ (fw_g W 269 i_) ∧ (fw_g W 269 i_) < nn) (hP : ∀ (W2 : fw_W), fw_sm [270, 271, 13, 14, 15] 0 [12000] W W2 → ((fw_g W2 12 0) = nn ∧ tr nn (fun z_ => (fw_g W2 13 z_))) → Post none W2)  : ∀ (f : fw_W), 1 ≤ (fw_g f 270 (nn - 1)) ∧ pf_ok nn (fun z_ => (fw_g W 269 z_)) (fun z_ => (fw_g f 270 z_)) (nxb (fw_put [270, 271, 13, 14, 15] 0 [12000] W f)) (nn - 2) ∧ kb nn (fw_put [270, 271, 13, 14, 15] 0 [12000] W f) → jf fw_T (d + 3) 45 98 [(0, .inr (.inl 268)), (1, .inl nn), (2, .inr (.inl 12))] [] (fw_put [270, 271, 13, 14, 15] 0 [12000] W f) Post := by
  intro f hi
  refine jf_rng (fun hrg => ?_)
  have hrg : -2147483648 ≤ nn ∧ nn ≤ 2147483647 ∧ True := hrg
  refine s_k_plantP_98 ?_
  have hl := pf_end2 hi.2.1 (by omega) (by omega) (by omega)
  repeat' (first
    | (exact hi.2.2)
    | (obtain ⟨l, l1, l2, l3⟩ := hl; exact ⟨l, l1, by omega, l3⟩)
    | (rename_i f2 h2; exact (lk_gc (by omega) hi.2.1 hi.1 h2).1)
    | (rename_i f2 h2; exact (lk_gc (by omega) hi.2.1 hi.1 h2).2)
    | (exact True.intro)
    | (exact hpre.1)
    | (refine And.intro ?_ ?_)
    | (refine hP _ (by repeat (first | exact fw_sm_refl | exact fw_sm_put0 | refine fw_sm_arr ?_ rfl | refine fw_sm_up ?_ rfl | refine fw_sm_put ?_ rfl | refine fw_sm_cp ?_ rfl)) ?_; (rename_i f2 h2 f3 h3; exact h3))
    | omega
    | (intro _))
theorem lm_k_plantP_59 {Post : Option fw_V → fw_W → Prop} {d : Nat} {W : fw_W} {nn : Int} (hpre : 2 ≤ nn ∧ nn ≤ 14 ∧ ∀ i_, 0 ≤ i_ → i_ < nn - 2 → 0 ≤ (fw_g W 269 i_) ∧ (fw_g W 269 i_) < nn) (hP : ∀ (W2 : fw_W), fw_sm [270, 271, 13, 14, 15] 0 [12000] W W2 → ((fw_g W2 12 0) = nn ∧ tr nn (fun z_ => (fw_g W2 13 z_))) → Post none W2)  : ∀ (m : Nat) (h : Int) (f : fw_W), (nn - h).toNat = m → (0 ≤ h ∧ h ≤ nn - 2 ∧ 1 ≤ (fw_g f 270 (nn - 1))) ∧ pf_ok nn (fun z_ => (fw_g W 269 z_)) (fun z_ => (fw_g f 270 z_)) (nxb (fw_put [270, 271, 13, 14, 15] 0 [12000] W f)) h ∧ kb nn (fw_put [270, 271, 13, 14, 15] 0 [12000] W f) → jf fw_T (d + 3) 45 59 [(0, .inr (.inl 268)), (1, .inl nn), (2, .inr (.inl 12)), (3, .inl h)] [] (fw_put [270, 271, 13, 14, 15] 0 [12000] W f) Post := by
  intro m
  induction m using Nat.strongRecOn with
  | ind m ih =>
    intro h f hm hi
    refine jf_rng (fun hrg => ?_)
    have hrg : -2147483648 ≤ nn ∧ nn ≤ 2147483647 ∧ -2147483648 ≤ h ∧ h ≤ 2147483647 ∧ True := hrg
    refine s_k_plantP_59 ?_
    have hi1 := hi.1
    have hb : h < nn - 2 → 0 ≤ (fw_g W 269 h) ∧ (fw_g W 269 h) < nn := fun z => hpre.2.2 h hi1.1 z
    have hl := fun z : h < nn - 2 => pf_end2 hi.2.1 (by omega) (by omega) (by omega)
    repeat' (first
      | (exact hi.2.2)
      | (obtain ⟨l, l1, l2, l3⟩ := hl (by omega); exact ⟨l, l1, by omega, l3⟩)
      | (exact True.intro)
      | (exact hpre.1)
      | (refine And.intro ?_ ?_)
      | (refine (ih _ (by omega) _ _ rfl ?_); (
        first
          | (rename_i f9 h9 w1 w2 w3 w4
             have hb1 := hb (by omega)
             have q := lk_step (by omega) (by omega) hi.2.1 hi1.2.2 (by omega) (by omega) rfl hb1.1 hb1.2 h9
             exact ⟨⟨by omega, by omega, q.2.2.1⟩, q.2.1, q.2.2.2⟩)))
      | (refine jf_put (S := [270, 271, 13, 14, 15]) (o := 0) (F := [12000]) (W := W) (by repeat (first | exact fw_sm_refl | exact fw_sm_put0 | refine fw_sm_arr ?_ rfl | refine fw_sm_up ?_ rfl | refine fw_sm_put ?_ rfl | refine fw_sm_cp ?_ rfl)) (ih _ (by omega) _ _ rfl ?_); (
        first
          | (rename_i f9 h9 w1 w2 w3 w4
             have hb1 := hb (by omega)
             have q := lk_step (by omega) (by omega) hi.2.1 hi1.2.2 (by omega) (by omega) rfl hb1.1 hb1.2 h9
             exact ⟨⟨by omega, by omega, q.2.2.1⟩, q.2.1, q.2.2.2⟩)))
      | (refine (lm_k_plantP_98 (nn := nn) hpre hP _ ?_); (
        have ei : h = nn - 2 := by omega
        rw [ei] at hi
        exact ⟨hi.1.2.2, hi.2⟩))
      | (refine jf_put (S := [270, 271, 13, 14, 15]) (o := 0) (F := [12000]) (W := W) (by repeat (first | exact fw_sm_refl | exact fw_sm_put0 | refine fw_sm_arr ?_ rfl | refine fw_sm_up ?_ rfl | refine fw_sm_put ?_ rfl | refine fw_sm_cp ?_ rfl)) (lm_k_plantP_98 (nn := nn) hpre hP _ ?_); (
        have ei : h = nn - 2 := by omega
        rw [ei] at hi
        exact ⟨hi.1.2.2, hi.2⟩))
      | (refine hP _ (by repeat (first | exact fw_sm_refl | exact fw_sm_put0 | refine fw_sm_arr ?_ rfl | refine fw_sm_up ?_ rfl | refine fw_sm_put ?_ rfl | refine fw_sm_cp ?_ rfl)) ?_; (rename_i f2 h2 f3 h3; exact h3))
      | (rename_i f9 h9 w1 w2 w3 w4; have hb1 := hb (by omega); have q := lk_step (by omega) (by omega) hi.2.1 hi1.2.2 (by omega) (by omega) rfl hb1.1 hb1.2 h9; have q2 : 2 ≤ fw_g f9 270 (fw_g W 269 h) ∧ fw_g f9 270 (fw_g W 269 h) ≤ 14 := q.1; omega)
      | omega
      | (intro _))
theorem lm_k_plantP_29 {Post : Option fw_V → fw_W → Prop} {d : Nat} {W : fw_W} {nn : Int} (hpre : 2 ≤ nn ∧ nn ≤ 14 ∧ ∀ i_, 0 ≤ i_ → i_ < nn - 2 → 0 ≤ (fw_g W 269 i_) ∧ (fw_g W 269 i_) < nn) (hP : ∀ (W2 : fw_W), fw_sm [270, 271, 13, 14, 15] 0 [12000] W W2 → ((fw_g W2 12 0) = nn ∧ tr nn (fun z_ => (fw_g W2 13 z_))) → Post none W2)  : ∀ (m : Nat) (h : Int) (f : fw_W), (nn - h).toNat = m → ((0 ≤ h ∧ h ≤ nn - 2) ∧ (∀ x_, 0 ≤ x_ → x_ < nn → (fw_g f 270 x_) = 1 + ((fd_c (fun z_ => (fw_g W 269 z_)) h.toNat x_ : Nat) : Int)) ∧ sml (fun z_ => (fw_g f 270 z_)) nn.toNat = nn + h ∧ (∀ x_, 0 ≤ x_ → x_ < nn → (fw_g f 271 x_) = 0)) → jf fw_T (d + 3) 45 29 [(0, .inr (.inl 268)), (1, .inl nn), (2, .inr (.inl 12)), (3, .inl h)] [] (fw_put [270, 271, 13, 14, 15] 0 [12000] W f) Post := by
  intro m
  induction m using Nat.strongRecOn with
  | ind m ih =>
    intro h f hm hi
    refine jf_rng (fun hrg => ?_)
    have hrg : -2147483648 ≤ nn ∧ nn ≤ 2147483647 ∧ -2147483648 ≤ h ∧ h ≤ 2147483647 ∧ True := hrg
    refine s_k_plantP_29 ?_
    have hi1 := hi.1
    have hb : h < nn - 2 → 0 ≤ (fw_g W 269 h) ∧ (fw_g W 269 h) < nn ∧ 1 ≤ (fw_g f 270 (fw_g W 269 h)) ∧ (fw_g f 270 (fw_g W 269 h)) ≤ nn := fun z => by
      have a := hpre.2.2 h hi1.1 z
      have b := hi.2.1 ((fw_g W 269 h)) a.1 a.2
      have c := fd_le (fun z_ => (fw_g W 269 z_)) h.toNat ((fw_g W 269 h))
      exact ⟨a.1, a.2, by omega, by omega⟩
    repeat' (first
      | (exact True.intro)
      | (exact hpre.1)
      | (refine And.intro ?_ ?_)
      | (refine (ih _ (by omega) _ _ rfl ?_); (
        have hb1 := hb (by omega)
        have hu : ∀ x, 0 ≤ x → fw_g (fw_up (fw_put [270, 271, 13, 14, 15] 0 [12000] W f) 270 ((fw_g W 269 h)) ((fw_g f 270 (fw_g W 269 h)) + 1)) 270 x = if (fw_g W 269 h) = x then (fw_g f 270 (fw_g W 269 h)) + 1 else (fw_g f 270 x) := fun x x1 => fg_if (by omega) x1 (by omega) (by omega)
        refine ⟨by omega, fun x x1 x2 => ?_, ?_, fun x x1 x2 => ?_⟩
        · have hs := fd_c_s (fun z_ => (fw_g W 269 z_)) h x hi1.1
          have h0 := hi.2.1 x x1 x2
          rw [hu x x1, hs]
          by_cases e : (fw_g W 269 h) = x
          · rw [if_pos e, if_pos e, e]; omega
          · rw [if_neg e, if_neg e]; omega
        · have s := sml_up (L := (fun z_ => (fw_g f 270 z_))) (L' := fun z_ => fw_g (fw_up (fw_put [270, 271, 13, 14, 15] 0 [12000] W f) 270 ((fw_g W 269 h)) ((fw_g f 270 (fw_g W 269 h)) + 1)) 270 z_) hb1.1 nn.toNat (by omega) (fun y y1 y2 y3 => by
            show fw_g _ 270 y = (fw_g f 270 y)
            rw [hu y y1, if_neg (fun z => y3 z.symm)])
          have h0 := hi.2.2.1
          have h2 := hu ((fw_g W 269 h)) hb1.1
          rw [if_pos rfl] at h2
          refine s.trans ?_
          show sml (fun z_ => (fw_g f 270 z_)) nn.toNat + (fw_g _ 270 ((fw_g W 269 h)) - (fw_g f 270 (fw_g W 269 h))) = nn + (h + 1)
          rw [h2]
          omega
        · rw [fg_up rfl]; exact hi.2.2.2 x x1 x2))
      | (refine jf_put (S := [270, 271, 13, 14, 15]) (o := 0) (F := [12000]) (W := W) (by repeat (first | exact fw_sm_refl | exact fw_sm_put0 | refine fw_sm_arr ?_ rfl | refine fw_sm_up ?_ rfl | refine fw_sm_put ?_ rfl | refine fw_sm_cp ?_ rfl)) (ih _ (by omega) _ _ rfl ?_); (
        have hb1 := hb (by omega)
        have hu : ∀ x, 0 ≤ x → fw_g (fw_up (fw_put [270, 271, 13, 14, 15] 0 [12000] W f) 270 ((fw_g W 269 h)) ((fw_g f 270 (fw_g W 269 h)) + 1)) 270 x = if (fw_g W 269 h) = x then (fw_g f 270 (fw_g W 269 h)) + 1 else (fw_g f 270 x) := fun x x1 => fg_if (by omega) x1 (by omega) (by omega)
        refine ⟨by omega, fun x x1 x2 => ?_, ?_, fun x x1 x2 => ?_⟩
        · have hs := fd_c_s (fun z_ => (fw_g W 269 z_)) h x hi1.1
          have h0 := hi.2.1 x x1 x2
          rw [hu x x1, hs]
          by_cases e : (fw_g W 269 h) = x
          · rw [if_pos e, if_pos e, e]; omega
          · rw [if_neg e, if_neg e]; omega
        · have s := sml_up (L := (fun z_ => (fw_g f 270 z_))) (L' := fun z_ => fw_g (fw_up (fw_put [270, 271, 13, 14, 15] 0 [12000] W f) 270 ((fw_g W 269 h)) ((fw_g f 270 (fw_g W 269 h)) + 1)) 270 z_) hb1.1 nn.toNat (by omega) (fun y y1 y2 y3 => by
            show fw_g _ 270 y = (fw_g f 270 y)
            rw [hu y y1, if_neg (fun z => y3 z.symm)])
          have h0 := hi.2.2.1
          have h2 := hu ((fw_g W 269 h)) hb1.1
          rw [if_pos rfl] at h2
          refine s.trans ?_
          show sml (fun z_ => (fw_g f 270 z_)) nn.toNat + (fw_g _ 270 ((fw_g W 269 h)) - (fw_g f 270 (fw_g W 269 h))) = nn + (h + 1)
          rw [h2]
          omega
        · rw [fg_up rfl]; exact hi.2.2.2 x x1 x2))
      | (refine (lm_k_plantP_59 (nn := nn) hpre hP _ _ _ rfl ?_); (
        have ei : h = nn - 2 := by omega
        refine ⟨⟨by omega, by omega, ?_⟩, pf_init (by omega) (fun x x1 x2 => ?_) ?_, fun x x1 x2 => ?_⟩
        · have := hi.2.1 (nn - 1) (by omega) (by omega)
          omega
        · rw [← ei]; exact hi.2.1 x x1 x2
        · refine hi.2.2.1.trans ?_; omega
        · have e : (fw_g f 271 x) = 0 := hi.2.2.2 x x1 x2
          exact ⟨Int.le_of_eq e.symm, Int.lt_of_le_of_lt (Int.le_of_eq e) (by omega)⟩))
      | (refine jf_put (S := [270, 271, 13, 14, 15]) (o := 0) (F := [12000]) (W := W) (by repeat (first | exact fw_sm_refl | exact fw_sm_put0 | refine fw_sm_arr ?_ rfl | refine fw_sm_up ?_ rfl | refine fw_sm_put ?_ rfl | refine fw_sm_cp ?_ rfl)) (lm_k_plantP_59 (nn := nn) hpre hP _ _ _ rfl ?_); (
        have ei : h = nn - 2 := by omega
        refine ⟨⟨by omega, by omega, ?_⟩, pf_init (by omega) (fun x x1 x2 => ?_) ?_, fun x x1 x2 => ?_⟩
        · have := hi.2.1 (nn - 1) (by omega) (by omega)
          omega
        · rw [← ei]; exact hi.2.1 x x1 x2
        · refine hi.2.2.1.trans ?_; omega
        · have e : (fw_g f 271 x) = 0 := hi.2.2.2 x x1 x2
          exact ⟨Int.le_of_eq e.symm, Int.lt_of_le_of_lt (Int.le_of_eq e) (by omega)⟩))
      | (refine hP _ (by repeat (first | exact fw_sm_refl | exact fw_sm_put0 | refine fw_sm_arr ?_ rfl | refine fw_sm_up ?_ rfl | refine fw_sm_put ?_ rfl | refine fw_sm_cp ?_ rfl)) ?_; (rename_i f2 h2 f3 h3; exact h3))
      | omega
      | (intro _))
theorem lm_k_plantP_2 {Post : Option fw_V → fw_W → Prop} {d : Nat} {W : fw_W} {nn : Int} (hpre : 2 ≤ nn ∧ nn ≤ 14 ∧ ∀ i_, 0 ≤ i_ → i_ < nn - 2 → 0 ≤ (fw_g W 269 i_) ∧ (fw_g W 269 i_) < nn) (hP : ∀ (W2 : fw_W), fw_sm [270, 271, 13, 14, 15] 0 [12000] W W2 → ((fw_g W2 12 0) = nn ∧ tr nn (fun z_ => (fw_g W2 13 z_))) → Post none W2)  : ∀ (m : Nat) (h : Int) (f : fw_W), (nn - h).toNat = m → ((0 ≤ h ∧ h ≤ nn) ∧ ∀ x_, 0 ≤ x_ → x_ < h → (fw_g f 270 x_) = 1 ∧ (fw_g f 271 x_) = 0) → jf fw_T (d + 3) 45 2 [(0, .inr (.inl 268)), (1, .inl nn), (2, .inr (.inl 12)), (3, .inl h)] [] (fw_put [270, 271, 13, 14, 15] 0 [12000] W f) Post := by
  intro m
  induction m using Nat.strongRecOn with
  | ind m ih =>
    intro h f hm hi
    refine jf_rng (fun hrg => ?_)
    have hrg : -2147483648 ≤ nn ∧ nn ≤ 2147483647 ∧ -2147483648 ≤ h ∧ h ≤ 2147483647 ∧ True := hrg
    refine s_k_plantP_2 ?_
    have hi1 := hi.1
    repeat' (first
      | (exact True.intro)
      | (exact hpre.1)
      | (refine And.intro ?_ ?_)
      | (refine (ih _ (by omega) _ _ rfl ?_); (
        refine ⟨by omega, fun x x1 x2 => ⟨?_, ?_⟩⟩
        · rw [fg_up rfl, fg_if (by omega) (by omega) (by omega) (by omega)]
          by_cases e : h = x
          · rw [if_pos e]
          · rw [if_neg e]; exact (hi.2 x x1 (by omega)).1
        · rw [fg_if (by omega) (by omega) (by omega) (by omega)]
          by_cases e : h = x
          · rw [if_pos e]
          · rw [if_neg e, fg_up rfl]; exact (hi.2 x x1 (by omega)).2))
      | (refine jf_put (S := [270, 271, 13, 14, 15]) (o := 0) (F := [12000]) (W := W) (by repeat (first | exact fw_sm_refl | exact fw_sm_put0 | refine fw_sm_arr ?_ rfl | refine fw_sm_up ?_ rfl | refine fw_sm_put ?_ rfl | refine fw_sm_cp ?_ rfl)) (ih _ (by omega) _ _ rfl ?_); (
        refine ⟨by omega, fun x x1 x2 => ⟨?_, ?_⟩⟩
        · rw [fg_up rfl, fg_if (by omega) (by omega) (by omega) (by omega)]
          by_cases e : h = x
          · rw [if_pos e]
          · rw [if_neg e]; exact (hi.2 x x1 (by omega)).1
        · rw [fg_if (by omega) (by omega) (by omega) (by omega)]
          by_cases e : h = x
          · rw [if_pos e]
          · rw [if_neg e, fg_up rfl]; exact (hi.2 x x1 (by omega)).2))
      | (refine (lm_k_plantP_29 (nn := nn) hpre hP _ _ _ rfl ?_); (
        refine ⟨by omega, fun x x1 x2 => Eq.trans (hi.2 x x1 (by omega)).1 ?_, Eq.trans (sml_one nn.toNat (fun y y1 y2 => (hi.2 y y1 (by omega)).1)) (by omega), fun x x1 x2 => (hi.2 x x1 (by omega)).2⟩
        show (1 : Int) = 1 + ((fd_c (fun z_ => (fw_g W 269 z_)) 0 x : Nat) : Int)
        simp [fd_c]))
      | (refine jf_put (S := [270, 271, 13, 14, 15]) (o := 0) (F := [12000]) (W := W) (by repeat (first | exact fw_sm_refl | exact fw_sm_put0 | refine fw_sm_arr ?_ rfl | refine fw_sm_up ?_ rfl | refine fw_sm_put ?_ rfl | refine fw_sm_cp ?_ rfl)) (lm_k_plantP_29 (nn := nn) hpre hP _ _ _ rfl ?_); (
        refine ⟨by omega, fun x x1 x2 => Eq.trans (hi.2 x x1 (by omega)).1 ?_, Eq.trans (sml_one nn.toNat (fun y y1 y2 => (hi.2 y y1 (by omega)).1)) (by omega), fun x x1 x2 => (hi.2 x x1 (by omega)).2⟩
        show (1 : Int) = 1 + ((fd_c (fun z_ => (fw_g W 269 z_)) 0 x : Nat) : Int)
        simp [fd_c]))
      | (refine hP _ (by repeat (first | exact fw_sm_refl | exact fw_sm_put0 | refine fw_sm_arr ?_ rfl | refine fw_sm_up ?_ rfl | refine fw_sm_put ?_ rfl | refine fw_sm_cp ?_ rfl)) ?_; (rename_i f2 h2 f3 h3; exact h3))
      | omega
      | (intro _))
def x_k_plantP : fw_X := fun as W Q => match as with
  | [.inr (.inl s_), .inl nn, .inr (.inl r1_)] => fw_if (Nat.beq s_ 268) (fw_if (Nat.beq r1_ 12) ((2 ≤ nn ∧ nn ≤ 14 ∧ ∀ i_, 0 ≤ i_ → i_ < nn - 2 → 0 ≤ (fw_g W 269 i_) ∧ (fw_g W 269 i_) < nn) ∧ (∀ (f : fw_W), ((fw_g f 12 0) = nn ∧ tr nn (fun z_ => (fw_g f 13 z_))) → Q none (fw_put [270, 271, 13, 14, 15] 0 [12000] W f))))
  | _ => False
theorem x_k_plantP_ok (d : Nat) (as : List fw_V) (W : fw_W) (Q : Option fw_V → fw_W → Prop) (hx : x_k_plantP as W Q) : jf fw_T (d + 3) 45 0 (fw_args 0 as) [] W Q := by
  unfold x_k_plantP at hx
  split at hx
  · rename_i s_ nn r1_
    obtain ⟨e0_, hx0⟩ := fw_if_ok hx
    have e0_ := Nat.eq_of_beq_eq_true e0_
    clear hx
    subst e0_
    obtain ⟨e1_, hx1⟩ := fw_if_ok hx0
    have e1_ := Nat.eq_of_beq_eq_true e1_
    clear hx0
    subst e1_
    obtain ⟨hpre, hQ⟩ := hx1
    have hP : ∀ (W2 : fw_W), fw_sm [270, 271, 13, 14, 15] 0 [12000] W W2 → _ → Q none W2 := fun W2 hs hr => fw_sm_use (Q := fun Z => Q none Z) hs (hQ W2 hr)
    refine s_k_plantP_0 ?_
    repeat' (first
      | (exact True.intro)
      | (exact hpre.1)
      | (refine And.intro ?_ ?_)
      | (refine jf_put (S := [270, 271, 13, 14, 15]) (o := 0) (F := [12000]) (W := W) (by repeat (first | exact fw_sm_refl | exact fw_sm_put0 | refine fw_sm_arr ?_ rfl | refine fw_sm_up ?_ rfl | refine fw_sm_put ?_ rfl | refine fw_sm_cp ?_ rfl)) (lm_k_plantP_2 (nn := nn) hpre hP _ _ _ rfl ?_); (exact ⟨by omega, fun x x1 x2 => by omega⟩))
      | (refine jf_put (S := [270, 271, 13, 14, 15]) (o := 0) (F := [12000]) (W := W) (by repeat (first | exact fw_sm_refl | exact fw_sm_put0 | refine fw_sm_arr ?_ rfl | refine fw_sm_up ?_ rfl | refine fw_sm_put ?_ rfl | refine fw_sm_cp ?_ rfl)) (lm_k_plantP_29 (nn := nn) hpre hP _ _ _ rfl ?_); (first | omega | trivial | (simp (config := { decide := true }) only [fg_in, fg_fin, fg_out, fg_fout, fg_up, fg_same, true_and, and_true] <;> omega)))
      | (refine jf_put (S := [270, 271, 13, 14, 15]) (o := 0) (F := [12000]) (W := W) (by repeat (first | exact fw_sm_refl | exact fw_sm_put0 | refine fw_sm_arr ?_ rfl | refine fw_sm_up ?_ rfl | refine fw_sm_put ?_ rfl | refine fw_sm_cp ?_ rfl)) (lm_k_plantP_59 (nn := nn) hpre hP _ _ _ rfl ?_); (first | omega | trivial | (simp (config := { decide := true }) only [fg_in, fg_fin, fg_out, fg_fout, fg_up, fg_same, true_and, and_true] <;> omega)))
      | (refine jf_put (S := [270, 271, 13, 14, 15]) (o := 0) (F := [12000]) (W := W) (by repeat (first | exact fw_sm_refl | exact fw_sm_put0 | refine fw_sm_arr ?_ rfl | refine fw_sm_up ?_ rfl | refine fw_sm_put ?_ rfl | refine fw_sm_cp ?_ rfl)) (lm_k_plantP_98 (nn := nn) hpre hP _ ?_); (first | omega | trivial | (simp (config := { decide := true }) only [fg_in, fg_fin, fg_out, fg_fout, fg_up, fg_same, true_and, and_true] <;> omega)))
      | (refine hP _ (by repeat (first | exact fw_sm_refl | exact fw_sm_put0 | refine fw_sm_arr ?_ rfl | refine fw_sm_up ?_ rfl | refine fw_sm_put ?_ rfl | refine fw_sm_cp ?_ rfl)) ?_; (rename_i f2 h2 f3 h3; exact h3))
      | omega
      | (intro _))
  · exact hx.elim

def ct_k_plantT : List (Nat × fw_X) := [(46, x_k_linkFirstEnd), (48, x_k_hangAllT)]
theorem ct_k_plantT_ok (d : Nat) : fw_cok fw_T (d + 2) ct_k_plantT := by
  intro q hq as W Q h
  simp only [ct_k_plantT, List.mem_cons, List.not_mem_nil, or_false] at hq
  rcases hq with rfl | rfl
  · exact jc_of (x_k_linkFirstEnd_ok (d + 0) as W Q h)
  · exact jc_of (x_k_hangAllT_ok (d + 0) as W Q h)
theorem s_k_plantT_0 {Post : Option fw_V → fw_W → Prop} {d : Nat} {W : fw_W} {nn : Int}
    (hw_ : jf fw_T (d + 3) 45 2 [(0, .inr (.inl 268)), (1, .inl nn), (2, .inr (.inl 272)), (3, .inl (0 : Int))] [] W Post) :
    jf fw_T (d + 3) 45 0 [(0, .inr (.inl 268)), (1, .inl nn), (2, .inr (.inl 272))] [] W Post := fw_ok (n := 3) (ss := [(2, [0, 1, 2, 3]), (29, [0, 1, 2, 3]), (59, [0, 1, 2, 3]), (98, [0, 1, 2])]) (hv := []) fr_45_ok fv_plT_ok (ct_k_plantT_ok d) hw_

theorem s_k_plantT_98 {Post : Option fw_V → fw_W → Prop} {d : Nat} {W : fw_W} {nn : Int} {f : fw_W}
    (hw_ : -2147483648 ≤ nn - (1 : Int) ∧ nn - (1 : Int) ≤ 2147483647 ∧ (((2 ≤ nn ∧ nn ≤ 14 ∧ 0 ≤ (nn - (1 : Int)) ∧ (nn - (1 : Int)) < nn) ∧ (∃ l_, 0 ≤ l_ ∧ l_ < nn ∧ (fw_g f 270 l_) = 1) ∧ kb nn (fw_put [270, 271, 273, 274, 275] 0 [272000] W f)) ∧ (∀ (f1 : fw_W), ((lk_ok nn (nn - (1 : Int)) (fw_put [270, 271, 273, 274, 275] 0 [272000] W f) (fw_put [270, 271] 0 [] (fw_put [270, 271, 273, 274, 275] 0 [272000] W f) f1))) → (2 ≤ nn ∧ nn ≤ 14 ∧ gc_ok nn (nxb (fw_put [270, 271] 0 [] (fw_put [270, 271, 273, 274, 275] 0 [272000] W f) f1)) ∧ kb nn (fw_put [270, 271] 0 [] (fw_put [270, 271, 273, 274, 275] 0 [272000] W f) f1)) ∧ (∀ (f2 : fw_W), (((fw_g f2 272 0) = nn ∧ tr nn (fun z_ => (fw_g f2 273 z_)))) → Post none (fw_put [273, 274, 275] 0 [272000] (fw_put [270, 271] 0 [] (fw_put [270, 271, 273, 274, 275] 0 [272000] W f) f1) f2))))) :
    jf fw_T (d + 3) 45 98 [(0, .inr (.inl 268)), (1, .inl nn), (2, .inr (.inl 272))] [] (fw_put [270, 271, 273, 274, 275] 0 [272000] W f) Post := fw_ok (n := 12) (ss := [(2, [0, 1, 2, 3]), (29, [0, 1, 2, 3]), (59, [0, 1, 2, 3]), (98, [0, 1, 2])]) (hv := []) fr_45_ok fv_plT_ok (ct_k_plantT_ok d) hw_

theorem s_k_plantT_59 {Post : Option fw_V → fw_W → Prop} {d : Nat} {W : fw_W} {nn h : Int} {f : fw_W}
    (hw_ : -2147483648 ≤ nn - (2 : Int) ∧ nn - (2 : Int) ≤ 2147483647 ∧ ((((nn - (2 : Int)) ≤ h → jf fw_T (d + 3) 45 98 [(0, .inr (.inl 268)), (1, .inl nn), (2, .inr (.inl 272))] [] (fw_put [270, 271, 273, 274, 275] 0 [272000] W f) Post) ∧ (h < (nn - (2 : Int)) → 0 ≤ h ∧ h < 14 ∧ (0 ≤ (fw_g W 269 h) → (fw_g W 269 h) ≤ 15 → ((2 ≤ nn ∧ nn ≤ 14 ∧ 0 ≤ (fw_g W 269 h) ∧ (fw_g W 269 h) < nn) ∧ (∃ l_, 0 ≤ l_ ∧ l_ < nn ∧ (fw_g f 270 l_) = 1) ∧ kb nn (fw_put [270, 271, 273, 274, 275] 0 [272000] W f)) ∧ (∀ (f1 : fw_W), ((lk_ok nn (fw_g W 269 h) (fw_put [270, 271, 273, 274, 275] 0 [272000] W f) (fw_put [270, 271] 0 [] (fw_put [270, 271, 273, 274, 275] 0 [272000] W f) f1))) → 0 ≤ h ∧ h < 14 ∧ (0 ≤ (fw_g W 269 h) → (fw_g W 269 h) ≤ 15 → 0 ≤ (fw_g W 269 h) ∧ (fw_g W 269 h) < 14 ∧ (-2147483648 ≤ (fw_g f1 270 (fw_g W 269 h)) → (fw_g f1 270 (fw_g W 269 h)) ≤ 2147483647 → -2147483648 ≤ (fw_g f1 270 (fw_g W 269 h)) - (1 : Int) ∧ (fw_g f1 270 (fw_g W 269 h)) - (1 : Int) ≤ 2147483647 ∧ (0 ≤ (fw_g W 269 h) ∧ (fw_g W 269 h) < 14 ∧ -2147483648 ≤ ((fw_g f1 270 (fw_g W 269 h)) - (1 : Int)) ∧ ((fw_g f1 270 (fw_g W 269 h)) - (1 : Int)) ≤ 2147483647 ∧ (-2147483648 ≤ h + (1 : Int) ∧ h + (1 : Int) ≤ 2147483647 ∧ (jf fw_T (d + 3) 45 59 [(0, .inr (.inl 268)), (1, .inl nn), (2, .inr (.inl 272)), (3, .inl (h + (1 : Int)))] [] (fw_up (fw_put [270, 271] 0 [] (fw_put [270, 271, 273, 274, 275] 0 [272000] W f) f1) 270 (fw_g W 269 h) ((fw_g f1 270 (fw_g W 269 h)) - (1 : Int))) Post))))))))))) :
    jf fw_T (d + 3) 45 59 [(0, .inr (.inl 268)), (1, .inl nn), (2, .inr (.inl 272)), (3, .inl h)] [] (fw_put [270, 271, 273, 274, 275] 0 [272000] W f) Post := fw_ok (n := 26) (ss := [(2, [0, 1, 2, 3]), (29, [0, 1, 2, 3]), (59, [0, 1, 2, 3]), (98, [0, 1, 2])]) (hv := []) fr_45_ok fv_plT_ok (ct_k_plantT_ok d) hw_

theorem s_k_plantT_29 {Post : Option fw_V → fw_W → Prop} {d : Nat} {W : fw_W} {nn h : Int} {f : fw_W}
    (hw_ : -2147483648 ≤ nn - (2 : Int) ∧ nn - (2 : Int) ≤ 2147483647 ∧ ((((nn - (2 : Int)) ≤ h → jf fw_T (d + 3) 45 59 [(0, .inr (.inl 268)), (1, .inl nn), (2, .inr (.inl 272)), (3, .inl (0 : Int))] [] (fw_put [270, 271, 273, 274, 275] 0 [272000] W f) Post) ∧ (h < (nn - (2 : Int)) → 0 ≤ h ∧ h < 14 ∧ (0 ≤ (fw_g W 269 h) → (fw_g W 269 h) ≤ 15 → 0 ≤ (fw_g W 269 h) ∧ (fw_g W 269 h) < 14 ∧ (-2147483648 ≤ (fw_g f 270 (fw_g W 269 h)) → (fw_g f 270 (fw_g W 269 h)) ≤ 2147483647 → -2147483648 ≤ (fw_g f 270 (fw_g W 269 h)) + (1 : Int) ∧ (fw_g f 270 (fw_g W 269 h)) + (1 : Int) ≤ 2147483647 ∧ (0 ≤ (fw_g W 269 h) ∧ (fw_g W 269 h) < 14 ∧ -2147483648 ≤ ((fw_g f 270 (fw_g W 269 h)) + (1 : Int)) ∧ ((fw_g f 270 (fw_g W 269 h)) + (1 : Int)) ≤ 2147483647 ∧ (-2147483648 ≤ h + (1 : Int) ∧ h + (1 : Int) ≤ 2147483647 ∧ (jf fw_T (d + 3) 45 29 [(0, .inr (.inl 268)), (1, .inl nn), (2, .inr (.inl 272)), (3, .inl (h + (1 : Int)))] [] (fw_up (fw_put [270, 271, 273, 274, 275] 0 [272000] W f) 270 (fw_g W 269 h) ((fw_g f 270 (fw_g W 269 h)) + (1 : Int))) Post))))))))) :
    jf fw_T (d + 3) 45 29 [(0, .inr (.inl 268)), (1, .inl nn), (2, .inr (.inl 272)), (3, .inl h)] [] (fw_put [270, 271, 273, 274, 275] 0 [272000] W f) Post := fw_ok (n := 19) (ss := [(2, [0, 1, 2, 3]), (29, [0, 1, 2, 3]), (59, [0, 1, 2, 3]), (98, [0, 1, 2])]) (hv := []) fr_45_ok fv_plT_ok (ct_k_plantT_ok d) hw_

theorem s_k_plantT_2 {Post : Option fw_V → fw_W → Prop} {d : Nat} {W : fw_W} {nn h : Int} {f : fw_W}
    (hw_ : ((nn ≤ h → jf fw_T (d + 3) 45 29 [(0, .inr (.inl 268)), (1, .inl nn), (2, .inr (.inl 272)), (3, .inl (0 : Int))] [] (fw_put [270, 271, 273, 274, 275] 0 [272000] W f) Post) ∧ (h < nn → 0 ≤ h ∧ h < 14 ∧ -2147483648 ≤ (1 : Int) ∧ (1 : Int) ≤ 2147483647 ∧ (0 ≤ h ∧ h < 14 ∧ -2147483648 ≤ (0 : Int) ∧ (0 : Int) ≤ 2147483647 ∧ (-2147483648 ≤ h + (1 : Int) ∧ h + (1 : Int) ≤ 2147483647 ∧ (jf fw_T (d + 3) 45 2 [(0, .inr (.inl 268)), (1, .inl nn), (2, .inr (.inl 272)), (3, .inl (h + (1 : Int)))] [] (fw_up (fw_up (fw_put [270, 271, 273, 274, 275] 0 [272000] W f) 270 h (1 : Int)) 271 h (0 : Int)) Post)))))) :
    jf fw_T (d + 3) 45 2 [(0, .inr (.inl 268)), (1, .inl nn), (2, .inr (.inl 272)), (3, .inl h)] [] (fw_put [270, 271, 273, 274, 275] 0 [272000] W f) Post := fw_ok (n := 16) (ss := [(2, [0, 1, 2, 3]), (29, [0, 1, 2, 3]), (59, [0, 1, 2, 3]), (98, [0, 1, 2])]) (hv := []) fr_45_ok fv_plT_ok (ct_k_plantT_ok d) hw_

theorem lm_k_plantT_98 {Post : Option fw_V → fw_W → Prop} {d : Nat} {W : fw_W} {nn : Int} (hpre : 2 ≤ nn ∧ nn ≤ 14 ∧ ∀ i_, 0 ≤ i_ → i_ < nn - 2 → 0 ≤ (fw_g W 269 i_) ∧ (fw_g W 269 i_) < nn) (hP : ∀ (W2 : fw_W), fw_sm [270, 271, 273, 274, 275] 0 [272000] W W2 → ((fw_g W2 272 0) = nn ∧ tr nn (fun z_ => (fw_g W2 273 z_))) → Post none W2)  : ∀ (f : fw_W), 1 ≤ (fw_g f 270 (nn - 1)) ∧ pf_ok nn (fun z_ => (fw_g W 269 z_)) (fun z_ => (fw_g f 270 z_)) (nxb (fw_put [270, 271, 273, 274, 275] 0 [272000] W f)) (nn - 2) ∧ kb nn (fw_put [270, 271, 273, 274, 275] 0 [272000] W f) → jf fw_T (d + 3) 45 98 [(0, .inr (.inl 268)), (1, .inl nn), (2, .inr (.inl 272))] [] (fw_put [270, 271, 273, 274, 275] 0 [272000] W f) Post := by
  intro f hi
  refine jf_rng (fun hrg => ?_)
  have hrg : -2147483648 ≤ nn ∧ nn ≤ 2147483647 ∧ True := hrg
  refine s_k_plantT_98 ?_
  have hl := pf_end2 hi.2.1 (by omega) (by omega) (by omega)
  repeat' (first
    | (exact hi.2.2)
    | (obtain ⟨l, l1, l2, l3⟩ := hl; exact ⟨l, l1, by omega, l3⟩)
    | (rename_i f2 h2; exact (lk_gc (by omega) hi.2.1 hi.1 h2).1)
    | (rename_i f2 h2; exact (lk_gc (by omega) hi.2.1 hi.1 h2).2)
    | (exact True.intro)
    | (exact hpre.1)
    | (refine And.intro ?_ ?_)
    | (refine hP _ (by repeat (first | exact fw_sm_refl | exact fw_sm_put0 | refine fw_sm_arr ?_ rfl | refine fw_sm_up ?_ rfl | refine fw_sm_put ?_ rfl | refine fw_sm_cp ?_ rfl)) ?_; (rename_i f2 h2 f3 h3; exact h3))
    | omega
    | (intro _))
theorem lm_k_plantT_59 {Post : Option fw_V → fw_W → Prop} {d : Nat} {W : fw_W} {nn : Int} (hpre : 2 ≤ nn ∧ nn ≤ 14 ∧ ∀ i_, 0 ≤ i_ → i_ < nn - 2 → 0 ≤ (fw_g W 269 i_) ∧ (fw_g W 269 i_) < nn) (hP : ∀ (W2 : fw_W), fw_sm [270, 271, 273, 274, 275] 0 [272000] W W2 → ((fw_g W2 272 0) = nn ∧ tr nn (fun z_ => (fw_g W2 273 z_))) → Post none W2)  : ∀ (m : Nat) (h : Int) (f : fw_W), (nn - h).toNat = m → (0 ≤ h ∧ h ≤ nn - 2 ∧ 1 ≤ (fw_g f 270 (nn - 1))) ∧ pf_ok nn (fun z_ => (fw_g W 269 z_)) (fun z_ => (fw_g f 270 z_)) (nxb (fw_put [270, 271, 273, 274, 275] 0 [272000] W f)) h ∧ kb nn (fw_put [270, 271, 273, 274, 275] 0 [272000] W f) → jf fw_T (d + 3) 45 59 [(0, .inr (.inl 268)), (1, .inl nn), (2, .inr (.inl 272)), (3, .inl h)] [] (fw_put [270, 271, 273, 274, 275] 0 [272000] W f) Post := by
  intro m
  induction m using Nat.strongRecOn with
  | ind m ih =>
    intro h f hm hi
    refine jf_rng (fun hrg => ?_)
    have hrg : -2147483648 ≤ nn ∧ nn ≤ 2147483647 ∧ -2147483648 ≤ h ∧ h ≤ 2147483647 ∧ True := hrg
    refine s_k_plantT_59 ?_
    have hi1 := hi.1
    have hb : h < nn - 2 → 0 ≤ (fw_g W 269 h) ∧ (fw_g W 269 h) < nn := fun z => hpre.2.2 h hi1.1 z
    have hl := fun z : h < nn - 2 => pf_end2 hi.2.1 (by omega) (by omega) (by omega)
    repeat' (first
      | (exact hi.2.2)
      | (obtain ⟨l, l1, l2, l3⟩ := hl (by omega); exact ⟨l, l1, by omega, l3⟩)
      | (exact True.intro)
      | (exact hpre.1)
      | (refine And.intro ?_ ?_)
      | (refine (ih _ (by omega) _ _ rfl ?_); (
        first
          | (rename_i f9 h9 w1 w2 w3 w4
             have hb1 := hb (by omega)
             have q := lk_step (by omega) (by omega) hi.2.1 hi1.2.2 (by omega) (by omega) rfl hb1.1 hb1.2 h9
             exact ⟨⟨by omega, by omega, q.2.2.1⟩, q.2.1, q.2.2.2⟩)))
      | (refine jf_put (S := [270, 271, 273, 274, 275]) (o := 0) (F := [272000]) (W := W) (by repeat (first | exact fw_sm_refl | exact fw_sm_put0 | refine fw_sm_arr ?_ rfl | refine fw_sm_up ?_ rfl | refine fw_sm_put ?_ rfl | refine fw_sm_cp ?_ rfl)) (ih _ (by omega) _ _ rfl ?_); (
        first
          | (rename_i f9 h9 w1 w2 w3 w4
             have hb1 := hb (by omega)
             have q := lk_step (by omega) (by omega) hi.2.1 hi1.2.2 (by omega) (by omega) rfl hb1.1 hb1.2 h9
             exact ⟨⟨by omega, by omega, q.2.2.1⟩, q.2.1, q.2.2.2⟩)))
      | (refine (lm_k_plantT_98 (nn := nn) hpre hP _ ?_); (
        have ei : h = nn - 2 := by omega
        rw [ei] at hi
        exact ⟨hi.1.2.2, hi.2⟩))
      | (refine jf_put (S := [270, 271, 273, 274, 275]) (o := 0) (F := [272000]) (W := W) (by repeat (first | exact fw_sm_refl | exact fw_sm_put0 | refine fw_sm_arr ?_ rfl | refine fw_sm_up ?_ rfl | refine fw_sm_put ?_ rfl | refine fw_sm_cp ?_ rfl)) (lm_k_plantT_98 (nn := nn) hpre hP _ ?_); (
        have ei : h = nn - 2 := by omega
        rw [ei] at hi
        exact ⟨hi.1.2.2, hi.2⟩))
      | (refine hP _ (by repeat (first | exact fw_sm_refl | exact fw_sm_put0 | refine fw_sm_arr ?_ rfl | refine fw_sm_up ?_ rfl | refine fw_sm_put ?_ rfl | refine fw_sm_cp ?_ rfl)) ?_; (rename_i f2 h2 f3 h3; exact h3))
      | (rename_i f9 h9 w1 w2 w3 w4; have hb1 := hb (by omega); have q := lk_step (by omega) (by omega) hi.2.1 hi1.2.2 (by omega) (by omega) rfl hb1.1 hb1.2 h9; have q2 : 2 ≤ fw_g f9 270 (fw_g W 269 h) ∧ fw_g f9 270 (fw_g W 269 h) ≤ 14 := q.1; omega)
      | omega
      | (intro _))
theorem lm_k_plantT_29 {Post : Option fw_V → fw_W → Prop} {d : Nat} {W : fw_W} {nn : Int} (hpre : 2 ≤ nn ∧ nn ≤ 14 ∧ ∀ i_, 0 ≤ i_ → i_ < nn - 2 → 0 ≤ (fw_g W 269 i_) ∧ (fw_g W 269 i_) < nn) (hP : ∀ (W2 : fw_W), fw_sm [270, 271, 273, 274, 275] 0 [272000] W W2 → ((fw_g W2 272 0) = nn ∧ tr nn (fun z_ => (fw_g W2 273 z_))) → Post none W2)  : ∀ (m : Nat) (h : Int) (f : fw_W), (nn - h).toNat = m → ((0 ≤ h ∧ h ≤ nn - 2) ∧ (∀ x_, 0 ≤ x_ → x_ < nn → (fw_g f 270 x_) = 1 + ((fd_c (fun z_ => (fw_g W 269 z_)) h.toNat x_ : Nat) : Int)) ∧ sml (fun z_ => (fw_g f 270 z_)) nn.toNat = nn + h ∧ (∀ x_, 0 ≤ x_ → x_ < nn → (fw_g f 271 x_) = 0)) → jf fw_T (d + 3) 45 29 [(0, .inr (.inl 268)), (1, .inl nn), (2, .inr (.inl 272)), (3, .inl h)] [] (fw_put [270, 271, 273, 274, 275] 0 [272000] W f) Post := by
  intro m
  induction m using Nat.strongRecOn with
  | ind m ih =>
    intro h f hm hi
    refine jf_rng (fun hrg => ?_)
    have hrg : -2147483648 ≤ nn ∧ nn ≤ 2147483647 ∧ -2147483648 ≤ h ∧ h ≤ 2147483647 ∧ True := hrg
    refine s_k_plantT_29 ?_
    have hi1 := hi.1
    have hb : h < nn - 2 → 0 ≤ (fw_g W 269 h) ∧ (fw_g W 269 h) < nn ∧ 1 ≤ (fw_g f 270 (fw_g W 269 h)) ∧ (fw_g f 270 (fw_g W 269 h)) ≤ nn := fun z => by
      have a := hpre.2.2 h hi1.1 z
      have b := hi.2.1 ((fw_g W 269 h)) a.1 a.2
      have c := fd_le (fun z_ => (fw_g W 269 z_)) h.toNat ((fw_g W 269 h))
      exact ⟨a.1, a.2, by omega, by omega⟩
    repeat' (first
      | (exact True.intro)
      | (exact hpre.1)
      | (refine And.intro ?_ ?_)
      | (refine (ih _ (by omega) _ _ rfl ?_); (
        have hb1 := hb (by omega)
        have hu : ∀ x, 0 ≤ x → fw_g (fw_up (fw_put [270, 271, 273, 274, 275] 0 [272000] W f) 270 ((fw_g W 269 h)) ((fw_g f 270 (fw_g W 269 h)) + 1)) 270 x = if (fw_g W 269 h) = x then (fw_g f 270 (fw_g W 269 h)) + 1 else (fw_g f 270 x) := fun x x1 => fg_if (by omega) x1 (by omega) (by omega)
        refine ⟨by omega, fun x x1 x2 => ?_, ?_, fun x x1 x2 => ?_⟩
        · have hs := fd_c_s (fun z_ => (fw_g W 269 z_)) h x hi1.1
          have h0 := hi.2.1 x x1 x2
          rw [hu x x1, hs]
          by_cases e : (fw_g W 269 h) = x
          · rw [if_pos e, if_pos e, e]; omega
          · rw [if_neg e, if_neg e]; omega
        · have s := sml_up (L := (fun z_ => (fw_g f 270 z_))) (L' := fun z_ => fw_g (fw_up (fw_put [270, 271, 273, 274, 275] 0 [272000] W f) 270 ((fw_g W 269 h)) ((fw_g f 270 (fw_g W 269 h)) + 1)) 270 z_) hb1.1 nn.toNat (by omega) (fun y y1 y2 y3 => by
            show fw_g _ 270 y = (fw_g f 270 y)
            rw [hu y y1, if_neg (fun z => y3 z.symm)])
          have h0 := hi.2.2.1
          have h2 := hu ((fw_g W 269 h)) hb1.1
          rw [if_pos rfl] at h2
          refine s.trans ?_
          show sml (fun z_ => (fw_g f 270 z_)) nn.toNat + (fw_g _ 270 ((fw_g W 269 h)) - (fw_g f 270 (fw_g W 269 h))) = nn + (h + 1)
          rw [h2]
          omega
        · rw [fg_up rfl]; exact hi.2.2.2 x x1 x2))
      | (refine jf_put (S := [270, 271, 273, 274, 275]) (o := 0) (F := [272000]) (W := W) (by repeat (first | exact fw_sm_refl | exact fw_sm_put0 | refine fw_sm_arr ?_ rfl | refine fw_sm_up ?_ rfl | refine fw_sm_put ?_ rfl | refine fw_sm_cp ?_ rfl)) (ih _ (by omega) _ _ rfl ?_); (
        have hb1 := hb (by omega)
        have hu : ∀ x, 0 ≤ x → fw_g (fw_up (fw_put [270, 271, 273, 274, 275] 0 [272000] W f) 270 ((fw_g W 269 h)) ((fw_g f 270 (fw_g W 269 h)) + 1)) 270 x = if (fw_g W 269 h) = x then (fw_g f 270 (fw_g W 269 h)) + 1 else (fw_g f 270 x) := fun x x1 => fg_if (by omega) x1 (by omega) (by omega)
        refine ⟨by omega, fun x x1 x2 => ?_, ?_, fun x x1 x2 => ?_⟩
        · have hs := fd_c_s (fun z_ => (fw_g W 269 z_)) h x hi1.1
          have h0 := hi.2.1 x x1 x2
          rw [hu x x1, hs]
          by_cases e : (fw_g W 269 h) = x
          · rw [if_pos e, if_pos e, e]; omega
          · rw [if_neg e, if_neg e]; omega
        · have s := sml_up (L := (fun z_ => (fw_g f 270 z_))) (L' := fun z_ => fw_g (fw_up (fw_put [270, 271, 273, 274, 275] 0 [272000] W f) 270 ((fw_g W 269 h)) ((fw_g f 270 (fw_g W 269 h)) + 1)) 270 z_) hb1.1 nn.toNat (by omega) (fun y y1 y2 y3 => by
            show fw_g _ 270 y = (fw_g f 270 y)
            rw [hu y y1, if_neg (fun z => y3 z.symm)])
          have h0 := hi.2.2.1
          have h2 := hu ((fw_g W 269 h)) hb1.1
          rw [if_pos rfl] at h2
          refine s.trans ?_
          show sml (fun z_ => (fw_g f 270 z_)) nn.toNat + (fw_g _ 270 ((fw_g W 269 h)) - (fw_g f 270 (fw_g W 269 h))) = nn + (h + 1)
          rw [h2]
          omega
        · rw [fg_up rfl]; exact hi.2.2.2 x x1 x2))
      | (refine (lm_k_plantT_59 (nn := nn) hpre hP _ _ _ rfl ?_); (
        have ei : h = nn - 2 := by omega
        refine ⟨⟨by omega, by omega, ?_⟩, pf_init (by omega) (fun x x1 x2 => ?_) ?_, fun x x1 x2 => ?_⟩
        · have := hi.2.1 (nn - 1) (by omega) (by omega)
          omega
        · rw [← ei]; exact hi.2.1 x x1 x2
        · refine hi.2.2.1.trans ?_; omega
        · have e : (fw_g f 271 x) = 0 := hi.2.2.2 x x1 x2
          exact ⟨Int.le_of_eq e.symm, Int.lt_of_le_of_lt (Int.le_of_eq e) (by omega)⟩))
      | (refine jf_put (S := [270, 271, 273, 274, 275]) (o := 0) (F := [272000]) (W := W) (by repeat (first | exact fw_sm_refl | exact fw_sm_put0 | refine fw_sm_arr ?_ rfl | refine fw_sm_up ?_ rfl | refine fw_sm_put ?_ rfl | refine fw_sm_cp ?_ rfl)) (lm_k_plantT_59 (nn := nn) hpre hP _ _ _ rfl ?_); (
        have ei : h = nn - 2 := by omega
        refine ⟨⟨by omega, by omega, ?_⟩, pf_init (by omega) (fun x x1 x2 => ?_) ?_, fun x x1 x2 => ?_⟩
        · have := hi.2.1 (nn - 1) (by omega) (by omega)
          omega
        · rw [← ei]; exact hi.2.1 x x1 x2
        · refine hi.2.2.1.trans ?_; omega
        · have e : (fw_g f 271 x) = 0 := hi.2.2.2 x x1 x2
          exact ⟨Int.le_of_eq e.symm, Int.lt_of_le_of_lt (Int.le_of_eq e) (by omega)⟩))
      | (refine hP _ (by repeat (first | exact fw_sm_refl | exact fw_sm_put0 | refine fw_sm_arr ?_ rfl | refine fw_sm_up ?_ rfl | refine fw_sm_put ?_ rfl | refine fw_sm_cp ?_ rfl)) ?_; (rename_i f2 h2 f3 h3; exact h3))
      | omega
      | (intro _))
theorem lm_k_plantT_2 {Post : Option fw_V → fw_W → Prop} {d : Nat} {W : fw_W} {nn : Int} (hpre : 2 ≤ nn ∧ nn ≤ 14 ∧ ∀ i_, 0 ≤ i_ → i_ < nn - 2 → 0 ≤ (fw_g W 269 i_) ∧ (fw_g W 269 i_) < nn) (hP : ∀ (W2 : fw_W), fw_sm [270, 271, 273, 274, 275] 0 [272000] W W2 → ((fw_g W2 272 0) = nn ∧ tr nn (fun z_ => (fw_g W2 273 z_))) → Post none W2)  : ∀ (m : Nat) (h : Int) (f : fw_W), (nn - h).toNat = m → ((0 ≤ h ∧ h ≤ nn) ∧ ∀ x_, 0 ≤ x_ → x_ < h → (fw_g f 270 x_) = 1 ∧ (fw_g f 271 x_) = 0) → jf fw_T (d + 3) 45 2 [(0, .inr (.inl 268)), (1, .inl nn), (2, .inr (.inl 272)), (3, .inl h)] [] (fw_put [270, 271, 273, 274, 275] 0 [272000] W f) Post := by
  intro m
  induction m using Nat.strongRecOn with
  | ind m ih =>
    intro h f hm hi
    refine jf_rng (fun hrg => ?_)
    have hrg : -2147483648 ≤ nn ∧ nn ≤ 2147483647 ∧ -2147483648 ≤ h ∧ h ≤ 2147483647 ∧ True := hrg
    refine s_k_plantT_2 ?_
    have hi1 := hi.1
    repeat' (first
      | (exact True.intro)
      | (exact hpre.1)
      | (refine And.intro ?_ ?_)
      | (refine (ih _ (by omega) _ _ rfl ?_); (
        refine ⟨by omega, fun x x1 x2 => ⟨?_, ?_⟩⟩
        · rw [fg_up rfl, fg_if (by omega) (by omega) (by omega) (by omega)]
          by_cases e : h = x
          · rw [if_pos e]
          · rw [if_neg e]; exact (hi.2 x x1 (by omega)).1
        · rw [fg_if (by omega) (by omega) (by omega) (by omega)]
          by_cases e : h = x
          · rw [if_pos e]
          · rw [if_neg e, fg_up rfl]; exact (hi.2 x x1 (by omega)).2))
      | (refine jf_put (S := [270, 271, 273, 274, 275]) (o := 0) (F := [272000]) (W := W) (by repeat (first | exact fw_sm_refl | exact fw_sm_put0 | refine fw_sm_arr ?_ rfl | refine fw_sm_up ?_ rfl | refine fw_sm_put ?_ rfl | refine fw_sm_cp ?_ rfl)) (ih _ (by omega) _ _ rfl ?_); (
        refine ⟨by omega, fun x x1 x2 => ⟨?_, ?_⟩⟩
        · rw [fg_up rfl, fg_if (by omega) (by omega) (by omega) (by omega)]
          by_cases e : h = x
          · rw [if_pos e]
          · rw [if_neg e]; exact (hi.2 x x1 (by omega)).1
        · rw [fg_if (by omega) (by omega) (by omega) (by omega)]
          by_cases e : h = x
          · rw [if_pos e]
          · rw [if_neg e, fg_up rfl]; exact (hi.2 x x1 (by omega)).2))
      | (refine (lm_k_plantT_29 (nn := nn) hpre hP _ _ _ rfl ?_); (
        refine ⟨by omega, fun x x1 x2 => Eq.trans (hi.2 x x1 (by omega)).1 ?_, Eq.trans (sml_one nn.toNat (fun y y1 y2 => (hi.2 y y1 (by omega)).1)) (by omega), fun x x1 x2 => (hi.2 x x1 (by omega)).2⟩
        show (1 : Int) = 1 + ((fd_c (fun z_ => (fw_g W 269 z_)) 0 x : Nat) : Int)
        simp [fd_c]))
      | (refine jf_put (S := [270, 271, 273, 274, 275]) (o := 0) (F := [272000]) (W := W) (by repeat (first | exact fw_sm_refl | exact fw_sm_put0 | refine fw_sm_arr ?_ rfl | refine fw_sm_up ?_ rfl | refine fw_sm_put ?_ rfl | refine fw_sm_cp ?_ rfl)) (lm_k_plantT_29 (nn := nn) hpre hP _ _ _ rfl ?_); (
        refine ⟨by omega, fun x x1 x2 => Eq.trans (hi.2 x x1 (by omega)).1 ?_, Eq.trans (sml_one nn.toNat (fun y y1 y2 => (hi.2 y y1 (by omega)).1)) (by omega), fun x x1 x2 => (hi.2 x x1 (by omega)).2⟩
        show (1 : Int) = 1 + ((fd_c (fun z_ => (fw_g W 269 z_)) 0 x : Nat) : Int)
        simp [fd_c]))
      | (refine hP _ (by repeat (first | exact fw_sm_refl | exact fw_sm_put0 | refine fw_sm_arr ?_ rfl | refine fw_sm_up ?_ rfl | refine fw_sm_put ?_ rfl | refine fw_sm_cp ?_ rfl)) ?_; (rename_i f2 h2 f3 h3; exact h3))
      | omega
      | (intro _))
def x_k_plantT : fw_X := fun as W Q => match as with
  | [.inr (.inl s_), .inl nn, .inr (.inl r1_)] => fw_if (Nat.beq s_ 268) (fw_if (Nat.beq r1_ 272) ((2 ≤ nn ∧ nn ≤ 14 ∧ ∀ i_, 0 ≤ i_ → i_ < nn - 2 → 0 ≤ (fw_g W 269 i_) ∧ (fw_g W 269 i_) < nn) ∧ (∀ (f : fw_W), ((fw_g f 272 0) = nn ∧ tr nn (fun z_ => (fw_g f 273 z_))) → Q none (fw_put [270, 271, 273, 274, 275] 0 [272000] W f))))
  | _ => False
theorem x_k_plantT_ok (d : Nat) (as : List fw_V) (W : fw_W) (Q : Option fw_V → fw_W → Prop) (hx : x_k_plantT as W Q) : jf fw_T (d + 3) 45 0 (fw_args 0 as) [] W Q := by
  unfold x_k_plantT at hx
  split at hx
  · rename_i s_ nn r1_
    obtain ⟨e0_, hx0⟩ := fw_if_ok hx
    have e0_ := Nat.eq_of_beq_eq_true e0_
    clear hx
    subst e0_
    obtain ⟨e1_, hx1⟩ := fw_if_ok hx0
    have e1_ := Nat.eq_of_beq_eq_true e1_
    clear hx0
    subst e1_
    obtain ⟨hpre, hQ⟩ := hx1
    have hP : ∀ (W2 : fw_W), fw_sm [270, 271, 273, 274, 275] 0 [272000] W W2 → _ → Q none W2 := fun W2 hs hr => fw_sm_use (Q := fun Z => Q none Z) hs (hQ W2 hr)
    refine s_k_plantT_0 ?_
    repeat' (first
      | (exact True.intro)
      | (exact hpre.1)
      | (refine And.intro ?_ ?_)
      | (refine jf_put (S := [270, 271, 273, 274, 275]) (o := 0) (F := [272000]) (W := W) (by repeat (first | exact fw_sm_refl | exact fw_sm_put0 | refine fw_sm_arr ?_ rfl | refine fw_sm_up ?_ rfl | refine fw_sm_put ?_ rfl | refine fw_sm_cp ?_ rfl)) (lm_k_plantT_2 (nn := nn) hpre hP _ _ _ rfl ?_); (exact ⟨by omega, fun x x1 x2 => by omega⟩))
      | (refine jf_put (S := [270, 271, 273, 274, 275]) (o := 0) (F := [272000]) (W := W) (by repeat (first | exact fw_sm_refl | exact fw_sm_put0 | refine fw_sm_arr ?_ rfl | refine fw_sm_up ?_ rfl | refine fw_sm_put ?_ rfl | refine fw_sm_cp ?_ rfl)) (lm_k_plantT_29 (nn := nn) hpre hP _ _ _ rfl ?_); (first | omega | trivial | (simp (config := { decide := true }) only [fg_in, fg_fin, fg_out, fg_fout, fg_up, fg_same, true_and, and_true] <;> omega)))
      | (refine jf_put (S := [270, 271, 273, 274, 275]) (o := 0) (F := [272000]) (W := W) (by repeat (first | exact fw_sm_refl | exact fw_sm_put0 | refine fw_sm_arr ?_ rfl | refine fw_sm_up ?_ rfl | refine fw_sm_put ?_ rfl | refine fw_sm_cp ?_ rfl)) (lm_k_plantT_59 (nn := nn) hpre hP _ _ _ rfl ?_); (first | omega | trivial | (simp (config := { decide := true }) only [fg_in, fg_fin, fg_out, fg_fout, fg_up, fg_same, true_and, and_true] <;> omega)))
      | (refine jf_put (S := [270, 271, 273, 274, 275]) (o := 0) (F := [272000]) (W := W) (by repeat (first | exact fw_sm_refl | exact fw_sm_put0 | refine fw_sm_arr ?_ rfl | refine fw_sm_up ?_ rfl | refine fw_sm_put ?_ rfl | refine fw_sm_cp ?_ rfl)) (lm_k_plantT_98 (nn := nn) hpre hP _ ?_); (first | omega | trivial | (simp (config := { decide := true }) only [fg_in, fg_fin, fg_out, fg_fout, fg_up, fg_same, true_and, and_true] <;> omega)))
      | (refine hP _ (by repeat (first | exact fw_sm_refl | exact fw_sm_put0 | refine fw_sm_arr ?_ rfl | refine fw_sm_up ?_ rfl | refine fw_sm_put ?_ rfl | refine fw_sm_cp ?_ rfl)) ?_; (rename_i f2 h2 f3 h3; exact h3))
      | omega
      | (intro _))
  · exact hx.elim

