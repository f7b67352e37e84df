/-! the reference, method by method -/
theorem fg_lit {W : fw_W} {c : Nat} {i j z : Int} (h : Nat.beq i.toNat j.toNat = false) : fw_g (fw_up W c i z) c j = fw_g W c j := by
  unfold fw_g
  rw [fw_up_nx (fun e => by rw [e, Nat.beq_refl] at h; cases h)]
def fr_244 : fw_P := [(0, 2, 0, 0, 0), (1, 50, 12, 29, 0), (4, 21, 9, 0, 0), (7, 0, 0, 0, 0), (8, 71, 0, 0, 0), (9, 2, 0, 0, 0), (10, 43, 0, 0, 0), (11, 50, 12, 29, 0), (14, 0, 0, 0, 1), (15, 31, 0, 0, 0), (16, 51, 12, 29, 0), (19, 2, 0, 0, 0), (20, 43, 0, 0, 0), (21, 50, 12, 30, 0), (24, 0, 0, 0, 1), (25, 30, 0, 0, 0), (26, 51, 12, 30, 0), (29, 2, 0, 0, 0), (30, 64, 245, 0, 312), (33, 0, 0, 0, 1), (34, 71, 0, 0, 0)]
theorem fr_244_ok : fw_mk 244 1 12 (some .boolean) fr_244 = true := by decide +kernel
def ct_undo : List (Nat × fw_X) := [(245, x_exchange)]
theorem ct_undo_ok (d : Nat) : fw_cok fw_T (d + 1) ct_undo := by
  intro q hq as W Q h
  simp only [ct_undo, List.mem_cons, List.not_mem_nil, or_false] at hq
  rcases hq with rfl
  · exact jc_of (x_exchange_ok (d + 0) as W Q h)
theorem s_undo_0 {Post : Option fw_V → fw_W → Prop} {d : Nat} {W : fw_W}
    (hw_ : (0 ≤ (fw_g W 352 29) → (fw_g W 352 29) ≤ 40 → ((¬ (fw_g W 352 29) = 0 → (0 ≤ (fw_g W 352 29) → (fw_g W 352 29) ≤ 40 → -2147483648 ≤ (fw_g W 352 29) - (1 : Int) ∧ (fw_g W 352 29) - (1 : Int) ≤ 2147483647 ∧ (0 ≤ ((fw_g W 352 29) - (1 : Int)) ∧ ((fw_g W 352 29) - (1 : Int)) ≤ 40 ∧ ((0 ≤ (fw_g W 352 30) → (fw_g W 352 30) ≤ 40 → -2147483648 ≤ (fw_g W 352 30) + (1 : Int) ∧ (fw_g W 352 30) + (1 : Int) ≤ 2147483647 ∧ (0 ≤ ((fw_g W 352 30) + (1 : Int)) ∧ ((fw_g W 352 30) + (1 : Int)) ≤ 40 ∧ ((mt (fw_up (fw_up W 352 29 ((fw_g W 352 29) - (1 : Int))) 352 30 ((fw_g W 352 30) + (1 : Int))) ∧ 0 ≤ (fw_g W 366 0) ∧ (fw_g W 366 0) ≤ 14 ∧ (∀ s, 0 ≤ s → s ≤ 40 → tw (fun z_ => (fw_g W 369 (44 * s + z_)))) ∧ 0 ≤ (fw_g (fw_up W 352 29 ((fw_g W 352 29) - (1 : Int))) 352 29) ∧ (fw_g (fw_up W 352 29 ((fw_g W 352 29) - (1 : Int))) 352 29) ≤ 40) ∧ (∀ (f1 : fw_W), (((∀ s, 0 ≤ s → s ≤ 40 → tw (fun z_ => (fw_g f1 369 (44 * s + z_)))) ∧ tw (fun z_ => (fw_g f1 366 z_)))) → 0 ≤ (1 : Int) ∧ (1 : Int) ≤ 1 ∧ Post (some (.inl (1 : Int))) (fw_put [369, 366] 352 [] (fw_up (fw_up W 352 29 ((fw_g W 352 29) - (1 : Int))) 352 30 ((fw_g W 352 30) + (1 : Int))) f1))))))))) ∧ ((fw_g W 352 29) = 0 → 0 ≤ (0 : Int) ∧ (0 : Int) ≤ 1 ∧ Post (some (.inl (0 : Int))) W)))) :
    jf fw_T (d + 2) 244 0 [(0, .inr (.inl 352))] [] W Post := fw_ok (n := 20) (ss := []) (hv := []) fr_244_ok fm_ok (ct_undo_ok d) hw_

def x_undo : fw_X := fun as W Q => match as with
  | [.inr (.inl s_)] => fw_if (Nat.beq s_ 352) ((mt W ∧ 0 ≤ (fw_g W 366 0) ∧ (fw_g W 366 0) ≤ 14 ∧ mi W ∧ 0 ≤ (fw_g W 352 29) ∧ 0 ≤ (fw_g W 352 30) ∧ (fw_g W 352 29) + (fw_g W 352 30) ≤ 40) ∧ (∀ (v : Int) (f : fw_W), (0 ≤ v ∧ v ≤ 1 ∧ (mi (fw_put [369, 366] 352 [29, 30] W f))) → Q (some (.inl v)) (fw_put [369, 366] 352 [29, 30] W f)))
  | _ => False
theorem x_undo_ok (d : Nat) (as : List fw_V) (W : fw_W) (Q : Option fw_V → fw_W → Prop) (hx : x_undo as W Q) : jf fw_T (d + 2) 244 0 (fw_args 0 as) [] W Q := by
  unfold x_undo at hx
  split at hx
  · rename_i s_
    obtain ⟨e_, hpre, hQ⟩ := fw_if_ok hx
    have e_ := Nat.eq_of_beq_eq_true e_
    subst e_
    have hP : ∀ (v : Int) (W2 : fw_W), fw_sm [369, 366] 352 [29, 30] W W2 → (0 ≤ v ∧ v ≤ 1 ∧ (mi W2)) → Q (some (.inl v)) W2 := fun v W2 hs hr => fw_sm_use (Q := fun Z => Q (some (.inl v)) Z) hs (hQ v W2 (by rw [fw_sm_eq hs]; exact hr))
    refine s_undo_0 ?_
    repeat' (first
      | (exact True.intro)
      | (exact hpre.1)
      | (refine And.intro ?_ ?_)
      | (refine hP _ _ (by repeat (first | exact fw_sm_refl | exact fw_sm_put0 | refine fw_sm_arr ?_ rfl | refine fw_sm_up ?_ rfl | refine fw_sm_put ?_ rfl | refine fw_sm_cp ?_ rfl)) ?_; (refine ⟨by omega, by omega, ?_⟩; (first
          | (exact hpre.2.2.2.1)
          | (rename_i f1 hx
             refine ⟨hx.2, hx.1, hpre.2.2.2.1.2.2.1, ?_, ?_, ?_⟩
             · rw [fg_fout rfl rfl, fg_lit rfl, fg_same (by omega) (by omega)]; omega
             · rw [fg_fout rfl rfl, fg_same (by omega) (by omega)]; omega
             · rw [fg_fout rfl rfl, fg_lit rfl, fg_same (by omega) (by omega), fg_fout rfl rfl, fg_same (by omega) (by omega)]; omega))))
      | (exact hpre.2.2.2.1.2.1)
      | (rw [fg_same (by omega) (by omega)]; omega)
      | omega
      | (intro _))
  · exact hx.elim

def fr_246 : fw_P := [(0, 2, 0, 0, 0), (1, 50, 12, 30, 0), (4, 21, 9, 0, 0), (7, 0, 0, 0, 0), (8, 71, 0, 0, 0), (9, 2, 0, 0, 0), (10, 64, 245, 0, 312), (13, 2, 0, 0, 0), (14, 43, 0, 0, 0), (15, 50, 12, 29, 0), (18, 0, 0, 0, 1), (19, 30, 0, 0, 0), (20, 51, 12, 29, 0), (23, 2, 0, 0, 0), (24, 43, 0, 0, 0), (25, 50, 12, 30, 0), (28, 0, 0, 0, 1), (29, 31, 0, 0, 0), (30, 51, 12, 30, 0), (33, 0, 0, 0, 1), (34, 71, 0, 0, 0)]
theorem fr_246_ok : fw_mk 246 1 12 (some .boolean) fr_246 = true := by decide +kernel
def ct_redo : List (Nat × fw_X) := [(245, x_exchange)]
theorem ct_redo_ok (d : Nat) : fw_cok fw_T (d + 1) ct_redo := by
  intro q hq as W Q h
  simp only [ct_redo, List.mem_cons, List.not_mem_nil, or_false] at hq
  rcases hq with rfl
  · exact jc_of (x_exchange_ok (d + 0) as W Q h)
theorem s_redo_0 {Post : Option fw_V → fw_W → Prop} {d : Nat} {W : fw_W}
    (hw_ : (0 ≤ (fw_g W 352 30) → (fw_g W 352 30) ≤ 40 → ((¬ (fw_g W 352 30) = 0 → (mt W ∧ 0 ≤ (fw_g W 366 0) ∧ (fw_g W 366 0) ≤ 14 ∧ (∀ s, 0 ≤ s → s ≤ 40 → tw (fun z_ => (fw_g W 369 (44 * s + z_)))) ∧ 0 ≤ (fw_g W 352 29) ∧ (fw_g W 352 29) ≤ 40) ∧ (∀ (f1 : fw_W), (((∀ s, 0 ≤ s → s ≤ 40 → tw (fun z_ => (fw_g f1 369 (44 * s + z_)))) ∧ tw (fun z_ => (fw_g f1 366 z_)))) → (0 ≤ (fw_g W 352 29) → (fw_g W 352 29) ≤ 40 → -2147483648 ≤ (fw_g W 352 29) + (1 : Int) ∧ (fw_g W 352 29) + (1 : Int) ≤ 2147483647 ∧ (0 ≤ ((fw_g W 352 29) + (1 : Int)) ∧ ((fw_g W 352 29) + (1 : Int)) ≤ 40 ∧ ((0 ≤ (fw_g W 352 30) → (fw_g W 352 30) ≤ 40 → -2147483648 ≤ (fw_g W 352 30) - (1 : Int) ∧ (fw_g W 352 30) - (1 : Int) ≤ 2147483647 ∧ (0 ≤ ((fw_g W 352 30) - (1 : Int)) ∧ ((fw_g W 352 30) - (1 : Int)) ≤ 40 ∧ (0 ≤ (1 : Int) ∧ (1 : Int) ≤ 1 ∧ Post (some (.inl (1 : Int))) (fw_up (fw_up (fw_put [369, 366] 352 [] W f1) 352 29 ((fw_g W 352 29) + (1 : Int))) 352 30 ((fw_g W 352 30) - (1 : Int))))))))))) ∧ ((fw_g W 352 30) = 0 → 0 ≤ (0 : Int) ∧ (0 : Int) ≤ 1 ∧ Post (some (.inl (0 : Int))) W)))) :
    jf fw_T (d + 2) 246 0 [(0, .inr (.inl 352))] [] W Post := fw_ok (n := 20) (ss := []) (hv := []) fr_246_ok fm_ok (ct_redo_ok d) hw_

def x_redo : fw_X := fun as W Q => match as with
  | [.inr (.inl s_)] => fw_if (Nat.beq s_ 352) ((mt W ∧ 0 ≤ (fw_g W 366 0) ∧ (fw_g W 366 0) ≤ 14 ∧ mi W ∧ 0 ≤ (fw_g W 352 29) ∧ 0 ≤ (fw_g W 352 30) ∧ (fw_g W 352 29) + (fw_g W 352 30) ≤ 40) ∧ (∀ (v : Int) (f : fw_W), (0 ≤ v ∧ v ≤ 1 ∧ (mi (fw_put [369, 366] 352 [29, 30] W f))) → Q (some (.inl v)) (fw_put [369, 366] 352 [29, 30] W f)))
  | _ => False
theorem x_redo_ok (d : Nat) (as : List fw_V) (W : fw_W) (Q : Option fw_V → fw_W → Prop) (hx : x_redo as W Q) : jf fw_T (d + 2) 246 0 (fw_args 0 as) [] W Q := by
  unfold x_redo at hx
  split at hx
  · rename_i s_
    obtain ⟨e_, hpre, hQ⟩ := fw_if_ok hx
    have e_ := Nat.eq_of_beq_eq_true e_
    subst e_
    have hP : ∀ (v : Int) (W2 : fw_W), fw_sm [369, 366] 352 [29, 30] W W2 → (0 ≤ v ∧ v ≤ 1 ∧ (mi W2)) → Q (some (.inl v)) W2 := fun v W2 hs hr => fw_sm_use (Q := fun Z => Q (some (.inl v)) Z) hs (hQ v W2 (by rw [fw_sm_eq hs]; exact hr))
    refine s_redo_0 ?_
    repeat' (first
      | (exact True.intro)
      | (exact hpre.1)
      | (refine And.intro ?_ ?_)
      | (refine hP _ _ (by repeat (first | exact fw_sm_refl | exact fw_sm_put0 | refine fw_sm_arr ?_ rfl | refine fw_sm_up ?_ rfl | refine fw_sm_put ?_ rfl | refine fw_sm_cp ?_ rfl)) ?_; (refine ⟨by omega, by omega, ?_⟩; (first
          | (exact hpre.2.2.2.1)
          | (rename_i f1 hx _ _ _ _
             refine ⟨hx.2, hx.1, hpre.2.2.2.1.2.2.1, ?_, ?_, ?_⟩
             · rw [fg_lit rfl, fg_same (by omega) (by omega)]; omega
             · rw [fg_same (by omega) (by omega)]; omega
             · rw [fg_lit rfl, fg_same (by omega) (by omega), fg_same (by omega) (by omega)]; omega))))
      | (exact hpre.2.2.2.1.2.1)
      | omega
      | (intro _))
  · exact hx.elim

def fr_236 : fw_P := [(0, 2, 0, 0, 0), (1, 1, 1, 0, 0), (2, 64, 213, 1, 212), (5, 20, 37, 0, 0), (8, 1, 2, 0, 0), (9, 0, 0, 0, 1), (10, 0, 0, 0, 99), (12, 65, 214, 3, 300), (15, 20, 37, 0, 0), (18, 1, 3, 0, 0), (19, 0, 0, 0, 0), (20, 0, 0, 0, 99), (22, 65, 214, 3, 300), (25, 20, 37, 0, 0), (28, 2, 0, 0, 0), (29, 64, 188, 0, 112), (32, 0, 0, 0, 14), (34, 11, 39, 0, 0), (37, 0, 0, 0, -1), (38, 70, 0, 0, 0), (39, 2, 0, 0, 0), (40, 64, 237, 0, 212), (43, 2, 0, 0, 0), (44, 1, 1, 0, 0), (45, 1, 2, 0, 0), (46, 1, 3, 0, 0), (47, 64, 238, 3, 412), (50, 2, 0, 0, 0), (51, 64, 188, 0, 112), (54, 0, 0, 0, 1), (55, 31, 0, 0, 0), (56, 70, 0, 0, 0)]
theorem fr_236_ok : fw_mk 236 4 12 (some .int) fr_236 = true := by decide +kernel
def ct_grow : List (Nat × fw_X) := [(238, x_grows), (213, x_isHouse), (214, x_isIn), (237, x_keepAct), (188, x_many)]
theorem ct_grow_ok (d : Nat) : fw_cok fw_T (d + 2) ct_grow := by
  intro q hq as W Q h
  simp only [ct_grow, List.mem_cons, List.not_mem_nil, or_false] at hq
  rcases hq with rfl | rfl | rfl | rfl | rfl
  · exact jc_of (x_grows_ok (d + 0) as W Q h)
  · exact jc_of (x_isHouse_ok (d + 0) as W Q h)
  · exact jc_of (x_isIn_ok (d + 1) as W Q h)
  · exact jc_of (x_keepAct_ok (d + 1) as W Q h)
  · exact jc_of (x_many_ok (d + 1) as W Q h)
theorem s_grow_0 {Post : Option fw_V → fw_W → Prop} {d : Nat} {W : fw_W} {hg len ppl : Int}
    (hw_ : (mt W ∧ 0 ≤ (fw_g W 366 0) ∧ (fw_g W 366 0) ≤ 14) ∧ (∀ (r1 : Int), ((0 ≤ r1 ∧ r1 ≤ 1 ∧ ((r1 = 1 ∧ 0 ≤ hg ∧ hg < (fw_g W 366 0)) ∨ (r1 = 0 ∧ (hg < 0 ∨ (fw_g W 366 0) ≤ hg))))) → ((r1 = 0 → (-2147483648 ≤ (-1 : Int) → (-1 : Int) ≤ 2147483647 → Post (some (.inl (-1 : Int))) W)) ∧ (¬ r1 = 0 → (True) ∧ (∀ (r2 : Int), ((0 ≤ r2 ∧ r2 ≤ 1 ∧ ((r2 = 1 ∧ (1 : Int) ≤ len ∧ len ≤ (99 : Int)) ∨ (r2 = 0 ∧ (len < (1 : Int) ∨ (99 : Int) < len))))) → ((r2 = 0 → (-2147483648 ≤ (-1 : Int) → (-1 : Int) ≤ 2147483647 → Post (some (.inl (-1 : Int))) W)) ∧ (¬ r2 = 0 → (True) ∧ (∀ (r3 : Int), ((0 ≤ r3 ∧ r3 ≤ 1 ∧ ((r3 = 1 ∧ (0 : Int) ≤ ppl ∧ ppl ≤ (99 : Int)) ∨ (r3 = 0 ∧ (ppl < (0 : Int) ∨ (99 : Int) < ppl))))) → ((r3 = 0 → (-2147483648 ≤ (-1 : Int) → (-1 : Int) ≤ 2147483647 → Post (some (.inl (-1 : Int))) W)) ∧ (¬ r3 = 0 → (True) ∧ (((¬ (fw_g W 366 0) = (14 : Int) → (mt W ∧ 0 ≤ (fw_g W 366 0) ∧ (fw_g W 366 0) ≤ 14 ∧ (∀ s, 0 ≤ s → s ≤ 40 → tw (fun z_ => (fw_g W 369 (44 * s + z_)))) ∧ 0 ≤ (fw_g W 352 29) ∧ (fw_g W 352 29) ≤ 40) ∧ (∀ (f4 : fw_W), (((∀ s, 0 ≤ s → s ≤ 40 → tw (fun z_ => (fw_g f4 369 (44 * s + z_)))) ∧ 0 ≤ (fw_g f4 352 29) ∧ (fw_g f4 352 29) ≤ 40 ∧ (fw_g f4 352 30) = 0)) → (0 ≤ (fw_g W 366 0) ∧ (fw_g W 366 0) ≤ 13) ∧ (∀ (f5 : fw_W), (((fw_g f5 366 0) = (fw_g W 366 0) + 1 ∧ (fw_g f5 366 (2 + 3 * (fw_g W 366 0))) = hg ∧ (fw_g f5 366 (3 + 3 * (fw_g W 366 0))) = len ∧ ∀ i, 0 ≤ i → i ≠ 0 → i ≠ 2 + 3 * (fw_g W 366 0) → i ≠ 3 + 3 * (fw_g W 366 0) → i ≠ 4 + 3 * (fw_g W 366 0) → (fw_g f5 366 i) = (fw_g W 366 i))) → (True) ∧ (-2147483648 ≤ (fw_g f5 366 0) - (1 : Int) ∧ (fw_g f5 366 0) - (1 : Int) ≤ 2147483647 ∧ ((-2147483648 ≤ ((fw_g f5 366 0) - (1 : Int)) → ((fw_g f5 366 0) - (1 : Int)) ≤ 2147483647 → Post (some (.inl ((fw_g f5 366 0) - (1 : Int)))) (fw_put [366] 352 [] (fw_put [369] 352 [29, 30] W f4) f5))))))) ∧ ((fw_g W 366 0) = (14 : Int) → (-2147483648 ≤ (-1 : Int) → (-1 : Int) ≤ 2147483647 → Post (some (.inl (-1 : Int))) W)))))))))))))) :
    jf fw_T (d + 3) 236 0 [(0, .inr (.inl 352)), (1, .inl hg), (2, .inl len), (3, .inl ppl)] [] W Post := fw_ok (n := 31) (ss := []) (hv := []) fr_236_ok fm_ok (ct_grow_ok d) hw_

def x_grow : fw_X := fun as W Q => match as with
  | [.inr (.inl s_), .inl hg, .inl len, .inl ppl] => fw_if (Nat.beq s_ 352) ((mt W ∧ 0 ≤ (fw_g W 366 0) ∧ (fw_g W 366 0) ≤ 14 ∧ mi W ∧ 0 ≤ (fw_g W 352 29) ∧ 0 ≤ (fw_g W 352 30) ∧ (fw_g W 352 29) + (fw_g W 352 30) ≤ 40) ∧ (∀ (v : Int) (f : fw_W), (-2147483648 ≤ v ∧ v ≤ 2147483647 ∧ (mi (fw_put [369, 366] 352 [29, 30] W f))) → Q (some (.inl v)) (fw_put [369, 366] 352 [29, 30] W f)))
  | _ => False
theorem x_grow_ok (d : Nat) (as : List fw_V) (W : fw_W) (Q : Option fw_V → fw_W → Prop) (hx : x_grow as W Q) : jf fw_T (d + 3) 236 0 (fw_args 0 as) [] W Q := by
  unfold x_grow at hx
  split at hx
  · rename_i s_ hg len ppl
    obtain ⟨e_, hpre, hQ⟩ := fw_if_ok hx
    have e_ := Nat.eq_of_beq_eq_true e_
    subst e_
    have hP : ∀ (v : Int) (W2 : fw_W), fw_sm [369, 366] 352 [29, 30] W W2 → (-2147483648 ≤ v ∧ v ≤ 2147483647 ∧ (mi W2)) → Q (some (.inl v)) W2 := fun v W2 hs hr => fw_sm_use (Q := fun Z => Q (some (.inl v)) Z) hs (hQ v W2 (by rw [fw_sm_eq hs]; exact hr))
    refine s_grow_0 ?_
    repeat' (first
      | (exact True.intro)
      | (exact hpre.1)
      | (refine And.intro ?_ ?_)
      | (refine hP _ _ (by repeat (first | exact fw_sm_refl | exact fw_sm_put0 | refine fw_sm_arr ?_ rfl | refine fw_sm_up ?_ rfl | refine fw_sm_put ?_ rfl | refine fw_sm_cp ?_ rfl)) ?_; (refine ⟨by omega, by omega, ?_⟩; (first
          | (exact hpre.2.2.2.1)
          | (rename_i f1 hk f2 hg2 _ _
             refine ⟨tw_grow (g := fun z_ => fw_g W 366 z_) (k := fun z_ => fw_g f2 366 z_) hpre.1 (by show 0 < fw_g W 366 0; omega) (by show fw_g W 366 0 ≤ 13; omega) (by show 0 ≤ fw_g f2 366 (2 + 3 * fw_g W 366 0); omega) (by show fw_g f2 366 (2 + 3 * fw_g W 366 0) < fw_g W 366 0; omega) (by show 1 ≤ fw_g f2 366 (3 + 3 * fw_g W 366 0); omega) (by show fw_g f2 366 (3 + 3 * fw_g W 366 0) ≤ 99; omega) hg2.1 hg2.2.2.2, hk.1, hpre.2.2.2.1.2.2.1, ?_, ?_, ?_⟩
             · exact hk.2.1
             · show 0 ≤ fw_g f1 352 30
               omega
             · show fw_g f1 352 29 + fw_g f1 352 30 ≤ 40
               omega))))
      | (exact hpre.2.2.2.1.2.1)
      | omega
      | (intro _))
  · exact hx.elim

def fr_241 : fw_P := [(0, 2, 0, 0, 0), (1, 1, 1, 0, 0), (2, 64, 213, 1, 212), (5, 20, 18, 0, 0), (8, 1, 2, 0, 0), (9, 0, 0, 0, 0), (10, 0, 0, 0, 99), (12, 65, 214, 3, 300), (15, 21, 20, 0, 0), (18, 0, 0, 0, -1), (19, 70, 0, 0, 0), (20, 2, 0, 0, 0), (21, 64, 237, 0, 212), (24, 2, 0, 0, 0), (25, 1, 1, 0, 0), (26, 64, 217, 1, 212), (29, 3, 3, 0, 0), (30, 2, 0, 0, 0), (31, 50, 12, 24, 0), (34, 0, 0, 0, 4), (35, 0, 0, 0, 3), (36, 1, 1, 0, 0), (37, 32, 0, 0, 0), (38, 30, 0, 0, 0), (39, 1, 2, 0, 0), (40, 53, 0, 0, 0), (41, 1, 3, 0, 0), (42, 70, 0, 0, 0)]
theorem fr_241_ok : fw_mk 241 4 12 (some .int) fr_241 = true := by decide +kernel
def ct_live : List (Nat × fw_X) := [(213, x_isHouse), (214, x_isIn), (237, x_keepAct), (217, x_peopleOf)]
theorem ct_live_ok (d : Nat) : fw_cok fw_T (d + 2) ct_live := by
  intro q hq as W Q h
  simp only [ct_live, List.mem_cons, List.not_mem_nil, or_false] at hq
  rcases hq with rfl | rfl | rfl | rfl
  · exact jc_of (x_isHouse_ok (d + 0) as W Q h)
  · exact jc_of (x_isIn_ok (d + 1) as W Q h)
  · exact jc_of (x_keepAct_ok (d + 1) as W Q h)
  · exact jc_of (x_peopleOf_ok (d + 1) as W Q h)
theorem s_live_0 {Post : Option fw_V → fw_W → Prop} {d : Nat} {W : fw_W} {h ppl : Int}
    (hw_ : (mt W ∧ 0 ≤ (fw_g W 366 0) ∧ (fw_g W 366 0) ≤ 14) ∧ (∀ (r1 : Int), ((0 ≤ r1 ∧ r1 ≤ 1 ∧ ((r1 = 1 ∧ 0 ≤ h ∧ h < (fw_g W 366 0)) ∨ (r1 = 0 ∧ (h < 0 ∨ (fw_g W 366 0) ≤ h))))) → ((r1 = 0 → (-2147483648 ≤ (-1 : Int) → (-1 : Int) ≤ 2147483647 → Post (some (.inl (-1 : Int))) W)) ∧ (¬ r1 = 0 → (True) ∧ (∀ (r2 : Int), ((0 ≤ r2 ∧ r2 ≤ 1 ∧ ((r2 = 1 ∧ (0 : Int) ≤ ppl ∧ ppl ≤ (99 : Int)) ∨ (r2 = 0 ∧ (ppl < (0 : Int) ∨ (99 : Int) < ppl))))) → ((¬ r2 = 0 → (mt W ∧ 0 ≤ (fw_g W 366 0) ∧ (fw_g W 366 0) ≤ 14 ∧ (∀ s, 0 ≤ s → s ≤ 40 → tw (fun z_ => (fw_g W 369 (44 * s + z_)))) ∧ 0 ≤ (fw_g W 352 29) ∧ (fw_g W 352 29) ≤ 40) ∧ (∀ (f3 : fw_W), (((∀ s, 0 ≤ s → s ≤ 40 → tw (fun z_ => (fw_g f3 369 (44 * s + z_)))) ∧ 0 ≤ (fw_g f3 352 29) ∧ (fw_g f3 352 29) ≤ 40 ∧ (fw_g f3 352 30) = 0)) → (0 ≤ h ∧ h < 14) ∧ (-2147483648 ≤ (3 : Int) * h ∧ (3 : Int) * h ≤ 2147483647 ∧ (-2147483648 ≤ (4 : Int) + ((3 : Int) * h) ∧ (4 : Int) + ((3 : Int) * h) ≤ 2147483647 ∧ (0 ≤ ((4 : Int) + ((3 : Int) * h)) ∧ ((4 : Int) + ((3 : Int) * h)) < 44 ∧ -2147483648 ≤ ppl ∧ ppl ≤ 2147483647 ∧ ((-2147483648 ≤ (fw_g W 366 (4 + 3 * h)) → (fw_g W 366 (4 + 3 * h)) ≤ 2147483647 → Post (some (.inl (fw_g W 366 (4 + 3 * h)))) (fw_up (fw_put [369] 352 [29, 30] W f3) 366 ((4 : Int) + ((3 : Int) * h)) ppl)))))))) ∧ (r2 = 0 → (-2147483648 ≤ (-1 : Int) → (-1 : Int) ≤ 2147483647 → Post (some (.inl (-1 : Int))) W)))))))) :
    jf fw_T (d + 3) 241 0 [(0, .inr (.inl 352)), (1, .inl h), (2, .inl ppl)] [] W Post := fw_ok (n := 27) (ss := []) (hv := []) fr_241_ok fm_ok (ct_live_ok d) hw_

def x_live : fw_X := fun as W Q => match as with
  | [.inr (.inl s_), .inl h, .inl ppl] => fw_if (Nat.beq s_ 352) ((mt W ∧ 0 ≤ (fw_g W 366 0) ∧ (fw_g W 366 0) ≤ 14 ∧ mi W ∧ 0 ≤ (fw_g W 352 29) ∧ 0 ≤ (fw_g W 352 30) ∧ (fw_g W 352 29) + (fw_g W 352 30) ≤ 40) ∧ (∀ (v : Int) (f : fw_W), (-2147483648 ≤ v ∧ v ≤ 2147483647 ∧ (mi (fw_put [369, 366] 352 [29, 30] W f))) → Q (some (.inl v)) (fw_put [369, 366] 352 [29, 30] W f)))
  | _ => False
theorem x_live_ok (d : Nat) (as : List fw_V) (W : fw_W) (Q : Option fw_V → fw_W → Prop) (hx : x_live as W Q) : jf fw_T (d + 3) 241 0 (fw_args 0 as) [] W Q := by
  unfold x_live at hx
  split at hx
  · rename_i s_ h ppl
    obtain ⟨e_, hpre, hQ⟩ := fw_if_ok hx
    have e_ := Nat.eq_of_beq_eq_true e_
    subst e_
    have hP : ∀ (v : Int) (W2 : fw_W), fw_sm [369, 366] 352 [29, 30] W W2 → (-2147483648 ≤ v ∧ v ≤ 2147483647 ∧ (mi W2)) → Q (some (.inl v)) W2 := fun v W2 hs hr => fw_sm_use (Q := fun Z => Q (some (.inl v)) Z) hs (hQ v W2 (by rw [fw_sm_eq hs]; exact hr))
    refine jf_rng (fun hrg => ?_)
    have hrg : -2147483648 ≤ h ∧ h ≤ 2147483647 ∧ -2147483648 ≤ ppl ∧ ppl ≤ 2147483647 ∧ True := hrg
    refine s_live_0 ?_
    repeat' (first
      | (exact True.intro)
      | (exact hpre.1)
      | (refine And.intro ?_ ?_)
      | (refine hP _ _ (by repeat (first | exact fw_sm_refl | exact fw_sm_put0 | refine fw_sm_arr ?_ rfl | refine fw_sm_up ?_ rfl | refine fw_sm_put ?_ rfl | refine fw_sm_cp ?_ rfl)) ?_; (refine ⟨by omega, by omega, ?_⟩; (first
          | (exact hpre.2.2.2.1)
          | (rename_i f1 hk _ _
             refine ⟨tw_ppl (g := fun z_ => fw_g W 366 z_) (x := h) hpre.1 (by omega) (fun z z1 z2 z3 => ?_), fun s s1 s2 => tw_c (hk.1 s s1 s2) (fun z z1 z2 => ?_), hpre.2.2.2.1.2.2.1, ?_, ?_, ?_⟩
             · show fw_g _ _ _ = fw_g _ _ _
               rw [fg_if (by omega) (by omega) (by omega) (by omega), if_neg (by omega)]; rfl
             · show fw_g _ _ _ = fw_g _ _ _
               rw [fg_up rfl]; rfl
             · exact hk.2.1
             · show 0 ≤ fw_g f1 352 30
               omega
             · show fw_g f1 352 29 + fw_g f1 352 30 ≤ 40
               omega))))
      | (exact hpre.2.2.2.1.2.1)
      | omega
      | (intro _))
  · exact hx.elim

def fr_239 : fw_P := [(0, 2, 0, 0, 0), (1, 1, 1, 0, 0), (2, 64, 213, 1, 212), (5, 20, 29, 0, 0), (8, 1, 1, 0, 0), (9, 20, 29, 0, 0), (12, 2, 0, 0, 0), (13, 1, 2, 0, 0), (14, 64, 213, 1, 212), (17, 20, 29, 0, 0), (20, 2, 0, 0, 0), (21, 1, 2, 0, 0), (22, 1, 1, 0, 0), (23, 64, 240, 2, 412), (26, 20, 31, 0, 0), (29, 0, 0, 0, 0), (30, 71, 0, 0, 0), (31, 2, 0, 0, 0), (32, 64, 237, 0, 212), (35, 2, 0, 0, 0), (36, 50, 12, 24, 0), (39, 0, 0, 0, 2), (40, 0, 0, 0, 3), (41, 1, 1, 0, 0), (42, 32, 0, 0, 0), (43, 30, 0, 0, 0), (44, 1, 2, 0, 0), (45, 53, 0, 0, 0), (46, 0, 0, 0, 1), (47, 71, 0, 0, 0)]
theorem fr_239_ok : fw_mk 239 3 12 (some .boolean) fr_239 = true := by decide +kernel
def ct_move : List (Nat × fw_X) := [(240, x_isBehind), (213, x_isHouse), (237, x_keepAct)]
theorem ct_move_ok (d : Nat) : fw_cok fw_T (d + 2) ct_move := by
  intro q hq as W Q h
  simp only [ct_move, List.mem_cons, List.not_mem_nil, or_false] at hq
  rcases hq with rfl | rfl | rfl
  · exact jc_of (x_isBehind_ok (d + 0) as W Q h)
  · exact jc_of (x_isHouse_ok (d + 0) as W Q h)
  · exact jc_of (x_keepAct_ok (d + 1) as W Q h)
theorem s_move_0 {Post : Option fw_V → fw_W → Prop} {d : Nat} {W : fw_W} {h to : Int}
    (hw_ : (mt W ∧ 0 ≤ (fw_g W 366 0) ∧ (fw_g W 366 0) ≤ 14) ∧ (∀ (r1 : Int), ((0 ≤ r1 ∧ r1 ≤ 1 ∧ ((r1 = 1 ∧ 0 ≤ h ∧ h < (fw_g W 366 0)) ∨ (r1 = 0 ∧ (h < 0 ∨ (fw_g W 366 0) ≤ h))))) → ((r1 = 0 → 0 ≤ (0 : Int) ∧ (0 : Int) ≤ 1 ∧ Post (some (.inl (0 : Int))) W) ∧ (¬ r1 = 0 → ((h = 0 → 0 ≤ (0 : Int) ∧ (0 : Int) ≤ 1 ∧ Post (some (.inl (0 : Int))) W) ∧ (¬ h = 0 → (mt W ∧ 0 ≤ (fw_g W 366 0) ∧ (fw_g W 366 0) ≤ 14) ∧ (∀ (r2 : Int), ((0 ≤ r2 ∧ r2 ≤ 1 ∧ ((r2 = 1 ∧ 0 ≤ to ∧ to < (fw_g W 366 0)) ∨ (r2 = 0 ∧ (to < 0 ∨ (fw_g W 366 0) ≤ to))))) → ((r2 = 0 → 0 ≤ (0 : Int) ∧ (0 : Int) ≤ 1 ∧ Post (some (.inl (0 : Int))) W) ∧ (¬ r2 = 0 → (mt W ∧ 0 ≤ (fw_g W 366 0) ∧ (fw_g W 366 0) ≤ 14 ∧ 0 ≤ to ∧ to < (fw_g W 366 0)) ∧ (∀ (r3 : Int), ((0 ≤ r3 ∧ r3 ≤ 1 ∧ (∀ B, tr_beh ((fw_g W 366 0)) (fun z_ => (fw_g W 366 (2 + 3 * z_))) h B → 0 ≤ h → (r3 = 1 ↔ B to)))) → ((r3 = 0 → (mt W ∧ 0 ≤ (fw_g W 366 0) ∧ (fw_g W 366 0) ≤ 14 ∧ (∀ s, 0 ≤ s → s ≤ 40 → tw (fun z_ => (fw_g W 369 (44 * s + z_)))) ∧ 0 ≤ (fw_g W 352 29) ∧ (fw_g W 352 29) ≤ 40) ∧ (∀ (f4 : fw_W), (((∀ s, 0 ≤ s → s ≤ 40 → tw (fun z_ => (fw_g f4 369 (44 * s + z_)))) ∧ 0 ≤ (fw_g f4 352 29) ∧ (fw_g f4 352 29) ≤ 40 ∧ (fw_g f4 352 30) = 0)) → -2147483648 ≤ (3 : Int) * h ∧ (3 : Int) * h ≤ 2147483647 ∧ (-2147483648 ≤ (2 : Int) + ((3 : Int) * h) ∧ (2 : Int) + ((3 : Int) * h) ≤ 2147483647 ∧ (0 ≤ ((2 : Int) + ((3 : Int) * h)) ∧ ((2 : Int) + ((3 : Int) * h)) < 44 ∧ -2147483648 ≤ to ∧ to ≤ 2147483647 ∧ (0 ≤ (1 : Int) ∧ (1 : Int) ≤ 1 ∧ Post (some (.inl (1 : Int))) (fw_up (fw_put [369] 352 [29, 30] W f4) 366 ((2 : Int) + ((3 : Int) * h)) to)))))) ∧ (¬ r3 = 0 → 0 ≤ (0 : Int) ∧ (0 : Int) ≤ 1 ∧ Post (some (.inl (0 : Int))) W)))))))))))) :
    jf fw_T (d + 3) 239 0 [(0, .inr (.inl 352)), (1, .inl h), (2, .inl to)] [] W Post := fw_ok (n := 29) (ss := []) (hv := []) fr_239_ok fm_ok (ct_move_ok d) hw_

def x_move : fw_X := fun as W Q => match as with
  | [.inr (.inl s_), .inl h, .inl to] => fw_if (Nat.beq s_ 352) ((mt W ∧ 0 ≤ (fw_g W 366 0) ∧ (fw_g W 366 0) ≤ 14 ∧ mi W ∧ 0 ≤ (fw_g W 352 29) ∧ 0 ≤ (fw_g W 352 30) ∧ (fw_g W 352 29) + (fw_g W 352 30) ≤ 40) ∧ (∀ (v : Int) (f : fw_W), (0 ≤ v ∧ v ≤ 1 ∧ (mi (fw_put [369, 366] 352 [29, 30] W f))) → Q (some (.inl v)) (fw_put [369, 366] 352 [29, 30] W f)))
  | _ => False
theorem x_move_ok (d : Nat) (as : List fw_V) (W : fw_W) (Q : Option fw_V → fw_W → Prop) (hx : x_move as W Q) : jf fw_T (d + 3) 239 0 (fw_args 0 as) [] W Q := by
  unfold x_move at hx
  split at hx
  · rename_i s_ h to
    obtain ⟨e_, hpre, hQ⟩ := fw_if_ok hx
    have e_ := Nat.eq_of_beq_eq_true e_
    subst e_
    have hP : ∀ (v : Int) (W2 : fw_W), fw_sm [369, 366] 352 [29, 30] W W2 → (0 ≤ v ∧ v ≤ 1 ∧ (mi W2)) → Q (some (.inl v)) W2 := fun v W2 hs hr => fw_sm_use (Q := fun Z => Q (some (.inl v)) Z) hs (hQ v W2 (by rw [fw_sm_eq hs]; exact hr))
    refine jf_rng (fun hrg => ?_)
    have hrg : -2147483648 ≤ h ∧ h ≤ 2147483647 ∧ -2147483648 ≤ to ∧ to ≤ 2147483647 ∧ True := hrg
    refine s_move_0 ?_
    repeat' (first
      | (exact True.intro)
      | (exact hpre.1)
      | (refine And.intro ?_ ?_)
      | (refine hP _ _ (by repeat (first | exact fw_sm_refl | exact fw_sm_put0 | refine fw_sm_arr ?_ rfl | refine fw_sm_up ?_ rfl | refine fw_sm_put ?_ rfl | refine fw_sm_cp ?_ rfl)) ?_; (refine ⟨by omega, by omega, ?_⟩; (first
          | (exact hpre.2.2.2.1)
          | (rename_i r3 hb hr3 f1 hk
             obtain ⟨B, hB⟩ := tr_hasb hpre.1.2.2.1 h
             have hnb : ¬ B to := fun e => by
               have := (hb.2.2 B hB (by omega)).mpr e
               omega
             refine ⟨tw_move (g := fun z_ => fw_g W 366 z_) (x := h) (to := to) hpre.1 hB (by omega) (by show h < fw_g W 366 0; omega) (by omega) (by show to < fw_g W 366 0; omega) hnb (fg_same (by omega) (by omega)) (fun z z1 z2 z3 => ?_), fun s s1 s2 => tw_c (hk.1 s s1 s2) (fun z z1 z2 => ?_), hpre.2.2.2.1.2.2.1, ?_, ?_, ?_⟩
             · show fw_g _ _ _ = fw_g _ _ _
               rw [fg_if (by omega) (by omega) (by omega) (by omega), if_neg (by omega)]; rfl
             · show fw_g _ _ _ = fw_g _ _ _
               rw [fg_up rfl]; rfl
             · exact hk.2.1
             · show 0 ≤ fw_g f1 352 30
               omega
             · show fw_g f1 352 29 + fw_g f1 352 30 ≤ 40
               omega))))
      | (exact hpre.2.2.2.1.2.1)
      | omega
      | (intro _))
  · exact hx.elim

