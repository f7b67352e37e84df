/-! unlike: any argument -/
theorem jg_p {d y pc len : Nat} {q : jm_Y} {lv : jm_L} {st : List Value} {h : jm_H} {i : Instr} {pc2 : Nat} {lv2 : jm_L} {st2 : List Value} {P : Option Value → jm_H → Prop} (hq : jm_ms[y]? = some q) (hj : jd y pc = some (i, len)) (hi : um_sp i = false) (hs : jm_pure q.2.2.1 i len pc lv st = some (pc2, lv2, st2)) (k : jg d y (pc2, lv2, st2, h) P) : jg d y (pc, lv, st, h) P := jg_step hq (jm_step_pure (jd_ok0 hq hj) hi hs) k
theorem jg_ic {d y pc t : Nat} {q : jm_Y} {lv : jm_L} {r : List Value} {h : jm_H} {op : ClassFile.Cond} {off : Int} {x z : Int32} {P : Option Value → jm_H → Prop} (hq : jm_ms[y]? = some q) (hj : jd y pc = some (.if_icmp op off, 3)) (ht : jm_tg pc off = some t) (k1 : jm_c2 op x z = true → jg d y (t, lv, r, h) P) (k2 : jm_c2 op x z = false → jg d y (pc + 3, lv, r, h) P) : jg d y (pc, lv, .int z :: .int x :: r, h) P := by
  cases hb : jm_c2 op x z with
  | true => exact jg_p hq hj rfl (pc2 := t) (lv2 := lv) (st2 := r) (by simp [jm_pure, jm_i2, jm_br, hb, ht]) (k1 hb)
  | false => exact jg_p hq hj rfl (pc2 := pc + 3) (lv2 := lv) (st2 := r) (by simp [jm_pure, jm_i2, jm_br, hb, ht]) (k2 hb)
theorem jg_ir {d y pc : Nat} {q : jm_Y} {lv : jm_L} {h : jm_H} {v : Int32} {t : FieldType} {P : Option Value → jm_H → Prop} (hq : jm_ms[y]? = some q) (hj : jd y pc = some (.ireturn, 1)) (ht : q.2.2.2.1 = some t) (hn : narrow t (.int v) = .int v) (k : P (some (.int v)) h) : jg d y (pc, lv, [.int v], h) P := by
  refine jg_ret hq ?_ k
  unfold jm_step
  rw [jd_ok0 hq hj]
  dsimp only
  rw [if_pos rfl, ht]
  dsimp only
  rw [if_pos hn]
/-- any argument -/
theorem un_arg {i : Int32} (h1 : 1 ≤ i.toInt) (h2 : i.toInt ≤ 14) : i = Int32.ofNat (i.toInt.toNat - 1 + 1) := by
  apply Int32.toInt_inj.mp
  have e : (Int32.ofNat (i.toInt.toNat - 1 + 1)).toInt = ((i.toInt.toNat - 1 + 1 : Nat) : Int) := nI_toInt (by omega)
  rw [e]
  omega
theorem un_in {i : Int32} (h1 : 1 ≤ i.toInt) (h2 : i.toInt ≤ 14) : (un_tab.getD (i.toInt.toNat - 1) 0).toInt = un i.toInt := by
  unfold un
  rw [if_pos ⟨h1, h2⟩]
theorem un_lt (i z : Int32) : jm_c2 .lt i z = true → i.toInt < z.toInt := fun e => Int32.lt_iff_toInt_lt.mp (of_decide_eq_true e)
theorem un_nlt (i z : Int32) : jm_c2 .lt i z = false → z.toInt ≤ i.toInt := fun e => by
  have e : ¬ i < z := of_decide_eq_false e
  exact Int.not_lt.mp (fun q => e (Int32.lt_iff_toInt_lt.mpr q))
theorem un_gt (i z : Int32) : jm_c2 .gt i z = false → i.toInt ≤ z.toInt := fun e => by
  have e : ¬ z < i := of_decide_eq_false e
  exact Int.not_lt.mp (fun q => e (Int32.lt_iff_toInt_lt.mpr q))
theorem un_ile (i z : Int32) : jm_c2 .le i z = true → i.toInt ≤ z.toInt := fun e => Int32.le_iff_toInt_le.mp (of_decide_eq_true e)
theorem un_out {b : Int} (h : ¬ (1 ≤ b ∧ b ≤ 14)) : un b = -1 := by
  unfold un
  rw [if_neg h]
theorem un_q175 : jm_ms[175]? = some (⟨"OneWayTown", "unlike", "(I)I"⟩, prog_1_method_35_code, 2, some .int, 11, 0) := by rfl
theorem un_q284 : jm_ms[284]? = some (⟨"OneWayTownModel", "unlike", "(I)I"⟩, prog_14_method_101_code, 5, some .int, 12, 0) := by rfl
theorem un_q214 : jm_ms[214]? = some (⟨"OneWayTownModel", "isIn", "(III)Z"⟩, prog_14_method_25_code, 3, some .boolean, 12, 1) := by rfl
theorem un_n214 : jm_na[214]? = some 3 := by rfl
theorem un_cls {W : fw_W} {h : jm_H} {i : Int32} (hg : fw_gh W fw_T h) : jg 8 175 (0, lv_args 0 [.ref 0, .int i], [], h) (fun v _ => ∃ x : Int32, v = some (.int x) ∧ x.toInt = un i.toInt) := by
  by_cases hi : 1 ≤ i.toInt ∧ i.toInt ≤ 14
  · obtain ⟨G, e⟩ := un_k (n := i.toInt.toNat - 1) (by omega)
    rw [← un_arg hi.1 hi.2] at e
    exact jg_mono (jg_deep (jg_deep (jg_deep (jg_deep (um_run_ok um_Kno _ _ _ _ _ _ _ _ _ e h (un_Gok hg)))))) (fun v _ hv => ⟨_, hv.1, un_in hi.1 hi.2⟩)
  · have fin : jg 8 175 (11, lv_args 0 [.ref 0, .int i], [], h) (fun v _ => ∃ x : Int32, v = some (.int x) ∧ x.toInt = un i.toInt) := by
      refine jg_p un_q175 (i := .iconst (-1)) (len := 1) (by decide +kernel) rfl rfl ?_
      exact jg_ir un_q175 (by decide +kernel) rfl rfl ⟨_, rfl, by rw [un_out hi]; decide⟩
    refine jg_p un_q175 (i := .iload_n 1) (len := 1) (by decide +kernel) rfl rfl ?_
    refine jg_p un_q175 (i := .iconst 1) (len := 1) (by decide +kernel) rfl rfl ?_
    refine jg_ic un_q175 (op := .lt) (off := 9) (t := 11) (by decide +kernel) rfl (fun _ => fin) (fun e1 => ?_)
    refine jg_p un_q175 (i := .iload_n 1) (len := 1) (by decide +kernel) rfl rfl ?_
    refine jg_p un_q175 (i := .bipush 14) (len := 2) (by decide +kernel) rfl rfl ?_
    refine jg_ic un_q175 (op := .le) (off := 5) (t := 13) (by decide +kernel) rfl (fun e2 => ?_) (fun _ => fin)
    have a1 := un_nlt _ _ e1
    have a2 := un_ile _ _ e2
    have c1 : (Int32.ofInt 1).toInt = 1 := by decide
    have c2 : (Int8.ofInt 14).toInt32.toInt = 14 := by decide
    rw [c1] at a1
    rw [c2] at a2
    exact absurd ⟨a1, a2⟩ hi
theorem un_math (st : List Value) : jm_math 12 285 st = none := by
  unfold jm_math
  rw [if_neg (by decide +kernel), if_neg (by decide +kernel), if_neg (by decide +kernel)]
theorem un_lnk : jm_lnk 12 285 = some (1, 214) := by decide +kernel
theorem un_is {h : jm_H} {i a b : Int32} {d : Nat} {P : Option Value → jm_H → Prop} (k : P (some (.int 0)) h) (ho : ¬ (a.toInt ≤ i.toInt ∧ i.toInt ≤ b.toInt)) : jg d 214 (0, lv_args 0 [.int i, .int a, .int b], [], h) P := by
  have fin : jg d 214 (14, lv_args 0 [.int i, .int a, .int b], [], h) P := by
    refine jg_p un_q214 (i := .iconst 0) (len := 1) (by decide +kernel) rfl rfl ?_
    exact jg_ir un_q214 (by decide +kernel) rfl rfl k
  refine jg_p un_q214 (i := .iload_n 0) (len := 1) (by decide +kernel) rfl rfl ?_
  refine jg_p un_q214 (i := .iload_n 1) (len := 1) (by decide +kernel) rfl rfl ?_
  refine jg_ic un_q214 (op := .lt) (off := 12) (t := 14) (by decide +kernel) rfl (fun _ => fin) (fun e1 => ?_)
  refine jg_p un_q214 (i := .iload_n 0) (len := 1) (by decide +kernel) rfl rfl ?_
  refine jg_p un_q214 (i := .iload_n 2) (len := 1) (by decide +kernel) rfl rfl ?_
  refine jg_ic un_q214 (op := .gt) (off := 7) (t := 14) (by decide +kernel) rfl (fun _ => fin) (fun e2 => ?_)
  exact absurd ⟨un_nlt _ _ e1, un_gt _ _ e2⟩ ho
theorem un_mdl {W : fw_W} {h : jm_H} {i : Int32} (hg : fw_gh W fw_T h) : jg 8 284 (0, lv_args 0 [.ref 352, .int i], [], h) (fun v _ => ∃ x : Int32, v = some (.int x) ∧ x.toInt = un i.toInt) := by
  by_cases hi : 1 ≤ i.toInt ∧ i.toInt ≤ 14
  · obtain ⟨G, e⟩ := un_ck_ok (un_m1 (i.toInt.toNat - 1) (by omega))
    rw [← un_arg hi.1 hi.2] at e
    exact jg_mono (jg_deep (jg_deep (jg_deep (jg_deep (um_run_ok un_Ook _ _ _ _ _ _ _ _ _ e h (un_Hok hg)))))) (fun v _ hv => ⟨_, hv.1, un_in hi.1 hi.2⟩)
  · refine jg_p un_q284 (i := .iload_n 1) (len := 1) (by decide +kernel) rfl rfl ?_
    refine jg_p un_q284 (i := .iconst 1) (len := 1) (by decide +kernel) rfl rfl ?_
    refine jg_p un_q284 (i := .bipush 14) (len := 2) (by decide +kernel) rfl rfl ?_
    have hj : jd 284 4 = some (.invokestatic 285, 3) := by decide +kernel
    refine jg_call (d := 7) (y' := 214) (as := [.int i, .int (Int32.ofInt 1), .int (Int8.ofInt 14).toInt32]) (r := []) un_q284 ?_ ?_
    · unfold jm_step
      rw [jd_ok0 un_q284 hj]
      dsimp only
      rw [if_pos rfl, un_math]
      dsimp only
      rw [if_neg (by decide)]
      unfold jm_call
      rw [un_lnk]
      dsimp only
      rw [if_pos rfl, un_q214, un_n214]
      dsimp only
      rw [if_pos rfl, if_pos ⟨Nat.le_refl 3, Nat.zero_le 8, Nat.le_refl 3⟩]
      rfl
    · refine un_is ?_ (by
        have c1 : (Int32.ofInt 1).toInt = 1 := by decide
        have c2 : (Int8.ofInt 14).toInt32.toInt = 14 := by decide
        rw [c1, c2]
        exact hi)
      refine jg_p un_q284 (i := .ifCond .ne 5) (len := 3) (by decide +kernel) rfl (pc2 := 10) (lv2 := lv_args 0 [.ref 352, .int i]) (st2 := []) rfl ?_
      refine jg_p un_q284 (i := .iconst (-1)) (len := 1) (by decide +kernel) rfl rfl ?_
      exact jg_ir un_q284 (by decide +kernel) rfl rfl ⟨_, rfl, by rw [un_out hi]; decide⟩
/-- with what is known of them already -/
theorem uk_unx {W : fw_W} {b : Int} (hb : -2147483648 ≤ b ∧ b ≤ 2147483647) (h : li W) : jc fw_T (0 + 8) 175 [.inr (.inl 0), .inl b] W (fun a W2 => a = some (.inl (un b)) ∧ li W2) := by
  intro asc hh ht hg
  match asc, ht with
  | [v0, v1], ht =>
    obtain ⟨e0, ⟨i, e1, e2⟩, -⟩ := ht
    have e0 : v0 = .ref 0 := e0
    subst e0
    subst e1
    refine jg_mono (jg_and (uk_unlike hb h [.ref 0, .int i] hh ⟨rfl, ⟨i, rfl, e2⟩, trivial⟩ hg) (un_cls hg)) (fun v h' hv => ?_)
    obtain ⟨⟨a, W2, o, g2, p1, p2⟩, x, rfl, ex⟩ := hv
    obtain ⟨z, rfl⟩ := p1
    exact ⟨some (.inl x.toInt), W2, ⟨x, rfl, rfl⟩, g2, by rw [ex, e2], p2⟩
  | [], ht => exact ht.elim
  | [_], ht => exact ht.2.elim
  | _ :: _ :: _ :: _, ht => exact ht.2.2.elim
theorem um_unx {W : fw_W} {b : Int} (hb : -2147483648 ≤ b ∧ b ≤ 2147483647) (h : li W) : jc fw_T (0 + 8) 284 [.inr (.inl 352), .inl b] W (fun a W2 => a = some (.inl (un b)) ∧ li W2) := by
  intro asc hh ht hg
  match asc, ht with
  | [v0, v1], ht =>
    obtain ⟨e0, ⟨i, e1, e2⟩, -⟩ := ht
    have e0 : v0 = .ref 352 := e0
    subst e0
    subst e1
    refine jg_mono (jg_and (um_unlike hb h [.ref 352, .int i] hh ⟨rfl, ⟨i, rfl, e2⟩, trivial⟩ hg) (un_mdl hg)) (fun v h' hv => ?_)
    obtain ⟨⟨a, W2, o, g2, p1, p2⟩, x, rfl, ex⟩ := hv
    obtain ⟨z, rfl⟩ := p1
    exact ⟨some (.inl x.toInt), W2, ⟨x, rfl, rfl⟩, g2, by rw [ex, e2], p2⟩
  | [], ht => exact ht.elim
  | [_], ht => exact ht.2.elim
  | _ :: _ :: _ :: _, ht => exact ht.2.2.elim
