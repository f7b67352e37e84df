/-! what the Statement gives of the start, in the small machine's words -/
def st_it : List Nat := [347, 523, 304, 470, 489, 212, 427, 178, 413, 218, 371, 170, 1421]
set_option maxRecDepth 100000 in
theorem st_it_all : (List.range 13).all (fun ci => match vwCl[ci]?, st_it[ci]? with
  | some q, some i => decide (lw_tbl[i]? = some (.instantiable q.1 q.2.2))
  | _, _ => false) = true := by decide +kernel
theorem st_in {ci : Nat} {q : vw_C} (h : vwCl[ci]? = some q) : Cond.instantiable q.1 q.2.2 ∈ jm_T := by
  have hci : ci < 13 := (List.getElem?_eq_some_iff.mp h).1
  have h1 := List.all_eq_true.mp st_it_all ci (List.mem_range.mpr hci)
  rw [h] at h1
  split at h1
  · rename_i q' i e1 e2
    cases e1
    exact jm_T_mem (of_decide_eq_true h1) rfl
  · cases h1
theorem st_cls {s : State} {args : Array Value} (hts : ∀ w ∈ jm_T, w.before args s = true) : ∃ D : va_G, ∀ (k : Nat) (q : vw_C), vwCl[k]? = some q → u_Kn s q.1 q.2.1 q.2.2 (D.1 k) (D.2 k) := by
  have h0 : ∀ k : Nat, ∃ z : ClassId × (Nat → Nat), ∀ q, vwCl[k]? = some q → u_Kn s q.1 q.2.1 q.2.2 z.1 z.2 := by
    intro k
    cases hq : vwCl[k]? with
    | none => exact ⟨(0, fun _ => 0), fun q e => by cases e⟩
    | some q =>
      obtain ⟨C, T, N⟩ := q
      obtain ⟨cC, iS, hKn⟩ := u_known (ws := jm_T) (C := C) (T := T) (N := N) (n := N) hts (jm_ly_in hq) (hts _ (st_in hq))
      exact ⟨(cC, iS), fun q e => by cases e; exact hKn⟩
  obtain ⟨z, hz⟩ := Classical.axiomOfChoice h0
  exact ⟨(fun k => (z k).1, fun k => (z k).2), fun k q hq => hz k q hq⟩
theorem st_wAO : Cond.arrayOver (.object "OneWayTown$Town") ∈ lw_tbl := List.mem_of_getElem? (i := 353) (by decide +kernel)
theorem st_wAA : Cond.arrayOver (.array .int) ∈ lw_tbl := List.mem_of_getElem? (i := 310) (by decide +kernel)
/-- the classes of the arrays -/
def st_tc (a b c d e f : ClassId) : FieldType → ClassId := fun t => match t with
  | .int => a
  | .byte => b
  | .boolean => c
  | .long => d
  | .object _ => e
  | _ => f
theorem st_tys {s : State} {args : Array Value} (hts : ∀ w ∈ lw_tbl, w.before args s = true) : ∃ tc : FieldType → ClassId, ∀ (k : Nat) (q : ClassId × FieldType), (jm_tyl.map (fun t => (tc t, t)))[k]? = some q → ArrOfT s q.1 q.2 ∧ va_RA s q.1 q.2 := by
  have hj : ∀ w ∈ jm_T, w.before args s = true := fun w h => hts w (jm_T_in w h)
  obtain ⟨a, ka, oa, a1, a2, a3⟩ := Cond.arrayClass_spec (hj _ jm_wac_int)
  obtain ⟨b, kb, ob, b1, b2, b3⟩ := Cond.arrayClass_spec (hj _ jm_wac_byte)
  obtain ⟨c, kc, oc, c1, c2, c3⟩ := Cond.arrayClass_spec (hj _ jm_wac_boolean)
  obtain ⟨d, kd, od, d1, d2, d3⟩ := Cond.arrayClass_spec (hj _ jm_wac_long)
  obtain ⟨oe, e, ke, e1, -, e2, e3, e4⟩ := Cond.arrayOver_spec (hts _ st_wAO)
  obtain ⟨of, f, kf, f1, -, f2, f3, f4⟩ := arrayOverA_spec (hts _ st_wAA)
  refine ⟨st_tc a b c d e f, fun k q hq => ?_⟩
  match k, hq with
  | 0, hq =>
    have hq : some (a, FieldType.int) = some q := hq
    cases hq
    exact ⟨fun n z => ⟨fun k h => (by cases h), ka, a2, oa, a3⟩, a1⟩
  | 1, hq =>
    have hq : some (b, FieldType.byte) = some q := hq
    cases hq
    exact ⟨fun n z => ⟨fun k h => (by cases h), kb, b2, ob, b3⟩, b1⟩
  | 2, hq =>
    have hq : some (c, FieldType.boolean) = some q := hq
    cases hq
    exact ⟨fun n z => ⟨fun k h => (by cases h), kc, c2, oc, c3⟩, c1⟩
  | 3, hq =>
    have hq : some (d, FieldType.long) = some q := hq
    cases hq
    exact ⟨fun n z => ⟨fun k h => (by cases h), kd, d2, od, d3⟩, d1⟩
  | 4, hq =>
    have hq : some (e, FieldType.object "OneWayTown$Town") = some q := hq
    cases hq
    exact ⟨fun n z => ⟨fun k h => (by cases h), ke, e2, oe, e3⟩, ke, oe, e2, e3, e1, e4⟩
  | 5, hq =>
    have hq : some (f, FieldType.array .int) = some q := hq
    cases hq
    exact ⟨fun n z => ⟨fun k h => (by cases h), kf, f2, of, f3⟩, f4⟩
  | k + 6, hq => exact absurd (List.getElem?_eq_some_iff.mp hq).1 (by simp [jm_tyl])
theorem st_zl : ∀ w ∈ jm_zl, w ∈ lw_tbl := by
  intro w hw
  simp only [jm_zl, List.mem_cons, List.not_mem_nil, or_false] at hw
  rcases hw with rfl | rfl | rfl | rfl | rfl | rfl | rfl
  · exact List.mem_of_getElem? (i := 179) (by decide +kernel)
  · exact List.mem_of_getElem? (i := 219) (by decide +kernel)
  · exact List.mem_of_getElem? (i := 302) (by decide +kernel)
  · exact List.mem_of_getElem? (i := 354) (by decide +kernel)
  · exact List.mem_of_getElem? (i := 490) (by decide +kernel)
  · exact List.mem_of_getElem? (i := 495) (by decide +kernel)
  · exact List.mem_of_getElem? (i := 524) (by decide +kernel)
theorem st_jZ {s : State} {args : Array Value} (hts : ∀ w ∈ lw_tbl, w.before args s = true) : jm_Z s := by
  refine ⟨fun w hw => ?_, va_AO.of (hts _ st_wAO), jm_AOA.of (hts _ st_wAA)⟩
  have h1 := hts w (st_zl w hw)
  obtain ⟨a, i, x, hh, rfl⟩ := jm_zl_form w hw
  exact va_Nw.of rfl h1
/-- the String constants -/
def st_tm (i : Nat) : Term := .string RX7 (jm_sx.getD i (0, [])).1
def st_len : List Nat := jm_sx.map (fun q => q.2.length)
def st_byt : List (List Int32) := jm_sx.map (fun q => q.2)
abbrev st_F : List Cond := flatC (Jvm.Cond.and given_1 narrow_1)
set_option maxRecDepth 100000 in
theorem st_ex : ∀ i, i < 7 → Cond.exactly (st_tm i) "java/lang/String" ∈ st_F := by decide +kernel
set_option maxRecDepth 100000 in
theorem st_co : ∀ i, i < 7 → Cond.eq (.field (st_tm i) "java/lang/String" "coder" "B") (.int 0) ∈ st_F := by decide +kernel
set_option maxRecDepth 100000 in
theorem st_ar : ∀ i, i < 7 → Cond.arrayOf (.field (st_tm i) "java/lang/String" "value" "[B") .byte ∈ st_F := by decide +kernel
set_option maxRecDepth 100000 in
theorem st_le : ∀ i, i < 7 → Cond.eq (.length (.field (st_tm i) "java/lang/String" "value" "[B")) (.int (Int32.ofNat (st_len.getD i 0))) ∈ st_F := by decide +kernel
set_option maxRecDepth 100000 in
theorem st_el : ∀ i, i < 7 → ∀ j, j < st_len.getD i 0 → Cond.eq (.elem (.field (st_tm i) "java/lang/String" "value" "[B") (.int (Int32.ofNat j))) (.int ((st_byt.getD i []).getD j 0)) ∈ st_F := by decide +kernel
set_option maxRecDepth 100000 in
theorem st_ne : ∀ i, i < 7 → ∀ j, j < 7 → i ≠ j → Cond.not (Cond.eq (st_tm i) (st_tm j)) ∈ st_F ∨ Cond.not (Cond.eq (st_tm j) (st_tm i)) ∈ st_F := by decide +kernel
theorem st_l31 : ∀ i, i < 7 → st_len.getD i 0 < 2 ^ 31 := by decide +kernel
theorem st_leq : ∀ i, i < 7 → st_len.getD i 0 = (jm_sb i).length := by decide +kernel
theorem st_beq : ∀ i, i < 7 → st_byt.getD i [] = jm_sb i := by decide +kernel
def st_sp : List Nat := [661, 714, 715, 716, 717, 718, 719]
set_option maxRecDepth 100000 in
theorem st_sr : ∀ i, i < 7 → lw_tbl[st_sp.getD i 0]? = some (Cond.stringRef RX7 (jm_sx.getD i (0, [])).1 (jm_stx i)) := by decide +kernel
theorem st_cs : Cond.eq (.static RJ0 "COMPACT_STRINGS" "Z") (.int 1) ∈ st_F := by decide +kernel
theorem st_sf : Cond.isRef (.static RJ3 "SIOOBE_FORMATTER" "Ljava/util/function/BiFunction;") ∈ st_F := by decide +kernel
theorem st_w675 : Cond.laysStatic RJ0 "COMPACT_STRINGS" "Z" ∈ lw_tbl := List.mem_of_getElem? (i := 675) (by decide +kernel)
theorem st_w162 : Cond.initialized RJ0 ∈ lw_tbl := List.mem_of_getElem? (i := 162) (by decide +kernel)
theorem st_w691 : Cond.laysStatic RJ3 "SIOOBE_FORMATTER" "Ljava/util/function/BiFunction;" ∈ lw_tbl := List.mem_of_getElem? (i := 691) (by decide +kernel)
theorem st_w164 : Cond.initialized RJ3 ∈ lw_tbl := List.mem_of_getElem? (i := 164) (by decide +kernel)
theorem st_env {s : State} {b : Nat} (hts : ∀ w ∈ lw_tbl, w.before #[Value.ref b] s = true) (hgv : (Jvm.Cond.and given_1 narrow_1).before #[Value.ref b] s = true) : ∃ (D : va_G) (B : jm_E), B.1 = s.heap.size ∧ B.2.1 1000 = b ∧ va_K D vwCl (jm_tys B) s ∧ jm_Z s ∧ jm_SS B s := by
  have hj : ∀ w ∈ jm_T, w.before #[Value.ref b] s = true := fun w h => hts w (jm_T_in w h)
  have hs : ∀ w ∈ st_F, w.before #[Value.ref b] s = true := flat_of_before _ hgv
  obtain ⟨D, hD⟩ := st_cls hj
  obtain ⟨tc, htc⟩ := st_tys hts
  have hA : ∀ a : Nat, a < s.heap.size → ¬ (fun q : Nat => s.heap.size ≤ q) a := fun a h => Nat.not_le.mpr h
  obtain ⟨adK, adV, hS, hE⟩ := vk_Sof (tm := st_tm) (len := st_len) (byt := st_byt) (A := fun q : Nat => s.heap.size ≤ q) st_l31 (fun i hi => hs _ (st_ex i hi)) (fun i hi => hs _ (st_co i hi)) (fun i hi => hs _ (st_ar i hi)) (fun i hi => hs _ (st_le i hi)) (fun i hi j hj => hs _ (st_el i hi j hj)) (fun i j hi hj hij => (st_ne i hi j hj hij).imp (hs _) (hs _)) hA
  refine ⟨D, (s.heap.size, (fun i => if i = 1000 then b else adK i), tc), rfl, (show (if (1000 : Nat) = 1000 then b else adK 1000) = b from if_pos rfl), ⟨hD, htc⟩, st_jZ hts, ?_, ?_, fun i hi => ?_⟩
  · exact va_Zof (hts _ st_w675) (hts _ st_w162) (va_eqt (hs _ st_cs)) hA
  · rcases va_Zqof (hts _ st_w691) (hts _ st_w164) (hs _ st_sf) hA with z | ⟨t, z⟩
    · exact ⟨.null, Or.inl rfl, z⟩
    · exact ⟨.ref t, Or.inr ⟨t, rfl⟩, z⟩
  · have e9 : (if i = 1000 then b else adK i) = adK i := if_neg (by omega)
    show (∃ vl, js_s (fun q : Nat => s.heap.size ≤ q) i (if i = 1000 then b else adK i) vl s) ∧ vk_R RX7 (jm_sx.getD i (0, [])).1 (jm_stx i) (if i = 1000 then b else adK i) s
    rw [e9]
    obtain ⟨g1, g2, g3, g4⟩ := hS.1 i hi
    rw [st_leq i hi, st_beq i hi] at g4
    exact ⟨⟨adV i, g1, g2, g3, g4⟩, vk_R.of (hts _ (List.mem_of_getElem? (st_sr i hi))) (hE i hi)⟩
