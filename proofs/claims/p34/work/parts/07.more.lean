/-! constants, things made, copies, Math: the small machine's steps and that they are the machine's -/
def jm_ck : List (Nat × Nat × Nat × Nat × Nat × Nat) := [(45063, 7, 7, 177, 178, 150), (45072, 5, 10, 211, 212, 151), (20489, 9, 5, 217, 218, 152), (45081, 9, 5, 301, 218, 152), (45088, 2, 11, 303, 304, 153), (45097, 0, 4, 346, 347, 154), (9, 9, 5, 352, 218, 152), (45104, 10, 9, 370, 371, 155), (45111, 8, 2, 412, 413, 156), (45118, 6, 11, 426, 427, 157), (45127, 3, 4, 469, 470, 158), (45134, 4, 7, 488, 489, 159), (16405, 9, 5, 494, 218, 152), (16412, 10, 9, 496, 371, 155), (16421, 6, 11, 498, 427, 157), (45141, 1, 12, 522, 523, 160)]
def jm_ckq (q : Nat × Nat × Nat × Nat × Nat × Nat) : Bool := match vwCl[q.2.1]? with
  | some (C, _, N) => decide (q.2.2.1 = N) && (decide (lw_tbl[q.2.2.2.1]? = some (.classLink (jm_cn (q.1 / 4096)) (q.1 % 4096) C)) && (decide (lw_tbl[q.2.2.2.2.1]? = some (.instantiable C N)) && decide (lw_tbl[q.2.2.2.2.2]? = some (.initialized C))))
  | none => false
set_option maxRecDepth 100000 in
theorem jm_ck_all : jm_ck.all jm_ckq = true := by decide +kernel
def jm_kmax : List (Nat × Nat) := [(41015, 860), (24675, 1083), (32806, 1157), (16524, 1317), (4165, 1386)]
set_option maxRecDepth 100000 in
theorem jm_kmax_all : jm_kmax.all (fun q => decide (lw_tbl[q.2]? = some (.methodLink (jm_cn (q.1 / 4096)) (q.1 % 4096) Lib.Math.max.name))) = true := by decide +kernel
def jm_kmin : List (Nat × Nat) := [(8232, 791), (36909, 974), (24651, 1064), (41024, 1298), (16529, 1318), (4198, 1407)]
set_option maxRecDepth 100000 in
theorem jm_kmin_all : jm_kmin.all (fun q => decide (lw_tbl[q.2]? = some (.methodLink (jm_cn (q.1 / 4096)) (q.1 % 4096) Lib.Math.min.name))) = true := by decide +kernel
def jm_kabs : List (Nat × Nat) := [(4195, 1404)]
set_option maxRecDepth 100000 in
theorem jm_kabs_all : jm_kabs.all (fun q => decide (lw_tbl[q.2]? = some (.methodLink (jm_cn (q.1 / 4096)) (q.1 % 4096) Lib.Math.abs.name))) = true := by decide +kernel
theorem jm_wmax_s : Cond.static Lib.Math.max.name ∈ jm_T := jm_T_mem (i := 861) (by decide +kernel) rfl
set_option maxRecDepth 100000 in
theorem jm_wmax_c : Cond.code Lib.Math.max.name Lib.Math.max.code 2 (some .int) ∈ jm_T := jm_T_mem (i := 862) (by rfl) rfl
theorem jm_wmin_s : Cond.static Lib.Math.min.name ∈ jm_T := jm_T_mem (i := 792) (by decide +kernel) rfl
set_option maxRecDepth 100000 in
theorem jm_wmin_c : Cond.code Lib.Math.min.name Lib.Math.min.code 2 (some .int) ∈ jm_T := jm_T_mem (i := 793) (by rfl) rfl
theorem jm_wabs_s : Cond.static Lib.Math.abs.name ∈ jm_T := jm_T_mem (i := 1405) (by decide +kernel) rfl
set_option maxRecDepth 100000 in
theorem jm_wabs_c : Cond.code Lib.Math.abs.name Lib.Math.abs.code 1 (some .int) ∈ jm_T := jm_T_mem (i := 1406) (by rfl) rfl
theorem jm_wmath_i : Cond.initialized "java/lang/Math" ∈ jm_T := jm_T_mem (i := 167) (by decide +kernel) rfl
theorem jm_wcopy_l : Cond.methodLink (jm_cn 9) 28 arraycopyName ∈ jm_T := jm_T_mem (i := 784) (by decide +kernel) rfl
theorem jm_wcopy_s : Cond.static arraycopyName ∈ jm_T := jm_T_mem (i := 785) (by decide +kernel) rfl
theorem jm_wcopy_n : Cond.native arraycopyName ∈ jm_T := jm_T_mem (i := 786) (by decide +kernel) rfl
theorem jm_wsys_i : Cond.initialized "java/lang/System" ∈ jm_T := jm_T_mem (i := 166) (by decide +kernel) rfl
theorem jm_wac_byte : Cond.arrayClass .byte ∈ jm_T := jm_T_mem (i := 210) (by decide +kernel) rfl
theorem jm_wac_int : Cond.arrayClass .int ∈ jm_T := jm_T_mem (i := 262) (by decide +kernel) rfl
theorem jm_wac_long : Cond.arrayClass .long ∈ jm_T := jm_T_mem (i := 300) (by decide +kernel) rfl
theorem jm_wac_boolean : Cond.arrayClass .boolean ∈ jm_T := jm_T_mem (i := 616) (by decide +kernel) rfl
def jm_kobj : List (Nat × Nat) := [(45057, 174), (28675, 182), (20483, 216), (36867, 222), (8195, 308), (3, 351), (40963, 375), (32771, 417), (24579, 431), (12291, 474), (16387, 493), (4099, 527), (49153, 1425)]
set_option maxRecDepth 100000 in
theorem jm_kobj_all : jm_kobj.all (fun q => decide (lw_tbl[q.2]? = some (.methodLink (jm_cn (q.1 / 4096)) (q.1 % 4096) objectInit))) = true := by decide +kernel
theorem jm_wobj_n : Cond.instanceMethod objectInit ∈ jm_T := jm_T_mem (i := 175) (by decide +kernel) rfl
theorem jm_wobj_c : Cond.code objectInit ⟨#[0xb1]⟩ 1 none ∈ jm_T := jm_T_mem (i := 176) (by rfl) rfl
/-- a number in a table of (key, place) -/
def jm_has (t : List (Nat × Nat)) (oc idx : Nat) : Bool := decide (idx < 4096) && t.any (fun q => q.1 == oc * 4096 + idx)
theorem jm_has_ok {t : List (Nat × Nat)} {oc idx : Nat} {w : Nat → Nat → Cond} (ha : t.all (fun q => decide (lw_tbl[q.2]? = some (w (q.1 / 4096) (q.1 % 4096)))) = true) (hg : ∀ a b, goodWord (w a b) = true) (h : jm_has t oc idx = true) : w oc idx ∈ jm_T := by
  unfold jm_has at h
  rw [Bool.and_eq_true] at h
  have hlt : idx < 4096 := of_decide_eq_true h.1
  obtain ⟨q, hq, e⟩ := List.any_eq_true.mp h.2
  have e0 : q.1 = oc * 4096 + idx := by simpa using e
  have h1 := of_decide_eq_true (List.all_eq_true.mp ha q hq)
  rw [show q.1 / 4096 = oc by omega, show q.1 % 4096 = idx by omega] at h1
  exact jm_T_mem h1 (hg _ _)
def jm_con (oc idx : Nat) : Option Int32 := if idx < 4096 then (jm_co.find? (fun q => q.1 == oc * 4096 + idx)).map (fun q => q.2.1) else none
theorem jm_con_ok {oc idx : Nat} {v : Int32} (h : jm_con oc idx = some v) : Cond.constant (jm_cn oc) idx v ∈ jm_T := by
  unfold jm_con at h
  split at h
  · rename_i hlt
    cases hf : jm_co.find? (fun q => q.1 == oc * 4096 + idx) with
    | none => rw [hf] at h; cases h
    | some q =>
      rw [hf] at h
      have e1 : q.2.1 = v := Option.some.inj h
      have e0 : q.1 = oc * 4096 + idx := by simpa using List.find?_some hf
      have h1 := of_decide_eq_true (List.all_eq_true.mp jm_co_all q (List.mem_of_find?_eq_some hf))
      rw [e1, show q.1 / 4096 = oc by omega, show q.1 % 4096 = idx by omega] at h1
      exact jm_T_mem h1 rfl
  · cases h
def jm_conl (oc idx : Nat) : Option Int64 := if idx < 4096 then (jm_cl.find? (fun q => q.1 == oc * 4096 + idx)).map (fun q => q.2.1) else none
theorem jm_conl_ok {oc idx : Nat} {v : Int64} (h : jm_conl oc idx = some v) : Cond.constantLong (jm_cn oc) idx v ∈ jm_T := by
  unfold jm_conl at h
  split at h
  · rename_i hlt
    cases hf : jm_cl.find? (fun q => q.1 == oc * 4096 + idx) with
    | none => rw [hf] at h; cases h
    | some q =>
      rw [hf] at h
      have e1 : q.2.1 = v := Option.some.inj h
      have e0 : q.1 = oc * 4096 + idx := by simpa using List.find?_some hf
      have h1 := of_decide_eq_true (List.all_eq_true.mp jm_cl_all q (List.mem_of_find?_eq_some hf))
      rw [e1, show q.1 / 4096 = oc by omega, show q.1 % 4096 = idx by omega] at h1
      exact jm_T_mem h1 rfl
  · cases h
def jm_cki (oc idx : Nat) : Option (Nat × Nat) := if idx < 4096 then (jm_ck.find? (fun q => q.1 == oc * 4096 + idx)).map (fun q => (q.2.1, q.2.2.1)) else none
theorem jm_cki_ok {oc idx ci N : Nat} (h : jm_cki oc idx = some (ci, N)) : ∃ (C : String) (T : u_T), vwCl[ci]? = some (C, T, N) ∧ Cond.classLink (jm_cn oc) idx C ∈ jm_T ∧ Cond.instantiable C N ∈ jm_T ∧ Cond.initialized C ∈ jm_T := by
  unfold jm_cki at h
  split at h
  · rename_i hlt
    cases hf : jm_ck.find? (fun q => q.1 == oc * 4096 + idx) with
    | none => rw [hf] at h; cases h
    | some q =>
      rw [hf] at h
      have e1 : q.2.1 = ci := congrArg (fun z : Nat × Nat => z.1) (Option.some.inj h)
      have e2 : q.2.2.1 = N := congrArg (fun z : Nat × Nat => z.2) (Option.some.inj h)
      have e0 : q.1 = oc * 4096 + idx := by simpa using List.find?_some hf
      have ha := List.all_eq_true.mp jm_ck_all q (List.mem_of_find?_eq_some hf)
      unfold jm_ckq at ha
      rw [e1, e2] at ha
      rw [show q.1 / 4096 = oc by omega, show q.1 % 4096 = idx by omega] at ha
      split at ha
      · rename_i C T N' hv
        simp only [Bool.and_eq_true] at ha
        have e3 : N = N' := of_decide_eq_true ha.1
        subst e3
        exact ⟨C, T, hv, jm_T_mem (of_decide_eq_true ha.2.1) rfl, jm_T_mem (of_decide_eq_true ha.2.2.1) rfl, jm_T_mem (of_decide_eq_true ha.2.2.2) rfl⟩
      · cases ha
  · cases h
