/-! Math, copies, objects and arrays made -/
def jm_cs (st : List Value) : Nat := (st.map (fun v => v.category)).sum
theorem jm_cs_v (B : jm_E) (st : List Value) : ((st.map (jm_v B)).map (fun v => v.category)).sum = jm_cs st := by
  unfold jm_cs
  rw [List.map_map]
  congr 1
  apply List.map_congr_left
  intro v _
  exact jm_cat B v
def jm_math (oc idx : Nat) (st : List Value) : Option (List Value) :=
  if jm_has jm_kmax oc idx = true then (match st with
    | .int y :: .int x :: r => if jm_cs r ≤ 8 then some (.int (if x < y then y else x) :: r) else none
    | _ => none)
  else if jm_has jm_kmin oc idx = true then (match st with
    | .int y :: .int x :: r => if jm_cs r ≤ 8 then some (.int (if y < x then y else x) :: r) else none
    | _ => none)
  else if jm_has jm_kabs oc idx = true then (match st with
    | .int x :: r => if jm_cs r ≤ 8 then some (.int (if 0 ≤ x then x else 0 - x) :: r) else none
    | _ => none)
  else none
def jm_copy (st : List Value) (h : jm_H) : Option (List Value × jm_H) := match st with
  | .int n :: .int dp :: .ref a :: .int sp :: .ref a0 :: r => (match h[a0]?, h[a]? with
    | some (.inl (.int, n0, f)), some (.inl (.int, n1, g)) => if ¬ sp < 0 ∧ ¬ dp < 0 ∧ ¬ n < 0 ∧ sp.toNatClampNeg + n.toNatClampNeg ≤ n0 ∧ dp.toNatClampNeg + n.toNatClampNeg ≤ n1 ∧ jm_cs r ≤ 8 then some (r, h.set a (.inl (.int, n1, va_cpy f g sp.toNatClampNeg dp.toNatClampNeg n.toNatClampNeg))) else none
    | _, _ => none)
  | _ => none
def jm_obji (oc idx : Nat) (st : List Value) : Option (List Value) := match st with
  | .ref _ :: r => if jm_has jm_kobj oc idx = true ∧ jm_cs r ≤ 8 then some r else none
  | _ => none
def jm_nf (t : FieldType) : Bool := match t with
  | .float => false
  | _ => true
def jm_newo (oc idx : Nat) (h : jm_H) : Option (jm_H × Nat) := match jm_cki oc idx with
  | some (ci, N) => if (List.range N).all (fun j => jm_nf (jm_ty ci j)) = true then some (h ++ [.inr (.inr (.inr (ci, (List.range N).map (fun j => defaultValue (jm_ty ci j)))))], N) else none
  | none => none
def jm_newa (at_ : ArrayType) (st : List Value) (h : jm_H) : Option (List Value × jm_H × Nat) := match st with
  | .int n :: r => if ¬ n < 0 ∧ n.toNatClampNeg ≤ 1000000 then (match at_ with
    | .int => some (.ref h.length :: r, h ++ [.inl (.int, n.toNatClampNeg, fun _ => 0)], n.toNatClampNeg)
    | .byte => some (.ref h.length :: r, h ++ [.inl (.byte, n.toNatClampNeg, fun _ => 0)], n.toNatClampNeg)
    | .boolean => some (.ref h.length :: r, h ++ [.inl (.boolean, n.toNatClampNeg, fun _ => 0)], n.toNatClampNeg)
    | .long => some (.ref h.length :: r, h ++ [.inr (.inl (n.toNatClampNeg, fun _ => 0))], n.toNatClampNeg)
    | _ => none) else none
  | _ => none
section JN
variable {p : Program} {l : Launch} {e : Env} {R : Room} {s : State} {m : MethodId} {args : Array Value} {below : List Frame} {meth : Method} {c : Code} {cc : ByteArray} {oc : Nat} {isI : Bool} {ret : Option FieldType} {nL : Nat} {D : va_G} {B : jm_E} {cells slots : Nat} {Q : State → Prop}
variable {pc : Nat} {lv : jm_L} {st st' : List Value} {h h' : jm_H}
theorem jm_math_ok (X : jm_X p s m args meth c cc oc nL D B isI ret) {idx : Nat} (hR : 1 ≤ R.frames ∧ 64 ≤ R.locals) (hc : cells ≤ R.cells ∧ slots ≤ R.slots) (hd : decode cc pc = .ok (.invokestatic idx, 3)) (hs : jm_math oc idx st = some st')
    (k : jm_W p l e R s m args below meth c nL D B cells slots Q (pc + 3) lv st' h) : jm_W p l e R s m args below meth c nL D B cells slots Q pc lv st h := by
  obtain ⟨hx, hb, hml, hown, hts, hK, hlk, hini, hrt⟩ := X
  intro H locs ls hM hl
  unfold jm_math at hs
  split at hs
  · rename_i hk
    have hlink := hts _ (jm_has_ok (w := fun a b => Cond.methodLink (jm_cn a) b Lib.Math.max.name) jm_kmax_all (fun _ _ => rfl) hk)
    split at hs
    · rename_i y x r
      split at hs
      · rename_i hr
        cases hs
        exact va_mmax hx hb (hml.trans hl.1.symm) hown hlink (hts _ jm_wmax_s) (hts _ jm_wmath_i) (hts _ jm_wmax_c) hR.1 (by rw [jm_cs_v]; omega) hc.1 hc.2 hd (k H locs ls hM hl)
      · cases hs
    · cases hs
  · split at hs
    · rename_i hk
      have hlink := hts _ (jm_has_ok (w := fun a b => Cond.methodLink (jm_cn a) b Lib.Math.min.name) jm_kmin_all (fun _ _ => rfl) hk)
      split at hs
      · rename_i y x r
        split at hs
        · rename_i hr
          cases hs
          exact va_mmin hx hb (hml.trans hl.1.symm) hown hlink (hts _ jm_wmin_s) (hts _ jm_wmath_i) (hts _ jm_wmin_c) hR.1 (by rw [jm_cs_v]; omega) hc.1 hc.2 hd (k H locs ls hM hl)
        · cases hs
      · cases hs
    · split at hs
      · rename_i hk
        have hlink := hts _ (jm_has_ok (w := fun a b => Cond.methodLink (jm_cn a) b Lib.Math.abs.name) jm_kabs_all (fun _ _ => rfl) hk)
        split at hs
        · rename_i x r
          split at hs
          · rename_i hr
            cases hs
            exact va_mabs hx hb (hml.trans hl.1.symm) hown hlink (hts _ jm_wabs_s) (hts _ jm_wmath_i) (hts _ jm_wabs_c) hR.1 (by rw [jm_cs_v]; omega) hc.1 hc.2 hd (k H locs ls hM hl)
          · cases hs
        · cases hs
      · cases hs
theorem jm_obji_ok (X : jm_X p s m args meth c cc oc nL D B isI ret) {idx : Nat} (hR : 1 ≤ R.frames ∧ 64 ≤ R.locals) (hd : decode cc pc = .ok (.invokespecial idx, 3)) (hs : jm_obji oc idx st = some st')
    (k : jm_W p l e R s m args below meth c nL D B cells slots Q (pc + 3) lv st' h) : jm_W p l e R s m args below meth c nL D B cells slots Q pc lv st h := by
  obtain ⟨hx, hb, hml, hown, hts, hK, hlk, hini, hrt⟩ := X
  intro H locs ls hM hl
  unfold jm_obji at hs
  split at hs
  · rename_i a r
    split at hs
    · rename_i hk
      cases hs
      have hlink := hts _ (jm_has_ok (w := fun a b => Cond.methodLink (jm_cn a) b objectInit) jm_kobj_all (fun _ _ => rfl) hk.1)
      refine W.objInit hx hb hown hlink (hts _ jm_wobj_n) (hts _ jm_wobj_c) rfl (by rw [hml]; exact hl.1) rfl hd hR.1 ?_ (k H locs ls hM hl)
      have h9 := lv_room (m := m) (pc := pc) (ls := ls) (rest := st'.map (jm_v B)) (st := st'.map (jm_v B)) (by rw [jm_cs_v]; exact hk.2)
      have h8 : 2 * (F0 m pc ls ((Value.ref a :: st').map (jm_v B))).monitorRoom + ((st'.map (jm_v B)).map (fun v => v.category)).sum ≤ 8 := h9
      omega
    · cases hs
  · cases hs
theorem jm_newo_ok (X : jm_X p s m args meth c cc oc nL D B isI ret) {idx N : Nat} (hd : decode cc pc = .ok (.new idx, 3)) (hs : jm_newo oc idx h = some (h', N)) (hc : cells + 1 ≤ R.cells ∧ slots + N ≤ R.slots)
    (k : jm_W p l e R s m args below meth c nL D B (cells + 1) (slots + N) Q (pc + 3) lv (.ref h.length :: st) h') : jm_W p l e R s m args below meth c nL D B cells slots Q pc lv st h := by
  obtain ⟨hx, hb, hml, hown, hts, hK, hlk, hini, hrt⟩ := X
  intro H locs ls hM hl
  unfold jm_newo at hs
  split at hs
  · rename_i ci N' hk
    split at hs
    · rename_i hnf
      cases hs
      obtain ⟨C, T, hv, w1, w2, w3⟩ := jm_cki_ok hk
      have hKn := hK.1 ci _ hv
      refine W.newcK hx hb hown (hts _ w1) (hts _ w2) (hts _ w3) rfl hd hc.1 hc.2 hKn.2.1 hM.2.1 fun H1 kC hkC e1 z1 o1 => ?_
      refine k H1 locs ls ⟨?_, by rw [z1, List.length_append]; rfl, ?_⟩ hl
      · rw [jm_ws_app]
        have hkp : ∀ (k : Nat) (x : Nat × va_E), (jm_ws B h)[k]? = some x → H1[x.1]? = H[x.1]? := fun k x hx9 => o1 x.1 (by rw [← hM.2.1]; exact (hM.1 k x hx9).lt)
        refine (hM.1.kept hkp).app (fun k9 x hx9 => ?_)
        have hz : k9 < 1 := (List.getElem?_eq_some_iff.mp hx9).1
        rw [show k9 = 0 by omega] at hx9
        cases hx9
        refine ⟨_, hv, (u_born (jm_ty ci) hts (jm_ly_in hv) hKn hkC e1 (jm_ty_ok hv).1).to (fun j hj => ?_)⟩
        unfold vp_V
        rw [List.map_map, List.getD_eq_getElem?_getD, List.getElem?_map, List.getElem?_range hj]
        have h1 := List.all_eq_true.mp hnf j (List.mem_range.mpr hj)
        show defaultValue (jm_ty ci j) = jm_v B (defaultValue (jm_ty ci j))
        generalize jm_ty ci j = t at h1
        cases t <;> first | rfl | cases h1
      · exact ⟨Nat.le_trans hM.2.2.1 (by rw [z1, hM.2.1]; omega), fun x h1 h2 => (o1 x (by rw [← hM.2.1]; exact Nat.lt_of_lt_of_le h1 hM.2.2.1)).trans (hM.2.2.2.1 x h1 h2), hM.2.2.2.2⟩
    · cases hs
  · cases hs
theorem jm_mk {H0 H H1 : Heap} {locs : List Loc} {c0 : jm_C} (hM : jm_M B D H0 H locs h) (z1 : H1.size = B.1 + h.length + 1) (o1 : ∀ q, q < B.1 + h.length → H1[q]? = H[q]?) (he : va_at D vwCl (B.1 + h.length, jm_c B c0) H1) : jm_M B D H0 H1 locs (h ++ [c0]) := by
  refine ⟨?_, by rw [z1, List.length_append]; rfl, ?_⟩
  · rw [jm_ws_app]
    have hkp : ∀ (k : Nat) (x : Nat × va_E), (jm_ws B h)[k]? = some x → H1[x.1]? = H[x.1]? := fun k x hx9 => o1 x.1 (by rw [← hM.2.1]; exact (hM.1 k x hx9).lt)
    refine (hM.1.kept hkp).app (fun k9 x hx9 => ?_)
    have hz : k9 < 1 := (List.getElem?_eq_some_iff.mp hx9).1
    rw [show k9 = 0 by omega] at hx9
    cases hx9
    exact he
  · exact ⟨Nat.le_trans hM.2.2.1 (by rw [z1, hM.2.1]; omega), fun x h1 h2 => (o1 x (by rw [← hM.2.1]; exact Nat.lt_of_lt_of_le h1 hM.2.2.1)).trans (hM.2.2.2.1 x h1 h2), hM.2.2.2.2⟩
theorem jm_newa_ok (X : jm_X p s m args meth c cc oc nL D B isI ret) {at_ : ArrayType} {N : Nat} (hd : decode cc pc = .ok (.newarray at_, 2)) (hs : jm_newa at_ st h = some (st', h', N)) (hc : cells + 1 ≤ R.cells ∧ slots + N ≤ R.slots)
    (k : jm_W p l e R s m args below meth c nL D B (cells + 1) (slots + N) Q (pc + 2) lv st' h') : jm_W p l e R s m args below meth c nL D B cells slots Q pc lv st h := by
  obtain ⟨hx, hb, hml, hown, hts, hK, hlk, hini, hrt⟩ := X
  intro H locs ls hM hl
  unfold jm_newa at hs
  split at hs
  · rename_i n r
    split at hs
    · rename_i hn
      split at hs
      · cases hs
        refine va_newaK (atype := .int) hx hb (hts _ jm_wac_int) rfl hd rfl hn.1 rfl (Nat.le_trans (Nat.mul_le_mul_right 4 hn.2) (by decide)) hc.1 hc.2 hM.2.1 fun H1 cA e1 z1 o1 hAr hNm => ?_
        have hcA : cA = B.2.2 .int := Option.some.inj (hNm.symm.trans (hK.2 0 (B.2.2 .int, .int) rfl).2)
        subst hcA
        exact k H1 locs ls (jm_mk hM z1 o1 e1) hl
      · cases hs
        refine va_newaK (atype := .byte) hx hb (hts _ jm_wac_byte) rfl hd rfl hn.1 rfl (Nat.le_trans (Nat.mul_le_mul_right 1 hn.2) (by decide)) hc.1 hc.2 hM.2.1 fun H1 cA e1 z1 o1 hAr hNm => ?_
        have hcA : cA = B.2.2 .byte := Option.some.inj (hNm.symm.trans (hK.2 1 (B.2.2 .byte, .byte) rfl).2)
        subst hcA
        exact k H1 locs ls (jm_mk hM z1 o1 e1) hl
      · cases hs
        refine va_newaK (atype := .boolean) hx hb (hts _ jm_wac_boolean) rfl hd rfl hn.1 rfl (Nat.le_trans (Nat.mul_le_mul_right 1 hn.2) (by decide)) hc.1 hc.2 hM.2.1 fun H1 cA e1 z1 o1 hAr hNm => ?_
        have hcA : cA = B.2.2 .boolean := Option.some.inj (hNm.symm.trans (hK.2 2 (B.2.2 .boolean, .boolean) rfl).2)
        subst hcA
        exact k H1 locs ls (jm_mk hM z1 o1 e1) hl
      · cases hs
        refine va_newaK (atype := .long) hx hb (hts _ jm_wac_long) rfl hd rfl hn.1 rfl (Nat.le_trans (Nat.mul_le_mul_right 8 hn.2) (by decide)) hc.1 hc.2 hM.2.1 fun H1 cA e1 z1 o1 hAr hNm => ?_
        have hcA : cA = B.2.2 .long := Option.some.inj (hNm.symm.trans (hK.2 3 (B.2.2 .long, .long) rfl).2)
        subst hcA
        exact k H1 locs ls (jm_mk hM z1 o1 e1) hl
      · cases hs
    · cases hs
  · cases hs
end JN
