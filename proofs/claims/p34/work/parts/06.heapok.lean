/-! that the steps on cells are the machine's -/
section JH
variable {p : Program} {l : Launch} {e : Env} {R : Room} {s : State} {m : MethodId} {args : Array Value} {below : List Frame} {meth : Method} {c : Code} {cc : ByteArray} {oc : Nat} {isI : Bool} {ret : Option FieldType} {nL : Nat} {D : va_G} {B : jm_E} {cells slots : Nat} {Q : State → Prop}
variable {pc : Nat} {lv : jm_L} {st st' : List Value} {h h' : jm_H}
theorem jm_getf_ok (X : jm_X p s m args meth c cc oc nL D B isI ret) {idx : Nat} (hd : decode cc pc = .ok (.getfield idx, 3)) (hs : jm_getf oc idx st h = some st')
    (k : jm_W p l e R s m args below meth c nL D B cells slots Q (pc + 3) lv st' h) : jm_W p l e R s m args below meth c nL D B cells slots Q pc lv st h := by
  obtain ⟨hx, hb, hml, hown, hts, hK, hlk, hini, hrt⟩ := X
  intro H locs ls hM hl
  unfold jm_getf at hs
  split at hs
  · rename_i a r
    split at hs
    · rename_i ci k0 hf
      obtain ⟨C, T, N, hv, hk, hlink⟩ := jm_fld_ok hf
      split at hs
      · rename_i cj fs hc
        split at hs
        · rename_i hcc
          subst hcc
          split at hs
          · rename_i v hfv
            cases hs
            exact va_get (D := D) (own := jm_cn oc) (ref := (T k0).1) (C := C) (T := T) (N := N) hx hb hts (jm_ly_in hv) hown hK hM.1 a (jm_ws_at hc) hv k0 hk (hts _ hlink) (fun _ h9 => h9) (v := jm_v B v) (by rw [List.getElem?_map, hfv]; rfl) hd (k H locs ls hM hl)
          · cases hs
        · cases hs
      · cases hs
    · cases hs
  · cases hs
theorem jm_iald_ok (X : jm_X p s m args meth c cc oc nL D B isI ret) (hd : decode cc pc = .ok (.iaload, 1)) (hs : jm_iald st h = some st')
    (k : jm_W p l e R s m args below meth c nL D B cells slots Q (pc + 1) lv st' h) : jm_W p l e R s m args below meth c nL D B cells slots Q pc lv st h := by
  obtain ⟨hx, hb, hml, hown, hts, hK, hlk, hini, hrt⟩ := X
  intro H locs ls hM hl
  unfold jm_iald at hs
  split at hs
  · rename_i i a r
    split at hs
    · rename_i n f hc
      split at hs
      · rename_i hin
        cases hs
        exact va_iald hx hb hK hM.1 a 0 (jm_ws_at hc) rfl (jm_in_ok hin) hd (k H locs ls hM hl)
      · cases hs
    · cases hs
  · cases hs
theorem jm_bald_ok (X : jm_X p s m args meth c cc oc nL D B isI ret) (hd : decode cc pc = .ok (.baload, 1)) (hs : jm_bald st h = some st')
    (k : jm_W p l e R s m args below meth c nL D B cells slots Q (pc + 1) lv st' h) : jm_W p l e R s m args below meth c nL D B cells slots Q pc lv st h := by
  obtain ⟨hx, hb, hml, hown, hts, hK, hlk, hini, hrt⟩ := X
  intro H locs ls hM hl
  unfold jm_bald at hs
  split at hs
  · rename_i i a r
    split at hs
    · rename_i n f hc
      split at hs
      · rename_i hin
        cases hs
        exact va_bald hx hb hK hM.1 a 1 (jm_ws_at hc) rfl (jm_in_ok hin) hd (k H locs ls hM hl)
      · cases hs
    · rename_i n f hc
      split at hs
      · rename_i hin
        cases hs
        exact va_zald hx hb hK hM.1 a 2 (jm_ws_at hc) rfl (jm_in_ok hin) hd (k H locs ls hM hl)
      · cases hs
    · cases hs
  · cases hs
theorem jm_lald_ok (X : jm_X p s m args meth c cc oc nL D B isI ret) (hd : decode cc pc = .ok (.laload, 1)) (hs : jm_lald st h = some st')
    (k : jm_W p l e R s m args below meth c nL D B cells slots Q (pc + 1) lv st' h) : jm_W p l e R s m args below meth c nL D B cells slots Q pc lv st h := by
  obtain ⟨hx, hb, hml, hown, hts, hK, hlk, hini, hrt⟩ := X
  intro H locs ls hM hl
  unfold jm_lald at hs
  split at hs
  · rename_i i a r
    split at hs
    · rename_i n f hc
      split at hs
      · rename_i hin
        cases hs
        exact va_lald hx hb hK hM.1 a 3 (jm_ws_at hc) rfl (jm_in_ok hin) hd (k H locs ls hM hl)
      · cases hs
    · cases hs
  · cases hs
theorem jm_aald_ok (X : jm_X p s m args meth c cc oc nL D B isI ret) (hd : decode cc pc = .ok (.aaload, 1)) (hs : jm_aald st h = some st')
    (k : jm_W p l e R s m args below meth c nL D B cells slots Q (pc + 1) lv st' h) : jm_W p l e R s m args below meth c nL D B cells slots Q pc lv st h := by
  obtain ⟨hx, hb, hml, hown, hts, hK, hlk, hini, hrt⟩ := X
  intro H locs ls hM hl
  unfold jm_aald at hs
  split at hs
  · rename_i i a r
    split at hs
    · rename_i t n f hc
      split at hs
      · rename_i hin
        obtain ⟨hin, htn, hrf⟩ := hin
        split at hs
        · rename_i q hq
          cases hs
          obtain ⟨t0, ht0⟩ := jm_tin_ok B htn
          have hlt : i.toNatClampNeg < n := Nat.not_le.mp fun q => (jm_in_ok hin) (Or.inr q)
          refine W.aald (v := .ref (B.1 + q)) (ty := t) hx hb (hM.1 a _ (jm_ws_at hc)) ((hK.2 t0 _ ht0).1 n _) (by cases t <;> first | rfl | cases hrf) (fun q => by cases q) (by show ¬ (i < 0 ∨ (arrV _ _ _).slots.size ≤ _); rw [arrV_size]; exact jm_in_ok hin) (by show (arrV _ _ _).slots[_]? = _; rw [arrV_read _ _ hlt]; show some (va_rf ((f i.toNatClampNeg).map (fun k => B.1 + k))) = _; rw [hq]; rfl) rfl rfl hd (k H locs ls hM hl)
        · cases hs
      · cases hs
    · cases hs
  · cases hs
theorem jm_alen_ok (X : jm_X p s m args meth c cc oc nL D B isI ret) (hd : decode cc pc = .ok (.arraylength, 1)) (hs : jm_alen st h = some st')
    (k : jm_W p l e R s m args below meth c nL D B cells slots Q (pc + 1) lv st' h) : jm_W p l e R s m args below meth c nL D B cells slots Q pc lv st h := by
  obtain ⟨hx, hb, hml, hown, hts, hK, hlk, hini, hrt⟩ := X
  intro H locs ls hM hl
  unfold jm_alen at hs
  split at hs
  · rename_i a r
    split at hs
    · rename_i t n f hc
      split at hs
      · rename_i htn
        cases hs
        obtain ⟨t0, ht0⟩ := jm_tin_ok B htn
        exact va_alen hx hb hK hM.1 a t0 (jm_ws_at hc) ht0 rfl hd (k H locs ls hM hl)
      · cases hs
    · rename_i n f hc
      cases hs
      exact va_alen hx hb hK hM.1 a 3 (jm_ws_at hc) (ty := .long) rfl rfl hd (k H locs ls hM hl)
    · rename_i t n f hc
      split at hs
      · rename_i htn
        cases hs
        obtain ⟨t0, ht0⟩ := jm_tin_ok B htn
        exact va_alen hx hb hK hM.1 a t0 (jm_ws_at hc) ht0 rfl hd (k H locs ls hM hl)
      · cases hs
    · cases hs
  · cases hs
/-- a cell is written: the world behind it -/
theorem jm_M.put {H0 H H1 : Heap} {locs : List Loc} {a i : Nat} {c0 c1 : jm_C} (hM : jm_M B D H0 H locs h) (hc : h[a]? = some c0) (he : va_at D vwCl (B.1 + a, jm_c B c1) H1) (z : H1.size = H.size) (oq : ∀ q : Nat, q ≠ B.1 + a → H1[q]? = H[q]?) : jm_M B D H0 H1 (locs ++ [⟨B.1 + a, i⟩]) (h.set a c1) :=
  hM.set (hM.1.set (jm_D B h) (jm_ws_at hc) he oq) z (hM.2.2.put z oq (Nat.le_add_right _ _))
theorem jm_iast_ok (X : jm_X p s m args meth c cc oc nL D B isI ret) (hd : decode cc pc = .ok (.iastore, 1)) (hs : jm_iast st h = some (st', h'))
    (k : jm_W p l e R s m args below meth c nL D B cells slots Q (pc + 1) lv st' h') : jm_W p l e R s m args below meth c nL D B cells slots Q pc lv st h := by
  obtain ⟨hx, hb, hml, hown, hts, hK, hlk, hini, hrt⟩ := X
  intro H locs ls hM hl
  unfold jm_iast at hs
  split at hs
  · rename_i x i a r
    split at hs
    · rename_i n f hc
      split at hs
      · rename_i hin
        cases hs
        refine W.iast hx hb (hM.1 a _ (jm_ws_at hc)) ((hK.2 0 (B.2.2 .int, .int) rfl).1 n (fun j => .int (f j))) (fun q => by cases q) (by show ¬ (i < 0 ∨ (arrV _ _ _).slots.size ≤ _); rw [arrV_size]; exact jm_in_ok hin) rfl rfl hd fun H1 e1 z oq => ?_
        refine k H1 _ ls (hM.put hc ?_ z oq) hl
        show H1[B.1 + a]? = some (vp_cell _ _)
        refine e1.trans (congrArg some ?_)
        show (vp_cell (B.2.2 .int) (n, .inl f)).setSlot _ _ = vp_cell (B.2.2 .int) (n, .inl (upd f i.toNatClampNeg x))
        rw [vp_cell_i, vp_cell_i, arrV_store]
        congr 1
        funext q
        by_cases hq : q = i.toNatClampNeg
        · subst hq; simp [updV, upd]
        · simp [updV, upd, hq]
      · cases hs
    · cases hs
  · cases hs
theorem jm_bast_ok (X : jm_X p s m args meth c cc oc nL D B isI ret) (hd : decode cc pc = .ok (.bastore, 1)) (hs : jm_bast st h = some (st', h'))
    (k : jm_W p l e R s m args below meth c nL D B cells slots Q (pc + 1) lv st' h') : jm_W p l e R s m args below meth c nL D B cells slots Q pc lv st h := by
  obtain ⟨hx, hb, hml, hown, hts, hK, hlk, hini, hrt⟩ := X
  intro H locs ls hM hl
  unfold jm_bast at hs
  split at hs
  · rename_i x i a r
    split at hs
    · rename_i n f hc
      split at hs
      · rename_i hin
        cases hs
        refine W.bast hx hb (hM.1 a _ (jm_ws_at hc)) ((hK.2 1 (B.2.2 .byte, .byte) rfl).1 n (fun j => .int (f j))) (fun q => by cases q) (by show ¬ (i < 0 ∨ (arrV _ _ _).slots.size ≤ _); rw [arrV_size]; exact jm_in_ok hin) rfl rfl hd fun H1 e1 z oq => ?_
        refine k H1 _ ls (hM.put hc ?_ z oq) hl
        show H1[B.1 + a]? = some (vp_cell _ _)
        refine e1.trans (congrArg some ?_)
        show (vp_cell (B.2.2 .byte) (n, .inl f)).setSlot _ _ = vp_cell (B.2.2 .byte) (n, .inl (upd f i.toNatClampNeg (vp_nar .byte x)))
        rw [vp_cell_i, vp_cell_i, arrV_store]
        congr 1
        funext q
        by_cases hq : q = i.toNatClampNeg
        · subst hq; simp [updV, upd, vp_nar, narrow]
        · simp [updV, upd, hq]
      · cases hs
    · rename_i n f hc
      split at hs
      · rename_i hin
        cases hs
        refine W.zast hx hb (hM.1 a _ (jm_ws_at hc)) ((hK.2 2 (B.2.2 .boolean, .boolean) rfl).1 n (fun j => .int (f j))) (fun q => by cases q) (by show ¬ (i < 0 ∨ (arrV _ _ _).slots.size ≤ _); rw [arrV_size]; exact jm_in_ok hin) rfl rfl hd fun H1 e1 z oq => ?_
        refine k H1 _ ls (hM.put hc ?_ z oq) hl
        show H1[B.1 + a]? = some (vp_cell _ _)
        refine e1.trans (congrArg some ?_)
        show (vp_cell (B.2.2 .boolean) (n, .inl f)).setSlot _ _ = vp_cell (B.2.2 .boolean) (n, .inl (upd f i.toNatClampNeg (vp_nar .boolean x)))
        rw [vp_cell_i, vp_cell_i, arrV_store]
        congr 1
        funext q
        by_cases hq : q = i.toNatClampNeg
        · subst hq; simp [updV, upd, vp_nar, narrow]
        · simp [updV, upd, hq]
      · cases hs
    · cases hs
  · cases hs
theorem jm_last_ok (X : jm_X p s m args meth c cc oc nL D B isI ret) (hd : decode cc pc = .ok (.lastore, 1)) (hs : jm_last st h = some (st', h'))
    (k : jm_W p l e R s m args below meth c nL D B cells slots Q (pc + 1) lv st' h') : jm_W p l e R s m args below meth c nL D B cells slots Q pc lv st h := by
  obtain ⟨hx, hb, hml, hown, hts, hK, hlk, hini, hrt⟩ := X
  intro H locs ls hM hl
  unfold jm_last at hs
  split at hs
  · rename_i x i a r
    split at hs
    · rename_i n f hc
      split at hs
      · rename_i hin
        cases hs
        refine W.last hx hb (hM.1 a _ (jm_ws_at hc)) ((hK.2 3 (B.2.2 .long, .long) rfl).1 n (fun j => .long (f j))) (fun q => by cases q) (by show ¬ (i < 0 ∨ (arrV _ _ _).slots.size ≤ _); rw [arrV_size]; exact jm_in_ok hin) rfl rfl hd fun H1 e1 z oq => ?_
        refine k H1 _ ls (hM.put hc ?_ z oq) hl
        show H1[B.1 + a]? = some (vp_cell _ _)
        refine e1.trans (congrArg some ?_)
        show (vp_cell (B.2.2 .long) (n, .inr (.inl f))).setSlot _ _ = vp_cell (B.2.2 .long) (n, .inr (.inl (vp_updL f i.toNatClampNeg x)))
        rw [vp_cell_l, vp_cell_l, arrV_store]
        congr 1
        funext q
        by_cases hq : q = i.toNatClampNeg
        · subst hq; simp [updV, vp_updL]
        · simp [updV, vp_updL, hq]
      · cases hs
    · cases hs
  · cases hs
theorem jm_putf_ok (X : jm_X p s m args meth c cc oc nL D B isI ret) {idx : Nat} (hd : decode cc pc = .ok (.putfield idx, 3)) (hs : jm_putf oc idx isI st h = some (st', h'))
    (k : jm_W p l e R s m args below meth c nL D B cells slots Q (pc + 3) lv st' h') : jm_W p l e R s m args below meth c nL D B cells slots Q pc lv st h := by
  obtain ⟨hx, hb, hml, hown, hts, hK, hlk, hini, hrt⟩ := X
  intro H locs ls hM hl
  unfold jm_putf at hs
  split at hs
  · rename_i v a r
    split at hs
    · rename_i ci k0 hf
      obtain ⟨C, T, N, hv, hk, hlink⟩ := jm_fld_ok hf
      obtain ⟨hty, hnm⟩ := jm_ty_ok hv
      split at hs
      · rename_i cj fs hc
        split at hs
        · rename_i hcc
          obtain ⟨rfl, hkl, hfit, hfin⟩ := hcc
          cases hs
          obtain ⟨hn, hft⟩ := jm_fit_ok B hfit
          have hin := jm_ly_in hv
          have hap := va_apart (own := jm_cn oc) hts hin (jm_ty cj) hty hnm hK hv
          obtain ⟨r', h1, cell, q1, q2, q3, q4⟩ := hM.1 a _ (jm_ws_at hc)
          have hr : r' = (C, T, N) := Option.some.inj (h1.symm.trans hv)
          subst hr
          obtain ⟨hSl, hfc, kC, hkC, hkind⟩ := hK.1 cj _ hv
          obtain ⟨cf, kf, fi, f, hi, hsl⟩ := hSl k0 hk
          have hlay := hts _ (hin _ (u_in_lay hk))
          have hst := (u_facts hfc hkC (u_lays hts hin hk) hi).1
          have hlen : k0 < (fs.map (jm_v B)).length := by rw [List.length_map]; exact hkl
          have hend : ∀ H1 : Heap, H1[B.1 + a]? = some (cell.setSlot f.slot (jm_v B v)) → H1.size = H.size → (∀ q, q ≠ B.1 + a → H1[q]? = H[q]?) → jm_M B D s.heap H1 (locs ++ [⟨B.1 + a, f.slot⟩]) (h.set a (.inr (.inr (.inr (cj, fs.set k0 v))))) := by
            intro H1 e1 z oq
            refine hM.put hc ?_ z oq
            rw [hsl] at e1
            refine ⟨_, hv, t_OB.to (V := updV (vp_V (fs.map (jm_v B))) k0 (jm_v B v)) ⟨_, e1, q2, q3, t_set q4 hap hk (jm_v B v)⟩ (fun j _ => ?_)⟩
            rw [vp_updV_set hlen, List.map_set]
          by_cases hfn : (T k0).2.2.2 = true
          · have hi2 : isI = true ∧ jm_dcl cj k0 oc = true := by
              rcases hfin with q | q
              · unfold jm_fin at q
                rw [hv] at q
                rw [show (T k0).2.2.2 = false from q] at hfn
                cases hfn
              · exact q
            have hdecl : (T k0).1 = jm_cn oc := by
              have q := hi2.2
              unfold jm_dcl at q
              rw [hv] at q
              exact of_decide_eq_true q
            unfold u_lay at hlay
            rw [if_pos hfn] at hlay
            have hcf : m.cls = cf := by
              obtain ⟨_, _, c', _, _, _, -, -, hf', -, -, -, hown2, -⟩ := Cond.laysFinal_spec hlay
              have e1 : c' = cf := by have := hi.symm.trans hf'; simp at this; exact this.1.symm
              rw [hdecl] at hown2
              rw [← e1]; exact Option.some.inj (hown.symm.trans hown2)
            have h6 := u_fits hfc hkC hkind (Or.inr hlay) hi (hty k0 hk) hn hft
            exact W.putFinK hx hb hown (hts _ hlink) hi hst hcf (hini hi2.1) (by rw [q2]; exact h6) q1 q3 (by rw [hsl]; exact k2_hasslot (q4 k0 hk)) rfl rfl hd fun H1 e1 z oq => k H1 _ ls (hend H1 e1 z oq) hl
          · unfold u_lay at hlay
            rw [if_neg hfn] at hlay
            have h6 := u_store hfc hkC hkind hlay hi (hty k0 hk) hn hft
            exact W.putK hx hb (f := f) ⟨hown, hts _ hlink, ⟨_, _, _, hi⟩, hst⟩ (by rw [q2]; exact h6) q1 q3 (by rw [hsl]; exact k2_hasslot (q4 k0 hk)) rfl rfl hd fun H1 e1 z oq => k H1 _ ls (hend H1 e1 z oq) hl
        · cases hs
      · cases hs
    · cases hs
  · cases hs
end JH
