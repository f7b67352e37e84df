/-! words that don't go by themselves with a call (arrays of arrays, constructors that are private): kept beside; arrays of references; copies -/
def jm_zl : List Cond := [.methodLinkNest "OneWayTown" 9 ⟨"OneWayTown$Tape", "<init>", "()V"⟩ "OneWayTown", .methodLinkNest "OneWayTown$Reader" 11 ⟨"OneWayTown$Town", "<init>", "()V"⟩ "OneWayTown", .methodLinkNest "OneWayTown" 27 ⟨"OneWayTown$Town", "<init>", "()V"⟩ "OneWayTown", .methodLinkNest "OneWayTown$Acts" 15 ⟨"OneWayTown$Town", "<init>", "()V"⟩ "OneWayTown", .methodLinkNest "OneWayTown" 80 ⟨"OneWayTown$Marks", "<init>", "()V"⟩ "OneWayTown", .methodLinkNest "OneWayTown$Marks" 23 ⟨"OneWayTown$Town", "<init>", "()V"⟩ "OneWayTown", .methodLinkNest "OneWayTown" 87 ⟨"OneWayTown$Doors", "<init>", "()V"⟩ "OneWayTown"]
def jm_AOA (U : State) : Prop := (Cond.arrayOver (.array .int)).before #[] U = true
theorem jm_AOA.of {A : Array Value} {U : State} (h : (Cond.arrayOver (.array .int)).before A U = true) : jm_AOA U := h
theorem jm_AOA.use {A : Array Value} {U : State} (h : jm_AOA U) : (Cond.arrayOver (.array .int)).before A U = true := h
theorem jm_AOA.moved {u U : State} (hvm : u.vm.Alike U.vm) (h : jm_AOA u) : jm_AOA U := by
  obtain ⟨comp, c, k, h1, h2, h3, h4, h5⟩ := arrayOverA_spec h
  obtain ⟨k', hk', he⟩ := hvm.2.2 _ _ h3
  have hi : (U.vm.classes.findIdx? fun (x : Class) => match x.kind with | .array component _ => component == comp | _ => false) = some c := by
    rw [hvm.findIdx?_eq _ (fun _ => rfl)]
    exact h2
  have hkind : k'.kind = .array comp (.array .int) := by rw [he]; exact h4
  have f1 : U.vm.findClass (FieldType.array .int).toString = some comp := by rw [hvm.findClass]; exact h1
  have f2 : U.vm.findClass ("[" ++ (FieldType.array .int).toString) = some c := by rw [hvm.findClass]; exact h5
  unfold jm_AOA Cond.before Cond.holds
  simp only [Cond.value]
  rw [f1, Option.bind_some]
  refine (congrArg (fun o : Option Nat => (o.bind (fun c => (U.vm.classes[c]?).map fun (k : Class) => match k.kind with | .array _ ty => decide (ty = FieldType.array .int) && decide (U.vm.findClass ("[" ++ (FieldType.array .int).toString) = some c) | _ => false) == some true)) hi).trans ?_
  simp [hk', hkind, f2]
def jm_Z (U : State) : Prop := (∀ w ∈ jm_zl, va_Nw w U) ∧ va_AO "OneWayTown$Town" U ∧ jm_AOA U
theorem jm_zl_form : ∀ w ∈ jm_zl, ∃ a i x h, w = Cond.methodLinkNest a i x h := by
  intro w hw
  simp only [jm_zl, List.mem_cons, List.not_mem_nil, or_false] at hw
  rcases hw with rfl | rfl | rfl | rfl | rfl | rfl | rfl <;> exact ⟨_, _, _, _, rfl⟩
theorem jm_Z.warm {s U : State} (hW : s.WarmedH U.vm) (h : jm_Z s) : jm_Z U := by
  refine ⟨fun w hw => ?_, ?_, ?_⟩
  · obtain ⟨a, i, x, hh, rfl⟩ := jm_zl_form w hw
    exact va_Nw.warmM hW (h.1 _ hw)
  · exact va_AO.moved hW.alike h.2.1
  · exact jm_AOA.moved hW.alike h.2.2
theorem jm_Z.same {u U : State} (hv : u.vm = U.vm) (h : jm_Z u) : jm_Z U := by
  have hal : u.vm.Alike U.vm := by rw [hv]; exact Vm.Alike.refl _
  refine ⟨fun w hw => ?_, va_AO.moved hal h.2.1, jm_AOA.moved hal h.2.2⟩
  obtain ⟨a, i, x, hh, rfl⟩ := jm_zl_form w hw
  exact va_Nw.same rfl hv (h.1 _ hw)
/-- new Town[n], a place of it written; int[n][k] -/
def jm_anew (oc idx : Nat) (st : List Value) (h : jm_H) : Option (List Value × jm_H × Nat) := match st with
  | .int n :: r => (match jm_cki oc idx with
    | some (ci, _) => if ci = 9 ∧ ¬ n < 0 ∧ n.toNatClampNeg ≤ 1000000 then some (.ref h.length :: r, h ++ [.inr (.inr (.inl (.object "OneWayTown$Town", n.toNatClampNeg, fun _ => none)))], n.toNatClampNeg) else none
    | none => none)
  | _ => none
def jm_aast (st : List Value) (h : jm_H) : Option (List Value × jm_H) := match st with
  | .ref v :: .int i :: .ref a :: r => (match h[a]?, h[v]? with
    | some (.inr (.inr (.inl (t, n, f)))), some (.inr (.inr (.inr (ci, _)))) => if ci = 9 ∧ t = .object "OneWayTown$Town" ∧ jm_in i n = true then some (r, h.set a (.inr (.inr (.inl (t, n, va_up f i.toNatClampNeg (some v)))))) else none
    | _, _ => none)
  | _ => none
section JA
variable {p : Program} {l : Launch} {e : Env} {R : Room} {s : State} {m : MethodId} {args : Array Value} {below : List Frame} {meth : Method} {c : Code} {cc : ByteArray} {oc : Nat} {isI : Bool} {ret : Option FieldType} {nL : Nat} {D : va_G} {B : jm_E} {cells slots : Nat} {Q : State → Prop}
variable {pc : Nat} {lv : jm_L} {st st' : List Value} {h h' : jm_H}
theorem jm_anew_ok (X : jm_X p s m args meth c cc oc nL D B isI ret) (hZ : jm_Z s) {idx N : Nat} (hd : decode cc pc = .ok (.anewarray idx, 3)) (hs : jm_anew oc idx st h = some (st', h', N)) (hc : cells + 1 ≤ R.cells ∧ slots + N ≤ R.slots)
    (k : jm_W p l e R s m args below meth c nL D B (cells + 1) (slots + N) Q (pc + 3) lv st' h') : jm_W p l e R s m args below meth c nL D B cells slots Q pc lv st h := by
  obtain ⟨hx, hb, hml, hown, hts, hK, hlk, hini, hrt⟩ := X
  intro H locs ls hM hl
  unfold jm_anew at hs
  split at hs
  · rename_i n r
    split at hs
    · rename_i ci N' hk
      split at hs
      · rename_i hn
        obtain ⟨rfl, hn0, hn1⟩ := hn
        cases hs
        obtain ⟨C, T, hv, w1, w2, w3⟩ := jm_cki_ok hk
        cases hv
        refine W.anew hx hb hown (hts _ w1) (va_AO.use hZ.2.1) rfl hd rfl hn0 (Nat.le_trans (Nat.mul_le_mul_right 4 hn1) (by decide)) hc.1 hc.2 fun cA kA comp f1 f2 f3 f4 => ?_
        have hcA : cA = B.2.2 (.object "OneWayTown$Town") := by
          obtain ⟨kA', comp', g1, g2, g3, g4⟩ := (hK.2 4 (B.2.2 (.object "OneWayTown$Town"), .object "OneWayTown$Town") rfl).2
          exact Option.some.inj (f1.symm.trans g4)
        subst hcA
        have e9 : H.size = B.1 + h.length := hM.2.1
        have hj := k (H.push { cls := B.2.2 (.object "OneWayTown$Town"), slots := Array.replicate n.toNatClampNeg .null, vm := .none }) locs ls (jm_mk (c0 := .inr (.inr (.inl (.object "OneWayTown$Town", n.toNatClampNeg, fun _ => none)))) hM (by rw [Array.size_push, e9]) (fun q hq => by rw [Array.getElem?_push, if_neg (by rw [e9]; exact Nat.ne_of_lt hq)]) (by
          show (H.push _)[B.1 + h.length]? = some _
          rw [← e9, Array.getElem?_push_size]
          exact congrArg some (arrV_new _ _ _))) hl
        rw [e9]
        exact hj
      · cases hs
    · cases hs
  · cases hs
theorem jm_aast_ok (X : jm_X p s m args meth c cc oc nL D B isI ret) (hd : decode cc pc = .ok (.aastore, 1)) (hs : jm_aast st h = some (st', h'))
    (k : jm_W p l e R s m args below meth c nL D B cells slots Q (pc + 1) lv st' h') : jm_W p l e R s m args below meth c nL D B cells slots Q pc lv st h := by
  obtain ⟨hx, hb, hml, hown, hts, hK, hlk, hini, hrt⟩ := X
  intro H locs ls hM hl
  unfold jm_aast at hs
  split at hs
  · rename_i v i a r
    split at hs
    · rename_i t n f ci fs hca hcv
      split at hs
      · rename_i hq
        obtain ⟨rfl, rfl, hin⟩ := hq
        cases hs
        have hin := jm_in_ok hin
        have hlt : i.toNatClampNeg < n := Nat.not_le.mp fun q => hin (Or.inr q)
        have h0 : ¬ i < 0 := fun q => hin (Or.inl q)
        obtain ⟨r', hr', cellV, g1, g2, g3, -⟩ := hM.1 v _ (jm_ws_at hcv)
        have hcls := (hK.1 9 (RX9, TX9, 5) rfl).2
        obtain ⟨kA, comp, k1, k2, k3, -⟩ := (hK.2 4 (B.2.2 (.object "OneWayTown$Town"), .object "OneWayTown$Town") rfl).2
        have hcomp : comp = D.1 9 := Option.some.inj (k3.symm.trans hcls.1)
        subst hcomp
        obtain ⟨kC, hkC, -⟩ := id hcls.2
        refine W.aast hx hb (hM.1 a _ (jm_ws_at hca)) (fun q h => by cases h) (fun h => by cases h) k1 k2 rfl hkC ⟨h0, by show _ < (arrV _ _ _).slots.size; rw [arrV_size]; exact hlt⟩ g1 (fun q h => by rw [g3] at h; cases h) (by rw [g2]; exact hkC) (by rw [g2]; exact va_assign hcls) rfl rfl hd fun H1 e1 z oq => ?_
        refine k H1 _ ls (hM.put hca ?_ z oq) hl
        show H1[B.1 + a]? = some (vp_cell _ _)
        refine e1.trans (congrArg some ?_)
        show (vp_cell (B.2.2 (.object "OneWayTown$Town")) (n, .inr (.inr (.inr (.inr (fun i => (f i).map (fun k => B.1 + k))))))).setSlot _ _ = vp_cell (B.2.2 (.object "OneWayTown$Town")) (n, .inr (.inr (.inr (.inr (fun j => (va_up f i.toNatClampNeg (some v) j).map (fun k => B.1 + k))))))
        rw [vp_cell_q, vp_cell_q, arrV_store]
        congr 1
        funext q
        by_cases hq : q = i.toNatClampNeg
        · subst hq; simp [updV, va_up, va_rf]
        · simp [updV, va_up, hq]
      · cases hs
    · cases hs
  · cases hs
theorem jm_copy_ok (X : jm_X p s m args meth c cc oc nL D B isI ret) {idx : Nat} (hoc : oc = 9 ∧ idx = 28) (hR : 1 ≤ R.frames ∧ 64 ≤ R.locals) (hd : decode cc pc = .ok (.invokestatic idx, 3)) (hs : jm_copy st h = some (st', h'))
    (k : jm_W p l e R s m args below meth c nL D B cells slots Q (pc + 3) lv st' h') : jm_W p l e R s m args below meth c nL D B cells slots Q pc lv st h := by
  obtain ⟨hx, hb, hml, hown, hts, hK, hlk, hini, hrt⟩ := X
  obtain ⟨rfl, rfl⟩ := hoc
  intro H locs ls hM hl
  unfold jm_copy at hs
  split at hs
  · rename_i n dp a sp a0 r
    split at hs
    · rename_i n0 f n1 g ha0 ha1
      split at hs
      · rename_i hq
        obtain ⟨h1, h2, h3, h4, h5, h6⟩ := hq
        cases hs
        have nn : ∀ z : Int32, ¬ z < 0 → z.toInt = (z.toNatClampNeg : Int) := by
          intro z hz
          have hz0 : (0 : Int) ≤ z.toInt := by
            have := Int32.not_lt.mp hz
            simpa using Int32.le_iff_toInt_le.mp this
          show z.toInt = ((z.toInt.toNat : Nat) : Int)
          omega
        intro T hT X
        have hc0 : H[B.1 + a0]? = some (vp_cell (B.2.2 .int) (n0, .inl f)) := hM.1 a0 _ (jm_ws_at ha0)
        have hc1 : H[B.1 + a]? = some (vp_cell (B.2.2 .int) (n1, .inl g)) := hM.1 a _ (jm_ws_at ha1)
        obtain ⟨-, k0, hk0, cm0, hkk0⟩ := (hK.2 0 (B.2.2 .int, .int) rfl).1 n0 (fun j => .int (f j))
        obtain ⟨-, k1, hk1, cm1, hkk1⟩ := (hK.2 0 (B.2.2 .int, .int) rfl).1 n1 (fun j => .int (g j))
        obtain ⟨vm', X', step⟩ := X.arraycopy hx hown (hts _ jm_wcopy_l) (hts _ jm_wcopy_n) (hts _ jm_wcopy_s) (hts _ jm_wsys_i) (src := B.1 + a0) (dst := B.1 + a) (cs := vp_cell (B.2.2 .int) (n0, .inl f)) (cd := vp_cell (B.2.2 .int) (n1, .inl g)) (srcPos := sp) (destPos := dp) (n := n) (by rw [hT]; exact hc0) (by rw [hT]; exact hc1)
          (fun _ h => by cases h) (fun _ h => by cases h) (fun h => by cases h) (fun h => by cases h) hk0 hk1 hkk0 hkk1 (by simp [refKind]) h1 h2 h3
          (by rw [nn sp h1, nn n h3]; show ¬ _ > ((arrV _ n0 (fun j => .int (f j))).slots.size : Int); rw [arrV_size]; omega)
          (by rw [nn dp h2, nn n h3]; show ¬ _ > ((arrV _ n1 (fun j => .int (g j))).slots.size : Int); rw [arrV_size]; omega)
          (fun vm₁ _ i hi => by
            have e : (vp_cell (B.2.2 .int) (n0, .inl f)).slots.getD (sp.toNatClampNeg + i) .null = .int (f (sp.toNatClampNeg + i)) := by
              show (arrV _ n0 (fun j => .int (f j))).slots.getD _ _ = _
              rw [Array.getD_eq_getD_getElem?, arrV_read _ _ (by omega)]
              rfl
            refine ⟨?_, ?_⟩
            · rw [e]; rfl
            · rw [e]; exact trivial)
          (g := F0 m pc ls (.int n :: .int dp :: .ref (B.1 + a) :: .int sp :: .ref (B.1 + a0) :: st'.map (jm_v B))) rfl (by rw [hml]; exact hl.1) (rest := st'.map (jm_v B)) rfl (by rw [hb]; exact hd) hR.1 (by
            have h7 : nativeFrameWords "java/lang/System" "arraycopy" 5 + 11 ≤ 40 := by decide +kernel
            show 2 * 0 + ((st'.map (jm_v B)).map (fun v => v.category)).sum + _ ≤ _
            rw [jm_cs_v]
            omega)
        have e1 : copied (vp_cell (B.2.2 .int) (n0, .inl f)) (vp_cell (B.2.2 .int) (n1, .inl g)) sp dp n = vp_cell (B.2.2 .int) (n1, .inl (va_cpy f g sp.toNatClampNeg dp.toNatClampNeg n.toNatClampNeg)) := va_copied (fun z => .int z) (B.2.2 .int) (B.2.2 .int) f g h4
        rw [e1] at X' step
        have hlz : B.1 + a < H.size := (Array.getElem?_eq_some_iff.mp hc1).1
        have hheap : ((T.setVm vm').setCell (B.1 + a) (vp_cell (B.2.2 .int) (n1, .inl (va_cpy f g sp.toNatClampNeg dp.toNatClampNeg n.toNatClampNeg)))).heap = H.setIfInBounds (B.1 + a) (vp_cell (B.2.2 .int) (n1, .inl (va_cpy f g sp.toNatClampNeg dp.toNatClampNeg n.toNatClampNeg))) := by rw [← hT]; rfl
        have oq : ∀ q : Nat, q ≠ B.1 + a → (H.setIfInBounds (B.1 + a) (vp_cell (B.2.2 .int) (n1, .inl (va_cpy f g sp.toNatClampNeg dp.toNatClampNeg n.toNatClampNeg))))[q]? = H[q]? := fun q hq => by simp [Array.getElem?_setIfInBounds, Ne.symm hq]
        have hP1 := hM.1.set (jm_D B h) (jm_ws_at ha1) (e := jm_c B (.inl (.int, n1, va_cpy f g sp.toNatClampNeg dp.toNatClampNeg n.toNatClampNeg))) (show (H.setIfInBounds (B.1 + a) _)[B.1 + a]? = some _ by simp [Array.getElem?_setIfInBounds, hlz]) oq
        obtain ⟨t, a1, b1⟩ := k _ _ ls (hM.set hP1 (by simp) ⟨by simp; exact hM.2.2.1, fun q g1 g2 => by
            rw [oq q (fun e => g2 (by rw [e]; exact Nat.le_add_right _ _))]
            exact hM.2.2.2.1 q g1 g2, fun q hq => by
            rcases List.mem_append.mp hq with h | h
            · exact hM.2.2.2.2 q h
            · obtain ⟨z, -, hz⟩ := List.mem_map.mp h
              rw [← hz]
              exact Nat.le_add_right _ _⟩) hl _ hheap X'
        exact ⟨t, step t a1, b1⟩
      · cases hs
    · cases hs
  · cases hs
end JA
