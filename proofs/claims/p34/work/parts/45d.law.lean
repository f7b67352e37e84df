/-! the law's steps -/
def lw_lv (i : Int32) : jm_L := [(3, .int i), (2, .ref 352), (1, .ref 0), (0, .float 1000)]
section LW2
variable {p : Program} {l : Launch} {e : Env} {s : State} {m : MethodId} {args : Array Value} {below : List Frame} {meth : Method} {c : Code} {D : va_G} {B : jm_E} {cells slots : Nat} {Q : State → Prop} {L : Nat} {xs : Nat → Int32}
variable {pc : Nat} {lv : jm_L} {st r : List Value} {h : jm_H}
theorem lw_if (C : lw_C p s m args meth c D B L xs) {op : ClassFile.Cond} {off : Int} {t : Nat} {x : Int32} (hd : decode code pc = .ok (.ifCond op off, 3)) (ht : jm_tg pc off = some t) (k1 : jm_W p l e room_1 s m args below meth c 4 D B cells slots Q t lv r h) (k2 : jm_W p l e room_1 s m args below meth c 4 D B cells slots Q (pc + 3) lv r h) : jm_W p l e room_1 s m args below meth c 4 D B cells slots Q pc lv (.int x :: r) h := by
  cases hb : jm_c1 op x with
  | true => exact lw_p C hd (pc2 := t) (lv2 := lv) (st2 := r) (by simp [jm_pure, jm_i1, jm_br, hb, ht]) k1
  | false => exact lw_p C hd (pc2 := pc + 3) (lv2 := lv) (st2 := r) (by simp [jm_pure, jm_i1, jm_br, hb, ht]) k2
theorem lw_ic (C : lw_C p s m args meth c D B L xs) {op : ClassFile.Cond} {off : Int} {t : Nat} {x y : Int32} (hd : decode code pc = .ok (.if_icmp op off, 3)) (ht : jm_tg pc off = some t) (k1 : jm_c2 op x y = true → jm_W p l e room_1 s m args below meth c 4 D B cells slots Q t lv r h) (k2 : jm_c2 op x y = false → jm_W p l e room_1 s m args below meth c 4 D B cells slots Q (pc + 3) lv r h) : jm_W p l e room_1 s m args below meth c 4 D B cells slots Q pc lv (.int y :: .int x :: r) h := by
  cases hb : jm_c2 op x y with
  | true => exact lw_p C hd (pc2 := t) (lv2 := lv) (st2 := r) (by simp [jm_pure, jm_i2, jm_br, hb, ht]) (k1 hb)
  | false => exact lw_p C hd (pc2 := pc + 3) (lv2 := lv) (st2 := r) (by simp [jm_pure, jm_i2, jm_br, hb, ht]) (k2 hb)
theorem lw_sw (C : lw_C p s m args meth c D B L xs) {dd lo hi : Int} {offs : Array Int} {len : Nat} {x : Int32} (hd : decode code pc = .ok (.tableswitch dd lo hi offs, len)) (hsz : hi = lo + offs.size - 1) (hk : ∀ off ∈ dd :: offs.toList, ∃ t, jm_tg pc off = some t ∧ jm_W p l e room_1 s m args below meth c 4 D B cells slots Q t lv r h) : jm_W p l e room_1 s m args below meth c 4 D B cells slots Q pc lv (.int x :: r) h := by
  by_cases hr2 : x.toInt < lo ∨ hi < x.toInt
  · obtain ⟨t, t1, t2⟩ := hk dd List.mem_cons_self
    exact lw_p C hd (pc2 := t) (lv2 := lv) (st2 := r) (by simp only [jm_pure, jm_i1]; rw [if_pos hr2, t1]) t2
  · have hlt : (x.toInt - lo).toNat < offs.size := by omega
    obtain ⟨t, t1, t2⟩ := hk (offs[(x.toInt - lo).toNat]) (List.mem_cons_of_mem _ (Array.getElem_mem_toList hlt))
    exact lw_p C hd (pc2 := t) (lv2 := lv) (st2 := r) (by
      simp only [jm_pure, jm_i1]
      rw [if_neg hr2]
      rw [Array.getElem?_eq_getElem hlt]
      dsimp only
      rw [t1]) t2
theorem lw_l2 (C : lw_C p s m args meth c D B L xs) {idx : Nat} {v : Int64} (hw : Cond.constantLong R_law idx v ∈ jm_T) (hd : decode code pc = .ok (.ldc2_w idx, 3)) (k : jm_W p l e room_1 s m args below meth c 4 D B cells slots Q (pc + 3) lv (.long v :: st) h) : jm_W p l e room_1 s m args below meth c 4 D B cells slots Q pc lv st h := by
  obtain ⟨hx, hb, hml, hown, hts, hK, hZ, hSS, hX, hb1, hb2⟩ := C
  intro H locs ls hM hl
  exact lv_ldc2 hx hb hown (hts _ hw) hd (k H locs ls hM hl)
end LW2
theorem lw_an {a : Option fw_V} {v : Option Value} (h : an_i a) (o : fw_o fw_T a v) : ∃ i : Int32, v = some (.int i) ∧ a = some (.inl i.toInt) := by
  obtain ⟨z, rfl⟩ := h
  cases v with
  | none => exact o.elim
  | some v =>
    obtain ⟨i, rfl, e⟩ := o
    exact ⟨i, rfl, by rw [e]⟩
theorem lw_al {a : Option fw_V} {v : Option Value} (h : an_l a) (o : fw_o fw_T a v) : ∃ i : Int64, v = some (.long i) := by
  have h : a = some (.inr (.inr 1000)) := h
  subst h
  cases v with
  | none => exact o.elim
  | some v =>
    have o : fw_v fw_T (.inr (.inr 1000)) v := o
    obtain ⟨-, i, rfl, -⟩ := fw_v_lg o rfl
    exact ⟨i, rfl⟩
/-- the place in the script -/
def lw_at (L : Nat) (i : Int32) : Prop := 0 ≤ i.toInt ∧ i.toInt + 6 ≤ (L : Int) ∧ L ≤ 3072
theorem lw_ix {L : Nat} {i : Int32} (h : lw_at L i) (j : Int32) (j0 : 0 ≤ j.toInt) (j1 : j.toInt ≤ 5) : vp_in (i + j) L := by
  obtain ⟨h0, h1, h2⟩ := h
  have e : (i + j).toInt = i.toInt + j.toInt := by
    rw [Int32.toInt_add]
    exact Int.bmod_eq_of_le (by omega) (by omega)
  refine jm_in_ok ?_
  unfold jm_in
  refine decide_eq_true (fun z => ?_)
  rcases z with z | z
  · have := Int32.lt_iff_toInt_lt.mp z
    rw [Int32.toInt_zero] at this
    omega
  · have e2 : (i + j).toNatClampNeg = (i + j).toInt.toNat := rfl
    omega
theorem lw_ix0 {L : Nat} {i : Int32} (h : lw_at L i) : vp_in i L := by
  have := lw_ix h 0 (by decide) (by decide)
  rwa [Int32.add_zero] at this
theorem lw_r (i : Int32) : -2147483648 ≤ i.toInt ∧ i.toInt ≤ 2147483647 := by
  have := ai_b i
  unfold ai_min ai_max at this
  exact this
theorem lw_ov : fw_view fw_T [(0, .inr (.inr (.inr (11, [.inr (.inl [1]), .inr (.inl [3]), .inr (.inl [12]), .inr (.inl [16]), .inr (.inl [37]), .inr (.inl [203]), .inr (.inl [223]), .inr (.inl [239]), .inr (.inl [266]), .inr (.inl [268]), .inr (.inl [324]), .inr (.inl [337]), .inr (.inl [338]), .inr (.inl [339]), .inl (0, 14, true)])))), (352, .inr (.inr (.inr (12, [.inr (.inl [353]), .inr (.inl [354]), .inl (0, 1200, true), .inl (0, 1200, true), .inl (-2147483648, 2147483647, true), .inl (-2147483648, 2147483647, true), .inl (0, 1200, true), .inl (0, 1201, true), .inl (0, 5, true), .inl (-2147483648, 2147483647, true), .inr (.inr ()), .inr (.inl [355]), .inr (.inl [356]), .inr (.inl [357]), .inr (.inl [358]), .inr (.inl [359]), .inr (.inl [360]), .inr (.inl [361]), .inr (.inl [362]), .inr (.inl [363]), .inr (.inl [364]), .inr (.inl [365]), .inl (0, 1, true), .inl (0, 1, true), .inr (.inl [366]), .inr (.inl [367]), .inr (.inl [368]), .inl (0, 16, true), .inr (.inl [369]), .inl (0, 40, true), .inl (0, 40, true), .inr (.inl [370]), .inr (.inl [371]), .inr (.inl [372]), .inr (.inl [373]), .inr (.inl [374]), .inr (.inl [375]), .inr (.inl [376]), .inr (.inl [377]), .inl (-2147483648, 2147483647, true), .inl (-2147483648, 2147483647, true), .inr (.inl [378]), .inr (.inl [379]), .inr (.inl [380]), .inr (.inl [381]), .inr (.inl [382]), .inr (.inl [383]), .inr (.inl [384]), .inl (0, 64, true), .inl (0, 512, true), .inl (-1, 13, true), .inl (-1, 13, true), .inr (.inr ()), .inr (.inl [385]), .inr (.inl [386]), .inr (.inl [387]), .inr (.inl [388]), .inr (.inl [389]), .inr (.inl [390]), .inr (.inl [391]), .inr (.inl [392]), .inr (.inl [393]), .inr (.inl [394]), .inr (.inl [395]), .inr (.inl [396]), .inl (0, 40, true), .inl (0, 100000, true), .inr (.inl [397]), .inr (.inl [398])]))))] [] := fw_vb_ok (by decide +kernel)
theorem lw_o0 {W : fw_W} {h : jm_H} (hg : fw_gh W fw_T h) : ∃ fs, h[0]? = some (.inr (.inr (.inr (11, fs)))) := by
  obtain ⟨-, fs, q, -⟩ := fw_obj (c := 0) lw_ov rfl hg.1
  exact ⟨fs, q⟩
theorem lw_o1 {W : fw_W} {h : jm_H} (hg : fw_gh W fw_T h) : ∃ fs, h[352]? = some (.inr (.inr (.inr (12, fs)))) := by
  obtain ⟨-, fs, q, -⟩ := fw_obj (c := 352) lw_ov rfl hg.1
  exact ⟨fs, q⟩
