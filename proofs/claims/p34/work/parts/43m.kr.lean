/-! rows of rows that are known: a row is told by the cell of the rows and its number -/
def fw_rc (c : Nat) (z : Int) : Nat := c + 1 + z.toNat
def fw_kr (T : List ai_C) (c : Nat) : Bool := fw_ce T c (.inr (.inr (.inl (.array .int, (List.range 14).map (fun k => c + 1 + k))))) && ((List.range 14).all (fun k => fw_ce T (c + 1 + k) (.inl (.int, 14, -2147483648, 2147483647, true))) && Nat.ble (c + 20) 900)
theorem fw_kr_ok {T : List ai_C} {c : Nat} (h : fw_kr T c = true) : T[c]? = some (.inr (.inr (.inl (.array .int, (List.range 14).map (fun k => c + 1 + k))))) ∧ (∀ k, k < 14 → T[c + 1 + k]? = some (.inl (.int, 14, -2147483648, 2147483647, true))) ∧ c + 20 ≤ 900 := by
  unfold fw_kr at h
  rw [Bool.and_eq_true, Bool.and_eq_true] at h
  exact ⟨fw_ce_ok h.1, fun k hk => fw_ce_ok (List.all_eq_true.mp h.2.1 k (List.mem_range.mpr hk)), Nat.le_of_ble_eq_true h.2.2⟩
theorem kr_278 : fw_kr fw_T 278 = true := by decide +kernel
theorem kr_302 : fw_kr fw_T 302 = true := by decide +kernel
def fw_upr (W : fw_W) (c : Nat) (z x v : Int) : fw_W := fun c' i' => match Nat.ble (c + 1) c' && Nat.ble c' (c + 14) with
  | true => fw_up W (fw_rc c z) x v c' i'
  | false => W c' i'
theorem fw_upr_eq {W : fw_W} {c : Nat} {z x v : Int} (h0 : 0 ≤ z) (h1 : z < 14) : fw_upr W c z x v = fw_up W (fw_rc c z) x v := by
  funext c' i'
  unfold fw_upr
  split
  · rfl
  · rename_i e
    unfold fw_up
    rw [if_neg]
    rintro ⟨e1, -⟩
    rw [e1] at e
    unfold fw_rc at e
    rw [Nat.ble_eq_true_of_le (show c + 1 ≤ c + 1 + z.toNat by omega), Nat.ble_eq_true_of_le (show c + 1 + z.toNat ≤ c + 14 by omega)] at e
    cases e
section KR
variable {c y nL oc j pc d : Nat} {ret : Option FieldType} {R : fw_P} {lv : fw_L} {r : List fw_V} {W : fw_W} {Post : Option fw_V → fw_W → Prop} {z x v : Int}
theorem jf_aal (hk : fw_kr fw_T c = true) (hm : fw_mk y nL oc ret R = true) (e : (jd_at y)[j]? = some (pc, .aaload, 1)) (hw : 0 ≤ z ∧ z < 14 ∧ jf fw_T (d + 1) y (pc + 1) lv (.inr (.inl (fw_rc c z)) :: r) W Post) : jf fw_T (d + 1) y pc lv (.inl z :: .inr (.inl c) :: r) W Post := by
  obtain ⟨h0, h1, h⟩ := hw
  obtain ⟨q, hq, -⟩ := fw_mk_ok hm
  have hd : decode q.2.1 pc = .ok (.aaload, 1) := jd_in hq (pc, .aaload, 1) (List.mem_of_getElem? e)
  obtain ⟨k1, -, -⟩ := fw_kr_ok hk
  intro lc sc hh hl ht hg
  obtain ⟨i, rc1, rfl, hi, ht1⟩ := fw_t_i ht
  subst hi
  obtain ⟨v0, rc, rfl, e0, hr⟩ := fw_t_cons ht1
  have e0 : v0 = .ref c := e0
  subst e0
  obtain ⟨f, q1, q2⟩ := ai_rarr hg.1 k1
  have el : ((List.range 14).map (fun k => c + 1 + k)).length = 14 := by rw [List.length_map, List.length_range]
  obtain ⟨w1, w2, w3⟩ := fw_ix (i := i) (n := 14) rfl h0 h1
  have hf : f i.toNatClampNeg = some (fw_rc c i.toInt) := by
    rw [q2 _ (by rw [el]; exact w2), List.getElem?_map, List.getElem?_range w2, w3]
    rfl
  have hs : jm_aald (.int i :: .ref c :: rc) hh = some (.ref (fw_rc c i.toInt) :: rc) := by
    rw [el] at q1
    have t1 : jm_tin (.array .int) = true := rfl
    have t2 : jm_isref (.array .int) = true := rfl
    unfold jm_aald
    simp only [q1, w1, hf, t1, t2, and_self, if_true]
  exact jg_step hq (S' := (pc + 1, lc, .ref (fw_rc c i.toInt) :: rc, hh)) (by unfold jm_step; rw [hd]; simp only [jm_nx, hs, if_true]) (h lc _ hh hl ⟨rfl, hr⟩ hg)
theorem jf_ial (hk : fw_kr fw_T c = true) (hm : fw_mk y nL oc ret R = true) (e : (jd_at y)[j]? = some (pc, .iaload, 1)) (hw : 0 ≤ z ∧ z < 14 ∧ 0 ≤ x ∧ x < 14 ∧ (-2147483648 ≤ fw_g W (fw_rc c z) x → fw_g W (fw_rc c z) x ≤ 2147483647 → jf fw_T (d + 1) y (pc + 1) lv (.inl (fw_g W (fw_rc c z) x) :: r) W Post)) : jf fw_T (d + 1) y pc lv (.inl x :: .inr (.inl (fw_rc c z)) :: r) W Post := by
  obtain ⟨h0, h1, h2, h3, h⟩ := hw
  obtain ⟨q, hq, -⟩ := fw_mk_ok hm
  have hd : decode q.2.1 pc = .ok (.iaload, 1) := jd_in hq (pc, .iaload, 1) (List.mem_of_getElem? e)
  obtain ⟨-, k2, -⟩ := fw_kr_ok hk
  have k3 : fw_T[fw_rc c z]? = some (.inl (.int, 14, -2147483648, 2147483647, true)) := k2 z.toNat (by omega)
  intro lc sc hh hl ht hg
  obtain ⟨i, rc1, rfl, hi, ht1⟩ := fw_t_i ht
  subst hi
  obtain ⟨v0, rc, rfl, e0, hr⟩ := fw_t_cons ht1
  have e0 : v0 = .ref (fw_rc c z) := e0
  subst e0
  obtain ⟨f, g1, g2, g3, g4, g5⟩ := fw_rd1 (i := i) k3 hg.1 h2 h3
  have hs : jm_iald (.int i :: .ref (fw_rc c z) :: rc) hh = some (.int (f i.toNatClampNeg) :: rc) := by
    unfold jm_iald
    simp only [g1, g2, if_true]
  exact jg_step hq (S' := (pc + 1, lc, .int (f i.toNatClampNeg) :: rc, hh)) (by unfold jm_step; rw [hd]; simp only [jm_nx, hs, if_true]) (h g3 g4 lc _ hh hl ⟨⟨_, rfl, g5⟩, hr⟩ hg)
theorem jf_ias (hk : fw_kr fw_T c = true) (hm : fw_mk y nL oc ret R = true) (e : (jd_at y)[j]? = some (pc, .iastore, 1)) (hw : 0 ≤ z ∧ z < 14 ∧ 0 ≤ x ∧ x < 14 ∧ jf fw_T (d + 1) y (pc + 1) lv r (fw_upr W c z x v) Post) : jf fw_T (d + 1) y pc lv (.inl v :: .inl x :: .inr (.inl (fw_rc c z)) :: r) W Post := by
  obtain ⟨h0, h1, h2, h3, h⟩ := hw
  obtain ⟨q, hq, -⟩ := fw_mk_ok hm
  have hd : decode q.2.1 pc = .ok (.iastore, 1) := jd_in hq (pc, .iastore, 1) (List.mem_of_getElem? e)
  obtain ⟨-, k2, k4⟩ := fw_kr_ok hk
  have k3 : fw_T[fw_rc c z]? = some (.inl (.int, 14, -2147483648, 2147483647, true)) := k2 z.toNat (by omega)
  rw [fw_upr_eq h0 h1] at h
  intro lc sc hh hl ht hg
  obtain ⟨xx, rc0, rfl, hx, ht0⟩ := fw_t_i ht
  subst hx
  obtain ⟨i, rc1, rfl, hi, ht1⟩ := fw_t_i ht0
  subst hi
  obtain ⟨v0, rc, rfl, e0, hr⟩ := fw_t_cons ht1
  have e0 : v0 = .ref (fw_rc c z) := e0
  subst e0
  obtain ⟨f, g1, g2, g3⟩ := fw_arr k3 hg.1
  obtain ⟨w1, w2, w3⟩ := fw_ix (i := i) (n := 14) rfl h2 h3
  have hb := ai_b xx
  unfold ai_min ai_max at hb
  have hs : jm_iast (.int xx :: .int i :: .ref (fw_rc c z) :: rc) hh = some (rc, hh.set (fw_rc c z) (.inl (.int, 14, upd f i.toNatClampNeg xx))) := by
    unfold jm_iast
    simp only [g1, w1, if_true]
  exact jg_step hq (S' := (pc + 1, lc, rc, hh.set (fw_rc c z) (.inl (.int, 14, upd f i.toNatClampNeg xx)))) (by unfold jm_step; rw [hd]; simp only [jm_nh, hs, if_true]) (h lc _ _ hl hr ⟨fw_ga2 (i := i) (x := xx) k3 hg.1 g2 (g3 rfl) hb w3, fw_nm_up (fw_nm_cell hg.2 (fun y e => by cases e)) (by unfold fw_rc; omega)⟩)
theorem jf_aln (hk : fw_kr fw_T c = true) (hm : fw_mk y nL oc ret R = true) (e : (jd_at y)[j]? = some (pc, .arraylength, 1)) (hw : jf fw_T (d + 1) y (pc + 1) lv (.inl 14 :: r) W Post) : jf fw_T (d + 1) y pc lv (.inr (.inl c) :: r) W Post := by
  obtain ⟨q, hq, -⟩ := fw_mk_ok hm
  have hd : decode q.2.1 pc = .ok (.arraylength, 1) := jd_in hq (pc, .arraylength, 1) (List.mem_of_getElem? e)
  obtain ⟨k1, -, -⟩ := fw_kr_ok hk
  intro lc sc hh hl ht hg
  obtain ⟨v0, rc, rfl, e0, hr⟩ := fw_t_cons ht
  have e0 : v0 = .ref c := e0
  subst e0
  obtain ⟨f, q1, q2⟩ := ai_rarr hg.1 k1
  have el : ((List.range 14).map (fun k => c + 1 + k)).length = 14 := by rw [List.length_map, List.length_range]
  rw [el] at q1
  have hs : jm_alen (.ref c :: rc) hh = some (.int (Int32.ofNat 14) :: rc) := by
    have t1 : jm_tin (.array .int) = true := rfl
    unfold jm_alen
    simp only [q1, t1, if_true]
  exact jg_step hq (S' := (pc + 1, lc, .int (Int32.ofNat 14) :: rc, hh)) (by unfold jm_step; rw [hd]; simp only [jm_nx, hs, if_true]) (hw lc _ hh hl ⟨⟨_, rfl, rfl⟩, hr⟩ hg)
end KR
def fw_rin (S : List Nat) (c : Nat) : Bool := (List.range 14).all (fun k => S.any (fun j => Nat.beq j (c + 1 + k)))
def fw_rout (S : List Nat) (o : Nat) (F : List Nat) (c : Nat) : Bool := (List.range 14).all (fun k => !(S.any (fun j => Nat.beq j (c + 1 + k))) && !(fw_oF o F (c + 1 + k)))
section KF
variable {S F : List Nat} {o c c2 c' : Nat} {W W2 f : fw_W} {z z2 x x2 v i : Int}
theorem fw_sm_upr (h : fw_sm S o F W W2) (e : fw_rin S c = true) : fw_sm S o F W (fw_upr W2 c z x v) := fun c' i' e' => by
  unfold fw_upr
  split
  · rename_i e2
    exfalso
    rw [Bool.and_eq_true] at e2
    have a := Nat.le_of_ble_eq_true e2.1
    have b := Nat.le_of_ble_eq_true e2.2
    have k := List.all_eq_true.mp e (c' - (c + 1)) (List.mem_range.mpr (by omega))
    rw [show c + 1 + (c' - (c + 1)) = c' by omega] at k
    unfold fw_inS at e'
    rw [k, Bool.true_or] at e'
    cases e'
  · exact h c' i' e'
theorem fr_in (h : fw_rin S c = true) (h0 : 0 ≤ z) (h1 : z < 14) : fw_g (fw_put S o F W f) (fw_rc c z) x = fw_g f (fw_rc c z) x := fg_in (List.all_eq_true.mp h z.toNat (List.mem_range.mpr (by omega)))
theorem fr_out (h : fw_rout S o F c = true) (h0 : 0 ≤ z) (h1 : z < 14) : fw_g (fw_put S o F W f) (fw_rc c z) x = fw_g W (fw_rc c z) x := by
  have k := List.all_eq_true.mp h z.toNat (List.mem_range.mpr (by omega))
  rw [Bool.and_eq_true, Bool.not_eq_true', Bool.not_eq_true'] at k
  exact fg_out k.1 k.2
theorem fr_up (h : (Nat.ble c' c || Nat.ble (c + 15) c') = true) (h0 : 0 ≤ z) (h1 : z < 14) : fw_g (fw_up W c' i v) (fw_rc c z) x = fw_g W (fw_rc c z) x := by
  refine fg_up (nbq (fun e => ?_))
  unfold fw_rc at e
  rw [Bool.or_eq_true] at h
  rcases h with h | h
  · have := Nat.le_of_ble_eq_true h
    omega
  · have := Nat.le_of_ble_eq_true h
    omega
theorem fr_if (h0 : 0 ≤ z) (h1 : z < 14) (h2 : 0 ≤ z2) (h3 : z2 < 14) (h4 : 0 ≤ x) (h5 : 0 ≤ x2) (h6 : -2147483648 ≤ v) (h7 : v ≤ 2147483647) : fw_g (fw_upr W c z x v) (fw_rc c z2) x2 = if z = z2 ∧ x = x2 then v else fw_g W (fw_rc c z2) x2 := by
  rw [fw_upr_eq h0 h1]
  by_cases e : z = z2
  · subst e
    rw [fg_if h4 h5 h6 h7]
    by_cases e2 : x = x2
    · rw [if_pos e2, if_pos ⟨rfl, e2⟩]
    · rw [if_neg e2, if_neg (fun q => e2 q.2)]
  · rw [if_neg (fun q => e q.1)]
    refine fg_up (nbq (fun e2 => ?_))
    unfold fw_rc at e2
    omega
theorem fr_upr (h : (Nat.ble (c + 15) c2 || Nat.ble (c2 + 15) c) = true) (h0 : 0 ≤ z2) (h1 : z2 < 14) : fw_g (fw_upr W c z x v) (fw_rc c2 z2) x2 = fw_g W (fw_rc c2 z2) x2 := by
  have e : (Nat.ble (c + 1) (fw_rc c2 z2) && Nat.ble (fw_rc c2 z2) (c + 14)) = false := by
    cases k : (Nat.ble (c + 1) (fw_rc c2 z2) && Nat.ble (fw_rc c2 z2) (c + 14)) with
    | false => rfl
    | true =>
      rw [Bool.and_eq_true] at k
      have a := Nat.le_of_ble_eq_true k.1
      have b := Nat.le_of_ble_eq_true k.2
      unfold fw_rc at a b
      rw [Bool.or_eq_true] at h
      rcases h with h | h
      · have := Nat.le_of_ble_eq_true h
        omega
      · have := Nat.le_of_ble_eq_true h
        omega
  unfold fw_g fw_upr
  rw [e]
theorem fr_o (h : (Nat.ble (c + 1) c' && Nat.ble c' (c + 14)) = false) : fw_g (fw_upr W c z x v) c' i = fw_g W c' i := by
  unfold fw_g fw_upr
  rw [h]
end KF
theorem rw_imp {P A B : Prop} (k : A → B) : (P → A) → P → B := fun h p => k (h p)
theorem rw_all {α : Sort _} {A B : α → Prop} (k : ∀ a, A a → B a) : (∀ a, A a) → ∀ a, B a := fun h a => k a (h a)
