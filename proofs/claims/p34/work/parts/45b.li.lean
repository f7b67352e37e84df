/-! between calls -/
/-! what holds between the law's calls -/
def te (W : fw_W) : Prop := W 324 1 = W 352 66 ∧ 0 ≤ fw_g W 324 1 ∧ fw_g W 324 1 ≤ 100000
theorem te_eq {W f : fw_W} (e1 : f 324 1 = W 324 1) (e2 : f 352 66 = W 352 66) (h : te W) : te f := by
  have g : fw_g f 324 1 = fw_g W 324 1 := by unfold fw_g; exact congrArg Int32.toInt e1
  unfold te
  rw [e1, e2, g]
  exact h
def li (W : fw_W) : Prop := ci W ∧ mi W ∧ te W
theorem fw_if_mk {b : Bool} {P : Prop} (h : b = true) (q : P) : fw_if b P := by
  subst h
  exact q
theorem mi_eq {W W2 : fw_W} (e1 : W2 366 = W 366) (e2 : W2 369 = W 369) (e3 : W2 397 = W 397) (e4 : W2 352 29 = W 352 29) (e5 : W2 352 30 = W 352 30) (h : mi W) : mi W2 := by
  have g1 : ∀ i, fw_g W2 366 i = fw_g W 366 i := fun i => by unfold fw_g; rw [e1]
  have g2 : ∀ i, fw_g W2 369 i = fw_g W 369 i := fun i => by unfold fw_g; rw [e2]
  have g3 : ∀ i, fw_g W2 397 i = fw_g W 397 i := fun i => by unfold fw_g; rw [e3]
  have g4 : fw_g W2 352 29 = fw_g W 352 29 := by unfold fw_g; exact congrArg Int32.toInt e4
  have g5 : fw_g W2 352 30 = fw_g W 352 30 := by unfold fw_g; exact congrArg Int32.toInt e5
  unfold mi mt tw at h ⊢
  simp only [g1, g2, g3, g4, g5]
  exact h
theorem mi_sc {W W2 : fw_W} (a : sc 352 398 W W2) (h : mi W) : mi W2 := mi_eq (a 366 (by omega) (by omega)) (a 369 (by omega) (by omega)) (a 397 (by omega) (by omega)) (by rw [a 352 (by omega) (by omega)]) (by rw [a 352 (by omega) (by omega)]) h
theorem ci_sc {W W2 : fw_W} (a : sc 0 351 W W2) (h : ci W) : ci W2 := ⟨ta_sc a (by omega) (by omega) h.1, kz_sc (sc_sub a (by omega) (by omega)) h.2.1, ba_sc (sc_sub a (by omega) (by omega)) h.2.2.1, oi_sc (sc_sub a (by omega) (by omega)) (sc_sub a (by omega) (by omega)) h.2.2.2⟩
theorem li_k {W f : fw_W} (h : li W) (a : fs W f) (b : ci f) : li f := ⟨b, mi_sc (sc_sub a.1 (by omega) (by omega)) h.2.1, te_eq a.2 (by rw [a.1 352 (by omega) (by omega)]) h.2.2⟩
theorem put_at {S : List Nat} {o : Nat} {F : List Nat} {W f : fw_W} {c i : Nat} (h : fw_inS S o F c i = false) : fw_put S o F W f c i = W c i := by
  unfold fw_put
  rw [h]
theorem li_kput {S F : List Nat} {W f : fw_W} (h : li W) (e1 : sc_b 12 13 S F = true) (e2 : sc_b 37 202 S F = true) (e3 : sc_b 204 204 S F = true) (e4 : sc_b 340 398 S F = true) (e5 : fw_inS S 0 F 324 1 = false) : li (fw_put S 0 F W f) :=
  ⟨⟨ta_sc (sc_put e1) (by omega) (by omega) h.1.1, kz_sc (sc_put e2) h.1.2.1, ba_sc (sc_sub (sc_put e4) (by omega) (by omega)) h.1.2.2.1, oi_sc (sc_sub (sc_put e1) (by omega) (by omega)) (sc_put e3) h.1.2.2.2⟩, mi_sc (sc_sub (sc_put e4) (by omega) (by omega)) h.2.1, te_eq (put_at e5) (by
    have a : sc 352 398 W (fw_put S 0 F W f) := sc_sub (sc_put e4) (by omega) (by omega)
    rw [a 352 (by omega) (by omega)]) h.2.2⟩
theorem li_img {S F : List Nat} {W f : fw_W} (h : li W) (b : ba (fw_put S 0 F W f)) (e1 : sc_b 12 13 S F = true) (e2 : sc_b 37 202 S F = true) (e3 : sc_b 204 204 S F = true) (e4 : sc_b 352 398 S F = true) (e5 : fw_inS S 0 F 324 1 = false) : li (fw_put S 0 F W f) :=
  ⟨⟨ta_sc (sc_put e1) (by omega) (by omega) h.1.1, kz_sc (sc_put e2) h.1.2.1, b, oi_sc (sc_sub (sc_put e1) (by omega) (by omega)) (sc_put e3) h.1.2.2.2⟩, mi_sc (sc_put e4) h.2.1, te_eq (put_at e5) (by
    have a : sc 352 398 W (fw_put S 0 F W f) := sc_put e4
    rw [a 352 (by omega) (by omega)]) h.2.2⟩
/-- the reference's cells alone -/
def sm_b (S : List Nat) : Bool := S.all (fun s => Nat.ble 353 s)
theorem sm_sc {S F : List Nat} {W f : fw_W} (e : sm_b S = true) : sc 0 351 W (fw_put S 352 F W f) := fun c h1 h2 => funext (fun i => put_at (by
  unfold fw_inS
  rw [Bool.or_eq_false_iff]
  refine ⟨List.any_eq_false.mpr (fun k hk z => ?_), ?_⟩
  · have z := Nat.eq_of_beq_eq_true z
    have := Nat.le_of_ble_eq_true (List.all_eq_true.mp e k hk)
    omega
  · unfold fw_inF
    show (Nat.beq 352 c && _) = false
    rw [nbq (by omega : 352 ≠ c)]
    rfl))
theorem li_m {S F : List Nat} {W f : fw_W} (h : li W) (e : sm_b S = true) (e2 : fw_inS S 352 F 352 66 = false) (q : mi (fw_put S 352 F W f)) : li (fw_put S 352 F W f) := ⟨ci_sc (sm_sc e) h.1, q, te_eq (by
  have a : sc 0 351 W (fw_put S 352 F W f) := sm_sc e
  rw [a 324 (by omega) (by omega)]) (put_at e2) h.2.2⟩
theorem li_m0 {S F : List Nat} {W f : fw_W} (h : li W) (e : sm_b S = true) (e2 : fw_inS S 352 F 352 66 = false) (e3 : (S.any (fun k => Nat.beq k 366) || (S.any (fun k => Nat.beq k 369) || S.any (fun k => Nat.beq k 397))) = false) (e4 : fw_inS S 352 F 352 29 = false) (e5 : fw_inS S 352 F 352 30 = false) : li (fw_put S 352 F W f) := by
  rw [Bool.or_eq_false_iff, Bool.or_eq_false_iff] at e3
  have key : ∀ c, 352 ≠ c → S.any (fun k => Nat.beq k c) = false → fw_put S 352 F W f c = W c := fun c hc z => funext (fun i => put_at (by
    unfold fw_inS fw_inF
    rw [z]
    show (false || (Nat.beq 352 c && _)) = false
    rw [nbq hc]
    rfl))
  exact li_m h e e2 (mi_eq (key 366 (by omega) e3.1) (key 369 (by omega) e3.2.1) (key 397 (by omega) e3.2.2) (put_at e4) (put_at e5) h.2.1)
theorem li_mm {W : fw_W} (h : li W) : mt W ∧ 0 ≤ fw_g W 366 0 ∧ fw_g W 366 0 ≤ 14 := ⟨h.2.1.1, h.2.1.1.1, h.2.1.1.2.1⟩
theorem li_mi {W : fw_W} (h : li W) : mt W ∧ 0 ≤ fw_g W 366 0 ∧ fw_g W 366 0 ≤ 14 ∧ mi W ∧ 0 ≤ fw_g W 352 29 ∧ 0 ≤ fw_g W 352 30 ∧ fw_g W 352 29 + fw_g W 352 30 ≤ 40 := ⟨h.2.1.1, h.2.1.1.1, h.2.1.1.2.1, h.2.1, h.2.1.2.2.2.1, h.2.1.2.2.2.2.1, h.2.1.2.2.2.2.2⟩
theorem li_pn {W : fw_W} (h : li W) : 0 ≤ fw_g W 12 0 ∧ fw_g W 12 0 ≤ 14 := ⟨h.1.1.1, h.1.1.2.1⟩
theorem li_to {W : fw_W} (h : li W) : tr (fw_g W 12 0) (fun z => fw_g W 13 z) ∧ 0 ≤ fw_g W 12 0 ∧ fw_g W 12 0 ≤ 14 ∧ (∀ j, 1 ≤ j → j < fw_g W 12 0 → 1 ≤ fw_g W 204 j ∧ fw_g W 204 j < fw_g W 12 0) := ⟨h.1.1.2.2, h.1.1.1, h.1.1.2.1, h.1.2.2.2⟩
/-- an answer that is an int, a long -/
def an_i (a : Option fw_V) : Prop := ∃ z, a = some (.inl z)
def an_l (a : Option fw_V) : Prop := a = some (.inr (.inr 1000))
/-- later: both sides alike -/
def lt_ (b t v : Int) (t2 : Int) : Prop := ((0 ≤ b ∧ b ≤ 1000 ∧ t + b ≤ 100000) ∧ v = t + b ∧ t2 = t + b) ∨ (¬ (0 ≤ b ∧ b ≤ 1000 ∧ t + b ≤ 100000) ∧ v = -1 ∧ t2 = t)
theorem uk_later {W : fw_W} {b : Int} (h : li W) : jc fw_T (0 + 2) 181 [.inr (.inl 0), .inl b] W (fun a W1 => ∃ v, a = some (.inl v) ∧ ci W1 ∧ mi W1 ∧ W1 352 66 = W 352 66 ∧ lt_ b (fw_g W 324 1) v (fw_g W1 324 1)) := jc_of (x_k_later_ok 0 [.inr (.inl 0), .inl b] W _ (show fw_if _ _ from fw_if_mk rfl ⟨h.2.2.2, fun v f hv => ⟨v, rfl, ⟨ta_sc (lo := 12) (hi := 13) (sc_put rfl) (by omega) (by omega) h.1.1, kz_sc (sc_put rfl) h.1.2.1, ba_sc (sc_put rfl) h.1.2.2.1, oi_sc (sc_put rfl) (sc_put rfl) h.1.2.2.2⟩, mi_sc (sc_put rfl) h.2.1, put_at rfl, hv.2.2⟩⟩))
theorem um_later {W W1 : fw_W} {b v : Int} (h : li W) (h1 : ci W1 ∧ mi W1 ∧ W1 352 66 = W 352 66 ∧ lt_ b (fw_g W 324 1) v (fw_g W1 324 1)) : jc fw_T (0 + 2) 302 [.inr (.inl 352), .inl b] W1 (fun a W2 => a = some (.inl v) ∧ li W2) := by
  have t0 := h.2.2
  have g1 : fw_g W1 352 66 = fw_g W 324 1 := by
    unfold fw_g
    show (W1 352 66).toInt = (W 324 1).toInt
    rw [h1.2.2.1, t0.1]
  refine jc_of (x_later_ok 0 [.inr (.inl 352), .inl b] W1 _ (show fw_if _ _ from fw_if_mk rfl ⟨by rw [g1]; exact t0.2, fun v2 f hv => ?_⟩))
  have q := hv.2.2
  rw [g1] at q
  have e1 : v2 = v ∧ fw_g f 352 66 = fw_g W1 324 1 ∧ 0 ≤ fw_g W1 324 1 ∧ fw_g W1 324 1 ≤ 100000 := by
    have p := h1.2.2.2
    unfold lt_ at p
    have := t0.2
    omega
  have sc1 : sc 0 351 W1 (fw_put [] 352 [66] W1 f) := sm_sc rfl
  have gp : fw_g (fw_put [] 352 [66] W1 f) 324 1 = fw_g W1 324 1 := sc_g sc1 (by omega) (by omega)
  refine ⟨by rw [e1.1], ci_sc sc1 h1.1, mi_eq (funext (fun i => put_at rfl)) (funext (fun i => put_at rfl)) (funext (fun i => put_at rfl)) (put_at rfl) (put_at rfl) h1.2.1, ?_, ?_⟩
  · rw [sc1 324 (by omega) (by omega)]
    show W1 324 1 = f 352 66
    exact Int32.toInt_inj.mp e1.2.1.symm
  · rw [gp]; exact e1.2.2
