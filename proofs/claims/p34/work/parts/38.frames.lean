/-! stores that differ in some cells (and some fields of one; o = 0: of several, 1000 c + i) alone -/
def fw_inF (o : Nat) (F : List Nat) (c i : Nat) : Bool := match Nat.beq o 0 with
  | true => F.any (fun k => Nat.beq (k / 1000) c && Nat.beq (k % 1000) i)
  | false => Nat.beq o c && F.any (fun k => Nat.beq k i)
def fw_oF (o : Nat) (F : List Nat) (c : Nat) : Bool := match Nat.beq o 0 with
  | true => F.any (fun k => Nat.beq (k / 1000) c)
  | false => Nat.beq o c
def fw_inS (S : List Nat) (o : Nat) (F : List Nat) (c i : Nat) : Bool := S.any (fun k => Nat.beq k c) || fw_inF o F c i
theorem fw_inF_no {o : Nat} {F : List Nat} {c i : Nat} (h : fw_oF o F c = false) : fw_inF o F c i = false := by
  unfold fw_inF
  unfold fw_oF at h
  split
  · rename_i e
    rw [e] at h
    dsimp only at h
    rw [List.any_eq_false] at h ⊢
    intro k hk hc
    rw [Bool.and_eq_true] at hc
    exact h k hk hc.1
  · rename_i e
    rw [e] at h
    dsimp only at h
    rw [h]; rfl
theorem fw_inF_sub {o : Nat} {F F1 : List Nat} {c i : Nat} (e : F1.all (fun k => F.any (fun j => Nat.beq j k)) = true) (h : fw_inF o F1 c i = true) : fw_inF o F c i = true := by
  have key : ∀ P : Nat → Bool, F1.any P = true → F.any P = true := fun P hz => by
    obtain ⟨k, k1, k2⟩ := List.any_eq_true.mp hz
    obtain ⟨j, j1, j2⟩ := List.any_eq_true.mp (List.all_eq_true.mp e k k1)
    rw [Nat.eq_of_beq_eq_true j2] at j1
    exact List.any_eq_true.mpr ⟨k, j1, k2⟩
  unfold fw_inF at h ⊢
  split
  · rename_i e2
    rw [e2] at h
    exact key _ h
  · rename_i e2
    rw [e2] at h
    dsimp only at h
    rw [Bool.and_eq_true] at h ⊢
    exact ⟨h.1, key _ h.2⟩
def fw_put (S : List Nat) (o : Nat) (F : List Nat) (W f : fw_W) : fw_W := fun c i => match fw_inS S o F c i with
  | true => f c i
  | false => W c i
def fw_sm (S : List Nat) (o : Nat) (F : List Nat) (W W2 : fw_W) : Prop := ∀ c i, fw_inS S o F c i = false → W2 c i = W c i
theorem fw_sm_eq {S : List Nat} {o : Nat} {F : List Nat} {W W2 : fw_W} (h : fw_sm S o F W W2) : fw_put S o F W W2 = W2 := by
  funext c i
  unfold fw_put
  split
  · rfl
  · rename_i e
    exact (h c i e).symm
theorem fw_sm_use {S : List Nat} {o : Nat} {F : List Nat} {W W2 : fw_W} {Q : fw_W → Prop} (h : fw_sm S o F W W2) (q : Q (fw_put S o F W W2)) : Q W2 := by
  rw [fw_sm_eq h] at q
  exact q
theorem fw_sm_refl {S : List Nat} {o : Nat} {F : List Nat} {W : fw_W} : fw_sm S o F W W := fun _ _ _ => rfl
theorem fw_sm_put0 {S : List Nat} {o : Nat} {F : List Nat} {W f : fw_W} : fw_sm S o F W (fw_put S o F W f) := fun c i e => by
  unfold fw_put
  rw [e]
theorem fw_sm_up {S : List Nat} {o : Nat} {F : List Nat} {W W2 : fw_W} {c : Nat} {i z : Int} (h : fw_sm S o F W W2) (e : fw_inS S o F c i.toNat = true) : fw_sm S o F W (fw_up W2 c i z) := fun c' i' e' => by
  unfold fw_up
  by_cases g : c' = c ∧ i' = i.toNat
  · rw [g.1, g.2, e] at e'
    cases e'
  · rw [if_neg g]
    exact h c' i' e'
theorem fw_sm_arr {S : List Nat} {o : Nat} {F : List Nat} {W W2 : fw_W} {c : Nat} {i z : Int} (h : fw_sm S o F W W2) (e : S.any (fun k => Nat.beq k c) = true) : fw_sm S o F W (fw_up W2 c i z) := fw_sm_up h (by unfold fw_inS; rw [e]; rfl)
def fw_subS (S1 F1 S F : List Nat) : Bool := S1.all (fun k => S.any (fun j => Nat.beq j k)) && F1.all (fun k => F.any (fun j => Nat.beq j k))
theorem fw_sm_put {S S1 : List Nat} {o : Nat} {F F1 : List Nat} {W W2 f : fw_W} (h : fw_sm S o F W W2) (e : fw_subS S1 F1 S F = true) : fw_sm S o F W (fw_put S1 o F1 W2 f) := fun c i e' => by
  unfold fw_put
  split
  · rename_i e1
    exfalso
    unfold fw_subS at e
    unfold fw_inS at e' e1
    rw [Bool.and_eq_true] at e
    rw [Bool.or_eq_false_iff] at e'
    rw [Bool.or_eq_true] at e1
    rcases e1 with e1 | e1
    · obtain ⟨k, k1, k2⟩ := List.any_eq_true.mp e1
      have k3 := List.all_eq_true.mp e.1 k k1
      rw [Nat.eq_of_beq_eq_true k2] at k3
      rw [k3] at e'
      cases e'.1
    · have e'' := e'.2
      rw [fw_inF_sub e.2 e1] at e''
      cases e''
  · exact h c i e'
theorem fw_sm_cp {S : List Nat} {o : Nat} {F : List Nat} {W W2 : fw_W} {d s : Nat} {n : Int} (h : fw_sm S o F W W2) (e : S.any (fun k => Nat.beq k d) = true) : fw_sm S o F W (fw_cp W2 d s n) := fun c' i' e' => by
  unfold fw_cp
  by_cases g : c' = d ∧ i' < n.toNat
  · unfold fw_inS at e'
    rw [g.1, e] at e'
    cases e'
  · rw [if_neg g]
    exact h c' i' e'
theorem jf_put {S : List Nat} {o : Nat} {F : List Nat} {W W2 : fw_W} {T : List ai_C} {d y pc : Nat} {lv : fw_L} {st : List fw_V} {Post : Option fw_V → fw_W → Prop} (h : fw_sm S o F W W2) (q : jf T d y pc lv st (fw_put S o F W W2) Post) : jf T d y pc lv st W2 Post := by
  rw [fw_sm_eq h] at q
  exact q
theorem fw_g_up {W : fw_W} {c : Nat} {i z : Int} (h1 : -2147483648 ≤ z) (h2 : z ≤ 2147483647) : fw_g (fw_up W c i z) c i = z := by
  unfold fw_g
  rw [fw_up_at]
  exact Int32.toInt_ofInt_of_le (by omega) (by omega)
theorem fw_g_un {W : fw_W} {c : Nat} {i j z : Int} (h : i ≠ j) (h1 : 0 ≤ i) (h2 : 0 ≤ j) : fw_g (fw_up W c i z) c j = fw_g W c j := by
  unfold fw_g
  rw [fw_up_nx (by omega)]
theorem fw_g_b (W : fw_W) (c : Nat) (i : Int) : -2147483648 ≤ fw_g W c i ∧ fw_g W c i ≤ 2147483647 := by
  have := ai_b (W c i.toNat)
  unfold ai_min ai_max at this
  exact this
