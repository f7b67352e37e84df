/-! cells that stay: frames by ranges of cells -/
def sc (lo hi : Nat) (W W2 : fw_W) : Prop := ∀ c, lo ≤ c → c ≤ hi → W2 c = W c
theorem sc_refl {lo hi : Nat} {W : fw_W} : sc lo hi W W := fun _ _ _ => rfl
theorem sc_tr {lo hi : Nat} {W W1 W2 : fw_W} (a : sc lo hi W W1) (b : sc lo hi W1 W2) : sc lo hi W W2 := fun c h1 h2 => (b c h1 h2).trans (a c h1 h2)
theorem sc_sub {lo hi l h : Nat} {W W2 : fw_W} (a : sc lo hi W W2) (h1 : lo ≤ l) (h2 : h ≤ hi) : sc l h W W2 := fun c k1 k2 => a c (by omega) (by omega)
def sc_b (lo hi : Nat) (S F : List Nat) : Bool := S.all (fun s => Nat.ble (s + 1) lo || Nat.ble (hi + 1) s) && F.all (fun k => Nat.ble (k / 1000 + 1) lo || Nat.ble (hi + 1) (k / 1000))
theorem sc_bi {lo hi : Nat} {S F : List Nat} (h : sc_b lo hi S F = true) {c i : Nat} (h1 : lo ≤ c) (h2 : c ≤ hi) : fw_inS S 0 F c i = false := by
  unfold sc_b at h
  rw [Bool.and_eq_true, List.all_eq_true, List.all_eq_true] at h
  unfold fw_inS
  rw [Bool.or_eq_false_iff]
  refine ⟨List.any_eq_false.mpr (fun k hk e => ?_), ?_⟩
  · have e := Nat.eq_of_beq_eq_true e
    have := h.1 k hk
    rw [Bool.or_eq_true] at this
    rcases this with a | a <;> (have := Nat.le_of_ble_eq_true a; omega)
  · unfold fw_inF
    show F.any _ = false
    refine List.any_eq_false.mpr (fun k hk e => ?_)
    rw [Bool.and_eq_true] at e
    have e := Nat.eq_of_beq_eq_true e.1
    have := h.2 k hk
    rw [Bool.or_eq_true] at this
    rcases this with a | a <;> (have := Nat.le_of_ble_eq_true a; omega)
theorem sc_sm {lo hi : Nat} {S F : List Nat} {W W2 : fw_W} (h : fw_sm S 0 F W W2) (e : sc_b lo hi S F = true) : sc lo hi W W2 := fun c h1 h2 => funext (fun i => h c i (sc_bi e h1 h2))
theorem sc_put {lo hi : Nat} {S F : List Nat} {W f : fw_W} (e : sc_b lo hi S F = true) : sc lo hi W (fw_put S 0 F W f) := sc_sm fw_sm_put0 e
theorem sc_up {lo hi c : Nat} {W : fw_W} {i z : Int} (h : c < lo ∨ hi < c) : sc lo hi W (fw_up W c i z) := fun c' h1 h2 => funext (fun i' => by
  unfold fw_up
  rw [if_neg (by omega)])
theorem fw_up_c {W : fw_W} {c c' : Nat} {i z : Int} (h : c' ≠ c) : fw_up W c i z c' = W c' := funext (fun i' => by
  unfold fw_up
  rw [if_neg (fun e => h e.1)])
theorem fw_cp_c {W : fw_W} {d s c' : Nat} {n : Int} (h : c' ≠ d) : fw_cp W d s n c' = W c' := funext (fun i' => by
  unfold fw_cp
  rw [if_neg (fun e => h e.1)])
theorem sc_cpy {lo hi s t : Nat} {W : fw_W} (h : s + 3 < lo ∨ hi < s) : sc lo hi W (cpy W s t) := fun c h1 h2 => by
  unfold cpy cpy3 cpy2 cpy1
  rw [fw_cp_c (by omega), fw_cp_c (by omega), fw_cp_c (by omega), fw_up_c (by omega), fw_up_c (by omega)]
theorem sc_g {lo hi c : Nat} {W W2 : fw_W} {i : Int} (a : sc lo hi W W2) (h1 : lo ≤ c) (h2 : c ≤ hi) : fw_g W2 c i = fw_g W c i := by
  unfold fw_g
  rw [a c h1 h2]
theorem ta_sc {lo hi c : Nat} {W W2 : fw_W} (a : sc lo hi W W2) (h1 : lo ≤ c) (h2 : c + 1 ≤ hi) (h : ta W c) : ta W2 c := by
  have e0 : fw_g W2 c 0 = fw_g W c 0 := sc_g a h1 (by omega)
  obtain ⟨a1, a2, a3⟩ := h
  refine ⟨by rw [e0]; exact a1, by rw [e0]; exact a2, ?_⟩
  rw [e0]
  exact tr_congr a3 (fun k k1 k2 => sc_g a (by omega) h2)
theorem ka_sc {W W2 : fw_W} (a : sc 39 202 W W2) (h : ka W) : ka W2 := fun k hk => by
  have := kpl_m hk
  exact ta_sc a (by omega) (by omega) (h k hk)
/-- the kept towns, and how far the acts go -/
def nl (W : fw_W) : Prop := fw_g W 37 0 ≤ fw_g W 37 1
def kz (W : fw_W) : Prop := ka W ∧ nl W
theorem nl_sc {W W2 : fw_W} (a : sc 37 37 W W2) (h : nl W) : nl W2 := by
  unfold nl
  rw [sc_g a (by omega) (by omega), sc_g a (by omega) (by omega)]
  exact h
theorem kz_sc {W W2 : fw_W} (a : sc 37 202 W W2) (h : kz W) : kz W2 := ⟨ka_sc (sc_sub a (by omega) (by omega)) h.1, nl_sc (sc_sub a (by omega) (by omega)) h.2⟩
theorem ba_sc {W W2 : fw_W} (a : sc 340 351 W W2) (h : ba W) : ba W2 := ⟨ta_sc a (by omega) (by omega) h.1, ta_sc a (by omega) (by omega) h.2.1, ta_sc a (by omega) (by omega) h.2.2⟩
def oi (W : fw_W) : Prop := ∀ j, 1 ≤ j → j < fw_g W 12 0 → 1 ≤ fw_g W 204 j ∧ fw_g W 204 j < fw_g W 12 0
theorem oi_sc {W W2 : fw_W} (a : sc 12 12 W W2) (b : sc 204 204 W W2) (h : oi W) : oi W2 := fun j h1 h2 => by
  rw [sc_g a (by omega) (by omega)] at h2
  rw [sc_g b (by omega) (by omega), sc_g a (by omega) (by omega)]
  exact h j h1 h2
/-- the class's time stays, and all cells of the reference -/
def tm (W W2 : fw_W) : Prop := W2 324 1 = W 324 1
def fs (W W2 : fw_W) : Prop := sc 352 1000 W W2 ∧ tm W W2
theorem fs_refl {W : fw_W} : fs W W := ⟨sc_refl, rfl⟩
theorem fs_tr {W W1 W2 : fw_W} (a : fs W W1) (b : fs W1 W2) : fs W W2 := ⟨sc_tr a.1 b.1, Eq.trans b.2 a.2⟩
theorem fs_sc {W W2 : fw_W} (a : sc 352 1000 W W2) (b : sc 324 324 W W2) : fs W W2 := ⟨a, by unfold tm; rw [b 324 (by omega) (by omega)]⟩
theorem fs_sc1 {W W2 : fw_W} (a : sc 324 1000 W W2) : fs W W2 := fs_sc (sc_sub a (by omega) (by omega)) (sc_sub a (by omega) (by omega))
/-- what holds of the class between calls -/
def ci (W : fw_W) : Prop := ta W 12 ∧ kz W ∧ ba W ∧ oi W
/-- but for the acts -/
def ak (W W2 : fw_W) : Prop := sc 0 36 W W2 ∧ sc 203 1000 W W2
def o37 (W W2 : fw_W) : Prop := ∀ c, c ≠ 37 → W2 c = W c
theorem o37_refl {W : fw_W} : o37 W W := fun _ _ => rfl
theorem o37_up {W W2 : fw_W} {i z : Int} (h : o37 W W2) : o37 W (fw_up W2 37 i z) := fun c hc => by rw [fw_up_c hc]; exact h c hc
theorem o37_sc {lo hi : Nat} {W W2 : fw_W} (h : o37 W W2) (e : 37 < lo ∨ hi < 37) : sc lo hi W W2 := fun c h1 h2 => h c (by omega)
theorem ak_cpy {W W1 : fw_W} {k : Nat} (hk : k ∈ kpl) (h : o37 W W1) (n : fw_g W1 37 0 ≤ fw_g W1 37 1) (a : ta W 12 ∧ kz W) : ak W (cpy W1 k 12) ∧ kz (cpy W1 k 12) := by
  have := kpl_m hk
  exact ⟨⟨sc_tr (o37_sc h (by omega)) (sc_cpy (by omega)), sc_tr (o37_sc h (by omega)) (sc_cpy (by omega))⟩, ka_cpy hk (ta_sc (lo := 12) (hi := 13) (o37_sc h (by omega)) (by omega) (by omega) a.1) (ka_sc (o37_sc h (by omega)) a.2.1), nl_sc (sc_cpy (by omega)) n⟩
/-- but for the acts and the present town -/
def ab (W W2 : fw_W) : Prop := sc 0 11 W W2 ∧ sc 16 36 W W2 ∧ sc 39 1000 W W2
theorem ab_refl {W : fw_W} : ab W W := ⟨sc_refl, sc_refl, sc_refl⟩
theorem ab_cpy {W W1 : fw_W} {k : Nat} (hk : k ∈ kpl) (h : o37 W W1) (n : fw_g W1 37 0 ≤ fw_g W1 37 1) (a : ta W 12 ∧ kz W) : ab W (cpy W1 12 k) ∧ ta (cpy W1 12 k) 12 ∧ nl (cpy W1 12 k) := by
  have := kpl_m hk
  exact ⟨⟨sc_tr (o37_sc h (by omega)) (sc_cpy (by omega)), sc_tr (o37_sc h (by omega)) (sc_cpy (by omega)), sc_tr (o37_sc h (by omega)) (sc_cpy (by omega))⟩, cpy_ta (by unfold far4; omega) (ta_sc (lo := 39) (hi := 202) (o37_sc h (by omega)) (by omega) (by omega) (a.2.1 k hk)), nl_sc (sc_cpy (by omega)) n⟩

