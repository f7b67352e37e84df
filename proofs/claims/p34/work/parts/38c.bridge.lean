/-! from the checker to contracts: a method that passes with some cells and fields open changes these alone -/
def fw_u1 (F : Nat → Bool) (k : Nat) (t : ai_F) : ai_F := match t with
  | .inl (lo, hi, b) => if F k = true then .inl (lo, hi, false) else .inl (lo, hi, b)
  | t => t
def fw_uf (F : Nat → Bool) : Nat → List ai_F → List ai_F
  | _, [] => []
  | k, t :: l => fw_u1 F k t :: fw_uf F (k + 1) l
def fw_uc (S : List Nat) (o : Nat) (F : List Nat) (k : Nat) (c : ai_C) : ai_C := match c with
  | .inl (t, n, lo, hi, b) => if S.any (fun j => Nat.beq j k) = true then .inl (t, n, lo, hi, false) else .inl (t, n, lo, hi, b)
  | .inr (.inr (.inr (ci, ts))) => .inr (.inr (.inr (ci, fw_uf (fw_inF o F k) 0 ts)))
  | .inr (.inl n) => .inr (.inl n)
  | .inr (.inr (.inl x)) => .inr (.inr (.inl x))
def fw_un (S : List Nat) (o : Nat) (F : List Nat) : Nat → List ai_C → List ai_C
  | _, [] => []
  | k, c :: l => fw_uc S o F k c :: fw_un S o F (k + 1) l
theorem fw_uf_at {F : Nat → Bool} : ∀ (ts : List ai_F) (k j : Nat), (fw_uf F k ts)[j]? = (ts[j]?).map (fw_u1 F (k + j))
  | [], k, j => by simp [fw_uf]
  | t :: l, k, 0 => by simp [fw_uf]
  | t :: l, k, j + 1 => by
    unfold fw_uf
    rw [List.getElem?_cons_succ, List.getElem?_cons_succ, fw_uf_at l (k + 1) j]
    rw [show k + 1 + j = k + (j + 1) by omega]
theorem fw_uf_len {F : Nat → Bool} : ∀ (ts : List ai_F) (k : Nat), (fw_uf F k ts).length = ts.length
  | [], k => rfl
  | t :: l, k => by unfold fw_uf; rw [List.length_cons, List.length_cons, fw_uf_len l (k + 1)]
theorem fw_un_at {S : List Nat} {o : Nat} {F : List Nat} : ∀ (T : List ai_C) (k j : Nat), (fw_un S o F k T)[j]? = (T[j]?).map (fw_uc S o F (k + j))
  | [], k, j => by simp [fw_un]
  | t :: l, k, 0 => by simp [fw_un]
  | t :: l, k, j + 1 => by
    unfold fw_un
    rw [List.getElem?_cons_succ, List.getElem?_cons_succ, fw_un_at l (k + 1) j]
    rw [show k + 1 + j = k + (j + 1) by omega]
theorem fw_un_len {S : List Nat} {o : Nat} {F : List Nat} : ∀ (T : List ai_C) (k : Nat), (fw_un S o F k T).length = T.length
  | [], k => rfl
  | t :: l, k => by unfold fw_un; rw [List.length_cons, List.length_cons, fw_un_len l (k + 1)]
theorem fw_u1_r {F : Nat → Bool} {k : Nat} {t : ai_F} {v : Value} : ai_gr (fw_u1 F k t) v ↔ ai_gr t v := by
  unfold fw_u1
  split
  · split <;> exact Iff.rfl
  · exact Iff.rfl
theorem fw_melt {S : List Nat} {o : Nat} {F : List Nat} {W : fw_W} {T : List ai_C} {h : jm_H} (hh : ai_gh W T h) : ai_gh W (fw_un S o F 0 T) h := by
  refine ⟨by rw [fw_un_len]; exact hh.1, fun k a' c ha hc => ?_⟩
  rw [fw_un_at, Nat.zero_add] at ha
  cases hT : T[k]? with
  | none => rw [hT] at ha; cases ha
  | some a =>
    rw [hT] at ha
    have ea : fw_uc S o F k a = a' := Option.some.inj ha
    subst ea
    have g := hh.2 k a c hT hc
    unfold fw_uc
    split
    · rename_i t n lo hi b
      split
      · cases c with
        | inl c =>
          obtain ⟨t', n', f⟩ := c
          exact ⟨g.1, g.2.1, g.2.2.1, fun z => by cases z⟩
        | inr c => exact g
      · exact g
    · rename_i ci ts
      rcases c with c | c | c | ⟨ci', fs⟩
      · exact g
      · exact g
      · exact g
      · refine ⟨g.1, by rw [fw_uf_len]; exact g.2.1, fun i t v h1 h2 => ?_⟩
        rw [fw_uf_at, Nat.zero_add] at h1
        cases ht : ts[i]? with
        | none => rw [ht] at h1; cases h1
        | some t0 =>
          rw [ht] at h1
          have et : fw_u1 (fw_inF o F k) i t0 = t := Option.some.inj h1
          subst et
          have g3 := g.2.2 i t0 v ht h2
          refine ⟨fw_u1_r.mpr g3.1, ?_⟩
          unfold fw_u1
          split
          · split
            · exact trivial
            · exact g3.2
          · exact g3.2
    · exact g
    · exact g
/-- what a heap holds at a place -/
def fw_rh (h : jm_H) (c i : Nat) : Int32 := match h[c]? with
  | some (.inl (_, _, f)) => f i
  | some (.inr (.inr (.inr (_, fs)))) => (match fs[i]? with
    | some (.int v) => v
    | _ => 0)
  | _ => 0
theorem fw_frost {S : List Nat} {o : Nat} {F : List Nat} {W : fw_W} {T : List ai_C} {h : jm_H} (hh : ai_gh W (fw_un S o F 0 T) h) : ∃ W', ai_gh W' T h ∧ fw_sm S o F W W' := by
  refine ⟨fun c i => match fw_inS S o F c i with
    | true => fw_rh h c i
    | false => W c i, ⟨by rw [hh.1, fw_un_len], fun k a c hT hc => ?_⟩, fun c i e => by dsimp only; rw [e]⟩
  have g := hh.2 k (fw_uc S o F k a) c (by rw [fw_un_at, Nat.zero_add, hT]; rfl) hc
  unfold fw_uc at g
  split at g
  · rename_i t n lo hi b
    rcases c with ⟨t', n', f⟩ | c
    · have hr : ∀ i, fw_rh h k i = f i := fun i => by unfold fw_rh; rw [hc]
      split at g
      · rename_i hS
        refine ⟨g.1, g.2.1, g.2.2.1, fun _ i hi => ?_⟩
        have e : fw_inS S o F k i = true := by unfold fw_inS; rw [hS]; rfl
        show f i = match fw_inS S o F k i with
          | true => fw_rh h k i
          | false => W k i
        rw [e]
        exact (hr i).symm
      · refine ⟨g.1, g.2.1, g.2.2.1, fun hb i hi => ?_⟩
        show f i = match fw_inS S o F k i with
          | true => fw_rh h k i
          | false => W k i
        split
        · exact (hr i).symm
        · exact g.2.2.2 hb i hi
    · split at g <;> exact g
  · rename_i ci ts
    rcases c with c | c | c | ⟨ci', fs⟩
    · exact g
    · exact g
    · exact g
    · have hr : ∀ i x, fs[i]? = some (.int x) → fw_rh h k i = x := fun i x e => by unfold fw_rh; rw [hc]; dsimp only; rw [e]
      have key : ∀ (i : Nat) (t : ai_F) (v : Value), ts[i]? = some t → fs[i]? = some v → ai_gr t v ∧ ((fw_inS S o F k i = true) ∨ ai_fz (W k i) t v) := fun i t v h1 h2 => by
        have g3 := g.2.2 i (fw_u1 (fw_inF o F k) i t) v (by rw [fw_uf_at, Nat.zero_add, h1]; rfl) h2
        refine ⟨fw_u1_r.mp g3.1, ?_⟩
        by_cases hF : fw_inF o F k i = true
        · left
          unfold fw_inS
          rw [hF, Bool.or_true]
        · right
          have g4 := g3.2
          unfold fw_u1 at g4
          split at g4
          · rw [if_neg hF] at g4; exact g4
          · exact g4
      have hl : fs.length = ts.length := by
        have := g.2.1; rw [fw_uf_len] at this; exact this
      have hci : ci' = ci := g.1
      refine ⟨hci, hl, fun i t v h1 h2 => ?_⟩
      obtain ⟨k1, k2⟩ := key i t v h1 h2
      refine ⟨k1, ?_⟩
      show ai_fz (match fw_inS S o F k i with
        | true => fw_rh h k i
        | false => W k i) t v
      unfold ai_fz
      split
      · obtain ⟨x, rfl, -, -⟩ := k1
        split
        · rw [hr i x h2]
        · rename_i e
          rcases k2 with k2 | k2
          · rw [k2] at e; cases e
          · exact k2
      · exact trivial
  · rcases c with c | c | c | c <;> exact g
  · rcases c with c | c | c | c <;> exact g
/-- arguments: an int of a range, a cell -/
abbrev bg_S : Type := List ((Int × Int) ⊕ Nat)
def bg_v : Nat → bg_S → List ai_V
  | _, [] => []
  | x, .inl _ :: l => .inl (x, 0) :: bg_v (x + 1) l
  | x, .inr k :: l => .inr (.inl [k]) :: bg_v x l
def bg_c : Nat → bg_S → ai_K
  | _, [] => []
  | x, .inl q :: l => (x, 0, q.2) :: (0, x, -q.1) :: bg_c (x + 1) l
  | x, .inr _ :: l => bg_c x l
def bg_n : Nat → bg_S → Nat
  | x, [] => x
  | x, .inl _ :: l => bg_n (x + 1) l
  | x, .inr _ :: l => bg_n x l
def bg_f : bg_S → List fw_V → Prop
  | [], [] => True
  | .inl q :: l, .inl z :: as => q.1 ≤ z ∧ z ≤ q.2 ∧ bg_f l as
  | .inr k :: l, .inr (.inl j) :: as => j = k ∧ bg_f l as
  | _, _ => False
theorem bg_ex {T : List ai_C} : ∀ (s : bg_S) (x : Nat) (as : List fw_V) (asc : List Value) (ρ0 : Nat → Int), 0 < x → ρ0 0 = 0 → bg_f s as → fw_t T as asc → ∃ ρ, (∀ i, i < x → ρ i = ρ0 i) ∧ ai_gt (bg_n x s) ρ (bg_v x s) asc ∧ ai_gk (bg_n x s) ρ (bg_c x s) ∧ x ≤ bg_n x s := by
  intro s
  induction s with
  | nil =>
    intro x as asc ρ0 hx h0 hf ht
    cases as with
    | nil => cases asc with
      | nil => exact ⟨ρ0, fun _ _ => rfl, trivial, (fun q hq => by cases hq), Nat.le_refl _⟩
      | cons _ _ => exact ht.elim
    | cons _ _ => exact hf.elim
  | cons a l ih =>
    intro x as asc ρ0 hx h0 hf ht
    cases as with
    | nil => cases a <;> exact hf.elim
    | cons b as =>
      cases asc with
      | nil => exact ht.elim
      | cons v asc =>
        cases a with
        | inl q =>
          cases b with
          | inr c => exact hf.elim
          | inl z =>
            obtain ⟨i, hv, hi⟩ := ht.1
            obtain ⟨ρ, r1, r2, r3, r4⟩ := ih (x + 1) as asc (fun j => if j = x then z else ρ0 j) (by omega) (by show (if (0 : Nat) = x then z else ρ0 0) = 0; rw [if_neg (by omega)]; exact h0) hf.2.2 ht.2
            have rx : ρ x = z := by rw [r1 x (by omega), if_pos rfl]
            have r0 : ρ 0 = 0 := by rw [r1 0 (by omega), if_neg (by omega)]; exact h0
            refine ⟨ρ, fun j hj => by rw [r1 j (by omega), if_neg (by omega)], ⟨⟨by show x < bg_n (x + 1) l; omega, i, hv, by rw [rx, hi]; omega⟩, r2⟩, fun p hp => ?_, by show x ≤ bg_n (x + 1) l; omega⟩
            rcases List.mem_cons.mp hp with rfl | hp
            · refine ⟨by show x < bg_n (x + 1) l; omega, by show 0 < bg_n (x + 1) l; omega, ?_⟩
              show ρ x - ρ 0 ≤ q.2
              rw [rx, r0]
              have := hf.2.1
              omega
            · rcases List.mem_cons.mp hp with rfl | hp
              · refine ⟨by show 0 < bg_n (x + 1) l; omega, by show x < bg_n (x + 1) l; omega, ?_⟩
                show ρ 0 - ρ x ≤ -q.1
                rw [rx, r0]
                have := hf.1
                omega
              · exact r3 p hp
        | inr k =>
          cases b with
          | inl z => exact hf.elim
          | inr c =>
            cases c with
            | inr c => exact hf.elim
            | inl j =>
              obtain ⟨hj, hf2⟩ := hf
              obtain ⟨ρ, r1, r2, r3, r4⟩ := ih x as asc ρ0 hx h0 hf2 ht.2
              have hv : v = .ref j := ht.1
              exact ⟨ρ, r1, ⟨⟨k, List.mem_singleton.mpr rfl, by rw [hv, hj]⟩, r2⟩, r3, r4⟩
def bg_z (s : bg_S) : ai_S := (bg_n 1 s, bg_c 1 s, [])
def bg_int (lo hi : Int) (alts : List ai_Alt) : Bool := alts.all (fun A => match A.1 with
  | some (.inl a) => decide (lo ≤ ai_l A.2.2.1 a ∧ ai_h A.2.2.1 a ≤ hi)
  | _ => false)
def bg_void (alts : List ai_Alt) : Bool := alts.all (fun A => match A.1 with
  | none => true
  | _ => false)
def bg_ck (o : Option (List ai_Alt)) (f : List ai_Alt → Bool) : Bool := match o with
  | some a => f a
  | none => false
/-- the store says, at the place kept for it, which word the name is -/
def fw_na (h : jm_H) : Int := match (h[352]? : Option jm_C) with
  | some (.inr (.inr (.inr (_, fs)))) => (match (fs[10]? : Option Value) with
    | some (.long l) => (fw_kn l : Int)
    | _ => 0)
  | _ => 0
theorem fw_nm_na (W : fw_W) (h : jm_H) : fw_nm (fw_up W 999 0 (fw_na h)) h := by
  have e : ∀ z, fw_up W 999 0 z 999 0 = Int32.ofInt z := fun z => fw_up_at
  unfold fw_nm
  split
  · rename_i ci fs e1
    split
    · rename_i l e2
      rw [e]
      unfold fw_na
      rw [e1]
      dsimp only
      rw [e2]
      rfl
    · trivial
  · trivial
theorem fw_T900 : fw_T.length ≤ 900 := Nat.le_of_ble_eq_true (by decide +kernel)
theorem fw_ghn {S : List Nat} {o : Nat} {F : List Nat} {W W' : fw_W} {h : jm_H} (h9 : S.any (fun k => Nat.beq k 999) = true) (g : ai_gh W' fw_T h) (s : fw_sm S o F W W') : ∃ W2, fw_gh W2 fw_T h ∧ fw_sm S o F W W2 := ⟨fw_up W' 999 0 (fw_na h), ⟨fw_gh_999 fw_T900 g, fw_nm_na W' h⟩, fw_sm_arr s h9⟩
/-- a method that the checker passes, as a contract: it answers an int of a range -/
theorem bg_i {S : List Nat} {o : Nat} {F : List Nat} {sel : Nat → Bool} {ann : Nat → Nat → Option ai_An} {fuel n y : Nat} {s : bg_S} {lo hi : Int} (hc : bg_ck (ai_tw jd (fw_un S o F 0 fw_T) sel ann fuel n y (bg_v 1 s) (bg_z s)) (bg_int lo hi) = true) (h9 : S.any (fun k => Nat.beq k 999) = true) {as : List fw_V} {W : fw_W} {Q : Option fw_V → fw_W → Prop} (hf : bg_f s as) (hq : ∀ (v : Int) (f : fw_W), lo ≤ v → v ≤ hi → Q (some (.inl v)) (fw_put S o F W f)) : jc fw_T n y as W Q := by
  intro asc h ht hh
  unfold bg_ck at hc
  split at hc
  · rename_i alts hr
    obtain ⟨ρ, r1, r2, r3, r4⟩ := bg_ex s 1 as asc (fun _ => 0) (by omega) rfl hf ht
    have hg : ai_gs W (fw_un S o F 0 fw_T) ρ (bg_z s) h := ⟨by show 0 < bg_n 1 s; omega, r1 0 (by omega), r3, fw_melt hh.1, fun q hq => by cases hq⟩
    refine jg_mono (ai_tw_ok jd_ok W (fw_un S o F 0 fw_T) sel ann fuel n y (bg_v 1 s) (bg_z s) alts hr ρ h asc r2 hg) (fun v h' hx => ?_)
    obtain ⟨A, hA, ρ', -, -, hgs, hv⟩ := hx
    have h1 := List.all_eq_true.mp hc A hA
    obtain ⟨W0, w01, w02⟩ := fw_frost hgs.2.2.2.1
    obtain ⟨W', w1, w2⟩ := fw_ghn h9 w01 w02
    split at h1
    · rename_i a hA1
      rw [hA1] at hv
      have h2 := of_decide_eq_true h1
      cases v with
      | none => exact hv.elim
      | some v =>
        obtain ⟨-, i, rfl, hi2⟩ := hv
        have h3 := ai_lh hgs.2.1 hgs.2.2.1 hi2
        refine ⟨some (.inl i.toInt), W', ⟨i, rfl, rfl⟩, w1, ?_⟩
        have := hq i.toInt W' (by omega) (by omega)
        rw [fw_sm_eq w2] at this
        exact this
    · cases h1
  · cases hc
/-- .. or nothing -/
theorem bg_u {S : List Nat} {o : Nat} {F : List Nat} {sel : Nat → Bool} {ann : Nat → Nat → Option ai_An} {fuel n y : Nat} {s : bg_S} (hc : bg_ck (ai_tw jd (fw_un S o F 0 fw_T) sel ann fuel n y (bg_v 1 s) (bg_z s)) bg_void = true) (h9 : S.any (fun k => Nat.beq k 999) = true) {as : List fw_V} {W : fw_W} {Q : Option fw_V → fw_W → Prop} (hf : bg_f s as) (hq : ∀ (f : fw_W), Q none (fw_put S o F W f)) : jc fw_T n y as W Q := by
  intro asc h ht hh
  unfold bg_ck at hc
  split at hc
  · rename_i alts hr
    obtain ⟨ρ, r1, r2, r3, r4⟩ := bg_ex s 1 as asc (fun _ => 0) (by omega) rfl hf ht
    have hg : ai_gs W (fw_un S o F 0 fw_T) ρ (bg_z s) h := ⟨by show 0 < bg_n 1 s; omega, r1 0 (by omega), r3, fw_melt hh.1, fun q hq => by cases hq⟩
    refine jg_mono (ai_tw_ok jd_ok W (fw_un S o F 0 fw_T) sel ann fuel n y (bg_v 1 s) (bg_z s) alts hr ρ h asc r2 hg) (fun v h' hx => ?_)
    obtain ⟨A, hA, ρ', -, -, hgs, hv⟩ := hx
    have h1 := List.all_eq_true.mp hc A hA
    obtain ⟨W0, w01, w02⟩ := fw_frost hgs.2.2.2.1
    obtain ⟨W', w1, w2⟩ := fw_ghn h9 w01 w02
    split at h1
    · rename_i hA1
      rw [hA1] at hv
      cases v with
      | some v => exact hv.elim
      | none =>
        refine ⟨none, W', trivial, w1, ?_⟩
        have := hq W'
        rw [fw_sm_eq w2] at this
        exact this
    · cases h1
  · cases hc
