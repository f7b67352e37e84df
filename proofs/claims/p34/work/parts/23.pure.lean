/-! the checker's step, where no cell is touched -/
abbrev ai_P : Type := Nat × ai_L × List ai_V × ai_S
def ai_isl (a : ai_V) : Bool := match a with
  | .inr (.inr (.inl _)) => true
  | _ => false
theorem ai_cat {nv : Nat} {ρ : Nat → Int} {a : ai_V} {v : Value} (h : ai_gv nv ρ a v) : v.category = if ai_isl a = true then 2 else 1 := by
  unfold ai_gv at h
  split at h
  · obtain ⟨-, i, rfl, -⟩ := h; rfl
  · obtain ⟨k, -, rfl⟩ := h; rfl
  · obtain ⟨i, rfl⟩ := h; rfl
  · obtain ⟨-, i, rfl, -⟩ := h; rfl
  · subst h; rfl
def ai_st1 (i : Nat) (a : ai_V) (lv : ai_L) : ai_L := (i, a) :: lv.filter (fun q => !(q.1 == i) && !(q.1 + 1 == i && ai_isl q.2))
def ai_st2 (i : Nat) (a : ai_V) (lv : ai_L) : ai_L := (i, a) :: lv.filter (fun q => !(q.1 == i) && (!(q.1 == i + 1) && !(q.1 + 1 == i && ai_isl q.2)))
theorem jm_get_st {p : Nat × Value → Bool} {i : Nat} {v : Value} (lc : jm_L) (j : Nat) (w : Value) (hj : ¬ j = i) (hg : jm_get lc j = some w) (hp : p (j, w) = true) : jm_get ((i, v) :: lc.filter p) j = some w := by
  unfold jm_get at hg ⊢
  rw [List.find?_cons_of_neg (by simpa using fun e => hj e.symm)]
  induction lc with
  | nil => cases hg
  | cons q lc ih =>
    by_cases hq : q.1 = j
    · rw [List.find?_cons_of_pos (by simpa using hq)] at hg
      have e : q = (j, w) := by
        obtain ⟨q1, q2⟩ := q
        have h1 : q1 = j := hq
        have h2 : q2 = w := Option.some.inj hg
        rw [h1, h2]
      rw [List.filter_cons_of_pos (by rw [e]; exact hp), List.find?_cons_of_pos (by simpa using hq)]
      exact hg
    · rw [List.find?_cons_of_neg (by simpa using hq)] at hg
      by_cases hpq : p q = true
      · rw [List.filter_cons_of_pos hpq, List.find?_cons_of_neg (by simpa using hq)]
        exact ih hg
      · rw [List.filter_cons_of_neg hpq]
        exact ih hg
theorem jm_get_hd (i : Nat) (v : Value) (l : jm_L) : jm_get ((i, v) :: l) i = some v := by
  unfold jm_get
  rw [List.find?_cons_of_pos (by simp)]
  rfl
theorem ai_gl_st1 {nv : Nat} {ρ : Nat → Int} {lv : ai_L} {lc : jm_L} {i : Nat} {a : ai_V} {v : Value} (hl : ai_gl nv ρ lv lc) (hv : ai_gv nv ρ a v) : ai_gl nv ρ (ai_st1 i a lv) (jm_st1 i v lc) := by
  intro q hq
  rcases List.mem_cons.mp hq with rfl | hq
  · exact ⟨v, jm_get_hd _ _ _, hv⟩
  · obtain ⟨h1, h2⟩ := List.mem_filter.mp hq
    obtain ⟨w, g1, g2⟩ := hl q h1
    rw [Bool.and_eq_true] at h2
    have hne : ¬ q.1 = i := by simpa using h2.1
    refine ⟨w, jm_get_st lc q.1 w hne g1 ?_, g2⟩
    have hc := ai_cat g2
    have h3 := h2.2
    by_cases hs : q.1 + 1 = i
    · have hnl : ai_isl q.2 = false := by simpa [hs] using h3
      rw [hnl] at hc
      simp [hne, hc]
    · simp [hne, hs]
theorem ai_gl_st2 {nv : Nat} {ρ : Nat → Int} {lv : ai_L} {lc : jm_L} {i : Nat} {a : ai_V} {v : Value} (hl : ai_gl nv ρ lv lc) (hv : ai_gv nv ρ a v) : ai_gl nv ρ (ai_st2 i a lv) (jm_st2 i v lc) := by
  intro q hq
  rcases List.mem_cons.mp hq with rfl | hq
  · exact ⟨v, jm_get_hd _ _ _, hv⟩
  · obtain ⟨h1, h2⟩ := List.mem_filter.mp hq
    obtain ⟨w, g1, g2⟩ := hl q h1
    rw [Bool.and_eq_true, Bool.and_eq_true] at h2
    have hne : ¬ q.1 = i := by simpa using h2.1
    have hne2 : ¬ q.1 = i + 1 := by simpa using h2.2.1
    refine ⟨w, jm_get_st lc q.1 w hne g1 ?_, g2⟩
    have hc := ai_cat g2
    have h3 := h2.2.2
    by_cases hs : q.1 + 1 = i
    · have hnl : ai_isl q.2 = false := by simpa [hs] using h3
      rw [hnl] at hc
      simp [hne, hne2, hc]
    · simp [hne, hne2, hs]
/-- a comparison a ≤ b + k, added -/
def ai_le (Z : ai_S) (a b : Nat × Int) (k : Int) : ai_S := (Z.1, (a.1, b.1, b.2 + k - a.2) :: Z.2.1, Z.2.2)
theorem ai_le_ok {W : Nat → Nat → Int32} {T : List ai_C} {ρ : Nat → Int} {Z : ai_S} {h : jm_H} {a b : Nat × Int} {k : Int} (hs : ai_gs W T ρ Z h) (ha : a.1 < Z.1) (hb : b.1 < Z.1) (hle : ρ a.1 + a.2 ≤ ρ b.1 + b.2 + k) : ai_gs W T ρ (ai_le Z a b k) h := by
  obtain ⟨g1, g2, g3, g4, g5⟩ := hs
  refine ⟨g1, g2, fun q hq => ?_, g4, g5⟩
  rcases List.mem_cons.mp hq with rfl | hq
  · exact ⟨ha, hb, by show ρ a.1 - ρ b.1 ≤ b.2 + k - a.2; omega⟩
  · exact g3 q hq
/-- whether a ≤ b + k is known -/
def ai_kn (Z : ai_S) (a b : Nat × Int) (k : Int) : Bool := match ai_ub Z.2.1 a.1 b.1 with
  | some d => decide (d + a.2 - b.2 ≤ k)
  | none => false
theorem ai_kn_ok {W : Nat → Nat → Int32} {T : List ai_C} {ρ : Nat → Int} {Z : ai_S} {h : jm_H} {a b : Nat × Int} {k : Int} (hs : ai_gs W T ρ Z h) (hk : ai_kn Z a b k = true) : ρ a.1 + a.2 ≤ ρ b.1 + b.2 + k := by
  unfold ai_kn at hk
  split at hk
  · rename_i d hd
    have h1 := ai_ub_ok hs.2.2.1 hd
    have h2 := of_decide_eq_true hk
    omega
  · cases hk
/-- what is known if a comparison comes out so; none: it can't -/
def ai_cmp (Z : ai_S) (op : ClassFile.Cond) (a b : Nat × Int) (yes : Bool) : Option ai_S := match op, yes with
  | .lt, true => if ai_kn Z b a 0 = true then none else some (ai_le Z a b (-1))
  | .lt, false => if ai_kn Z a b (-1) = true then none else some (ai_le Z b a 0)
  | .ge, true => if ai_kn Z a b (-1) = true then none else some (ai_le Z b a 0)
  | .ge, false => if ai_kn Z b a 0 = true then none else some (ai_le Z a b (-1))
  | .gt, true => if ai_kn Z a b 0 = true then none else some (ai_le Z b a (-1))
  | .gt, false => if ai_kn Z b a (-1) = true then none else some (ai_le Z a b 0)
  | .le, true => if ai_kn Z b a (-1) = true then none else some (ai_le Z a b 0)
  | .le, false => if ai_kn Z a b 0 = true then none else some (ai_le Z b a (-1))
  | .eq, true => if ai_kn Z a b (-1) = true ∨ ai_kn Z b a (-1) = true then none else some (ai_le (ai_le Z a b 0) b a 0)
  | .ne, false => if ai_kn Z a b (-1) = true ∨ ai_kn Z b a (-1) = true then none else some (ai_le (ai_le Z a b 0) b a 0)
  | .eq, false => if ai_kn Z a b 0 = true then (if ai_kn Z b a 0 = true then none else some (ai_le Z a b (-1))) else if ai_kn Z b a 0 = true then some (ai_le Z b a (-1)) else some Z
  | .ne, true => if ai_kn Z a b 0 = true then (if ai_kn Z b a 0 = true then none else some (ai_le Z a b (-1))) else if ai_kn Z b a 0 = true then some (ai_le Z b a (-1)) else some Z
theorem ai_cmp_ok {W : Nat → Nat → Int32} {T : List ai_C} {ρ : Nat → Int} {Z : ai_S} {h : jm_H} {a b : Nat × Int} {i j : Int32} (op : ClassFile.Cond) (hs : ai_gs W T ρ Z h) (ha : a.1 < Z.1 ∧ i.toInt = ρ a.1 + a.2) (hb : b.1 < Z.1 ∧ j.toInt = ρ b.1 + b.2) : ∃ Z', ai_cmp Z op a b (jm_c2 op i j) = some Z' ∧ Z'.1 = Z.1 ∧ ai_gs W T ρ Z' h := by
  have k1 : ∀ k, ai_kn Z a b k = true → i.toInt ≤ j.toInt + k := fun k hk => by have := ai_kn_ok hs hk; omega
  have k2 : ∀ k, ai_kn Z b a k = true → j.toInt ≤ i.toInt + k := fun k hk => by have := ai_kn_ok hs hk; omega
  have a1 : ∀ k, i.toInt ≤ j.toInt + k → ai_gs W T ρ (ai_le Z a b k) h := fun k hk => ai_le_ok hs ha.1 hb.1 (by omega)
  have a2 : ∀ k, j.toInt ≤ i.toInt + k → ai_gs W T ρ (ai_le Z b a k) h := fun k hk => ai_le_ok hs hb.1 ha.1 (by omega)
  have a3 : i.toInt = j.toInt → ai_gs W T ρ (ai_le (ai_le Z a b 0) b a 0) h := fun hk => ai_le_ok (a1 0 (by omega)) hb.1 ha.1 (by omega)
  have hne : (¬ i = j) → i.toInt ≠ j.toInt := fun q e => q (Int32.toInt_inj.mp e)
  have neq : (¬ i = j) → ∃ Z', (if ai_kn Z a b 0 = true then (if ai_kn Z b a 0 = true then none else some (ai_le Z a b (-1))) else if ai_kn Z b a 0 = true then some (ai_le Z b a (-1)) else some Z) = some Z' ∧ Z'.1 = Z.1 ∧ ai_gs W T ρ Z' h := by
    intro q
    have q := hne q
    by_cases c1 : ai_kn Z a b 0 = true
    · rw [if_pos c1]
      by_cases c2 : ai_kn Z b a 0 = true
      · have := k1 0 c1; have := k2 0 c2; omega
      · rw [if_neg c2]; exact ⟨_, rfl, rfl, a1 (-1) (by have := k1 0 c1; omega)⟩
    · rw [if_neg c1]
      by_cases c2 : ai_kn Z b a 0 = true
      · rw [if_pos c2]; exact ⟨_, rfl, rfl, a2 (-1) (by have := k2 0 c2; omega)⟩
      · rw [if_neg c2]; exact ⟨_, rfl, rfl, hs⟩
  have yeq : i = j → ∃ Z', (if ai_kn Z a b (-1) = true ∨ ai_kn Z b a (-1) = true then none else some (ai_le (ai_le Z a b 0) b a 0)) = some Z' ∧ Z'.1 = Z.1 ∧ ai_gs W T ρ Z' h := by
    intro q
    subst q
    rw [if_neg (by rintro (c | c); (have := k1 _ c; omega); (have := k2 _ c; omega))]
    exact ⟨_, rfl, rfl, a3 rfl⟩
  cases op with
  | eq =>
    by_cases q : i = j
    · have e : jm_c2 .eq i j = true := by simp [jm_c2, q]
      rw [e]; exact yeq q
    · have e : jm_c2 .eq i j = false := by simp [jm_c2, q]
      rw [e]; exact neq q
  | ne =>
    by_cases q : i = j
    · have e : jm_c2 .ne i j = false := by simp [jm_c2, q]
      rw [e]; exact yeq q
    · have e : jm_c2 .ne i j = true := by simp [jm_c2, q]
      rw [e]; exact neq q
  | lt =>
    by_cases q : i < j
    · have e : jm_c2 .lt i j = true := by simp [jm_c2, q]
      have q' := Int32.lt_iff_toInt_lt.mp q
      rw [e]; unfold ai_cmp; dsimp only
      rw [if_neg (fun c => by have := k2 _ c; omega)]
      exact ⟨_, rfl, rfl, a1 (-1) (by omega)⟩
    · have e : jm_c2 .lt i j = false := by simp [jm_c2, q]
      have q' : ¬ i.toInt < j.toInt := fun z => q (Int32.lt_iff_toInt_lt.mpr z)
      rw [e]; unfold ai_cmp; dsimp only
      rw [if_neg (fun c => by have := k1 _ c; omega)]
      exact ⟨_, rfl, rfl, a2 0 (by omega)⟩
  | ge =>
    by_cases q : j ≤ i
    · have e : jm_c2 .ge i j = true := by simp [jm_c2, q]
      have q' := Int32.le_iff_toInt_le.mp q
      rw [e]; unfold ai_cmp; dsimp only
      rw [if_neg (fun c => by have := k1 _ c; omega)]
      exact ⟨_, rfl, rfl, a2 0 (by omega)⟩
    · have e : jm_c2 .ge i j = false := by simp [jm_c2, q]
      have q' : ¬ j.toInt ≤ i.toInt := fun z => q (Int32.le_iff_toInt_le.mpr z)
      rw [e]; unfold ai_cmp; dsimp only
      rw [if_neg (fun c => by have := k2 _ c; omega)]
      exact ⟨_, rfl, rfl, a1 (-1) (by omega)⟩
  | gt =>
    by_cases q : j < i
    · have e : jm_c2 .gt i j = true := by simp [jm_c2, q]
      have q' := Int32.lt_iff_toInt_lt.mp q
      rw [e]; unfold ai_cmp; dsimp only
      rw [if_neg (fun c => by have := k1 _ c; omega)]
      exact ⟨_, rfl, rfl, a2 (-1) (by omega)⟩
    · have e : jm_c2 .gt i j = false := by simp [jm_c2, q]
      have q' : ¬ j.toInt < i.toInt := fun z => q (Int32.lt_iff_toInt_lt.mpr z)
      rw [e]; unfold ai_cmp; dsimp only
      rw [if_neg (fun c => by have := k2 _ c; omega)]
      exact ⟨_, rfl, rfl, a1 0 (by omega)⟩
  | le =>
    by_cases q : i ≤ j
    · have e : jm_c2 .le i j = true := by simp [jm_c2, q]
      have q' := Int32.le_iff_toInt_le.mp q
      rw [e]; unfold ai_cmp; dsimp only
      rw [if_neg (fun c => by have := k2 _ c; omega)]
      exact ⟨_, rfl, rfl, a1 0 (by omega)⟩
    · have e : jm_c2 .le i j = false := by simp [jm_c2, q]
      have q' : ¬ i.toInt ≤ j.toInt := fun z => q (Int32.le_iff_toInt_le.mpr z)
      rw [e]; unfold ai_cmp; dsimp only
      rw [if_neg (fun c => by have := k1 _ c; omega)]
      exact ⟨_, rfl, rfl, a2 (-1) (by omega)⟩
theorem ai_c1c2 (op : ClassFile.Cond) (i : Int32) : jm_c1 op i = jm_c2 op i 0 := by cases op <;> rfl
