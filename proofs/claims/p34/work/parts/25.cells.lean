/-! the checker's steps on cells -/
def ai_f1 (T : List ai_C) (ci k a : Nat) : Option ai_F := match T[a]? with
  | some (.inr (.inr (.inr (cj, ts)))) => if cj = ci then ts[k]? else none
  | _ => none
def ai_fj (s t : ai_F) : Option ai_F := match s, t with
  | .inl (l1, h1, _), .inl (l2, h2, _) => some (.inl (ai_mn l1 l2, ai_mx h1 h2, false))
  | .inr (.inl k1), .inr (.inl k2) => some (.inr (.inl (k1 ++ k2)))
  | .inr (.inr _), .inr (.inr _) => some (.inr (.inr ()))
  | _, _ => none
theorem ai_fj_l {s t u : ai_F} {v : Value} (h : ai_fj s t = some u) (hv : ai_gr s v) : ai_gr u v := by
  unfold ai_fj at h
  split at h
  · cases h
    obtain ⟨i, rfl, h1, h2⟩ := hv
    refine ⟨i, rfl, ?_, ?_⟩
    · unfold ai_mn; split <;> omega
    · unfold ai_mx; split <;> omega
  · cases h
    obtain ⟨k, h1, rfl⟩ := hv
    exact ⟨k, List.mem_append_left _ h1, rfl⟩
  · cases h; exact hv
  · cases h
theorem ai_fj_r {s t u : ai_F} {v : Value} (h : ai_fj s t = some u) (hv : ai_gr t v) : ai_gr u v := by
  unfold ai_fj at h
  split at h
  · cases h
    obtain ⟨i, rfl, h1, h2⟩ := hv
    refine ⟨i, rfl, ?_, ?_⟩
    · unfold ai_mn; split <;> omega
    · unfold ai_mx; split <;> omega
  · cases h
    obtain ⟨k, h1, rfl⟩ := hv
    exact ⟨k, List.mem_append_right _ h1, rfl⟩
  · cases h; exact hv
  · cases h
def ai_ft (T : List ai_C) (ci k : Nat) : List Nat → Option ai_F
  | [] => none
  | a :: ks => match ai_f1 T ci k a with
    | none => none
    | some t => (match ks with
      | [] => some t
      | _ => (match ai_ft T ci k ks with
        | none => none
        | some u => ai_fj t u))
theorem ai_ft_ok {T : List ai_C} {ci k : Nat} : ∀ (ks : List Nat) (u : ai_F), ai_ft T ci k ks = some u → ∀ a ∈ ks, ∃ t, ai_f1 T ci k a = some t ∧ ∀ v, ai_gr t v → ai_gr u v
  | [], u, h, a, ha => by cases ha
  | b :: ks, u, h, a, ha => by
    unfold ai_ft at h
    split at h
    · cases h
    · rename_i t ht
      split at h
      · cases h
        rcases List.mem_cons.mp ha with rfl | ha
        · exact ⟨_, ht, fun v hv => hv⟩
        · cases ha
      · split at h
        · cases h
        · rename_i w hw
          rcases List.mem_cons.mp ha with rfl | ha
          · exact ⟨t, ht, fun v hv => ai_fj_l h hv⟩
          · obtain ⟨t2, g1, g2⟩ := ai_ft_ok ks w hw a ha
            exact ⟨t2, g1, fun v hv => ai_fj_r h (g2 v hv)⟩
theorem ai_gh_at {W : Nat → Nat → Int32} {T : List ai_C} {h : jm_H} {a : Nat} {x : ai_C} (hh : ai_gh W T h) (ha : T[a]? = some x) : ∃ c, h[a]? = some c ∧ ai_gcell (W a) x c := by
  have hl : a < T.length := (List.getElem?_eq_some_iff.mp ha).1
  have hl2 : a < h.length := by rw [hh.1]; exact hl
  exact ⟨_, List.getElem?_eq_getElem hl2, hh.2 a x _ ha (List.getElem?_eq_getElem hl2)⟩
theorem ai_f1_ok {W : Nat → Nat → Int32} {T : List ai_C} {h : jm_H} {ci k a : Nat} {t : ai_F} (hh : ai_gh W T h) (hf : ai_f1 T ci k a = some t) : ∃ fs v, h[a]? = some (.inr (.inr (.inr (ci, fs)))) ∧ k < fs.length ∧ fs[k]? = some v ∧ ai_gr t v := by
  unfold ai_f1 at hf
  split at hf
  · rename_i cj ts hT
    split at hf
    · rename_i hc
      subst hc
      obtain ⟨c, h1, h2⟩ := ai_gh_at hh hT
      unfold ai_gcell at h2
      split at h2
      · rename_i e; cases e
      · rename_i e; cases e
      · rename_i e; cases e
      · rename_i ci2 ts2 ci3 fs e
        cases e
        obtain ⟨rfl, g2, g3⟩ := h2
        have hk : k < fs.length := by rw [g2]; exact (List.getElem?_eq_some_iff.mp hf).1
        exact ⟨fs, _, h1, hk, List.getElem?_eq_getElem hk, (g3 k t _ hf (List.getElem?_eq_getElem hk)).1⟩
      · exact h2.elim
    · cases hf
  · cases hf
/-- a value of a type, new -/
def ai_fv (Z : ai_S) (t : ai_F) : ai_V × ai_S := match t with
  | .inl (lo, hi, _) => ai_mk Z lo hi
  | .inr (.inl ks) => (.inr (.inl ks), Z)
  | .inr (.inr _) => (ai_lg' none, Z)
theorem ai_fv_ok {W : Nat → Nat → Int32} {T : List ai_C} {ρ : Nat → Int} {Z : ai_S} {h : jm_H} {t : ai_F} {v : Value} (hs : ai_gs W T ρ Z h) (hv : ai_gr t v) : ai_R W T ρ Z h (ai_fv Z t) v := by
  unfold ai_gr at hv
  split at hv
  · obtain ⟨i, rfl, h1, h2⟩ := hv
    exact ai_mk_ok hs h1 h2
  · exact ai_same hs hv
  · exact ai_same hs hv
def ai_mem (M : List ((Nat × Nat) × ai_V)) (a k : Nat) : Option ai_V := (M.find? (fun q => q.1.1 == a && q.1.2 == k)).map (fun q => q.2)
theorem ai_mem_ok {nv : Nat} {ρ : Nat → Int} {M : List ((Nat × Nat) × ai_V)} {h : jm_H} {a k : Nat} {x : ai_V} (hm : ai_gm nv ρ M h) (hx : ai_mem M a k = some x) : ∃ ci fs v, h[a]? = some (.inr (.inr (.inr (ci, fs)))) ∧ fs[k]? = some v ∧ ai_gv nv ρ x v := by
  unfold ai_mem at hx
  cases hf : M.find? (fun q => q.1.1 == a && q.1.2 == k) with
  | none => rw [hf] at hx; cases hx
  | some q =>
    rw [hf] at hx
    have h1 := List.find?_some hf
    rw [Bool.and_eq_true] at h1
    have e1 : q.1.1 = a := by simpa using h1.1
    have e2 : q.1.2 = k := by simpa using h1.2
    have e3 : q.2 = x := Option.some.inj hx
    obtain ⟨ci, fs, v, g1, g2, g3⟩ := hm q (List.mem_of_find?_eq_some hf)
    rw [e1] at g1; rw [e2] at g2; rw [e3] at g3
    exact ⟨ci, fs, v, g1, g2, g3⟩
def ai_put (Z : ai_S) (a k : Nat) (x : ai_V) : ai_S := (Z.1, Z.2.1, ((a, k), x) :: Z.2.2)
def ai_getf (T : List ai_C) (oc idx : Nat) (st : List ai_V) (Z : ai_S) : Option (List ai_V × ai_S) := match st with
  | .inr (.inl ks) :: r => (match jm_fld oc idx with
    | none => none
    | some (ci, k) => (match ai_ft T ci k ks with
      | none => none
      | some t => (match ks with
        | [a] => (match ai_mem Z.2.2 a k with
          | some x => some (x :: r, Z)
          | none => some ((ai_fv Z t).1 :: r, ai_put (ai_fv Z t).2 a k (ai_fv Z t).1))
        | _ => some ((ai_fv Z t).1 :: r, (ai_fv Z t).2))))
  | _ => none
section AH
variable {W : Nat → Nat → Int32} {T : List ai_C} {ρ : Nat → Int} {Z Z' : ai_S} {h : jm_H} {lv : ai_L} {lc : jm_L} {st r st' : List ai_V} {sc rc : List Value} {pc : Nat}
theorem ai_getf_ok {oc idx : Nat} (hs : ai_getf T oc idx st Z = some (st', Z')) (hl : ai_gl Z.1 ρ lv lc) (ht : ai_gt Z.1 ρ st sc) (hg : ai_gs W T ρ Z h) : ∃ sc', jm_getf oc idx sc h = some sc' ∧ ai_out W T ρ Z.1 [(pc, lv, st', Z')] (pc, lc, sc', h) := by
  unfold ai_getf at hs
  split at hs
  · rename_i ks r
    obtain ⟨v0, rc, rfl, ⟨a, ha, rfl⟩, hr⟩ := ai_gt_cons ht
    split at hs
    · cases hs
    · rename_i ci k hf
      split at hs
      · cases hs
      · rename_i t hft
        obtain ⟨t1, g1, g2⟩ := ai_ft_ok ks t hft a ha
        obtain ⟨fs, v, q1, q2, q3, q4⟩ := ai_f1_ok hg.2.2.2.1 g1
        have hj : jm_getf oc idx (.ref a :: rc) h = some (v :: rc) := by
          unfold jm_getf
          simp only [hf, q1, q3, if_true]
        refine ⟨v :: rc, hj, ?_⟩
        obtain ⟨ρ2, e1, e2, e3, e4⟩ := ai_fv_ok hg (g2 v q4)
        split at hs
        · rename_i b
          have hab : a = b := List.mem_singleton.mp ha
          subst hab
          split at hs
          · rename_i x hx
            cases hs
            obtain ⟨ci2, fs2, v2, w1, w2, w3⟩ := ai_mem_ok hg.2.2.2.2 hx
            rw [q1] at w1
            cases w1
            rw [q3] at w2
            cases w2
            exact ai_stay hl ⟨w3, hr⟩ hg
          · cases hs
            refine ⟨_, List.mem_singleton.mpr rfl, ρ2, e1, e2, rfl, hl.ext e2 e1, ⟨e4, ai_gt.ext e2 e1 hr⟩, e3.1, e3.2.1, e3.2.2.1, e3.2.2.2.1, fun q hq => ?_⟩
            rcases List.mem_cons.mp hq with rfl | hq
            · exact ⟨ci, fs, v, q1, q3, e4⟩
            · exact e3.2.2.2.2 q hq
        · cases hs
          exact ⟨_, List.mem_singleton.mpr rfl, ρ2, e1, e2, rfl, hl.ext e2 e1, ⟨e4, ai_gt.ext e2 e1 hr⟩, e3⟩
  · cases hs
end AH
/-- int arrays of a type: the least length, the range of what they hold -/
def ai_a1 (T : List ai_C) (t : FieldType) (a : Nat) : Option (Nat × Int × Int × Bool) := match T[a]? with
  | some (.inl (t', n, lo, hi, b)) => if t' = t then some (n, lo, hi, b) else none
  | _ => none
theorem ai_a1_ok {W : Nat → Nat → Int32} {T : List ai_C} {h : jm_H} {t : FieldType} {a n : Nat} {lo hi : Int} {b : Bool} (hh : ai_gh W T h) (hf : ai_a1 T t a = some (n, lo, hi, b)) : T[a]? = some (.inl (t, n, lo, hi, b)) ∧ ∃ f, h[a]? = some (.inl (t, n, f)) ∧ ∀ i, i < n → lo ≤ (f i).toInt ∧ (f i).toInt ≤ hi := by
  unfold ai_a1 at hf
  split at hf
  · rename_i t2 n2 lo2 hi2 b2 hT
    split at hf
    · rename_i hc
      subst hc
      cases hf
      refine ⟨hT, ?_⟩
      obtain ⟨c, h1, h2⟩ := ai_gh_at hh hT
      unfold ai_gcell at h2
      split at h2
      · rename_i e
        cases e
        obtain ⟨rfl, rfl, g3, -⟩ := h2
        exact ⟨_, h1, g3⟩
      · rename_i e; cases e
      · rename_i e; cases e
      · rename_i e; cases e
      · exact h2.elim
    · cases hf
  · cases hf
def ai_ar (T : List ai_C) (t : FieldType) : List Nat → Option (Nat × Int × Int)
  | [] => none
  | a :: ks => match ai_a1 T t a with
    | none => none
    | some x => (match ks with
      | [] => some (x.1, x.2.1, x.2.2.1)
      | _ => (match ai_ar T t ks with
        | none => none
        | some y => some (if x.1 ≤ y.1 then x.1 else y.1, ai_mn x.2.1 y.2.1, ai_mx x.2.2.1 y.2.2)))
theorem ai_ar_ok {T : List ai_C} {t : FieldType} : ∀ (ks : List Nat) (u : Nat × Int × Int), ai_ar T t ks = some u → ∀ a ∈ ks, ∃ n lo hi b, ai_a1 T t a = some (n, lo, hi, b) ∧ u.1 ≤ n ∧ u.2.1 ≤ lo ∧ hi ≤ u.2.2
  | [], u, h, a, ha => by cases ha
  | b :: ks, u, h, a, ha => by
    unfold ai_ar at h
    split at h
    · cases h
    · rename_i x hx
      split at h
      · cases h
        rcases List.mem_cons.mp ha with rfl | ha
        · exact ⟨_, _, _, _, hx, Nat.le_refl _, Int.le_refl _, Int.le_refl _⟩
        · cases ha
      · split at h
        · cases h
        · rename_i w hw
          cases h
          rcases List.mem_cons.mp ha with rfl | ha
          · refine ⟨_, _, _, _, hx, ?_, ?_, ?_⟩
            · show (if x.1 ≤ w.1 then x.1 else w.1) ≤ x.1; split <;> omega
            · show ai_mn x.2.1 w.2.1 ≤ x.2.1; unfold ai_mn; split <;> omega
            · show x.2.2.1 ≤ ai_mx x.2.2.1 w.2.2; unfold ai_mx; split <;> omega
          · obtain ⟨n, lo, hi, b2, g1, g2, g3, g4⟩ := ai_ar_ok ks w hw a ha
            refine ⟨n, lo, hi, b2, g1, ?_, ?_, ?_⟩
            · show (if x.1 ≤ w.1 then x.1 else w.1) ≤ n; split <;> omega
            · show ai_mn x.2.1 w.2.1 ≤ lo; unfold ai_mn; split <;> omega
            · show hi ≤ ai_mx x.2.2.1 w.2.2; unfold ai_mx; split <;> omega
/-- an index that is within -/
def ai_ix (Z : ai_S) (a : Nat × Int) (n : Nat) : Bool := decide (0 ≤ ai_l Z.2.1 a ∧ ai_h Z.2.1 a < n)
theorem ai_ix_ok {W : Nat → Nat → Int32} {T : List ai_C} {ρ : Nat → Int} {Z : ai_S} {h : jm_H} {a : Nat × Int} {i : Int32} {n m : Nat} (hs : ai_gs W T ρ Z h) (ha : i.toInt = ρ a.1 + a.2) (hx : ai_ix Z a n = true) (hm : n ≤ m) : jm_in i m = true ∧ i.toNatClampNeg < m := by
  have h1 := ai_lh hs.2.1 hs.2.2.1 ha
  have h2 := of_decide_eq_true hx
  have e : i.toNatClampNeg = i.toInt.toNat := rfl
  refine ⟨?_, by omega⟩
  unfold jm_in
  apply decide_eq_true
  rintro (q | q)
  · have := Int32.lt_iff_toInt_lt.mp q
    rw [Int32.toInt_zero] at this
    omega
  · omega
def ai_ald (T : List ai_C) (ts : List FieldType) (st : List ai_V) (Z : ai_S) : Option (List ai_V × ai_S) := match st with
  | .inl i :: .inr (.inl ks) :: r => (match ts.findSome? (fun t => (ai_ar T t ks)) with
    | none => none
    | some u => if ai_ix Z i u.1 = true then some ((ai_mk Z u.2.1 u.2.2).1 :: r, (ai_mk Z u.2.1 u.2.2).2) else none)
  | _ => none
section AI
variable {W : Nat → Nat → Int32} {T : List ai_C} {ρ : Nat → Int} {Z Z' : ai_S} {h : jm_H} {lv : ai_L} {lc : jm_L} {st r st' : List ai_V} {sc rc : List Value} {pc : Nat}
theorem ai_ald_of {ts : List FieldType} (hs : ai_ald T ts st Z = some (st', Z')) (hl : ai_gl Z.1 ρ lv lc) (ht : ai_gt Z.1 ρ st sc) (hg : ai_gs W T ρ Z h) : ∃ (i : Int32) (a : Nat) (rc : List Value) (t : FieldType) (n : Nat) (f : Nat → Int32), t ∈ ts ∧ sc = .int i :: .ref a :: rc ∧ h[a]? = some (.inl (t, n, f)) ∧ jm_in i n = true ∧ ai_out W T ρ Z.1 [(pc, lv, st', Z')] (pc, lc, .int (f i.toNatClampNeg) :: rc, h) := by
  unfold ai_ald at hs
  split at hs
  · rename_i x ks r
    obtain ⟨i, rc1, rfl, hi, hr1⟩ := ai_gt_i ht
    obtain ⟨v0, rc, rfl, ⟨a, ha, rfl⟩, hr⟩ := ai_gt_cons hr1
    split at hs
    · cases hs
    · rename_i u hu
      split at hs
      · rename_i hx
        cases hs
        obtain ⟨t, ht1, ht2⟩ := List.exists_of_findSome?_eq_some hu
        obtain ⟨n, lo, hi2, b2, g1, g2, g3, g4⟩ := ai_ar_ok ks u ht2 a ha
        obtain ⟨-, f, q1, q2⟩ := ai_a1_ok hg.2.2.2.1 g1
        obtain ⟨w1, w2⟩ := ai_ix_ok hg hi.2 hx g2
        have q3 := q2 _ w2
        exact ⟨i, a, rc, t, n, f, ht1, rfl, q1, w1, ai_push (ai_mk_ok hg (by omega) (by omega)) hl hr⟩
      · cases hs
  · cases hs
theorem ai_iald_ok (hs : ai_ald T [.int] st Z = some (st', Z')) (hl : ai_gl Z.1 ρ lv lc) (ht : ai_gt Z.1 ρ st sc) (hg : ai_gs W T ρ Z h) : ∃ sc', jm_iald sc h = some sc' ∧ ai_out W T ρ Z.1 [(pc, lv, st', Z')] (pc, lc, sc', h) := by
  obtain ⟨i, a, rc, t, n, f, h1, rfl, h3, h4, h5⟩ := ai_ald_of (pc := pc) hs hl ht hg
  have e : t = .int := List.mem_singleton.mp h1
  subst e
  refine ⟨_, ?_, h5⟩
  unfold jm_iald
  simp only [h3, h4, if_true]
theorem ai_bald_ok (hs : ai_ald T [.byte, .boolean] st Z = some (st', Z')) (hl : ai_gl Z.1 ρ lv lc) (ht : ai_gt Z.1 ρ st sc) (hg : ai_gs W T ρ Z h) : ∃ sc', jm_bald sc h = some sc' ∧ ai_out W T ρ Z.1 [(pc, lv, st', Z')] (pc, lc, sc', h) := by
  obtain ⟨i, a, rc, t, n, f, h1, rfl, h3, h4, h5⟩ := ai_ald_of (pc := pc) hs hl ht hg
  refine ⟨_, ?_, h5⟩
  unfold jm_bald
  rcases List.mem_cons.mp h1 with rfl | h1
  · simp only [h3, h4, if_true]
  · have e : t = .boolean := List.mem_singleton.mp h1
    subst e
    simp only [h3, h4, if_true]
end AI
