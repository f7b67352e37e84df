/-! the checker's fields written, Math, copies -/
theorem ai_narz (x : Int32) : 0 ≤ (vp_nar .boolean x).toInt ∧ (vp_nar .boolean x).toInt ≤ 1 := by
  have h := ai_and_le x 1 (by decide)
  have e : (1 : Int32).toInt = 1 := by decide
  have e2 : vp_nar .boolean x = x &&& 1 := rfl
  rw [e2]
  omega
/-- whether a value fits a field -/
def ai_okf (fty : FieldType) (t : ai_F) (x : ai_V) (Z : ai_S) : Bool := match t, x with
  | .inl (lo, hi, b), .inl a => decide (lo ≤ ai_l Z.2.1 a ∧ ai_h Z.2.1 a ≤ hi ∧ b = false) && (match fty with
    | .int => true
    | .boolean => decide (0 ≤ ai_l Z.2.1 a ∧ ai_h Z.2.1 a ≤ 1)
    | _ => false)
  | .inr (.inl ks), .inr (.inl js) => js.all (fun j => ks.contains j) && jm_isref fty
  | .inr (.inr _), .inr (.inr (.inl _)) => decide (fty = .long)
  | _, _ => false
theorem ai_okf_ok {W : Nat → Nat → Int32} {T : List ai_C} {ρ : Nat → Int} {Z : ai_S} {h : jm_H} {fty : FieldType} {t : ai_F} {x : ai_V} {v : Value} {w : Int32} (hs : ai_gs W T ρ Z h) (hk : ai_okf fty t x Z = true) (hv : ai_gv Z.1 ρ x v) : jm_fit fty v = true ∧ ai_gf w t v := by
  unfold ai_okf at hk
  split at hk
  · rename_i lo hi b a
    obtain ⟨h1, i, rfl, h2⟩ := hv
    rw [Bool.and_eq_true] at hk
    have hb := ai_lh hs.2.1 hs.2.2.1 h2
    have h3 := of_decide_eq_true hk.1
    obtain ⟨h3, h3b, rfl⟩ := h3
    refine ⟨?_, ⟨i, rfl, by omega, by omega⟩, trivial⟩
    have hk2 := hk.2
    split at hk2
    · simp [jm_fit, narrow, fits]
    · have h4 := of_decide_eq_true hk2
      have h5 : i.toInt = 0 ∨ i.toInt = 1 := by omega
      rcases h5 with h5 | h5
      · have e : i = 0 := Int32.toInt_inj.mp (by rw [h5]; rfl)
        subst e; rfl
      · have e : i = 1 := Int32.toInt_inj.mp (by rw [h5]; rfl)
        subst e; rfl
    · cases hk2
  · rename_i ks js
    obtain ⟨j, h1, rfl⟩ := hv
    rw [Bool.and_eq_true] at hk
    have h2 := List.all_eq_true.mp hk.1 j h1
    exact ⟨hk.2, ⟨j, by simpa using h2, rfl⟩, trivial⟩
  · rename_i o
    obtain ⟨i, rc, e1, -, -⟩ := ai_gt_l (a := o) (r := []) (sc := [v]) ⟨hv, trivial⟩
    cases e1
    have h2 := of_decide_eq_true hk
    subst h2
    exact ⟨by simp [jm_fit, narrow, fits], ⟨i, rfl⟩, trivial⟩
  · cases hk
def ai_drop (Z : ai_S) (ks : List Nat) (k : Nat) : List ((Nat × Nat) × ai_V) := Z.2.2.filter (fun q => !(q.1.2 == k && ks.contains q.1.1))
def ai_putf (T : List ai_C) (oc idx : Nat) (st : List ai_V) (Z : ai_S) : Option (List ai_V × ai_S) := match st with
  | x :: .inr (.inl ks) :: r => (match jm_fld oc idx with
    | none => none
    | some (ci, k) => if jm_fin ci k = false ∧ ks.all (fun a => match ai_f1 T ci k a with
        | some t => ai_okf (jm_ty ci k) t x Z
        | none => false) = true then some (r, Z.1, Z.2.1, (match ks with
          | [a] => ((a, k), x) :: ai_drop Z ks k
          | _ => ai_drop Z ks k)) else none)
  | _ => none
section AF
variable {W : Nat → Nat → Int32} {T : List ai_C} {ρ : Nat → Int} {Z Z' : ai_S} {h : jm_H} {lv : ai_L} {lc : jm_L} {st r st' : List ai_V} {sc rc : List Value} {pc : Nat}
theorem ai_f1_T {ci k a : Nat} {t : ai_F} (hf : ai_f1 T ci k a = some t) : ∃ ts, T[a]? = some (.inr (.inr (.inr (ci, ts)))) ∧ ts[k]? = some t := by
  unfold ai_f1 at hf
  split at hf
  · rename_i cj ts hT
    split at hf
    · rename_i hc
      subst hc
      exact ⟨ts, hT, hf⟩
    · cases hf
  · cases hf
theorem ai_objT {ci a : Nat} {ts : List ai_F} (hh : ai_gh W T h) (hT : T[a]? = some (.inr (.inr (.inr (ci, ts))))) : ∃ fs, h[a]? = some (.inr (.inr (.inr (ci, fs)))) ∧ fs.length = ts.length ∧ ∀ (i : Nat) (t : ai_F) (v : Value), ts[i]? = some t → fs[i]? = some v → ai_gf (W a i) t v := by
  obtain ⟨c, h1, h2⟩ := ai_gh_at hh hT
  unfold ai_gcell at h2
  split at h2
  · rename_i e; cases e
  · rename_i e; cases e
  · rename_i e; cases e
  · rename_i e
    cases e
    obtain ⟨rfl, g2, g3⟩ := h2
    exact ⟨_, h1, g2, g3⟩
  · exact h2.elim
theorem ai_putf_ok {oc idx : Nat} {isI : Bool} (hs : ai_putf T oc idx st Z = some (st', Z')) (hl : ai_gl Z.1 ρ lv lc) (ht : ai_gt Z.1 ρ st sc) (hg : ai_gs W T ρ Z h) : ∃ sc' h', jm_putf oc idx isI sc h = some (sc', h') ∧ ai_out W T ρ Z.1 [(pc, lv, st', Z')] (pc, lc, sc', h') := by
  unfold ai_putf at hs
  split at hs
  · rename_i x ks r
    obtain ⟨v, rc1, rfl, hv, hr1⟩ := ai_gt_cons ht
    obtain ⟨v0, rc, rfl, ⟨a, ha, rfl⟩, hr⟩ := ai_gt_cons hr1
    split at hs
    · cases hs
    · rename_i ci k hf
      split at hs
      · rename_i hc
        cases hs
        have h1 := List.all_eq_true.mp hc.2 a ha
        split at h1
        · rename_i t hft
          obtain ⟨ts, hT, htk⟩ := ai_f1_T hft
          obtain ⟨fs, q1, q2, q3⟩ := ai_objT hg.2.2.2.1 hT
          have hk : k < fs.length := by rw [q2]; exact (List.getElem?_eq_some_iff.mp htk).1
          obtain ⟨w1, w2⟩ := ai_okf_ok (w := W a k) hg h1 hv
          refine ⟨rc, h.set a (.inr (.inr (.inr (ci, fs.set k v)))), ?_, ?_⟩
          · unfold jm_putf
            simp only [hf, q1]
            rw [if_pos ⟨trivial, hk, w1, Or.inl hc.1⟩]
          · have hla : a < h.length := (List.getElem?_eq_some_iff.mp q1).1
            have hcell : ai_gcell (W a) (.inr (.inr (.inr (ci, ts)))) (.inr (.inr (.inr (ci, fs.set k v)))) := by
              refine ⟨rfl, by rw [List.length_set]; exact q2, fun i t2 v2 e1 e2 => ?_⟩
              by_cases e : i = k
              · subst e
                rw [List.getElem?_set_self hk] at e2
                cases e2
                rw [htk] at e1
                cases e1
                exact w2
              · rw [List.getElem?_set_ne (Ne.symm e)] at e2
                exact q3 i t2 v2 e1 e2
            have hdrop : ∀ q ∈ ai_drop Z ks k, ∃ ci2 fs2 v2, (h.set a (.inr (.inr (.inr (ci, fs.set k v)))))[q.1.1]? = some (.inr (.inr (.inr (ci2, fs2)))) ∧ fs2[q.1.2]? = some v2 ∧ ai_gv Z.1 ρ q.2 v2 := by
              intro q hq
              obtain ⟨m1, m2⟩ := List.mem_filter.mp hq
              obtain ⟨ci2, fs2, v2, g1, g2, g3⟩ := hg.2.2.2.2 q m1
              by_cases e : a = q.1.1
              · have hne : ¬ k = q.1.2 := fun e2 => by
                  have hin : ks.contains q.1.1 = true := by rw [← e]; simpa using ha
                  have hk2 : (q.1.2 == k) = true := by simp [e2]
                  rw [hin, hk2] at m2
                  cases m2
                rw [← e, q1] at g1
                cases g1
                exact ⟨ci, fs.set k v, v2, by rw [← e, List.getElem?_set_self hla], by rw [List.getElem?_set_ne hne]; exact g2, g3⟩
              · exact ⟨ci2, fs2, v2, by rw [List.getElem?_set_ne e]; exact g1, g2, g3⟩
            refine ai_stay (Z := (Z.1, Z.2.1, _)) hl hr ⟨hg.1, hg.2.1, hg.2.2.1, ai_gh_set hg.2.2.2.1 hT hcell, ?_⟩
            split
            · rename_i b
              have hab : a = b := List.mem_singleton.mp ha
              subst hab
              intro q hq
              rcases List.mem_cons.mp hq with rfl | hq
              · exact ⟨ci, fs.set k v, v, by rw [List.getElem?_set_self hla], by rw [List.getElem?_set_self hk], hv⟩
              · exact hdrop q hq
            · exact hdrop
        · cases h1
      · cases hs
  · cases hs
/-- Math -/
def ai_math (oc idx : Nat) (st : List ai_V) (Z : ai_S) : Option (List ai_V × ai_S) :=
  if jm_has jm_kmax oc idx = true then (match st with
    | .inl b :: .inl a :: r => some ((ai_mk Z (ai_mx (ai_l Z.2.1 a) (ai_l Z.2.1 b)) (ai_mx (ai_h Z.2.1 a) (ai_h Z.2.1 b))).1 :: r, (ai_mk Z (ai_mx (ai_l Z.2.1 a) (ai_l Z.2.1 b)) (ai_mx (ai_h Z.2.1 a) (ai_h Z.2.1 b))).2)
    | _ => none)
  else if jm_has jm_kmin oc idx = true then (match st with
    | .inl b :: .inl a :: r => some ((ai_mk Z (ai_mn (ai_l Z.2.1 a) (ai_l Z.2.1 b)) (ai_mn (ai_h Z.2.1 a) (ai_h Z.2.1 b))).1 :: r, (ai_mk Z (ai_mn (ai_l Z.2.1 a) (ai_l Z.2.1 b)) (ai_mn (ai_h Z.2.1 a) (ai_h Z.2.1 b))).2)
    | _ => none)
  else if jm_has jm_kabs oc idx = true then (match st with
    | .inl _ :: r => some ((ai_mk Z ai_min ai_max).1 :: r, (ai_mk Z ai_min ai_max).2)
    | _ => none)
  else none
def ai_cs (st : List ai_V) : Nat := (st.map (fun a => if ai_isl a = true then 2 else 1)).sum
theorem ai_cs_ok {nv : Nat} : ∀ {st : List ai_V} {sc : List Value}, ai_gt nv ρ st sc → jm_cs sc = ai_cs st
  | [], [], _ => rfl
  | a :: st, v :: sc, h => by
    show v.category + jm_cs sc = (if ai_isl a = true then 2 else 1) + ai_cs st
    rw [ai_cs_ok h.2, ai_cat h.1]
  | [], _ :: _, h => h.elim
  | _ :: _, [], h => h.elim
theorem ai_math_ok {oc idx : Nat} (hs : ai_math oc idx st Z = some (st', Z')) (h8 : ai_cs st ≤ 8) (hl : ai_gl Z.1 ρ lv lc) (ht : ai_gt Z.1 ρ st sc) (hg : ai_gs W T ρ Z h) : ∃ sc', jm_math oc idx sc = some sc' ∧ ai_out W T ρ Z.1 [(pc, lv, st', Z')] (pc, lc, sc', h) := by
  unfold ai_math at hs
  unfold jm_math
  split at hs
  · rename_i hk
    rw [if_pos hk]
    split at hs
    · rename_i b a r
      cases hs
      obtain ⟨j, rc1, rfl, hj, hr1⟩ := ai_gt_i ht
      obtain ⟨i, rc, rfl, hi, hr⟩ := ai_gt_i hr1
      have h9 : jm_cs rc ≤ 8 := by rw [ai_cs_ok hr]; have : ai_cs (.inl b :: .inl a :: r) = 1 + (1 + ai_cs r) := rfl; omega
      have l1 := ai_lh hg.2.1 hg.2.2.1 hi.2
      have l2 := ai_lh hg.2.1 hg.2.2.1 hj.2
      refine ⟨.int (if i < j then j else i) :: rc, by simp only [h9, if_true], ai_push (ai_mk_ok hg ?_ ?_) hl hr⟩
      · unfold ai_mx
        by_cases c : i < j
        · rw [if_pos c]; have := Int32.lt_iff_toInt_lt.mp c; split <;> omega
        · rw [if_neg c]; have : ¬ i.toInt < j.toInt := fun z => c (Int32.lt_iff_toInt_lt.mpr z); split <;> omega
      · unfold ai_mx
        by_cases c : i < j
        · rw [if_pos c]; split <;> omega
        · rw [if_neg c]; split <;> omega
    · cases hs
  · rename_i hk1
    rw [if_neg hk1]
    split at hs
    · rename_i hk
      rw [if_pos hk]
      split at hs
      · rename_i b a r
        cases hs
        obtain ⟨j, rc1, rfl, hj, hr1⟩ := ai_gt_i ht
        obtain ⟨i, rc, rfl, hi, hr⟩ := ai_gt_i hr1
        have h9 : jm_cs rc ≤ 8 := by rw [ai_cs_ok hr]; have : ai_cs (.inl b :: .inl a :: r) = 1 + (1 + ai_cs r) := rfl; omega
        have l1 := ai_lh hg.2.1 hg.2.2.1 hi.2
        have l2 := ai_lh hg.2.1 hg.2.2.1 hj.2
        refine ⟨.int (if j < i then j else i) :: rc, by simp only [h9, if_true], ai_push (ai_mk_ok hg ?_ ?_) hl hr⟩
        · unfold ai_mn
          by_cases c : j < i
          · rw [if_pos c]; split <;> omega
          · rw [if_neg c]; split <;> omega
        · unfold ai_mn
          by_cases c : j < i
          · rw [if_pos c]; have := Int32.lt_iff_toInt_lt.mp c; split <;> omega
          · rw [if_neg c]; have : ¬ j.toInt < i.toInt := fun z => c (Int32.lt_iff_toInt_lt.mpr z); split <;> omega
      · cases hs
    · rename_i hk2
      rw [if_neg hk2]
      split at hs
      · rename_i hk
        rw [if_pos hk]
        split at hs
        · rename_i a r
          cases hs
          obtain ⟨i, rc, rfl, hi, hr⟩ := ai_gt_i ht
          have h9 : jm_cs rc ≤ 8 := by rw [ai_cs_ok hr]; have : ai_cs (.inl a :: r) = 1 + ai_cs r := rfl; omega
          exact ⟨.int (if 0 ≤ i then i else 0 - i) :: rc, by simp only [h9, if_true], ai_push (ai_full hg) hl hr⟩
        · cases hs
      · cases hs
/-- copies between int arrays -/
def ai_copy (T : List ai_C) (st : List ai_V) (Z : ai_S) : Option (List ai_V) := match st with
  | .inl n :: .inl dp :: .inr (.inl ks) :: .inl sp :: .inr (.inl js) :: r => if 0 ≤ ai_l Z.2.1 n ∧ 0 ≤ ai_l Z.2.1 dp ∧ 0 ≤ ai_l Z.2.1 sp ∧ ks.all (fun a => js.all (fun a0 => match ai_a1 T .int a0, ai_a1 T .int a with
      | some (n0, lo0, hi0, _), some (n1, lo1, hi1, b1) => decide (ai_h Z.2.1 sp + ai_h Z.2.1 n ≤ n0 ∧ ai_h Z.2.1 dp + ai_h Z.2.1 n ≤ n1 ∧ lo1 ≤ lo0 ∧ hi0 ≤ hi1 ∧ b1 = false)
      | _, _ => false)) = true then some r else none
  | _ => none
theorem ai_copy_ok (hs : ai_copy T st Z = some st') (h8 : ai_cs st ≤ 8) (hl : ai_gl Z.1 ρ lv lc) (ht : ai_gt Z.1 ρ st sc) (hg : ai_gs W T ρ Z h) : ∃ sc' h', jm_copy sc h = some (sc', h') ∧ ai_out W T ρ Z.1 [(pc, lv, st', Z)] (pc, lc, sc', h') := by
  unfold ai_copy at hs
  split at hs
  · rename_i xn xdp ks xsp js r
    split at hs
    · rename_i hc
      obtain ⟨c1, c2, c3, c4⟩ := hc
      cases hs
      obtain ⟨n, r1, rfl, hn, t1⟩ := ai_gt_i ht
      obtain ⟨dp, r2, rfl, hdp, t2⟩ := ai_gt_i t1
      obtain ⟨v0, r3, rfl, ⟨a, ha, rfl⟩, t3⟩ := ai_gt_cons t2
      obtain ⟨sp, r4, rfl, hsp, t4⟩ := ai_gt_i t3
      obtain ⟨v1, rc, rfl, ⟨a0, ha0, rfl⟩, hr⟩ := ai_gt_cons t4
      have h1 := List.all_eq_true.mp (List.all_eq_true.mp c4 a ha) a0 ha0
      split at h1
      · rename_i n0 lo0 hi0 b0 n1 lo1 hi1 b1 e0 e1
        have h2 := of_decide_eq_true h1
        obtain ⟨-, f, q1, q2⟩ := ai_a1_ok hg.2.2.2.1 e0
        obtain ⟨p0, g, p1, p2⟩ := ai_a1_ok hg.2.2.2.1 e1
        have l1 := ai_lh hg.2.1 hg.2.2.1 hn.2
        have l2 := ai_lh hg.2.1 hg.2.2.1 hdp.2
        have l3 := ai_lh hg.2.1 hg.2.2.1 hsp.2
        have z : ∀ x : Int32, 0 ≤ x.toInt → ¬ x < 0 := fun x hx q => by
          have := Int32.lt_iff_toInt_lt.mp q
          rw [Int32.toInt_zero] at this
          omega
        have en : n.toNatClampNeg = n.toInt.toNat := rfl
        have edp : dp.toNatClampNeg = dp.toInt.toNat := rfl
        have esp : sp.toNatClampNeg = sp.toInt.toNat := rfl
        have h9 : jm_cs rc ≤ 8 := by rw [ai_cs_ok hr]; have : ai_cs (.inl xn :: .inl xdp :: .inr (.inl ks) :: .inl xsp :: .inr (.inl js) :: st') = 1 + (1 + (1 + (1 + (1 + ai_cs st')))) := rfl; omega
        refine ⟨rc, h.set a (.inl (.int, n1, va_cpy f g sp.toNatClampNeg dp.toNatClampNeg n.toNatClampNeg)), ?_, ?_⟩
        · unfold jm_copy
          simp only [q1, p1]
          rw [if_pos ⟨z sp (by omega), z dp (by omega), z n (by omega), by omega, by omega, h9⟩]
        · refine ai_stay hl hr ⟨hg.1, hg.2.1, hg.2.2.1, ai_gh_set hg.2.2.2.1 p0 ⟨rfl, rfl, fun k hk => ?_, fun hb => by rw [h2.2.2.2.2] at hb; cases hb⟩, ai_gm_arr hg.2.2.2.2 p1 (fun _ _ e => by cases e)⟩
          by_cases hin : dp.toNatClampNeg ≤ k ∧ k < dp.toNatClampNeg + n.toNatClampNeg
          · rw [pk_cpy_in hin.1 hin.2]
            have := q2 (sp.toNatClampNeg + (k - dp.toNatClampNeg)) (by omega)
            omega
          · rw [pk_cpy_out (by omega)]
            exact p2 k hk
      · cases h1
    · cases hs
  · cases hs
end AF
