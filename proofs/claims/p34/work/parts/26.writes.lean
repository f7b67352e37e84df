/-! the checker's writes, longs and references in arrays -/
theorem ai_gh_set {W : Nat → Nat → Int32} {T : List ai_C} {h : jm_H} {a : Nat} {x : ai_C} {c : jm_C} (hh : ai_gh W T h) (ha : T[a]? = some x) (hc : ai_gcell (W a) x c) : ai_gh W T (h.set a c) := by
  refine ⟨by rw [List.length_set]; exact hh.1, fun k y d h1 h2 => ?_⟩
  by_cases e : k = a
  · subst e
    rw [ha] at h1
    cases h1
    have hl : k < h.length := by rw [hh.1]; exact (List.getElem?_eq_some_iff.mp ha).1
    rw [List.getElem?_set_self hl] at h2
    cases h2
    exact hc
  · rw [List.getElem?_set_ne (Ne.symm e)] at h2
    exact hh.2 k y d h1 h2
theorem ai_gm_arr {nv : Nat} {ρ : Nat → Int} {M : List ((Nat × Nat) × ai_V)} {h : jm_H} {a : Nat} {c0 c : jm_C} (hm : ai_gm nv ρ M h) (h0 : h[a]? = some c0) (hno : ∀ ci fs, c0 ≠ .inr (.inr (.inr (ci, fs)))) : ai_gm nv ρ M (h.set a c) := fun q hq => by
  obtain ⟨ci, fs, v, g1, g2, g3⟩ := hm q hq
  have hne : a ≠ q.1.1 := fun e => by
    rw [← e, h0] at g1
    exact hno ci fs (Option.some.inj g1)
  exact ⟨ci, fs, v, by rw [List.getElem?_set_ne hne]; exact g1, g2, g3⟩
def ai_iast (T : List ai_C) (st : List ai_V) (Z : ai_S) : Option (List ai_V) := match st with
  | .inl x :: .inl i :: .inr (.inl ks) :: r => if ks.all (fun a => match ai_a1 T .int a with
      | some (n, lo, hi, b) => ai_ix Z i n && decide (lo ≤ ai_l Z.2.1 x ∧ ai_h Z.2.1 x ≤ hi ∧ b = false)
      | none => false) = true then some r else none
  | _ => none
def ai_bast (T : List ai_C) (st : List ai_V) (Z : ai_S) : Option (List ai_V) := match st with
  | .inl _ :: .inl i :: .inr (.inl ks) :: r => if ks.all (fun a => match ai_a1 T .byte a with
      | some (n, lo, hi, b) => ai_ix Z i n && decide (lo ≤ -128 ∧ 127 ≤ hi ∧ b = false)
      | none => (match ai_a1 T .boolean a with
        | some (n, lo, hi, b) => ai_ix Z i n && decide (lo ≤ 0 ∧ 1 ≤ hi ∧ b = false)
        | none => false)) = true then some r else none
  | _ => none
def ai_l1 (T : List ai_C) (a : Nat) : Option Nat := match T[a]? with
  | some (.inr (.inl n)) => some n
  | _ => none
theorem ai_l1_ok {W : Nat → Nat → Int32} {T : List ai_C} {h : jm_H} {a n : Nat} (hh : ai_gh W T h) (hf : ai_l1 T a = some n) : T[a]? = some (.inr (.inl n)) ∧ ∃ f, h[a]? = some (.inr (.inl (n, f))) := by
  unfold ai_l1 at hf
  split at hf
  · rename_i n2 hT
    cases hf
    refine ⟨hT, ?_⟩
    obtain ⟨c, h1, h2⟩ := ai_gh_at hh hT
    unfold ai_gcell at h2
    split at h2
    · rename_i e; cases e
    · rename_i e
      cases e
      subst h2
      exact ⟨_, h1⟩
    · rename_i e; cases e
    · rename_i e; cases e
    · exact h2.elim
  · cases hf
def ai_lald (T : List ai_C) (st : List ai_V) (Z : ai_S) : Option (List ai_V) := match st with
  | .inl i :: .inr (.inl ks) :: r => if ks.all (fun a => match ai_l1 T a with
      | some n => ai_ix Z i n
      | none => false) = true then some (ai_lg' none :: r) else none
  | _ => none
def ai_last (T : List ai_C) (st : List ai_V) (Z : ai_S) : Option (List ai_V) := match st with
  | .inr (.inr (.inl _)) :: .inl i :: .inr (.inl ks) :: r => if ks.all (fun a => match ai_l1 T a with
      | some n => ai_ix Z i n
      | none => false) = true then some r else none
  | _ => none
/-- a place of an array of references: all that lie there, or the one -/
def ai_aald (T : List ai_C) (st : List ai_V) (Z : ai_S) : Option (List ai_V) := match st with
  | .inl i :: .inr (.inl [a]) :: r => (match T[a]? with
    | some (.inr (.inr (.inl (t, es)))) => if ai_ix Z i es.length = true ∧ jm_tin t = true ∧ jm_isref t = true then (if i.1 = 0 then (match es[i.2.toNat]? with
        | some k => some (.inr (.inl [k]) :: r)
        | none => none) else some (.inr (.inl es) :: r)) else none
    | _ => none)
  | _ => none
/-- the length, where all have the same -/
def ai_len (T : List ai_C) (a : Nat) : Option Nat := match T[a]? with
  | some (.inl (t, n, _, _, _)) => if jm_tin t = true then some n else none
  | some (.inr (.inl n)) => some n
  | some (.inr (.inr (.inl (t, es)))) => if jm_tin t = true then some es.length else none
  | _ => none
def ai_alen (T : List ai_C) (st : List ai_V) : Option (List ai_V) := match st with
  | .inr (.inl (a :: ks)) :: r => (match ai_len T a with
    | some n => if ks.all (fun b => decide (ai_len T b = some n)) = true ∧ n < 2147483648 then some (.inl (0, n) :: r) else none
    | none => none)
  | _ => none
section AW
variable {W : Nat → Nat → Int32} {T : List ai_C} {ρ : Nat → Int} {Z Z' : ai_S} {h : jm_H} {lv : ai_L} {lc : jm_L} {st r st' : List ai_V} {sc rc : List Value} {pc : Nat}
theorem ai_iast_ok (hs : ai_iast T st Z = some st') (hl : ai_gl Z.1 ρ lv lc) (ht : ai_gt Z.1 ρ st sc) (hg : ai_gs W T ρ Z h) : ∃ sc' h', jm_iast sc h = some (sc', h') ∧ ai_out W T ρ Z.1 [(pc, lv, st', Z)] (pc, lc, sc', h') := by
  unfold ai_iast at hs
  split at hs
  · rename_i x i ks r
    split at hs
    · rename_i hall
      cases hs
      obtain ⟨w, rc1, rfl, hw, hr1⟩ := ai_gt_i ht
      obtain ⟨j, rc2, rfl, hj, hr2⟩ := ai_gt_i hr1
      obtain ⟨v0, rc, rfl, ⟨a, ha, rfl⟩, hr⟩ := ai_gt_cons hr2
      have h1 := List.all_eq_true.mp hall a ha
      split at h1
      · rename_i n lo hi b0 ha1
        rw [Bool.and_eq_true] at h1
        have h2 := of_decide_eq_true h1.2
        obtain ⟨q0, f, q1, q2⟩ := ai_a1_ok hg.2.2.2.1 ha1
        obtain ⟨w1, w2⟩ := ai_ix_ok hg hj.2 h1.1 (Nat.le_refl n)
        have hx := ai_lh hg.2.1 hg.2.2.1 hw.2
        refine ⟨rc, h.set a (.inl (.int, n, upd f j.toNatClampNeg w)), ?_, ?_⟩
        · unfold jm_iast
          simp only [q1, w1, if_true]
        · refine ai_stay hl hr ⟨hg.1, hg.2.1, hg.2.2.1, ai_gh_set hg.2.2.2.1 q0 ⟨rfl, rfl, fun k hk => ?_, fun hb => by rw [h2.2.2] at hb; cases hb⟩, ai_gm_arr hg.2.2.2.2 q1 (fun _ _ e => by cases e)⟩
          by_cases e : k = j.toNatClampNeg
          · subst e
            rw [pk_us]
            omega
          · rw [pk_un e]
            exact q2 k hk
      · cases h1
    · cases hs
  · cases hs
theorem ai_narb (x : Int32) : -128 ≤ (vp_nar .byte x).toInt ∧ (vp_nar .byte x).toInt ≤ 127 := by
  rw [vp_nar_byte]
  exact ai_i2b x
theorem ai_bast_ok (hz : ∀ x : Int32, 0 ≤ (vp_nar .boolean x).toInt ∧ (vp_nar .boolean x).toInt ≤ 1) (hs : ai_bast T st Z = some st') (hl : ai_gl Z.1 ρ lv lc) (ht : ai_gt Z.1 ρ st sc) (hg : ai_gs W T ρ Z h) : ∃ sc' h', jm_bast sc h = some (sc', h') ∧ ai_out W T ρ Z.1 [(pc, lv, st', Z)] (pc, lc, sc', h') := by
  unfold ai_bast at hs
  split at hs
  · rename_i x i ks r
    split at hs
    · rename_i hall
      cases hs
      obtain ⟨w, rc1, rfl, hw, hr1⟩ := ai_gt_i ht
      obtain ⟨j, rc2, rfl, hj, hr2⟩ := ai_gt_i hr1
      obtain ⟨v0, rc, rfl, ⟨a, ha, rfl⟩, hr⟩ := ai_gt_cons hr2
      have h1 := List.all_eq_true.mp hall a ha
      split at h1
      · rename_i n lo hi b0 ha1
        rw [Bool.and_eq_true] at h1
        have h2 := of_decide_eq_true h1.2
        obtain ⟨q0, f, q1, q2⟩ := ai_a1_ok hg.2.2.2.1 ha1
        obtain ⟨w1, w2⟩ := ai_ix_ok hg hj.2 h1.1 (Nat.le_refl n)
        refine ⟨rc, h.set a (.inl (.byte, n, upd f j.toNatClampNeg (vp_nar .byte w))), ?_, ?_⟩
        · unfold jm_bast
          simp only [q1, w1, if_true]
        · refine ai_stay hl hr ⟨hg.1, hg.2.1, hg.2.2.1, ai_gh_set hg.2.2.2.1 q0 ⟨rfl, rfl, fun k hk => ?_, fun hb => by rw [h2.2.2] at hb; cases hb⟩, ai_gm_arr hg.2.2.2.2 q1 (fun _ _ e => by cases e)⟩
          by_cases e : k = j.toNatClampNeg
          · subst e
            rw [pk_us]
            have := ai_narb w
            omega
          · rw [pk_un e]
            exact q2 k hk
      · split at h1
        · rename_i n lo hi b0 ha1
          rw [Bool.and_eq_true] at h1
          have h2 := of_decide_eq_true h1.2
          obtain ⟨q0, f, q1, q2⟩ := ai_a1_ok hg.2.2.2.1 ha1
          obtain ⟨w1, w2⟩ := ai_ix_ok hg hj.2 h1.1 (Nat.le_refl n)
          refine ⟨rc, h.set a (.inl (.boolean, n, upd f j.toNatClampNeg (vp_nar .boolean w))), ?_, ?_⟩
          · unfold jm_bast
            simp only [q1, w1, if_true]
          · refine ai_stay hl hr ⟨hg.1, hg.2.1, hg.2.2.1, ai_gh_set hg.2.2.2.1 q0 ⟨rfl, rfl, fun k hk => ?_, fun hb => by rw [h2.2.2] at hb; cases hb⟩, ai_gm_arr hg.2.2.2.2 q1 (fun _ _ e => by cases e)⟩
            by_cases e : k = j.toNatClampNeg
            · subst e
              rw [pk_us]
              have := hz w
              omega
            · rw [pk_un e]
              exact q2 k hk
        · cases h1
    · cases hs
  · cases hs
theorem ai_lald_ok (hs : ai_lald T st Z = some st') (hl : ai_gl Z.1 ρ lv lc) (ht : ai_gt Z.1 ρ st sc) (hg : ai_gs W T ρ Z h) : ∃ sc', jm_lald sc h = some sc' ∧ ai_out W T ρ Z.1 [(pc, lv, st', Z)] (pc, lc, sc', h) := by
  unfold ai_lald at hs
  split at hs
  · rename_i i ks r
    split at hs
    · rename_i hall
      cases hs
      obtain ⟨j, rc2, rfl, hj, hr2⟩ := ai_gt_i ht
      obtain ⟨v0, rc, rfl, ⟨a, ha, rfl⟩, hr⟩ := ai_gt_cons hr2
      have h1 := List.all_eq_true.mp hall a ha
      split at h1
      · rename_i n ha1
        obtain ⟨q0, f, q1⟩ := ai_l1_ok hg.2.2.2.1 ha1
        obtain ⟨w1, w2⟩ := ai_ix_ok hg hj.2 h1 (Nat.le_refl n)
        refine ⟨.long (f j.toNatClampNeg) :: rc, ?_, ai_stay hl ⟨⟨_, rfl⟩, hr⟩ hg⟩
        unfold jm_lald
        simp only [q1, w1, if_true]
      · cases h1
    · cases hs
  · cases hs
theorem ai_last_ok (hs : ai_last T st Z = some st') (hl : ai_gl Z.1 ρ lv lc) (ht : ai_gt Z.1 ρ st sc) (hg : ai_gs W T ρ Z h) : ∃ sc' h', jm_last sc h = some (sc', h') ∧ ai_out W T ρ Z.1 [(pc, lv, st', Z)] (pc, lc, sc', h') := by
  unfold ai_last at hs
  split at hs
  · rename_i x i ks r
    split at hs
    · rename_i hall
      cases hs
      obtain ⟨w, rc1, rfl, hw, hr1⟩ := ai_gt_l (a := x) ht
      obtain ⟨j, rc2, rfl, hj, hr2⟩ := ai_gt_i hr1
      obtain ⟨v0, rc, rfl, ⟨a, ha, rfl⟩, hr⟩ := ai_gt_cons hr2
      have h1 := List.all_eq_true.mp hall a ha
      split at h1
      · rename_i n ha1
        obtain ⟨q0, f, q1⟩ := ai_l1_ok hg.2.2.2.1 ha1
        obtain ⟨w1, w2⟩ := ai_ix_ok hg hj.2 h1 (Nat.le_refl n)
        refine ⟨rc, h.set a (.inr (.inl (n, vp_updL f j.toNatClampNeg w))), ?_, ?_⟩
        · unfold jm_last
          simp only [q1, w1, if_true]
        · exact ai_stay hl hr ⟨hg.1, hg.2.1, hg.2.2.1, ai_gh_set hg.2.2.2.1 q0 rfl, ai_gm_arr hg.2.2.2.2 q1 (fun _ _ e => by cases e)⟩
      · cases h1
    · cases hs
  · cases hs
theorem ai_rarr {a : Nat} {t : FieldType} {es : List Nat} (hh : ai_gh W T h) (hT : T[a]? = some (.inr (.inr (.inl (t, es))))) : ∃ f, h[a]? = some (.inr (.inr (.inl (t, es.length, f)))) ∧ ∀ i, i < es.length → f i = es[i]? := by
  obtain ⟨c, h1, h2⟩ := ai_gh_at hh hT
  unfold ai_gcell at h2
  split at h2
  · rename_i e; cases e
  · rename_i e; cases e
  · rename_i e
    cases e
    obtain ⟨rfl, rfl, g3⟩ := h2
    exact ⟨_, h1, g3⟩
  · rename_i e; cases e
  · exact h2.elim
theorem ai_aald_ok (hs : ai_aald T st Z = some st') (hl : ai_gl Z.1 ρ lv lc) (ht : ai_gt Z.1 ρ st sc) (hg : ai_gs W T ρ Z h) : ∃ sc', jm_aald sc h = some sc' ∧ ai_out W T ρ Z.1 [(pc, lv, st', Z)] (pc, lc, sc', h) := by
  unfold ai_aald at hs
  split at hs
  · rename_i i b r
    obtain ⟨j, rc2, rfl, hj, hr2⟩ := ai_gt_i ht
    obtain ⟨v0, rc, rfl, ⟨a, ha, rfl⟩, hr⟩ := ai_gt_cons hr2
    have hab : a = b := List.mem_singleton.mp ha
    subst hab
    split at hs
    · rename_i t es hT
      split at hs
      · rename_i hc
        obtain ⟨c1, c2, c3⟩ := hc
        obtain ⟨f, q1, q2⟩ := ai_rarr hg.2.2.2.1 hT
        obtain ⟨w1, w2⟩ := ai_ix_ok hg hj.2 c1 (Nat.le_refl es.length)
        have hf := q2 _ w2
        have hek : es[j.toNatClampNeg]? = some (es[j.toNatClampNeg]'w2) := List.getElem?_eq_getElem w2
        rw [hek] at hf
        have hjm : jm_aald (.int j :: .ref a :: rc) h = some (.ref (es[j.toNatClampNeg]'w2) :: rc) := by
          unfold jm_aald
          simp only [q1, w1, c2, c3, and_self, if_true, hf]
        refine ⟨_, hjm, ?_⟩
        split at hs
        · rename_i h0
          split at hs
          · rename_i k hk
            cases hs
            have e : j.toNatClampNeg = i.2.toNat := by
              have := hj.2
              rw [h0, hg.2.1] at this
              show j.toInt.toNat = _
              omega
            refine ai_stay hl ⟨⟨k, List.mem_singleton.mpr rfl, ?_⟩, hr⟩ hg
            rw [← e, hek] at hk
            rw [Option.some.inj hk]
          · cases hs
        · cases hs
          exact ai_stay hl ⟨⟨_, List.getElem_mem w2, rfl⟩, hr⟩ hg
      · cases hs
    · cases hs
  · cases hs
theorem ai_len_ok {a n : Nat} (hh : ai_gh W T h) (hf : ai_len T a = some n) (rc : List Value) : jm_alen (.ref a :: rc) h = some (.int (Int32.ofNat n) :: rc) := by
  unfold ai_len at hf
  split at hf
  · rename_i t n2 lo hi b0 hT
    split at hf
    · rename_i ht
      cases hf
      obtain ⟨-, f, q1, -⟩ := ai_a1_ok (t := t) (n := n) (lo := lo) (hi := hi) (b := b0) hh (by unfold ai_a1; rw [hT]; simp)
      unfold jm_alen
      simp only [q1, ht, if_true]
    · cases hf
  · rename_i n2 hT
    cases hf
    obtain ⟨-, f, q1⟩ := ai_l1_ok (n := n) hh (by unfold ai_l1; rw [hT])
    unfold jm_alen
    simp only [q1]
  · rename_i t es hT
    split at hf
    · rename_i ht
      cases hf
      obtain ⟨f, q1, -⟩ := ai_rarr hh hT
      unfold jm_alen
      simp only [q1, ht, if_true]
    · cases hf
  · cases hf
theorem ai_alen_ok (hs : ai_alen T st = some st') (hl : ai_gl Z.1 ρ lv lc) (ht : ai_gt Z.1 ρ st sc) (hg : ai_gs W T ρ Z h) : ∃ sc', jm_alen sc h = some sc' ∧ ai_out W T ρ Z.1 [(pc, lv, st', Z)] (pc, lc, sc', h) := by
  unfold ai_alen at hs
  split at hs
  · rename_i b ks r
    obtain ⟨v0, rc, rfl, ⟨a, ha, rfl⟩, hr⟩ := ai_gt_cons ht
    split at hs
    · rename_i n hn
      split at hs
      · rename_i hc
        cases hs
        have han : ai_len T a = some n := by
          rcases List.mem_cons.mp ha with rfl | ha
          · exact hn
          · exact of_decide_eq_true (List.all_eq_true.mp hc.1 a ha)
        refine ⟨_, ai_len_ok hg.2.2.2.1 han rc, ai_stay hl ⟨⟨hg.1, _, rfl, ?_⟩, hr⟩ hg⟩
        have e : (nI n).toInt = (n : Int) := nI_toInt hc.2
        rw [hg.2.1]
        show (nI n).toInt = 0 + (n : Int)
        omega
      · cases hs
    · cases hs
  · cases hs
end AW
