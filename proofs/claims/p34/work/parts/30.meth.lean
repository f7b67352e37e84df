/-! the checker on a whole method; contexts -/
def ai_args : Nat → List ai_V → ai_L
  | _, [] => []
  | i, a :: as => (i, a) :: ai_args (if ai_isl a = true then i + 2 else i + 1) as
theorem ai_args_ge : ∀ (as : List ai_V) (i : Nat), ∀ q ∈ ai_args i as, i ≤ q.1
  | [], _, q, hq => by cases hq
  | a :: as, i, q, hq => by
    rcases List.mem_cons.mp hq with rfl | hq
    · exact Nat.le_refl _
    · have := ai_args_ge as _ q hq
      split at this <;> omega
theorem ai_args_ok {nv : Nat} {ρ : Nat → Int} : ∀ (as : List ai_V) (asc : List Value) (i : Nat), ai_gt nv ρ as asc → ai_gl nv ρ (ai_args i as) (lv_args i asc)
  | [], [], _, _ => fun q hq => by cases hq
  | a :: as, v :: asc, i, h => by
    intro q hq
    have hc := ai_cat h.1
    rcases List.mem_cons.mp hq with rfl | hq
    · exact ⟨v, jm_get_hd _ _ _, h.1⟩
    · have e : (if v.category = 2 then i + 2 else i + 1) = (if ai_isl a = true then i + 2 else i + 1) := by
        by_cases hl : ai_isl a = true
        · rw [if_pos hl] at hc ⊢; rw [if_pos hc]
        · rw [if_neg hl] at hc ⊢; rw [if_neg (by omega)]
      obtain ⟨w, g1, g2⟩ := ai_args_ok as asc _ h.2 q hq
      refine ⟨w, ?_, g2⟩
      have hge := ai_args_ge as _ q hq
      have hne : ¬ i = q.1 := by
        intro z
        split at hge <;> omega
      show jm_get ((i, v) :: lv_args (if v.category = 2 then i + 2 else i + 1) asc) q.1 = some w
      unfold jm_get
      rw [List.find?_cons_of_neg (by simpa using hne), e]
      exact g1
  | [], _ :: _, _, h => h.elim
  | _ :: _, [], _, h => h.elim
def ai_meth (dec : Nat → Nat → Option (Instr × Nat)) (T : List ai_C) (ctx : ai_Cx) (ann : Nat → Nat → Option ai_An) (fuel : Nat) : ai_Cx := fun y as Z => match jm_ms[y]? with
  | none => none
  | some q => ai_go (dec y) T ctx (ann y) q fuel false [] (0, ai_args 0 as, [], Z)
/-- a table of instructions is the methods' own -/
def ai_dok (dec : Nat → Nat → Option (Instr × Nat)) : Prop := ∀ y q, jm_ms[y]? = some q → ∀ pc i len, dec y pc = some (i, len) → decode q.2.1 pc = .ok (i, len)
def jd_slow (y pc : Nat) : Option (Instr × Nat) := match jm_ms[y]? with
  | none => none
  | some q => (match decode q.2.1 pc with
    | .ok x => some x
    | .error _ => none)
theorem jd_slow_ok : ai_dok jd_slow := by
  intro y q hq pc i len h
  unfold jd_slow at h
  rw [hq] at h
  dsimp only at h
  split at h
  · rename_i x hx
    cases h
    exact hx
  · cases h
/-- every answer's knowledge has at least the variables that were -/
def ai_more (nv : Nat) (alts : List ai_Alt) : Bool := alts.all (fun A => decide (nv ≤ A.2.1))
def ai_methc (dec : Nat → Nat → Option (Instr × Nat)) (T : List ai_C) (ctx : ai_Cx) (ann : Nat → Nat → Option ai_An) (fuel : Nat) : ai_Cx := fun y as Z => match ai_meth dec T ctx ann fuel y as Z with
  | some alts => if ai_more Z.1 alts = true then some alts else none
  | none => none
theorem ai_methc_ok {W : Nat → Nat → Int32} {T : List ai_C} {d : Nat} {ctx : ai_Cx} {ann : Nat → Nat → Option ai_An} {fuel : Nat} {dec : Nat → Nat → Option (Instr × Nat)} (hdec : ai_dok dec) (hctx : ai_cx W T d ctx) : ai_cx W T (d + 1) (ai_methc dec T ctx ann fuel) := by
  intro y as Z alts hr ρ h asc ht hg
  unfold ai_methc at hr
  split at hr
  · rename_i alts2 hr2
    split at hr
    · rename_i hm
      cases hr
      unfold ai_meth at hr2
      split at hr2
      · cases hr2
      · rename_i q hq
        exact ai_go_ok (hdec y q hq) hq hctx fuel false [] (0, ai_args 0 as, [], Z) alts hr2 ρ (lv_args 0 asc) [] h _ (ai_args_ok as asc 0 ht) trivial hg (fun L hL => by cases hL) (fun A hA ρ' v h' e1 e2 => ⟨A, hA, ρ', e1, of_decide_eq_true (List.all_eq_true.mp hm A hA), e2⟩)
    · cases hr
  · cases hr
theorem ai_cx0 (W : Nat → Nat → Int32) (T : List ai_C) : ai_cx W T 0 (fun _ _ _ => none) := by
  intro y as Z alts hr
  cases hr
