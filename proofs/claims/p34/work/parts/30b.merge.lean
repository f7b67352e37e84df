/-! deeper is no harm; many answers made one -/
theorem jm_run_deep : ∀ (n d y : Nat) (S : jm_S) (nc ns : Nat) (r : Option Value × jm_H × Nat × Nat), jm_run n d y S nc ns = some r → jm_run n (d + 1) y S nc ns = some r := by
  intro n
  induction n with
  | zero => intro d y S nc ns r h; cases h
  | succ n ih =>
    intro d y S nc ns r h
    obtain ⟨pc, lv, st, h0⟩ := S
    unfold jm_run at h ⊢
    split at h
    · cases h
    · rename_i q hq
      split at h
      · cases h
      · exact ih _ _ _ _ _ _ h
      · exact h
      · split at h
        · cases h
        · rename_i d'
          split at h
          · cases h
          · rename_i v1 h1 c1 s1 h2
            rw [ih _ _ _ _ _ _ h2]
            exact ih _ _ _ _ _ _ h
theorem jg_deep {d y : Nat} {S : jm_S} {Post : Option Value → jm_H → Prop} (h : jg d y S Post) : jg (d + 1) y S Post := by
  obtain ⟨n, v, h', hr, hp⟩ := h
  exact ⟨n, v, h', jm_run_deep _ _ _ _ _ _ _ hr, hp⟩
theorem ai_cx_up {W : Nat → Nat → Int32} {T : List ai_C} {d : Nat} {ctx : ai_Cx} (h : ai_cx W T d ctx) : ai_cx W T (d + 1) ctx := fun y as Z alts hr ρ hh asc ht hg => jg_deep (h y as Z alts hr ρ hh asc ht hg)
theorem ai_gv_back {nv nv' : Nat} {ρ ρ' : Nat → Int} {x : ai_V} {v0 v : Value} (h0 : ai_gv nv ρ x v0) (h1 : ai_gv nv' ρ' x v) (he : ai_ext nv ρ ρ') : ai_gv nv ρ x v := by
  unfold ai_gv at h0 h1 ⊢
  split at h0
  · obtain ⟨a1, -⟩ := h0
    obtain ⟨-, i, e1, e2⟩ := h1
    exact ⟨a1, i, e1, by rw [← he _ a1]; exact e2⟩
  · exact h1
  · exact h1
  · obtain ⟨a1, -⟩ := h0
    obtain ⟨-, i, e1, e2⟩ := h1
    exact ⟨a1, i, e1, by rw [← he _ a1]; exact e2⟩
  · exact h1
def ai_mgM (Z : ai_S) (alts : List ai_Alt) : ai_S := (Z.1, Z.2.1, Z.2.2.filter (fun q => alts.all (fun A => decide (ai_mem A.2.2.2 q.1.1 q.1.2 = some q.2))))
def ai_mgl : List ai_Alt → Int
  | [] => ai_max
  | A :: l => match A.1 with
    | some (.inl a) => ai_mn (ai_l A.2.2.1 a) (ai_mgl l)
    | _ => ai_mgl l
def ai_mgh : List ai_Alt → Int
  | [] => ai_min
  | A :: l => match A.1 with
    | some (.inl a) => ai_mx (ai_h A.2.2.1 a) (ai_mgh l)
    | _ => ai_mgh l
def ai_mgr : List ai_Alt → List Nat
  | [] => []
  | A :: l => match A.1 with
    | some (.inr (.inl ks)) => ks ++ ai_mgr l
    | _ => ai_mgr l
def ai_mg (Z : ai_S) (alts : List ai_Alt) : Option ai_Alt :=
  if alts.all (fun A => decide (A.1 = none)) = true then some (none, ai_mgM Z alts)
  else if alts.all (fun A => match A.1 with
    | some (.inl _) => true
    | _ => false) = true then some (some (.inl (Z.1, 0)), ai_new (ai_mgM Z alts) (ai_mgl alts) (ai_mgh alts))
  else if alts.all (fun A => match A.1 with
    | some (.inr (.inl _)) => true
    | _ => false) = true then some (some (.inr (.inl (ai_mgr alts))), ai_mgM Z alts)
  else if alts.all (fun A => match A.1 with
    | some (.inr (.inr (.inl _))) => true
    | _ => false) = true then some (some (ai_lg' none), ai_mgM Z alts)
  else none
theorem ai_mgl_le : ∀ (alts : List ai_Alt) (A : ai_Alt) (a : Nat × Int), A ∈ alts → A.1 = some (.inl a) → ai_mgl alts ≤ ai_l A.2.2.1 a ∧ ai_h A.2.2.1 a ≤ ai_mgh alts
  | [], A, a, hA, _ => by cases hA
  | B :: l, A, a, hA, ha => by
    rcases List.mem_cons.mp hA with rfl | hA
    · constructor
      · unfold ai_mgl
        rw [ha]
        dsimp only
        unfold ai_mn; split <;> omega
      · unfold ai_mgh
        rw [ha]
        dsimp only
        unfold ai_mx; split <;> omega
    · obtain ⟨h1, h2⟩ := ai_mgl_le l A a hA ha
      constructor
      · unfold ai_mgl
        split
        · unfold ai_mn; split <;> omega
        · exact h1
      · unfold ai_mgh
        split
        · unfold ai_mx; split <;> omega
        · exact h2
theorem ai_mgr_in : ∀ (alts : List ai_Alt) (A : ai_Alt) (ks : List Nat) (k : Nat), A ∈ alts → A.1 = some (.inr (.inl ks)) → k ∈ ks → k ∈ ai_mgr alts
  | [], A, ks, k, hA, _, _ => by cases hA
  | B :: l, A, ks, k, hA, ha, hk => by
    unfold ai_mgr
    rcases List.mem_cons.mp hA with rfl | hA
    · rw [ha]
      exact List.mem_append_left _ hk
    · split
      · exact List.mem_append_right _ (ai_mgr_in l A ks k hA ha hk)
      · exact ai_mgr_in l A ks k hA ha hk
theorem ai_mg_ok {W : Nat → Nat → Int32} {T : List ai_C} {ρ ρ' : Nat → Int} {Z : ai_S} {h h' : jm_H} {alts : List ai_Alt} {A B : ai_Alt} {v : Option Value} (hm : ai_mg Z alts = some B) (hg : ai_gs W T ρ Z h) (hA : A ∈ alts) (he : ai_ext Z.1 ρ ρ') (hv : ai_galt W T ρ' A v h') : ∃ ρ2, ai_ext Z.1 ρ ρ2 ∧ Z.1 ≤ B.2.1 ∧ ai_galt W T ρ2 B v h' := by
  have hb : ai_gs W T ρ (ai_mgM Z alts) h' := by
    refine ⟨hg.1, hg.2.1, hg.2.2.1, hv.1.2.2.2.1, fun q hq => ?_⟩
    obtain ⟨m1, m2⟩ := List.mem_filter.mp hq
    obtain ⟨-, -, v0, -, -, g3⟩ := hg.2.2.2.2 q m1
    have h1 := of_decide_eq_true (List.all_eq_true.mp m2 A hA)
    obtain ⟨ci, fs, v1, w1, w2, w3⟩ := ai_mem_ok hv.1.2.2.2.2 h1
    exact ⟨ci, fs, v1, w1, w2, ai_gv_back g3 w3 he⟩
  obtain ⟨A1, A2⟩ := A
  obtain ⟨hv1, hv2⟩ := hv
  unfold ai_mg at hm
  split at hm
  · rename_i hall
    cases hm
    have e : A1 = none := of_decide_eq_true (List.all_eq_true.mp hall _ hA)
    subst e
    cases v with
    | none => exact ⟨ρ, fun _ _ => rfl, Nat.le_refl _, hb, trivial⟩
    | some x => exact hv2.elim
  · split at hm
    · rename_i hall
      cases hm
      have e := List.all_eq_true.mp hall _ hA
      dsimp only at e
      split at e
      · rename_i a
        cases v with
        | none => exact hv2.elim
        | some x =>
          obtain ⟨h1, i, rfl, h2⟩ := hv2
          have hr := ai_lh hv1.2.1 hv1.2.2.1 h2
          have hle := ai_mgl_le alts _ a hA rfl
          obtain ⟨ρ2, e1, e2, e3⟩ := ai_new_ok (i := i.toInt) hb (Int.le_trans hle.1 hr.1) (Int.le_trans hr.2 hle.2)
          exact ⟨ρ2, e1, Nat.le_succ _, e3, Nat.lt_succ_self _, i, rfl, by show i.toInt = ρ2 Z.1 + 0; rw [show ρ2 Z.1 = i.toInt from e2]; omega⟩
      · cases e
    · split at hm
      · rename_i hall
        cases hm
        have e := List.all_eq_true.mp hall _ hA
        dsimp only at e
        split at e
        · rename_i ks
          cases v with
          | none => exact hv2.elim
          | some x =>
            obtain ⟨k, h1, rfl⟩ := hv2
            exact ⟨ρ, fun _ _ => rfl, Nat.le_refl _, hb, k, ai_mgr_in alts _ ks k hA rfl h1, rfl⟩
        · cases e
      · split at hm
        · rename_i hall
          cases hm
          have e := List.all_eq_true.mp hall _ hA
          dsimp only at e
          split at e
          · rename_i o
            cases v with
            | none => exact hv2.elim
            | some x =>
              obtain ⟨i, rc, e1, -, -⟩ := ai_gt_l (a := o) (r := []) (sc := [x]) ⟨hv2, trivial⟩
              cases e1
              exact ⟨ρ, fun _ _ => rfl, Nat.le_refl _, hb, i, rfl⟩
          · cases e
        · cases hm
/-- some methods' answers are made one -/
def ai_one (sel : Nat → Bool) (ctx : ai_Cx) : ai_Cx := fun y as Z => match ctx y as Z with
  | none => none
  | some alts => if sel y = true then (match ai_mg Z alts with
    | some B => some [B]
    | none => none) else some alts
theorem ai_one_ok {W : Nat → Nat → Int32} {T : List ai_C} {d : Nat} {sel : Nat → Bool} {ctx : ai_Cx} (h : ai_cx W T d ctx) : ai_cx W T d (ai_one sel ctx) := by
  intro y as Z alts hr ρ hh asc ht hg
  unfold ai_one at hr
  split at hr
  · cases hr
  · rename_i alts2 hr2
    split at hr
    · split at hr
      · rename_i B hB
        cases hr
        refine jg_mono (h y as Z alts2 hr2 ρ hh asc ht hg) (fun v h' hx => ?_)
        obtain ⟨A, hA, ρ', e1, e2, e3⟩ := hx
        obtain ⟨ρ2, q1, q2, q3⟩ := ai_mg_ok hB hg hA e1 e3
        exact ⟨B, List.mem_singleton.mpr rfl, ρ2, q1, q2, q3⟩
      · cases hr
    · cases hr
      exact h y as Z alts hr2 ρ hh asc ht hg
/-- the tower of contexts: calls up to n deep, checked in place -/
def ai_tw (dec : Nat → Nat → Option (Instr × Nat)) (T : List ai_C) (sel : Nat → Bool) (ann : Nat → Nat → Option ai_An) (fuel : Nat) : Nat → ai_Cx
  | 0 => fun _ _ _ => none
  | n + 1 => ai_one sel (ai_methc dec T (ai_tw dec T sel ann fuel n) ann fuel)
theorem ai_tw_ok {dec : Nat → Nat → Option (Instr × Nat)} (hdec : ai_dok dec) (W : Nat → Nat → Int32) (T : List ai_C) (sel : Nat → Bool) (ann : Nat → Nat → Option ai_An) (fuel : Nat) : ∀ n, ai_cx W T n (ai_tw dec T sel ann fuel n)
  | 0 => ai_cx0 W T
  | n + 1 => ai_one_ok (ai_methc_ok hdec (ai_tw_ok hdec W T sel ann fuel n))
/-- A METHOD THAT THE CHECKER PASSES: on every heap of its type, for every such arguments, it ends; the heap is of its type then (what is frozen as it was) -/
theorem ai_pass {dec : Nat → Nat → Option (Instr × Nat)} (hdec : ai_dok dec) {T : List ai_C} {sel : Nat → Bool} {ann : Nat → Nat → Option ai_An} {fuel n y : Nat} {as : List ai_V} {Z : ai_S} (hc : (ai_tw dec T sel ann fuel n y as Z).isSome = true) (W : Nat → Nat → Int32) {ρ : Nat → Int} {h : jm_H} {asc : List Value} (ht : ai_gt Z.1 ρ as asc) (hg : ai_gs W T ρ Z h) : jg n y (0, lv_args 0 asc, [], h) (fun _ h' => ai_gh W T h') := by
  cases hr : ai_tw dec T sel ann fuel n y as Z with
  | none => rw [hr] at hc; cases hc
  | some alts =>
    refine jg_mono (ai_tw_ok hdec W T sel ann fuel n y as Z alts hr ρ h asc ht hg) (fun v h' hx => ?_)
    obtain ⟨A, -, ρ', -, -, e3⟩ := hx
    exact e3.1.2.2.2.1
