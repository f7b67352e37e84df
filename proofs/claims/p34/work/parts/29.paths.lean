/-! the checker's paths: loops by invariants and measures, calls by what is known of them -/
abbrev ai_Tm : Type := (Option Nat) ⊕ (Nat × Nat)
def ai_tm (lv : ai_L) (Z : ai_S) (t : ai_Tm) : Option (Nat × Int) := match t with
  | .inl none => some (0, 0)
  | .inl (some i) => (match ai_get lv i with
    | some (.inl a) => some a
    | _ => none)
  | .inr (a, k) => (match ai_mem Z.2.2 a k with
    | some (.inl x) => some x
    | _ => none)
/-- a loop that is under way: its head, how many variables there were, the locals and what is known at its head, of that what is new, what was before, which variable stands for what, its measure (a difference) -/
abbrev ai_Lp : Type := Nat × Nat × ai_L × ai_S × ai_K × ai_K × List (Nat × ai_Tm) × (Nat × Int) × (Nat × Int)
def ai_val (L : ai_Lp) (lv : ai_L) (Z : ai_S) (v : Nat) : Nat × Int := if v < L.2.1 then (v, 0) else match L.2.2.2.2.2.2.1.lookup v with
  | some t => (ai_tm lv Z t).getD (0, 0)
  | none => (0, 0)
def ai_cov (L : ai_Lp) (lv : ai_L) (Z : ai_S) (a : ai_V) (b : Option ai_V) : Bool := match a, b with
  | .inl (x, c), some (.inl (y, d)) => decide (x < L.2.2.2.1.1) && (decide ((ai_val L lv Z x).1 = y) && decide ((ai_val L lv Z x).2 + c = d))
  | .inr (.inl ks), some (.inr (.inl js)) => js.all (fun j => ks.contains j)
  | .inr (.inr (.inl none)), some (.inr (.inr (.inl _))) => true
  | .inr (.inr (.inr i)), some (.inr (.inr (.inr j))) => decide (i = j)
  | _, _ => false
def ai_fits (L : ai_Lp) (lv : ai_L) (Z : ai_S) : Bool :=
  L.2.2.1.all (fun q => ai_cov L lv Z q.2 (ai_get lv q.1)) && (L.2.2.2.1.2.2.all (fun q => ai_cov L lv Z q.2 (ai_mem Z.2.2 q.1.1 q.1.2)) && (L.2.2.2.2.1.all (fun q => decide (q.1 < L.2.2.2.1.1) && (decide (q.2.1 < L.2.2.2.1.1) && ai_kn Z (ai_val L lv Z q.1) (ai_val L lv Z q.2.1) q.2.2)) &&
    (decide (L.2.2.2.1.2.1 = L.2.2.2.2.1 ++ L.2.2.2.2.2.1) && (decide (0 < L.2.1) && (decide (L.2.1 ≤ L.2.2.2.1.1) && decide (L.2.1 ≤ Z.1))))))
section AL
variable {W : Nat → Nat → Int32} {T : List ai_C} {ρ : Nat → Int} {Z Z' : ai_S} {h : jm_H} {lv : ai_L} {lc : jm_L} {L : ai_Lp}
theorem ai_cov_ok {ρI : Nat → Int} {a : ai_V} {b : Option ai_V} {v : Value} (hρ : ∀ x, ρI x = ρ (ai_val L lv Z x).1 + (ai_val L lv Z x).2) (hc : ai_cov L lv Z a b = true) (hb : ∀ y, b = some y → ai_gv Z.1 ρ y v) : ai_gv L.2.2.2.1.1 ρI a v := by
  unfold ai_cov at hc
  split at hc
  · rename_i x c y d
    simp only [Bool.and_eq_true, decide_eq_true_eq] at hc
    obtain ⟨c1, c2, c3⟩ := hc
    obtain ⟨h1, i, rfl, h2⟩ := hb _ rfl
    refine ⟨c1, i, rfl, ?_⟩
    rw [hρ, c2]
    omega
  · obtain ⟨k, h1, rfl⟩ := hb _ rfl
    have := List.all_eq_true.mp hc k h1
    exact ⟨k, by simpa using this, rfl⟩
  · rename_i o
    obtain ⟨i, rc, e1, -, -⟩ := ai_gt_l (a := o) (r := []) (sc := [v]) ⟨hb _ rfl, trivial⟩
    cases e1
    exact ⟨i, rfl⟩
  · rename_i i j
    have e : i = j := of_decide_eq_true hc
    subst e
    exact hb _ rfl
  · cases hc
theorem ai_fits_ok (hf : ai_fits L lv Z = true) (hl : ai_gl Z.1 ρ lv lc) (hg : ai_gs W T ρ Z h) (h0 : ai_gk L.2.1 ρ L.2.2.2.2.2.1) :
    ∃ ρI, ai_ext L.2.1 ρ ρI ∧ (∀ x, ρI x = ρ (ai_val L lv Z x).1 + (ai_val L lv Z x).2) ∧ ai_gl L.2.2.2.1.1 ρI L.2.2.1 lc ∧ ai_gs W T ρI L.2.2.2.1 h := by
  unfold ai_fits at hf
  simp only [Bool.and_eq_true, decide_eq_true_eq] at hf
  obtain ⟨f1, f2, f3, f4, f5, f6, f7⟩ := hf
  have hext : ai_ext L.2.1 ρ (fun x => ρ (ai_val L lv Z x).1 + (ai_val L lv Z x).2) := fun i hi => by
    show ρ (ai_val L lv Z i).1 + (ai_val L lv Z i).2 = ρ i
    unfold ai_val
    rw [if_pos hi]
    exact Int.add_zero _
  refine ⟨fun x => ρ (ai_val L lv Z x).1 + (ai_val L lv Z x).2, hext, fun _ => rfl, fun q hq => ?_, Nat.lt_of_lt_of_le f5 f6, (hext 0 f5).trans hg.2.1, fun q hq => ?_, hg.2.2.2.1, fun q hq => ?_⟩
  · have h1 := List.all_eq_true.mp f1 q hq
    cases hb : ai_get lv q.1 with
    | none =>
      rw [hb] at h1
      unfold ai_cov at h1
      split at h1 <;> first | (rename_i e; cases e) | cases h1
    | some y =>
      obtain ⟨v, g1, g2⟩ := ai_get_ok hl hb
      exact ⟨v, g1, ai_cov_ok (fun _ => rfl) h1 (fun z hz => by rw [hb] at hz; cases hz; exact g2)⟩
  · rw [f4] at hq
    rcases List.mem_append.mp hq with hq | hq
    · have h1 := List.all_eq_true.mp f3 q hq
      simp only [Bool.and_eq_true, decide_eq_true_eq] at h1
      obtain ⟨g1, g2, g3⟩ := h1
      have g4 := ai_kn_ok hg g3
      refine ⟨g1, g2, ?_⟩
      show ρ (ai_val L lv Z q.1).1 + (ai_val L lv Z q.1).2 - (ρ (ai_val L lv Z q.2.1).1 + (ai_val L lv Z q.2.1).2) ≤ q.2.2
      omega
    · exact (h0.ext f6 hext) q hq
  · have h1 := List.all_eq_true.mp f2 q hq
    cases hb : ai_mem Z.2.2 q.1.1 q.1.2 with
    | none =>
      rw [hb] at h1
      unfold ai_cov at h1
      split at h1 <;> first | (rename_i e; cases e) | cases h1
    | some y =>
      obtain ⟨ci, fs, v, g1, g2, g3⟩ := ai_mem_ok hg.2.2.2.2 hb
      exact ⟨ci, fs, v, g1, g2, ai_cov_ok (fun _ => rfl) h1 (fun z hz => by rw [hb] at hz; cases hz; exact g3)⟩
/-- the measure: never negative; smaller at the next coming -/
def ai_mu (L : ai_Lp) (ρ : Nat → Int) : Int := (ρ L.2.2.2.2.2.2.2.1.1 + L.2.2.2.2.2.2.2.1.2) - (ρ L.2.2.2.2.2.2.2.2.1 + L.2.2.2.2.2.2.2.2.2)
def ai_mok (L : ai_Lp) : Bool := decide (L.2.2.2.2.2.2.2.1.1 < L.2.2.2.1.1) && (decide (L.2.2.2.2.2.2.2.2.1 < L.2.2.2.1.1) && ai_kn L.2.2.2.1 L.2.2.2.2.2.2.2.2 L.2.2.2.2.2.2.2.1 0)
def ai_less (L : ai_Lp) (lv : ai_L) (Z : ai_S) : Bool := match ai_ub Z.2.1 (ai_val L lv Z L.2.2.2.2.2.2.2.1.1).1 L.2.2.2.2.2.2.2.1.1, ai_ub Z.2.1 L.2.2.2.2.2.2.2.2.1 (ai_val L lv Z L.2.2.2.2.2.2.2.2.1).1 with
  | some d1, some d2 => decide (d1 + (ai_val L lv Z L.2.2.2.2.2.2.2.1.1).2 + d2 - (ai_val L lv Z L.2.2.2.2.2.2.2.2.1).2 ≤ -1)
  | _, _ => false
theorem ai_less_ok {ρI : Nat → Int} (hs : ai_less L lv Z = true) (hg : ai_gs W T ρ Z h) (hρ : ∀ x, ρI x = ρ (ai_val L lv Z x).1 + (ai_val L lv Z x).2) : ai_mu L ρI < ai_mu L ρ := by
  unfold ai_less at hs
  split at hs
  · rename_i d1 d2 e1 e2
    have h1 := ai_ub_ok hg.2.2.1 e1
    have h2 := ai_ub_ok hg.2.2.1 e2
    have h3 := of_decide_eq_true hs
    unfold ai_mu
    rw [hρ, hρ]
    omega
  · cases hs
theorem ai_mok_ok (hm : ai_mok L = true) (hg : ai_gs W T ρ L.2.2.2.1 h) : 0 ≤ ai_mu L ρ := by
  unfold ai_mok at hm
  simp only [Bool.and_eq_true, decide_eq_true_eq] at hm
  have := ai_kn_ok hg hm.2.2
  unfold ai_mu
  omega
end AL
/-- what is given of a loop: the locals that change, the fields that change (with their ranges) and are kept track of, the fields that are forgotten, differences that hold, the measure -/
abbrev ai_An : Type := List Nat × List (Nat × Nat × Int × Int) × List (Nat × Nat) × List (ai_Tm × ai_Tm × Int) × ai_Tm × ai_Tm
def ai_bl : List Nat → ai_L → ai_S → ai_K → List (Nat × ai_Tm) → Option (ai_L × ai_S × ai_K × List (Nat × ai_Tm))
  | [], lv, Z, N, src => some (lv, Z, N, src)
  | i :: is, lv, Z, N, src => match ai_get lv i with
    | some (.inl _) => ai_bl is ((i, .inl (Z.1, 0)) :: lv.filter (fun q => !(q.1 == i))) (Z.1 + 1, Z.2.1, Z.2.2) ((Z.1, 0, ai_max) :: (0, Z.1, -ai_min) :: N) ((Z.1, .inl (some i)) :: src)
    | some (.inr (.inr (.inl _))) => ai_bl is ((i, ai_lg' none) :: lv.filter (fun q => !(q.1 == i))) Z N src
    | _ => none
def ai_bf : List (Nat × Nat × Int × Int) → ai_S → ai_K → List (Nat × ai_Tm) → ai_S × ai_K × List (Nat × ai_Tm)
  | [], Z, N, src => (Z, N, src)
  | (a, k, lo, hi) :: fs, Z, N, src => ai_bf fs (Z.1 + 1, Z.2.1, ((a, k), .inl (Z.1, 0)) :: Z.2.2.filter (fun q => !(q.1.1 == a && q.1.2 == k))) ((Z.1, 0, hi) :: (0, Z.1, -lo) :: N) ((Z.1, .inr (a, k)) :: src)
def ai_bc (lv : ai_L) (Z : ai_S) : List (ai_Tm × ai_Tm × Int) → ai_K → Option ai_K
  | [], N => some N
  | (s, t, c) :: cs, N => match ai_tm lv Z s, ai_tm lv Z t with
    | some a, some b => ai_bc lv Z cs ((a.1, b.1, b.2 + c - a.2) :: N)
    | _, _ => none
/-- the state at a loop's head, out of what is given -/
def ai_build (A : ai_An) (pc : Nat) (lv : ai_L) (Z : ai_S) : Option ai_Lp := match ai_bl A.1 lv (Z.1, Z.2.1, Z.2.2.filter (fun q => !A.2.2.1.contains q.1)) [] [] with
  | none => none
  | some (lv1, Z1, N1, src1) => (match ai_bc lv1 (ai_bf A.2.1 Z1 N1 src1).1 A.2.2.2.1 (ai_bf A.2.1 Z1 N1 src1).2.1, ai_tm lv1 (ai_bf A.2.1 Z1 N1 src1).1 A.2.2.2.2.1, ai_tm lv1 (ai_bf A.2.1 Z1 N1 src1).1 A.2.2.2.2.2 with
    | some N, some a, some b => some (pc, Z.1, lv1, ((ai_bf A.2.1 Z1 N1 src1).1.1, N ++ Z.2.1, (ai_bf A.2.1 Z1 N1 src1).1.2.2), N, Z.2.1, (ai_bf A.2.1 Z1 N1 src1).2.2, (a.1, a.2 + 1099511627776), b)
    | _, _, _ => none)
abbrev ai_Alt : Type := Option ai_V × ai_S
def ai_galt (W : Nat → Nat → Int32) (T : List ai_C) (ρ : Nat → Int) (A : ai_Alt) (v : Option Value) (h : jm_H) : Prop := ai_gs W T ρ A.2 h ∧ match A.1, v with
  | none, none => True
  | some a, some x => ai_gv A.2.1 ρ a x
  | _, _ => False
def ai_jn {β : Type} (x y : Option (List β)) : Option (List β) := match x, y with
  | some a, some b => some (a ++ b)
  | _, _ => none
abbrev ai_Cx : Type := Nat → List ai_V → ai_S → Option (List ai_Alt)
def ai_go (dec : Nat → Option (Instr × Nat)) (T : List ai_C) (ctx : ai_Cx) (an : Nat → Option ai_An) (q : jm_Y) : Nat → Bool → List ai_Lp → ai_P → Option (List ai_Alt)
  | 0, _, _, _ => none
  | n + 1, skip, Ls, (pc, lv, st, Z) => match (if skip then none else an pc) with
    | some A => (match st with
      | [] => (match Ls.find? (fun L => L.1 == pc) with
        | some L => if ai_fits L lv Z = true ∧ ai_less L lv Z = true then some [] else none
        | none => (match ai_build A pc lv Z with
          | none => none
          | some L => if ai_fits L lv Z = true ∧ ai_mok L = true ∧ L.2.1 = Z.1 ∧ L.2.2.2.2.2.1 = Z.2.1 ∧ L.1 = pc then ai_go dec T ctx an q n true (L :: Ls) (pc, L.2.2.1, [], L.2.2.2.1) else none))
      | _ => none)
    | none => match ai_step dec T q pc lv st Z with
      | none => none
      | some (.inl Ps) => Ps.foldr (fun P acc => ai_jn (ai_go dec T ctx an q n false Ls P) acc) (some [])
      | some (.inr (.inl v)) => some [(v, Z)]
      | some (.inr (.inr (y, as, r))) => match ctx y as Z with
        | none => none
        | some alts => alts.foldr (fun A acc => ai_jn (ai_go dec T ctx an q n false Ls (pc + 3, lv, A.1.toList ++ r, A.2)) acc) (some [])
theorem ai_fold {α β : Type} {f : α → Option (List β)} : ∀ {l : List α} {r : List β}, l.foldr (fun P acc => ai_jn (f P) acc) (some []) = some r → ∀ P ∈ l, ∃ a, f P = some a ∧ ∀ x ∈ a, x ∈ r
  | [], r, _, P, hP => by cases hP
  | Q :: l, r, h, P, hP => by
    rw [List.foldr_cons] at h
    unfold ai_jn at h
    split at h
    · rename_i a b ha hb
      cases h
      rcases List.mem_cons.mp hP with rfl | hP
      · exact ⟨a, ha, fun x hx => List.mem_append_left _ hx⟩
      · obtain ⟨a2, g1, g2⟩ := ai_fold hb P hP
        exact ⟨a2, g1, fun x hx => List.mem_append_right _ (g2 x hx)⟩
    · cases h
/-- what is known of calls holds -/
def ai_cx (W : Nat → Nat → Int32) (T : List ai_C) (d : Nat) (ctx : ai_Cx) : Prop := ∀ y as Z alts, ctx y as Z = some alts → ∀ ρ h asc, ai_gt Z.1 ρ as asc → ai_gs W T ρ Z h → jg d y (0, lv_args 0 asc, [], h) (fun v h' => ∃ A ∈ alts, ∃ ρ', ai_ext Z.1 ρ ρ' ∧ Z.1 ≤ A.2.1 ∧ ai_galt W T ρ' A v h')
def ai_hyp (W : Nat → Nat → Int32) (T : List ai_C) (d y : Nat) (L : ai_Lp) (ρ : Nat → Int) (nv : Nat) (Post : Option Value → jm_H → Prop) : Prop :=
  L.2.2.2.1.1 ≤ nv ∧ ai_mok L = true ∧ L.2.1 ≤ L.2.2.2.1.1 ∧ ai_gk L.2.1 ρ L.2.2.2.2.2.1 ∧ ∀ ρ' lc' h', ai_ext L.2.1 ρ ρ' → ai_gl L.2.2.2.1.1 ρ' L.2.2.1 lc' → ai_gs W T ρ' L.2.2.2.1 h' → ai_mu L ρ' < ai_mu L ρ → jg d y (L.1, lc', [], h') Post
theorem ai_ext.trans {n m : Nat} {ρ ρ' ρ'' : Nat → Int} (h1 : ai_ext n ρ ρ') (h2 : ai_ext m ρ' ρ'') (hn : n ≤ m) : ai_ext n ρ ρ'' := fun i hi => (h2 i (Nat.lt_of_lt_of_le hi hn)).trans (h1 i hi)
theorem ai_mu_ext {L : ai_Lp} {ρ ρ' : Nat → Int} (hm : ai_mok L = true) (he : ai_ext L.2.2.2.1.1 ρ ρ') : ai_mu L ρ' = ai_mu L ρ := by
  unfold ai_mok at hm
  simp only [Bool.and_eq_true, decide_eq_true_eq] at hm
  unfold ai_mu
  rw [he _ hm.1, he _ hm.2.1]
theorem ai_hyp.ext {W : Nat → Nat → Int32} {T : List ai_C} {d y : Nat} {L : ai_Lp} {ρ ρ' : Nat → Int} {nv nv' : Nat} {Post : Option Value → jm_H → Prop} (hh : ai_hyp W T d y L ρ nv Post) (he : ai_ext nv ρ ρ') (hn : nv ≤ nv') : ai_hyp W T d y L ρ' nv' Post := by
  obtain ⟨h1, h2, h3, h4, h5⟩ := hh
  have e1 : ai_ext L.2.2.2.1.1 ρ ρ' := fun i hi => he i (Nat.lt_of_lt_of_le hi h1)
  have e2 : ai_ext L.2.1 ρ ρ' := fun i hi => e1 i (Nat.lt_of_lt_of_le hi h3)
  refine ⟨Nat.le_trans h1 hn, h2, h3, h4.ext (Nat.le_refl _) e2, fun ρ2 lc2 hh2 g1 g2 g3 g4 => h5 ρ2 lc2 hh2 (e2.trans g1 (Nat.le_refl _)) g2 g3 ?_⟩
  rw [ai_mu_ext h2 e1] at g4
  exact g4
set_option maxHeartbeats 4000000 in
theorem ai_go_ok {W : Nat → Nat → Int32} {T : List ai_C} {d y : Nat} {q : jm_Y} {ctx : ai_Cx} {an : Nat → Option ai_An} {dec : Nat → Option (Instr × Nat)} (hdec : ∀ pc i len, dec pc = some (i, len) → decode q.2.1 pc = .ok (i, len)) (hq : jm_ms[y]? = some q) (hctx : ai_cx W T d ctx) : ∀ (n : Nat) (skip : Bool) (Ls : List ai_Lp) (P : ai_P) (alts : List ai_Alt), ai_go dec T ctx an q n skip Ls P = some alts →
    ∀ (ρ : Nat → Int) (lc : jm_L) (sc : List Value) (h : jm_H) (Post : Option Value → jm_H → Prop), ai_gl P.2.2.2.1 ρ P.2.1 lc → ai_gt P.2.2.2.1 ρ P.2.2.1 sc → ai_gs W T ρ P.2.2.2 h → (∀ L ∈ Ls, ai_hyp W T (d + 1) y L ρ P.2.2.2.1 Post) →
      (∀ A ∈ alts, ∀ ρ' v h', ai_ext P.2.2.2.1 ρ ρ' → ai_galt W T ρ' A v h' → Post v h') → jg (d + 1) y (P.1, lc, sc, h) Post := by
  intro n
  induction n with
  | zero => intro skip Ls P alts hr; cases hr
  | succ n ih =>
    intro skip Ls P alts hr ρ lc sc h Post hl ht hg hL hP
    obtain ⟨pc, lv, st, Z⟩ := P
    unfold ai_go at hr
    split at hr
    · rename_i A hA
      split at hr
      · cases sc with
        | cons _ _ => exact ht.elim
        | nil =>
          split at hr
          · rename_i L hfind
            split at hr
            · rename_i hc
              have hpc : L.1 = pc := by simpa using List.find?_some hfind
              obtain ⟨h1, h2, h3, h4, h5⟩ := hL L (List.mem_of_find?_eq_some hfind)
              obtain ⟨ρI, e1, e2, e3, e4⟩ := ai_fits_ok hc.1 hl hg h4
              have := h5 ρI lc h e1 e3 e4 (ai_less_ok hc.2 hg e2)
              rw [hpc] at this
              exact this
            · cases hr
          · split at hr
            · cases hr
            · rename_i L hb
              split at hr
              · rename_i hc
                obtain ⟨c1, c2, c3, c4, c5⟩ := hc
                have h0 : ai_gk L.2.1 ρ L.2.2.2.2.2.1 := by rw [c3, c4]; exact hg.2.2.1
                have hf2 := c1
                unfold ai_fits at hf2
                simp only [Bool.and_eq_true, decide_eq_true_eq] at hf2
                have hnv : L.2.1 ≤ L.2.2.2.1.1 := hf2.2.2.2.2.2.1
                have key : ∀ (m : Nat) (ρI : Nat → Int) (lc2 : jm_L) (h2 : jm_H), ai_ext L.2.1 ρ ρI → ai_gl L.2.2.2.1.1 ρI L.2.2.1 lc2 → ai_gs W T ρI L.2.2.2.1 h2 → (ai_mu L ρI).toNat ≤ m → jg (d + 1) y (pc, lc2, [], h2) Post := by
                  intro m
                  induction m with
                  | zero =>
                    intro ρI lc2 h2 g1 g2 g3 g4
                    refine ih true (L :: Ls) (pc, L.2.2.1, [], L.2.2.2.1) alts hr ρI lc2 [] h2 Post g2 trivial g3 (fun L2 hL2 => ?_) (fun A hA2 ρ' v h' x1 x2 => hP A hA2 ρ' v h' ?_ x2)
                    · rcases List.mem_cons.mp hL2 with rfl | hL2
                      · refine ⟨Nat.le_refl _, c2, hnv, h0.ext (Nat.le_refl _) g1, fun ρ2 lc3 h3 y1 y2 y3 y4 => ?_⟩
                        have := ai_mok_ok c2 y3
                        omega
                      · exact (hL L2 hL2).ext (by rw [c3] at g1; exact g1) (by rw [← c3]; exact hnv)
                    · rw [c3] at g1
                      exact g1.trans x1 (by rw [← c3]; exact hnv)
                  | succ m ihm =>
                    intro ρI lc2 h2 g1 g2 g3 g4
                    refine ih true (L :: Ls) (pc, L.2.2.1, [], L.2.2.2.1) alts hr ρI lc2 [] h2 Post g2 trivial g3 (fun L2 hL2 => ?_) (fun A hA2 ρ' v h' x1 x2 => hP A hA2 ρ' v h' ?_ x2)
                    · rcases List.mem_cons.mp hL2 with rfl | hL2
                      · refine ⟨Nat.le_refl _, c2, hnv, h0.ext (Nat.le_refl _) g1, fun ρ2 lc3 h3 y1 y2 y3 y4 => ?_⟩
                        rw [c5]
                        have := ai_mok_ok c2 y3
                        exact ihm ρ2 lc3 h3 (g1.trans y1 (Nat.le_refl _)) y2 y3 (by omega)
                      · exact (hL L2 hL2).ext (by rw [c3] at g1; exact g1) (by rw [← c3]; exact hnv)
                    · rw [c3] at g1
                      exact g1.trans x1 (by rw [← c3]; exact hnv)
                obtain ⟨ρI, e1, e2, e3, e4⟩ := ai_fits_ok c1 hl hg h0
                exact key _ ρI lc h e1 e3 e4 (Nat.le_refl _)
              · cases hr
      · cases hr
    · split at hr
      · cases hr
      · rename_i Ps hstep
        obtain ⟨S, j1, P2, hP2, ρ2, e1, e2, e3, e4, e5, e6⟩ := ai_step_ok hdec hstep hl ht hg
        obtain ⟨pc2, lc2, sc2, h2⟩ := S
        obtain ⟨a, ha1, ha2⟩ := ai_fold (f := fun P => ai_go dec T ctx an q n false Ls P) hr P2 hP2
        refine jg_step hq j1 ?_
        have e3' : pc2 = P2.1 := e3
        rw [e3']
        exact ih false Ls P2 a ha1 ρ2 lc2 sc2 h2 Post e4 e5 e6 (fun L hL2 => (hL L hL2).ext e1 e2) (fun A hA ρ' v h' x1 x2 => hP A (ha2 A hA) ρ' v h' (e1.trans x1 e2) x2)
      · rename_i v hstep
        cases hr
        have hsay := ai_step_ok hdec hstep hl ht hg
        cases v with
        | none => exact jg_ret hq hsay (hP (none, Z) (List.mem_singleton.mpr rfl) ρ none h (fun _ _ => rfl) ⟨hg, trivial⟩)
        | some a =>
          obtain ⟨x, j1, j2⟩ := hsay
          exact jg_ret hq j1 (hP (some a, Z) (List.mem_singleton.mpr rfl) ρ (some x) h (fun _ _ => rfl) ⟨hg, j2⟩)
      · rename_i y2 as r hstep
        obtain ⟨asc, rcc, j1, j2, j3⟩ := ai_step_ok hdec hstep hl ht hg
        split at hr
        · cases hr
        · rename_i alts2 hcx
          refine jg_call hq j1 (jg_mono (hctx y2 as Z alts2 hcx ρ h asc j2 hg) (fun v h' hx => ?_))
          obtain ⟨A, hA, ρ2, e1, e2, e3, e4⟩ := hx
          obtain ⟨a, ha1, ha2⟩ := ai_fold (f := fun A => ai_go dec T ctx an q n false Ls (pc + 3, lv, A.1.toList ++ r, A.2)) hr A hA
          have hst : ai_gt A.2.1 ρ2 (A.1.toList ++ r) (v.toList ++ rcc) := by
            have hr2 := ai_gt.ext e2 e1 j3
            obtain ⟨A1, A2⟩ := A
            cases A1 with
            | none => cases v with
              | none => exact hr2
              | some x => exact e4.elim
            | some a1 => cases v with
              | none => exact e4.elim
              | some x => exact ⟨e4, hr2⟩
          exact ih false Ls (pc + 3, lv, A.1.toList ++ r, A.2) a ha1 ρ2 lc (v.toList ++ rcc) h' Post (hl.ext e2 e1) hst e3 (fun L hL2 => (hL L hL2).ext e1 e2) (fun A2 hA2 ρ' v2 h2 x1 x2 => hP A2 (ha2 A2 hA2) ρ' v2 h2 (e1.trans x1 e2) x2)
