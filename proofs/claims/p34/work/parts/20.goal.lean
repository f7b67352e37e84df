/-! what a run comes to: total correctness over the small machine; and the words of the checker -/
theorem jm_run_more : ∀ (n k d y : Nat) (S : jm_S) (nc ns : Nat) (r : Option Value × jm_H × Nat × Nat), jm_run n d y S nc ns = some r → jm_run (n + k) d y S nc ns = some r := by
  intro n
  induction n with
  | zero => intro k d y S nc ns r h; cases h
  | succ n ih =>
    intro k d y S nc ns r h
    obtain ⟨pc, lv, st, h0⟩ := S
    rw [show n + 1 + k = (n + k) + 1 by omega]
    unfold jm_run at h ⊢
    split at h
    · cases h
    · rename_i q hq
      split at h
      · cases h
      · exact ih k _ _ _ _ _ _ h
      · exact h
      · split at h
        · cases h
        · rename_i d'
          split at h
          · cases h
          · rename_i v1 h1 c1 s1 h2
            rw [ih k _ _ _ _ _ _ h2]
            exact ih k _ _ _ _ _ _ h
/-- from S the method y ends, within d calls, making no cells, with an answer and cells of which Post holds -/
def jg (d y : Nat) (S : jm_S) (Post : Option Value → jm_H → Prop) : Prop := ∃ n v h', jm_run n d y S 0 0 = some (v, h', 0, 0) ∧ Post v h'
theorem jg_step {d y : Nat} {q : jm_Y} {pc : Nat} {lv : jm_L} {st : List Value} {h : jm_H} {S' : jm_S} {Post : Option Value → jm_H → Prop} (hq : jm_ms[y]? = some q) (hs : jm_step q pc lv st h = some (.inl (S', 0, 0))) (k : jg d y S' Post) : jg d y (pc, lv, st, h) Post := by
  obtain ⟨n, v, h', hr, hp⟩ := k
  refine ⟨n + 1, v, h', ?_, hp⟩
  unfold jm_run
  rw [hq]
  dsimp only
  rw [hs]
  exact hr
theorem jg_ret {d y : Nat} {q : jm_Y} {pc : Nat} {lv : jm_L} {st : List Value} {h : jm_H} {v : Option Value} {Post : Option Value → jm_H → Prop} (hq : jm_ms[y]? = some q) (hs : jm_step q pc lv st h = some (.inr (.inl v))) (k : Post v h) : jg d y (pc, lv, st, h) Post := by
  refine ⟨1, v, h, ?_, k⟩
  unfold jm_run
  rw [hq]
  dsimp only
  rw [hs]
theorem jg_call {d y y' : Nat} {q : jm_Y} {pc : Nat} {lv : jm_L} {st as r : List Value} {h : jm_H} {Post : Option Value → jm_H → Prop} (hq : jm_ms[y]? = some q) (hs : jm_step q pc lv st h = some (.inr (.inr (y', as, r)))) (k : jg d y' (0, lv_args 0 as, [], h) (fun v h' => jg (d + 1) y (pc + 3, lv, v.toList ++ r, h') Post)) : jg (d + 1) y (pc, lv, st, h) Post := by
  obtain ⟨n, v, h', hr, n2, v2, h2, hr2, hp⟩ := k
  refine ⟨(n + n2) + 1, v2, h2, ?_, hp⟩
  unfold jm_run
  rw [hq]
  dsimp only
  rw [hs]
  dsimp only
  rw [jm_run_more n n2 _ _ _ _ _ _ hr]
  dsimp only
  rw [Nat.add_comm n n2]
  exact jm_run_more n2 n _ _ _ _ _ _ hr2
theorem jg_mono {d y : Nat} {S : jm_S} {Post Post' : Option Value → jm_H → Prop} (h : jg d y S Post) (hp : ∀ v h', Post v h' → Post' v h') : jg d y S Post' := by
  obtain ⟨n, v, h', hr, hq⟩ := h
  exact ⟨n, v, h', hr, hp v h' hq⟩
/-! THE CHECKER'S WORDS. A value: an int that is a variable and a number; a reference into a list of cells; a long, perhaps known so; String constant i -/
abbrev ai_V : Type := (Nat × Int) ⊕ (List Nat) ⊕ (Option (Nat × Int)) ⊕ Nat
def ai_gv (nv : Nat) (ρ : Nat → Int) (a : ai_V) (v : Value) : Prop := match a with
  | .inl (x, c) => x < nv ∧ ∃ i : Int32, v = .int i ∧ i.toInt = ρ x + c
  | .inr (.inl ks) => ∃ k, k ∈ ks ∧ v = .ref k
  | .inr (.inr (.inl none)) => ∃ i : Int64, v = .long i
  | .inr (.inr (.inl (some (x, c)))) => x < nv ∧ ∃ i : Int64, v = .long i ∧ i.toInt = ρ x + c
  | .inr (.inr (.inr i)) => v = .float (UInt32.ofNat i)
/-- what a field may hold: ints of a range, references into a list, longs; what a cell is -/
abbrev ai_F : Type := (Int × Int × Bool) ⊕ (List Nat) ⊕ Unit
abbrev ai_C : Type := (FieldType × Nat × Int × Int × Bool) ⊕ Nat ⊕ (FieldType × List Nat) ⊕ (Nat × List ai_F)
/-- of its type, but for what is frozen -/
def ai_gr (t : ai_F) (v : Value) : Prop := match t with
  | .inl (lo, hi, _) => ∃ i : Int32, v = .int i ∧ lo ≤ i.toInt ∧ i.toInt ≤ hi
  | .inr (.inl ks) => ∃ k, k ∈ ks ∧ v = .ref k
  | .inr (.inr _) => ∃ i : Int64, v = .long i
/-- a frozen field holds just what W says; so does a frozen array -/
def ai_fz (w : Int32) (t : ai_F) (v : Value) : Prop := match t with
  | .inl (_, _, true) => v = .int w
  | _ => True
def ai_gf (w : Int32) (t : ai_F) (v : Value) : Prop := ai_gr t v ∧ ai_fz w t v
def ai_gcell (W : Nat → Int32) (a : ai_C) (c : jm_C) : Prop := match a, c with
  | .inl (t, n, lo, hi, b), .inl (t', n', f) => t' = t ∧ n' = n ∧ (∀ i, i < n → lo ≤ (f i).toInt ∧ (f i).toInt ≤ hi) ∧ (b = true → ∀ i, i < n → f i = W i)
  | .inr (.inl n), .inr (.inl (n', _)) => n' = n
  | .inr (.inr (.inl (t, ks))), .inr (.inr (.inl (t', n', f))) => t' = t ∧ n' = ks.length ∧ ∀ i, i < n' → f i = ks[i]?
  | .inr (.inr (.inr (ci, ts))), .inr (.inr (.inr (ci', fs))) => ci' = ci ∧ fs.length = ts.length ∧ ∀ (i : Nat) (t : ai_F) (v : Value), ts[i]? = some t → fs[i]? = some v → ai_gf (W i) t v
  | _, _ => False
def ai_gh (W : Nat → Nat → Int32) (T : List ai_C) (h : jm_H) : Prop := h.length = T.length ∧ ∀ (k : Nat) (a : ai_C) (c : jm_C), T[k]? = some a → h[k]? = some c → ai_gcell (W k) a c
/-- what is known at a point: how many variables, differences (u - v ≤ c), fields whose values are known -/
abbrev ai_K : Type := List (Nat × Nat × Int)
abbrev ai_S : Type := Nat × ai_K × List ((Nat × Nat) × ai_V)
def ai_gk (nv : Nat) (ρ : Nat → Int) (C : ai_K) : Prop := ∀ q ∈ C, q.1 < nv ∧ q.2.1 < nv ∧ ρ q.1 - ρ q.2.1 ≤ q.2.2
def ai_gm (nv : Nat) (ρ : Nat → Int) (M : List ((Nat × Nat) × ai_V)) (h : jm_H) : Prop := ∀ q ∈ M, ∃ ci fs v, h[q.1.1]? = some (.inr (.inr (.inr (ci, fs)))) ∧ fs[q.1.2]? = some v ∧ ai_gv nv ρ q.2 v
def ai_gs (W : Nat → Nat → Int32) (T : List ai_C) (ρ : Nat → Int) (Z : ai_S) (h : jm_H) : Prop := 0 < Z.1 ∧ ρ 0 = 0 ∧ ai_gk Z.1 ρ Z.2.1 ∧ ai_gh W T h ∧ ai_gm Z.1 ρ Z.2.2 h
abbrev ai_L : Type := List (Nat × ai_V)
def ai_gl (nv : Nat) (ρ : Nat → Int) (lv : ai_L) (lc : jm_L) : Prop := ∀ q ∈ lv, ∃ v, jm_get lc q.1 = some v ∧ ai_gv nv ρ q.2 v
def ai_gt (nv : Nat) (ρ : Nat → Int) : List ai_V → List Value → Prop
  | [], [] => True
  | a :: as, v :: vs => ai_gv nv ρ a v ∧ ai_gt nv ρ as vs
  | _, _ => False
/-- more variables, the old ones as they were -/
def ai_ext (nv : Nat) (ρ ρ' : Nat → Int) : Prop := ∀ i, i < nv → ρ' i = ρ i
theorem ai_gv.ext {nv nv' : Nat} {ρ ρ' : Nat → Int} {a : ai_V} {v : Value} (h : ai_gv nv ρ a v) (hn : nv ≤ nv') (he : ai_ext nv ρ ρ') : ai_gv nv' ρ' a v := by
  unfold ai_gv at h ⊢
  split at h
  · obtain ⟨h1, i, h2, h3⟩ := h
    exact ⟨Nat.lt_of_lt_of_le h1 hn, i, h2, by rw [he _ h1]; exact h3⟩
  · exact h
  · exact h
  · obtain ⟨h1, i, h2, h3⟩ := h
    exact ⟨Nat.lt_of_lt_of_le h1 hn, i, h2, by rw [he _ h1]; exact h3⟩
  · exact h
theorem ai_gk.ext {nv nv' : Nat} {ρ ρ' : Nat → Int} {C : ai_K} (h : ai_gk nv ρ C) (hn : nv ≤ nv') (he : ai_ext nv ρ ρ') : ai_gk nv' ρ' C := fun q hq => by
  obtain ⟨h1, h2, h3⟩ := h q hq
  exact ⟨Nat.lt_of_lt_of_le h1 hn, Nat.lt_of_lt_of_le h2 hn, by rw [he _ h1, he _ h2]; exact h3⟩
theorem ai_gm.ext {nv nv' : Nat} {ρ ρ' : Nat → Int} {M : List ((Nat × Nat) × ai_V)} {h : jm_H} (hm : ai_gm nv ρ M h) (hn : nv ≤ nv') (he : ai_ext nv ρ ρ') : ai_gm nv' ρ' M h := fun q hq => by
  obtain ⟨ci, fs, v, h1, h2, h3⟩ := hm q hq
  exact ⟨ci, fs, v, h1, h2, h3.ext hn he⟩
theorem ai_gl.ext {nv nv' : Nat} {ρ ρ' : Nat → Int} {lv : ai_L} {lc : jm_L} (hm : ai_gl nv ρ lv lc) (hn : nv ≤ nv') (he : ai_ext nv ρ ρ') : ai_gl nv' ρ' lv lc := fun q hq => by
  obtain ⟨v, h1, h2⟩ := hm q hq
  exact ⟨v, h1, h2.ext hn he⟩
theorem ai_gt.ext {nv nv' : Nat} {ρ ρ' : Nat → Int} (hn : nv ≤ nv') (he : ai_ext nv ρ ρ') : ∀ {st : List ai_V} {sc : List Value}, ai_gt nv ρ st sc → ai_gt nv' ρ' st sc
  | [], [], _ => trivial
  | _ :: _, _ :: _, h => ⟨h.1.ext hn he, ai_gt.ext hn he h.2⟩
  | [], _ :: _, h => h.elim
  | _ :: _, [], h => h.elim
/-- upper bounds of a - w, from a's on -/
def ai_rx (C : ai_K) (E : List (Nat × Int)) : List (Nat × Int) := C.foldl (fun E q => match E.lookup q.1 with
  | none => E
  | some d => (match E.lookup q.2.1 with
    | none => (q.2.1, d + q.2.2) :: E
    | some d' => if d + q.2.2 < d' then (q.2.1, d + q.2.2) :: E else E)) E
def ai_it (C : ai_K) : Nat → List (Nat × Int) → List (Nat × Int)
  | 0, E => E
  | n + 1, E => ai_it C n (ai_rx C E)
def ai_ub (C : ai_K) (a b : Nat) : Option Int := if a = b then some 0 else (ai_it C 3 [(a, 0)]).lookup b
def ai_ge (ρ : Nat → Int) (a : Nat) (E : List (Nat × Int)) : Prop := ∀ q ∈ E, ρ a - ρ q.1 ≤ q.2
theorem ai_look {α : Type} {E : List (Nat × α)} {k : Nat} {d : α} (h : E.lookup k = some d) : (k, d) ∈ E := by
  induction E with
  | nil => cases h
  | cons q E ih =>
    obtain ⟨x, y⟩ := q
    rw [List.lookup_cons] at h
    by_cases hx : k = x
    · subst hx
      simp at h
      subst h
      exact List.mem_cons_self
    · have : (k == x) = false := by simpa using hx
      rw [this] at h
      exact List.mem_cons_of_mem _ (ih h)
theorem ai_rx_ok {nv : Nat} {ρ : Nat → Int} {a : Nat} : ∀ (C : ai_K), ai_gk nv ρ C → ∀ E, ai_ge ρ a E → ai_ge ρ a (ai_rx C E)
  | [], _, E, h => h
  | q :: C, hC, E, h => by
    have hq := (hC q List.mem_cons_self).2.2
    have hC' : ai_gk nv ρ C := fun x hx => hC x (List.mem_cons_of_mem _ hx)
    show ai_ge ρ a (ai_rx C _)
    apply ai_rx_ok C hC'
    have key : ∀ d, E.lookup q.1 = some d → ai_ge ρ a ((q.2.1, d + q.2.2) :: E) := fun d hd x hx => by
      rcases List.mem_cons.mp hx with rfl | hx
      · have := h _ (ai_look hd)
        show ρ a - ρ q.2.1 ≤ d + q.2.2
        have h9 : ρ a - ρ q.1 ≤ d := this
        omega
      · exact h x hx
    dsimp only
    split
    · exact h
    · rename_i d hd
      split
      · exact key d hd
      · split
        · exact key d hd
        · exact h
theorem ai_it_ok {nv : Nat} {ρ : Nat → Int} {a : Nat} {C : ai_K} (hC : ai_gk nv ρ C) : ∀ n E, ai_ge ρ a E → ai_ge ρ a (ai_it C n E)
  | 0, _, h => h
  | n + 1, E, h => ai_it_ok hC n _ (ai_rx_ok C hC E h)
theorem ai_ub_ok {nv : Nat} {ρ : Nat → Int} {a b : Nat} {C : ai_K} {d : Int} (hC : ai_gk nv ρ C) (h : ai_ub C a b = some d) : ρ a - ρ b ≤ d := by
  unfold ai_ub at h
  split at h
  · rename_i e
    subst e
    cases h
    omega
  · have h1 := ai_it_ok (a := a) hC 3 [(a, 0)] (fun q hq => by rcases List.mem_singleton.mp hq with rfl; show ρ a - ρ a ≤ 0; omega)
    exact h1 _ (ai_look h)
/-- the range of a value -/
def ai_hi (C : ai_K) (a : Nat × Int) : Option Int := (ai_ub C a.1 0).map (fun d => d + a.2)
def ai_lo (C : ai_K) (a : Nat × Int) : Option Int := (ai_ub C 0 a.1).map (fun d => a.2 - d)
theorem ai_hi_ok {nv : Nat} {ρ : Nat → Int} {C : ai_K} {a : Nat × Int} {d : Int} (h0 : ρ 0 = 0) (hC : ai_gk nv ρ C) (h : ai_hi C a = some d) : ρ a.1 + a.2 ≤ d := by
  unfold ai_hi at h
  cases hu : ai_ub C a.1 0 with
  | none => rw [hu] at h; cases h
  | some x =>
    rw [hu] at h
    have := ai_ub_ok hC hu
    have e : x + a.2 = d := Option.some.inj h
    omega
theorem ai_lo_ok {nv : Nat} {ρ : Nat → Int} {C : ai_K} {a : Nat × Int} {d : Int} (h0 : ρ 0 = 0) (hC : ai_gk nv ρ C) (h : ai_lo C a = some d) : d ≤ ρ a.1 + a.2 := by
  unfold ai_lo at h
  cases hu : ai_ub C 0 a.1 with
  | none => rw [hu] at h; cases h
  | some x =>
    rw [hu] at h
    have := ai_ub_ok hC hu
    have e : a.2 - x = d := Option.some.inj h
    omega
def ai_max : Int := 2147483647
def ai_min : Int := -2147483648
/-- a new variable within a range -/
def ai_new (Z : ai_S) (lo hi : Int) : ai_S := (Z.1 + 1, (Z.1, 0, hi) :: (0, Z.1, -lo) :: Z.2.1, Z.2.2)
theorem ai_new_ok {W : Nat → Nat → Int32} {T : List ai_C} {ρ : Nat → Int} {Z : ai_S} {h : jm_H} {lo hi : Int} {i : Int} (hs : ai_gs W T ρ Z h) (h1 : lo ≤ i) (h2 : i ≤ hi) : ∃ ρ', ai_ext Z.1 ρ ρ' ∧ ρ' Z.1 = i ∧ ai_gs W T ρ' (ai_new Z lo hi) h := by
  obtain ⟨g1, g2, g3, g4, g5⟩ := hs
  refine ⟨fun k => if k = Z.1 then i else ρ k, fun k hk => if_neg (Nat.ne_of_lt hk), if_pos rfl, ?_⟩
  have he : ai_ext Z.1 ρ (fun k => if k = Z.1 then i else ρ k) := fun k hk => if_neg (Nat.ne_of_lt hk)
  have e0 : (fun k => if k = Z.1 then i else ρ k) 0 = 0 := (if_neg (Nat.ne_of_lt g1)).trans g2
  refine ⟨Nat.succ_pos _, e0, fun q hq => ?_, g4, g5.ext (Nat.le_succ _) he⟩
  rcases List.mem_cons.mp hq with rfl | hq
  · refine ⟨Nat.lt_succ_self _, Nat.succ_pos _, ?_⟩
    show (if Z.1 = Z.1 then i else ρ Z.1) - (fun k => if k = Z.1 then i else ρ k) 0 ≤ hi
    rw [e0, if_pos rfl]; omega
  · rcases List.mem_cons.mp hq with rfl | hq
    · refine ⟨Nat.succ_pos _, Nat.lt_succ_self _, ?_⟩
      show (fun k => if k = Z.1 then i else ρ k) 0 - (if Z.1 = Z.1 then i else ρ Z.1) ≤ -lo
      rw [e0, if_pos rfl]; omega
    · exact (g3.ext (Nat.le_succ _) he) q hq
