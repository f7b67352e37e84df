/-! A run over a heap of which some things alone are known: cells by their numbers, of arrays and objects the places that are known. What it comes to, the small machine comes to from every such heap. -/
abbrev um_A : Type := (Nat × List (Nat × Int32)) ⊕ (Nat × List (Nat × Int64)) ⊕ (Nat × List (Nat × Value))
abbrev um_H : Type := List (Nat × um_A)
abbrev um_S : Type := Nat × jm_L × List Value × um_H
abbrev um_O : Type := um_S ⊕ (Option Value) ⊕ (Nat × List Value × List Value)
def um_get {α : Type} : List (Nat × α) → Nat → Option α
  | [], _ => none
  | (j, x) :: M, i => match Nat.beq j i with
    | true => some x
    | false => um_get M i
def um_gc (a : um_A) (c : jm_C) : Prop := match a, c with
  | .inl (n, M), .inl (t, n', f) => t = .int ∧ n' = n ∧ ∀ i x, um_get M i = some x → f i = x
  | .inr (.inl (n, M)), .inr (.inl (n', f)) => n' = n ∧ ∀ i x, um_get M i = some x → f i = x
  | .inr (.inr (ci, M)), .inr (.inr (.inr (ci', fs))) => ci' = ci ∧ ∀ i v, um_get M i = some v → fs[i]? = some v
  | _, _ => False
def um_g (G : um_H) (h : jm_H) : Prop := ∀ k a, um_get G k = some a → ∃ c, h[k]? = some c ∧ um_gc a c
theorem um_g_nil (h : jm_H) : um_g [] h := fun _ _ e => by cases e
theorem um_g_cons {G : um_H} {h : jm_H} {k : Nat} {a : um_A} {c : jm_C} (e : h[k]? = some c) (hc : um_gc a c) (hg : um_g G h) : um_g ((k, a) :: G) h := by
  intro k2 a2 e2
  unfold um_get at e2
  split at e2
  · rename_i hb
    cases e2
    have : k = k2 := Nat.eq_of_beq_eq_true hb
    subst this
    exact ⟨c, e, hc⟩
  · exact hg k2 a2 e2
/-- a cell written over -/
theorem um_g_set {G : um_H} {h : jm_H} {k : Nat} {a : um_A} {c c0 : jm_C} (e : h[k]? = some c0) (hc : um_gc a c) (hg : um_g G h) : um_g ((k, a) :: G) (h.set k c) := by
  have hl := (List.getElem?_eq_some_iff.mp e).1
  intro k2 a2 e2
  unfold um_get at e2
  split at e2
  · rename_i hb
    cases e2
    have : k = k2 := Nat.eq_of_beq_eq_true hb
    subst this
    exact ⟨c, List.getElem?_set_self hl, hc⟩
  · rename_i hb
    have hne : k ≠ k2 := fun z => by rw [z, Nat.beq_refl] at hb; cases hb
    obtain ⟨c2, q1, q2⟩ := hg k2 a2 e2
    exact ⟨c2, by rw [List.getElem?_set_ne hne]; exact q1, q2⟩
theorem um_iarr {G : um_H} {h : jm_H} {k n : Nat} {M : List (Nat × Int32)} (hg : um_g G h) (e : um_get G k = some (.inl (n, M))) : ∃ f, h[k]? = some (.inl (.int, n, f)) ∧ ∀ i x, um_get M i = some x → f i = x := by
  obtain ⟨c, q1, q2⟩ := hg k _ e
  match c, q2 with
  | .inl (t, n', f), q2 =>
    obtain ⟨rfl, rfl, q3⟩ := q2
    exact ⟨f, q1, q3⟩
  | .inr (.inl _), q2 => exact q2.elim
  | .inr (.inr (.inl _)), q2 => exact q2.elim
  | .inr (.inr (.inr _)), q2 => exact q2.elim
theorem um_larr {G : um_H} {h : jm_H} {k n : Nat} {M : List (Nat × Int64)} (hg : um_g G h) (e : um_get G k = some (.inr (.inl (n, M)))) : ∃ f, h[k]? = some (.inr (.inl (n, f))) ∧ ∀ i x, um_get M i = some x → f i = x := by
  obtain ⟨c, q1, q2⟩ := hg k _ e
  match c, q2 with
  | .inr (.inl (n', f)), q2 =>
    obtain ⟨rfl, q3⟩ := q2
    exact ⟨f, q1, q3⟩
  | .inl _, q2 => exact q2.elim
  | .inr (.inr (.inl _)), q2 => exact q2.elim
  | .inr (.inr (.inr _)), q2 => exact q2.elim
theorem um_obj {G : um_H} {h : jm_H} {k ci : Nat} {M : List (Nat × Value)} (hg : um_g G h) (e : um_get G k = some (.inr (.inr (ci, M)))) : ∃ fs, h[k]? = some (.inr (.inr (.inr (ci, fs)))) ∧ ∀ i x, um_get M i = some x → fs[i]? = some x := by
  obtain ⟨c, q1, q2⟩ := hg k _ e
  match c, q2 with
  | .inr (.inr (.inr (ci', fs))), q2 =>
    obtain ⟨rfl, q3⟩ := q2
    exact ⟨fs, q1, q3⟩
  | .inl _, q2 => exact q2.elim
  | .inr (.inl _), q2 => exact q2.elim
  | .inr (.inr (.inl _)), q2 => exact q2.elim
theorem um_upd {M : List (Nat × Int32)} {f : Nat → Int32} {k : Nat} {x : Int32} (hM : ∀ i z, um_get M i = some z → f i = z) : ∀ i z, um_get ((k, x) :: M) i = some z → upd f k x i = z := by
  intro i z e
  unfold um_get at e
  unfold upd
  split at e
  · rename_i hb
    cases e
    rw [if_pos (Nat.eq_of_beq_eq_true hb).symm]
  · rename_i hb
    rw [if_neg (fun q => by rw [q, Nat.beq_refl] at hb; cases hb)]
    exact hM i z e
theorem um_updL {M : List (Nat × Int64)} {f : Nat → Int64} {k : Nat} {x : Int64} (hM : ∀ i z, um_get M i = some z → f i = z) : ∀ i z, um_get ((k, x) :: M) i = some z → vp_updL f k x i = z := by
  intro i z e
  unfold um_get at e
  unfold vp_updL
  split at e
  · rename_i hb
    cases e
    rw [if_pos (Nat.eq_of_beq_eq_true hb).symm]
  · rename_i hb
    rw [if_neg (fun q => by rw [q, Nat.beq_refl] at hb; cases hb)]
    exact hM i z e
def um_getf (oc idx : Nat) (st : List Value) (G : um_H) : Option (List Value) := match st with
  | .ref a :: r => (match jm_fld oc idx with
    | some (ci, k) => (match um_get G a with
      | some (.inr (.inr (cj, M))) => if cj = ci then (match um_get M k with
        | some v => some (v :: r)
        | none => none) else none
      | _ => none)
    | none => none)
  | _ => none
theorem um_getf_ok {oc idx : Nat} {st st' : List Value} {G : um_H} {h : jm_H} (hg : um_g G h) (e : um_getf oc idx st G = some st') : jm_getf oc idx st h = some st' := by
  unfold um_getf at e
  split at e
  · rename_i a r
    split at e
    · rename_i ci k hf
      split at e
      · rename_i cj M hG
        split at e
        · rename_i hc
          split at e
          · rename_i v hv
            cases e
            obtain ⟨fs, q1, q2⟩ := um_obj hg hG
            unfold jm_getf
            dsimp only
            rw [hf]
            dsimp only
            rw [q1]
            dsimp only
            rw [if_pos hc, q2 k v hv]
          · cases e
        · cases e
      · cases e
    · cases e
  · cases e
def um_iald (st : List Value) (G : um_H) : Option (List Value) := match st with
  | .int i :: .ref a :: r => (match um_get G a with
    | some (.inl (n, M)) => if jm_in i n = true then (match um_get M i.toNatClampNeg with
      | some x => some (.int x :: r)
      | none => none) else none
    | _ => none)
  | _ => none
theorem um_iald_ok {st st' : List Value} {G : um_H} {h : jm_H} (hg : um_g G h) (e : um_iald st G = some st') : jm_iald st h = some st' := by
  unfold um_iald at e
  split at e
  · rename_i i a r
    split at e
    · rename_i n M hG
      split at e
      · rename_i hi
        split at e
        · rename_i x hx
          cases e
          obtain ⟨f, q1, q2⟩ := um_iarr hg hG
          unfold jm_iald
          dsimp only
          rw [q1]
          dsimp only
          rw [if_pos hi, q2 _ _ hx]
        · cases e
      · cases e
    · cases e
  · cases e
def um_lald (st : List Value) (G : um_H) : Option (List Value) := match st with
  | .int i :: .ref a :: r => (match um_get G a with
    | some (.inr (.inl (n, M))) => if jm_in i n = true then (match um_get M i.toNatClampNeg with
      | some x => some (.long x :: r)
      | none => none) else none
    | _ => none)
  | _ => none
theorem um_lald_ok {st st' : List Value} {G : um_H} {h : jm_H} (hg : um_g G h) (e : um_lald st G = some st') : jm_lald st h = some st' := by
  unfold um_lald at e
  split at e
  · rename_i i a r
    split at e
    · rename_i n M hG
      split at e
      · rename_i hi
        split at e
        · rename_i x hx
          cases e
          obtain ⟨f, q1, q2⟩ := um_larr hg hG
          unfold jm_lald
          dsimp only
          rw [q1]
          dsimp only
          rw [if_pos hi, q2 _ _ hx]
        · cases e
      · cases e
    · cases e
  · cases e
def um_iast (st : List Value) (G : um_H) : Option (List Value × um_H) := match st with
  | .int x :: .int i :: .ref a :: r => (match um_get G a with
    | some (.inl (n, M)) => if jm_in i n = true then some (r, (a, .inl (n, (i.toNatClampNeg, x) :: M)) :: G) else none
    | _ => none)
  | _ => none
theorem um_iast_ok {st st' : List Value} {G G' : um_H} {h : jm_H} (hg : um_g G h) (e : um_iast st G = some (st', G')) : ∃ h', jm_iast st h = some (st', h') ∧ um_g G' h' := by
  unfold um_iast at e
  split at e
  · rename_i x i a r
    split at e
    · rename_i n M hG
      split at e
      · rename_i hi
        cases e
        obtain ⟨f, q1, q2⟩ := um_iarr hg hG
        refine ⟨h.set a (.inl (.int, n, upd f i.toNatClampNeg x)), ?_, um_g_set q1 ⟨rfl, rfl, um_upd q2⟩ hg⟩
        unfold jm_iast
        dsimp only
        rw [q1]
        dsimp only
        rw [if_pos hi]
      · cases e
    · cases e
  · cases e
def um_last (st : List Value) (G : um_H) : Option (List Value × um_H) := match st with
  | .long x :: .int i :: .ref a :: r => (match um_get G a with
    | some (.inr (.inl (n, M))) => if jm_in i n = true then some (r, (a, .inr (.inl (n, (i.toNatClampNeg, x) :: M))) :: G) else none
    | _ => none)
  | _ => none
theorem um_last_ok {st st' : List Value} {G G' : um_H} {h : jm_H} (hg : um_g G h) (e : um_last st G = some (st', G')) : ∃ h', jm_last st h = some (st', h') ∧ um_g G' h' := by
  unfold um_last at e
  split at e
  · rename_i x i a r
    split at e
    · rename_i n M hG
      split at e
      · rename_i hi
        cases e
        obtain ⟨f, q1, q2⟩ := um_larr hg hG
        refine ⟨h.set a (.inr (.inl (n, vp_updL f i.toNatClampNeg x))), ?_, um_g_set q1 ⟨rfl, um_updL q2⟩ hg⟩
        unfold jm_last
        dsimp only
        rw [q1]
        dsimp only
        rw [if_pos hi]
      · cases e
    · cases e
  · cases e
/-- a call, of an object's method or of a static one -/
def um_call (oc idx kind : Nat) (st : List Value) (G : um_H) : Option (Nat × List Value × List Value) := match jm_lnk oc idx with
  | none => none
  | some (kd, y) => if kd = kind then (match jm_ms[y]?, jm_na[y]? with
    | some q, some n =>
      if kind = 1 then (if n ≤ st.length ∧ jm_cs (st.drop n) ≤ 8 ∧ jm_cs (st.take n).reverse ≤ q.2.2.1 then some (y, (st.take n).reverse, st.drop n) else none)
      else (match st.drop n with
        | .ref a :: r => if n ≤ st.length ∧ jm_cs r ≤ 8 ∧ 1 + jm_cs (st.take n).reverse ≤ q.2.2.1 then (match um_get G a with
          | some (.inr (.inr (ci, _))) => if ci = q.2.2.2.2.1 then some (y, .ref a :: (st.take n).reverse, r) else none
          | _ => none) else none
        | _ => none)
    | _, _ => none) else none
theorem um_call_ok {oc idx kind : Nat} {st : List Value} {G : um_H} {h : jm_H} {o : Nat × List Value × List Value} (hg : um_g G h) (e : um_call oc idx kind st G = some o) : jm_call oc idx kind st h = some (.inr (.inr o)) := by
  unfold um_call at e
  unfold jm_call
  split at e
  · cases e
  · rename_i kd y hl
    rw [hl]
    dsimp only
    split at e
    · rename_i hk
      rw [if_pos hk]
      split at e
      · rename_i q n hq hn
        rw [hq, hn]
        dsimp only
        split at e
        · rename_i h1
          rw [if_pos h1]
          split at e
          · rename_i h2
            rw [if_pos h2]
            cases e
            rfl
          · cases e
        · rename_i h1
          rw [if_neg h1]
          split at e
          · rename_i a r hd
            rw [hd]
            dsimp only
            split at e
            · rename_i h2
              rw [if_pos h2]
              split at e
              · rename_i ci M hG
                obtain ⟨fs, q1, q2⟩ := um_obj hg hG
                rw [q1]
                dsimp only
                split at e
                · rename_i h3
                  rw [if_pos h3]
                  cases e
                  rfl
                · cases e
              · cases e
            · cases e
          · cases e
      · cases e
    · cases e
def um_nx (pc : Nat) (lv : jm_L) (G : um_H) (o : Option (List Value)) : Option um_O := match o with
  | some st => some (.inl (pc, lv, st, G))
  | none => none
def um_nh (pc : Nat) (lv : jm_L) (o : Option (List Value × um_H)) : Option um_O := match o with
  | some (st, G) => some (.inl (pc, lv, st, G))
  | none => none
def um_cl (o : Option (Nat × List Value × List Value)) : Option um_O := match o with
  | some o => some (.inr (.inr o))
  | none => none
theorem um_cl_ok {o : Option (Nat × List Value × List Value)} {z : um_O} (e : um_cl o = some z) : ∃ w, o = some w ∧ z = .inr (.inr w) := by
  unfold um_cl at e
  split at e
  · rename_i w
    cases e
    exact ⟨w, rfl, rfl⟩
  · cases e
def um_sp (i : Instr) : Bool := match i with
  | .getfield _ => true
  | .putfield _ => true
  | .iaload => true
  | .baload => true
  | .laload => true
  | .aaload => true
  | .arraylength => true
  | .iastore => true
  | .bastore => true
  | .lastore => true
  | .aastore => true
  | .ldc _ => true
  | .ldc_w _ => true
  | .ldc2_w _ => true
  | .new _ => true
  | .newarray _ => true
  | .anewarray _ => true
  | .multianewarray _ _ => true
  | .ireturn => true
  | .lreturn => true
  | .areturn => true
  | .return_ => true
  | .invokespecial _ => true
  | .invokestatic _ => true
  | .invokevirtual _ => true
  | _ => false
set_option maxHeartbeats 4000000 in
theorem jm_step_pure {q : jm_Y} {pc len : Nat} {lv : jm_L} {st : List Value} {h : jm_H} {i : Instr} {z : Nat × jm_L × List Value} (hd : decode q.2.1 pc = .ok (i, len)) (hi : um_sp i = false) (hs : jm_pure q.2.2.1 i len pc lv st = some z) : jm_step q pc lv st h = some (.inl ((z.1, z.2.1, z.2.2, h), 0, 0)) := by
  unfold jm_step
  rw [hd]
  cases i <;> first
    | (cases hi; done)
    | (dsimp only; rw [hs])
def um_step (y : Nat) (q : jm_Y) (pc : Nat) (lv : jm_L) (st : List Value) (G : um_H) : Option um_O := match jd y pc with
  | none => none
  | some (i, len) => match um_sp i with
    | false => (match jm_pure q.2.2.1 i len pc lv st with
      | some z => some (.inl (z.1, z.2.1, z.2.2, G))
      | none => none)
    | true => match i with
      | .getfield idx => if len = 3 then um_nx (pc + 3) lv G (um_getf q.2.2.2.2.1 idx st G) else none
      | .iaload => if len = 1 then um_nx (pc + 1) lv G (um_iald st G) else none
      | .laload => if len = 1 then um_nx (pc + 1) lv G (um_lald st G) else none
      | .iastore => if len = 1 then um_nh (pc + 1) lv (um_iast st G) else none
      | .lastore => if len = 1 then um_nh (pc + 1) lv (um_last st G) else none
      | .ldc2_w idx => if len = 3 then (match jm_conl q.2.2.2.2.1 idx with
        | some v => some (.inl (pc + 3, lv, .long v :: st, G))
        | none => none) else none
      | .ireturn => if len = 1 then (match st, q.2.2.2.1 with
        | [.int v], some t => if narrow t (.int v) = .int v then some (.inr (.inl (some (.int v)))) else none
        | _, _ => none) else none
      | .return_ => if len = 1 then (match st, q.2.2.2.1 with
        | [], none => some (.inr (.inl none))
        | _, _ => none) else none
      | .invokestatic idx => if len = 3 then (match jm_math q.2.2.2.2.1 idx st with
        | some _ => none
        | none => if q.2.2.2.2.1 = 9 ∧ idx = 28 then none else um_cl (um_call q.2.2.2.2.1 idx 1 st G)) else none
      | .invokevirtual idx => if len = 3 then um_cl (um_call q.2.2.2.2.1 idx 0 st G) else none
      | _ => none
/-- what a step of it says of the small machine's -/
def um_says (h : jm_H) (z : um_O) (j : Option jm_O) : Prop := match z with
  | .inl S => ∃ h', j = some (.inl ((S.1, S.2.1, S.2.2.1, h'), 0, 0)) ∧ um_g S.2.2.2 h'
  | .inr (.inl v) => j = some (.inr (.inl v))
  | .inr (.inr o) => j = some (.inr (.inr o))
theorem um_nx_ok {pc : Nat} {lv : jm_L} {G : um_H} {h : jm_H} {o : Option (List Value)} {j : Option (List Value)} {z : um_O} (hg : um_g G h) (e : um_nx pc lv G o = some z) (hj : ∀ st', o = some st' → j = some st') : um_says h z (jm_nx pc lv h j) := by
  unfold um_nx at e
  split at e
  · rename_i st'
    cases e
    rw [hj st' rfl]
    exact ⟨h, rfl, hg⟩
  · cases e
theorem um_nh_ok {pc : Nat} {lv : jm_L} {h : jm_H} {o : Option (List Value × um_H)} {j : Option (List Value × jm_H)} {z : um_O} (e : um_nh pc lv o = some z) (hj : ∀ st' G', o = some (st', G') → ∃ h', j = some (st', h') ∧ um_g G' h') : um_says h z (jm_nh pc lv j) := by
  unfold um_nh at e
  split at e
  · rename_i st' G'
    cases e
    obtain ⟨h', q1, q2⟩ := hj st' G' rfl
    rw [q1]
    exact ⟨h', rfl, q2⟩
  · cases e
set_option maxHeartbeats 4000000 in
theorem um_step_ok {y : Nat} {q : jm_Y} {pc : Nat} {lv : jm_L} {st : List Value} {G : um_H} {h : jm_H} {z : um_O} (hq : jm_ms[y]? = some q) (hg : um_g G h) (e : um_step y q pc lv st G = some z) : um_says h z (jm_step q pc lv st h) := by
  unfold um_step at e
  split at e
  · cases e
  · rename_i i len hj
    have hd := jd_ok0 hq hj
    split at e
    · rename_i hi
      split at e
      · rename_i w hw
        cases e
        rw [jm_step_pure hd hi hw]
        exact ⟨h, rfl, hg⟩
      · cases e
    · unfold jm_step
      rw [hd]
      split at e
      · dsimp only
        split at e
        · rename_i hl
          rw [if_pos hl]
          exact um_nx_ok hg e (fun st' q1 => um_getf_ok hg q1)
        · cases e
      · dsimp only
        split at e
        · rename_i hl
          rw [if_pos hl]
          exact um_nx_ok hg e (fun st' q1 => um_iald_ok hg q1)
        · cases e
      · dsimp only
        split at e
        · rename_i hl
          rw [if_pos hl]
          exact um_nx_ok hg e (fun st' q1 => um_lald_ok hg q1)
        · cases e
      · dsimp only
        split at e
        · rename_i hl
          rw [if_pos hl]
          exact um_nh_ok e (fun st' G' q1 => um_iast_ok hg q1)
        · cases e
      · dsimp only
        split at e
        · rename_i hl
          rw [if_pos hl]
          exact um_nh_ok e (fun st' G' q1 => um_last_ok hg q1)
        · cases e
      · dsimp only
        split at e
        · rename_i hl
          rw [if_pos hl]
          split at e
          · rename_i v hv
            cases e
            rw [hv]
            exact ⟨h, rfl, hg⟩
          · cases e
        · cases e
      · dsimp only
        split at e
        · rename_i hl
          rw [if_pos hl]
          split at e
          · rename_i v t ht
            rw [ht]
            dsimp only
            split at e
            · rename_i hn
              cases e
              rw [if_pos hn]
              rfl
            · cases e
          · cases e
        · cases e
      · dsimp only
        split at e
        · rename_i hl
          rw [if_pos hl]
          split at e
          · rename_i ht
            cases e
            rw [ht]
            rfl
          · cases e
        · cases e
      · dsimp only
        split at e
        · rename_i hl
          rw [if_pos hl]
          split at e
          · cases e
          · rename_i hm
            rw [hm]
            dsimp only
            split at e
            · cases e
            · rename_i hc
              rw [if_neg hc]
              obtain ⟨w, q1, rfl⟩ := um_cl_ok e
              exact um_call_ok hg q1
        · cases e
      · dsimp only
        split at e
        · rename_i hl
          rw [if_pos hl]
          obtain ⟨w, q1, rfl⟩ := um_cl_ok e
          rw [um_call_ok hg q1]
          rfl
        · cases e
      · cases e
def um_ve (a b : Value) : Bool := match a, b with
  | .int x, .int y => decide (x = y)
  | .long x, .long y => decide (x = y)
  | .ref x, .ref y => Nat.beq x y
  | _, _ => false
theorem um_ve_ok {a b : Value} (e : um_ve a b = true) : a = b := by
  unfold um_ve at e
  split at e
  · rw [of_decide_eq_true e]
  · rw [of_decide_eq_true e]
  · have e : _ = _ := Nat.eq_of_beq_eq_true e
    rw [e]
  · cases e
def um_vs : List Value → List Value → Bool
  | [], [] => true
  | a :: as, b :: bs => um_ve a b && um_vs as bs
  | _, _ => false
theorem um_vs_ok : ∀ {as bs : List Value}, um_vs as bs = true → as = bs
  | [], [], _ => rfl
  | a :: as, b :: bs, e => by
    unfold um_vs at e
    rw [Bool.and_eq_true] at e
    rw [um_ve_ok e.1, um_vs_ok e.2]
  | [], _ :: _, e => by cases e
  | _ :: _, [], e => by cases e
/-- less is known -/
def um_la (a b : um_A) : Bool := match a, b with
  | .inl (n, M), .inl (n', M') => Nat.beq n n' && M.all (fun q => match um_get M' q.1 with
    | some x => decide (x = q.2)
    | none => false)
  | .inr (.inl (n, M)), .inr (.inl (n', M')) => Nat.beq n n' && M.all (fun q => match um_get M' q.1 with
    | some x => decide (x = q.2)
    | none => false)
  | .inr (.inr (n, M)), .inr (.inr (n', M')) => Nat.beq n n' && M.all (fun q => match um_get M' q.1 with
    | some x => um_ve x q.2
    | none => false)
  | _, _ => false
theorem um_get_mem {α : Type} : ∀ {M : List (Nat × α)} {i : Nat} {x : α}, um_get M i = some x → (i, x) ∈ M
  | [], i, x, e => by cases e
  | (j, z) :: M, i, x, e => by
    unfold um_get at e
    split at e
    · rename_i hb
      cases e
      have : j = i := Nat.eq_of_beq_eq_true hb
      subst this
      exact List.mem_cons_self
    · exact List.mem_cons_of_mem _ (um_get_mem e)
theorem um_la_ok {a b : um_A} {c : jm_C} (e : um_la a b = true) (hc : um_gc b c) : um_gc a c := by
  unfold um_la at e
  split at e
  · rename_i n M n' M'
    rw [Bool.and_eq_true] at e
    obtain ⟨e1, e2⟩ := e
    have e1 : n = n' := Nat.eq_of_beq_eq_true e1
    subst e1
    match c, hc with
    | .inl (t, n2, f), hc =>
      refine ⟨hc.1, hc.2.1, fun i x hx => ?_⟩
      have q := List.all_eq_true.mp e2 _ (um_get_mem hx)
      dsimp only at q
      split at q
      · rename_i z hz
        rw [hc.2.2 i z hz, of_decide_eq_true q]
      · cases q
    | .inr (.inl _), hc => exact hc.elim
    | .inr (.inr (.inl _)), hc => exact hc.elim
    | .inr (.inr (.inr _)), hc => exact hc.elim
  · rename_i n M n' M'
    rw [Bool.and_eq_true] at e
    obtain ⟨e1, e2⟩ := e
    have e1 : n = n' := Nat.eq_of_beq_eq_true e1
    subst e1
    match c, hc with
    | .inr (.inl (n2, f)), hc =>
      refine ⟨hc.1, fun i x hx => ?_⟩
      have q := List.all_eq_true.mp e2 _ (um_get_mem hx)
      dsimp only at q
      split at q
      · rename_i z hz
        rw [hc.2 i z hz, of_decide_eq_true q]
      · cases q
    | .inl _, hc => exact hc.elim
    | .inr (.inr (.inl _)), hc => exact hc.elim
    | .inr (.inr (.inr _)), hc => exact hc.elim
  · rename_i n M n' M'
    rw [Bool.and_eq_true] at e
    obtain ⟨e1, e2⟩ := e
    have e1 : n = n' := Nat.eq_of_beq_eq_true e1
    subst e1
    match c, hc with
    | .inr (.inr (.inr (n2, fs))), hc =>
      refine ⟨hc.1, fun i x hx => ?_⟩
      have q := List.all_eq_true.mp e2 _ (um_get_mem hx)
      dsimp only at q
      split at q
      · rename_i z hz
        rw [hc.2 i z hz, um_ve_ok q]
      · cases q
    | .inl _, hc => exact hc.elim
    | .inr (.inl _), hc => exact hc.elim
    | .inr (.inr (.inl _)), hc => exact hc.elim
  · cases e
def um_leb (G1 G : um_H) : Bool := G1.all (fun q => match um_get G q.1 with
  | some a => um_la q.2 a
  | none => false)
theorem um_leb_ok {G1 G : um_H} {h : jm_H} (e : um_leb G1 G = true) (hg : um_g G h) : um_g G1 h := by
  intro k a ha
  have q := List.all_eq_true.mp e _ (um_get_mem ha)
  dsimp only at q
  split at q
  · rename_i b hb
    obtain ⟨c, r1, r2⟩ := hg k b hb
    exact ⟨c, r1, um_la_ok q r2⟩
  · cases q
/-- a call that is known: the method, its arguments, what is known of the heap, its answer, what is known behind it -/
abbrev um_K : Type := Option (Nat × List Value × um_H × Option Value × um_H)
def um_run (O : um_K) : Nat → Nat → Nat → um_S → Option (Option Value × um_H)
  | 0, _, _, _ => none
  | n + 1, d, y, (pc, lv, st, G) => match jm_ms[y]? with
    | none => none
    | some q => match um_step y q pc lv st G with
      | none => none
      | some (.inl S') => um_run O n d y S'
      | some (.inr (.inl v)) => some (v, G)
      | some (.inr (.inr (y', as, r))) => match d with
        | 0 => none
        | d + 1 => match O with
          | none => (match um_run O n d y' (0, lv_args 0 as, [], G) with
            | none => none
            | some (v, G') => um_run O n (d + 1) y (pc + 3, lv, v.toList ++ r, G'))
          | some (y0, as0, G0, v0, G1) => if y' = y0 then (if (um_vs as as0 && um_leb G0 G) = true then um_run O n (d + 1) y (pc + 3, lv, v0.toList ++ r, G1) else none)
            else (match um_run O n d y' (0, lv_args 0 as, [], G) with
            | none => none
            | some (v, G') => um_run O n (d + 1) y (pc + 3, lv, v.toList ++ r, G'))
def um_Kok (O : um_K) : Prop := ∀ y0 as0 G0 v0 G1, O = some (y0, as0, G0, v0, G1) → ∀ d h, um_g G0 h → jg d y0 (0, lv_args 0 as0, [], h) (fun v' h' => v' = v0 ∧ um_g G1 h')
theorem um_run_ok {O : um_K} (hO : um_Kok O) : ∀ (n d y : Nat) (pc : Nat) (lv : jm_L) (st : List Value) (G : um_H) (v : Option Value) (G' : um_H), um_run O n d y (pc, lv, st, G) = some (v, G') → ∀ h, um_g G h → jg d y (pc, lv, st, h) (fun v' h' => v' = v ∧ um_g G' h') := by
  intro n
  induction n with
  | zero => intro d y pc lv st G v G' e; cases e
  | succ n ih =>
    intro d y pc lv st G v G' e h hg
    unfold um_run at e
    split at e
    · cases e
    · rename_i q hq
      split at e
      · cases e
      · rename_i S' hs
        obtain ⟨h', q1, q2⟩ := um_step_ok hq hg hs
        obtain ⟨pc', lv', st', G2⟩ := S'
        exact jg_step hq q1 (ih _ _ _ _ _ _ _ _ e h' q2)
      · rename_i v' hs
        cases e
        exact jg_ret hq (um_step_ok hq hg hs) ⟨rfl, hg⟩
      · rename_i y' as r hs
        split at e
        · cases e
        · rename_i d'
          split at e
          · split at e
            · cases e
            · rename_i v1 G1 h1
              refine jg_call hq (um_step_ok hq hg hs) (jg_mono (ih _ _ _ _ _ _ _ _ h1 h hg) (fun v2 h2 hv => ?_))
              rw [hv.1]
              exact ih _ _ _ _ _ _ _ _ e h2 hv.2
          · split at e
            · rename_i hy
              split at e
              · rename_i ha
                rw [Bool.and_eq_true] at ha
                obtain ⟨ha1, ha2⟩ := ha
                have ha1 := um_vs_ok ha1
                subst hy
                subst ha1
                refine jg_call hq (um_step_ok hq hg hs) (jg_mono (hO _ _ _ _ _ rfl d' h (um_leb_ok ha2 hg)) (fun v2 h2 hv => ?_))
                rw [hv.1]
                exact ih _ _ _ _ _ _ _ _ e h2 hv.2
              · cases e
            · split at e
              · cases e
              · rename_i v1 G1 h1
                refine jg_call hq (um_step_ok hq hg hs) (jg_mono (ih _ _ _ _ _ _ _ _ h1 h hg) (fun v2 h2 hv => ?_))
                rw [hv.1]
                exact ih _ _ _ _ _ _ _ _ e h2 hv.2
theorem um_Kno : um_Kok none := fun _ _ _ _ _ e => by cases e
/-- what the heap's type tells: where an object's field leads, how long an array is -/
def um_tk (c ci k r : Nat) : Bool := match fw_T[c]? with
  | some (.inr (.inr (.inr (cj, ts)))) => Nat.beq cj ci && (match ts[k]? with
    | some (.inr (.inl [j])) => Nat.beq j r
    | _ => false)
  | _ => false
theorem um_tk_ok {W : fw_W} {h : jm_H} {c ci k r : Nat} (hg : fw_gh W fw_T h) (e : um_tk c ci k r = true) : ∃ cc, h[c]? = some cc ∧ um_gc (.inr (.inr (ci, [(k, .ref r)]))) cc := by
  unfold um_tk at e
  split at e
  · rename_i cj ts hT
    rw [Bool.and_eq_true] at e
    obtain ⟨e1, e2⟩ := e
    have e1 : cj = ci := Nat.eq_of_beq_eq_true e1
    subst e1
    split at e2
    · rename_i j hk
      have e2 : j = r := Nat.eq_of_beq_eq_true e2
      subst e2
      obtain ⟨fs, q1, q2, q3⟩ := ai_objT hg.1 hT
      have hl : k < fs.length := by rw [q2]; exact (List.getElem?_eq_some_iff.mp hk).1
      have q4 := (q3 k _ fs[k] hk (List.getElem?_eq_getElem hl)).1
      obtain ⟨z, z1, z2⟩ := q4
      have z1 : z = j := by simpa using z1
      subst z1
      refine ⟨_, q1, rfl, fun i v hv => ?_⟩
      unfold um_get at hv
      split at hv
      · rename_i hb
        cases hv
        have : k = i := Nat.eq_of_beq_eq_true hb
        subst this
        rw [List.getElem?_eq_getElem hl, z2]
      · cases hv
    · cases e2
  · cases e
def um_ti (c n : Nat) : Bool := match fw_T[c]? with
  | some (.inl (.int, n', _, _, _)) => Nat.beq n' n
  | _ => false
theorem um_ti_ok {W : fw_W} {h : jm_H} {c n : Nat} (hg : fw_gh W fw_T h) (e : um_ti c n = true) : ∃ cc, h[c]? = some cc ∧ um_gc (.inl (n, [])) cc := by
  unfold um_ti at e
  split at e
  · rename_i n' lo hi b hT
    have e : n' = n := Nat.eq_of_beq_eq_true e
    subst e
    obtain ⟨cc, h1, h2⟩ := ai_gh_at hg.1 hT
    refine ⟨cc, h1, ?_⟩
    match cc, h2 with
    | .inl (t, n2, f), h2 => exact ⟨h2.1, h2.2.1, fun i x hx => by cases hx⟩
    | .inr (.inl _), h2 => exact h2.elim
    | .inr (.inr (.inl _)), h2 => exact h2.elim
    | .inr (.inr (.inr _)), h2 => exact h2.elim
  · cases e
def um_tl (c n : Nat) : Bool := match fw_T[c]? with
  | some (.inr (.inl n')) => Nat.beq n' n
  | _ => false
theorem um_tl_ok {W : fw_W} {h : jm_H} {c n : Nat} (hg : fw_gh W fw_T h) (e : um_tl c n = true) : ∃ cc, h[c]? = some cc ∧ um_gc (.inr (.inl (n, []))) cc := by
  unfold um_tl at e
  split at e
  · rename_i n' hT
    have e : n' = n := Nat.eq_of_beq_eq_true e
    subst e
    obtain ⟨cc, h1, h2⟩ := ai_gh_at hg.1 hT
    refine ⟨cc, h1, ?_⟩
    match cc, h2 with
    | .inr (.inl (n2, f)), h2 => exact ⟨h2, fun i x hx => by cases hx⟩
    | .inl _, h2 => exact h2.elim
    | .inr (.inr (.inl _)), h2 => exact h2.elim
    | .inr (.inr (.inr _)), h2 => exact h2.elim
  · cases e
/-- two things said of one run -/
theorem jg_and {d y : Nat} {S : jm_S} {P Q : Option Value → jm_H → Prop} (a : jg d y S P) (b : jg d y S Q) : jg d y S (fun v h => P v h ∧ Q v h) := by
  obtain ⟨n, v, h, r, p⟩ := a
  obtain ⟨k, w, g, t, q⟩ := b
  have r2 := jm_run_more n k _ _ _ _ _ _ r
  have t2 := jm_run_more k n _ _ _ _ _ _ t
  rw [Nat.add_comm k n, r2] at t2
  cases t2
  exact ⟨n, v, h, r, p, q⟩
