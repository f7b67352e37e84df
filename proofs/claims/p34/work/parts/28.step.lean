/-! the checker's whole step: on, an answer, a call -/
abbrev ai_O : Type := (List ai_P) ⊕ (Option ai_V) ⊕ (Nat × List ai_V × List ai_V)
def ai_call (T : List ai_C) (oc idx kind : Nat) (st : List ai_V) : Option ai_O := match jm_lnk oc idx with
  | none => none
  | some (kd, y) => if kd = kind then (match jm_ms[y]?, jm_na[y]? with
    | some q, some n =>
      if kind = 1 then (if n ≤ st.length ∧ ai_cs (st.drop n) ≤ 8 ∧ ai_cs (st.take n).reverse ≤ q.2.2.1 then some (.inr (.inr (y, (st.take n).reverse, st.drop n))) else none)
      else (match st.drop n with
        | .inr (.inl ks) :: r => if n ≤ st.length ∧ ai_cs r ≤ 8 ∧ 1 + ai_cs (st.take n).reverse ≤ q.2.2.1 ∧ ks.all (fun a => match T[a]? with
            | some (.inr (.inr (.inr (ci, _)))) => decide (ci = q.2.2.2.2.1)
            | _ => false) = true then some (.inr (.inr (y, .inr (.inl ks) :: (st.take n).reverse, r))) else none
        | _ => none)
    | _, _ => none) else none
def ai_on (pc : Nat) (lv : ai_L) (o : Option (List ai_V × ai_S)) : Option ai_O := match o with
  | some (st, Z) => some (.inl [(pc, lv, st, Z)])
  | none => none
def ai_oz (pc : Nat) (lv : ai_L) (Z : ai_S) (o : Option (List ai_V)) : Option ai_O := match o with
  | some st => some (.inl [(pc, lv, st, Z)])
  | none => none
def ai_step (dec : Nat → Option (Instr × Nat)) (T : List ai_C) (q : jm_Y) (pc : Nat) (lv : ai_L) (st : List ai_V) (Z : ai_S) : Option ai_O := match dec pc with
  | none => none
  | some (i, len) => match i with
    | .getfield idx => if len = 3 then ai_on (pc + 3) lv (ai_getf T q.2.2.2.2.1 idx st Z) else none
    | .putfield idx => if len = 3 then ai_on (pc + 3) lv (ai_putf T q.2.2.2.2.1 idx st Z) else none
    | .iaload => if len = 1 then ai_on (pc + 1) lv (ai_ald T [.int] st Z) else none
    | .baload => if len = 1 then ai_on (pc + 1) lv (ai_ald T [.byte, .boolean] st Z) else none
    | .laload => if len = 1 then ai_oz (pc + 1) lv Z (ai_lald T st Z) else none
    | .aaload => if len = 1 then ai_oz (pc + 1) lv Z (ai_aald T st Z) else none
    | .arraylength => if len = 1 then ai_oz (pc + 1) lv Z (ai_alen T st) else none
    | .iastore => if len = 1 then ai_oz (pc + 1) lv Z (ai_iast T st Z) else none
    | .bastore => if len = 1 then ai_oz (pc + 1) lv Z (ai_bast T st Z) else none
    | .lastore => if len = 1 then ai_oz (pc + 1) lv Z (ai_last T st Z) else none
    | .ldc idx => if len = 2 then (match jm_con q.2.2.2.2.1 idx with
      | some v => some (.inl [(pc + 2, lv, .inl (0, v.toInt) :: st, Z)])
      | none => none) else none
    | .ldc_w idx => if len = 3 then (match jm_con q.2.2.2.2.1 idx with
      | some v => some (.inl [(pc + 3, lv, .inl (0, v.toInt) :: st, Z)])
      | none => none) else none
    | .ldc2_w idx => if len = 3 then (match jm_conl q.2.2.2.2.1 idx with
      | some v => some (.inl [(pc + 3, lv, ai_lg' (some (0, v.toInt)) :: st, Z)])
      | none => none) else none
    | .ireturn => if len = 1 then (match st, q.2.2.2.1 with
      | [.inl a], some .int => some (.inr (.inl (some (.inl a))))
      | [.inl a], some .boolean => if 0 ≤ ai_l Z.2.1 a ∧ ai_h Z.2.1 a ≤ 1 then some (.inr (.inl (some (.inl a)))) else none
      | _, _ => none) else none
    | .lreturn => if len = 1 then (match st, q.2.2.2.1 with
      | [.inr (.inr (.inl a))], some .long => some (.inr (.inl (some (ai_lg' a))))
      | _, _ => none) else none
    | .areturn => if len = 1 then (match st, q.2.2.2.1 with
      | [.inr (.inl ks)], some (.object _) => some (.inr (.inl (some (.inr (.inl ks)))))
      | _, _ => none) else none
    | .return_ => if len = 1 then (match st, q.2.2.2.1 with
      | [], none => some (.inr (.inl none))
      | _, _ => none) else none
    | .invokestatic idx => if len = 3 then (if jm_has jm_kmax q.2.2.2.2.1 idx = true ∨ jm_has jm_kmin q.2.2.2.2.1 idx = true ∨ jm_has jm_kabs q.2.2.2.2.1 idx = true then (if ai_cs st ≤ 8 then ai_on (pc + 3) lv (ai_math q.2.2.2.2.1 idx st Z) else none)
      else if q.2.2.2.2.1 = 9 ∧ idx = 28 then (if ai_cs st ≤ 8 then ai_oz (pc + 3) lv Z (ai_copy T st Z) else none) else ai_call T q.2.2.2.2.1 idx 1 st) else none
    | .invokevirtual idx => if len = 3 then ai_call T q.2.2.2.2.1 idx 0 st else none
    | .invokespecial _ => none
    | .aastore => none
    | .new _ => none
    | .newarray _ => none
    | .anewarray _ => none
    | .multianewarray _ _ => none
    | _ => (match ai_pure q.2.2.1 i len pc lv st Z with
      | some z => some (.inl z)
      | none => none)
section AS
variable {W : Nat → Nat → Int32} {T : List ai_C} {ρ : Nat → Int} {Z Z' : ai_S} {h : jm_H} {lv : ai_L} {lc : jm_L} {st r st' : List ai_V} {sc rc : List Value} {pc : Nat} {q : jm_Y}
/-- what a step of the checker says of a state that it covers -/
def ai_says (W : Nat → Nat → Int32) (T : List ai_C) (ρ : Nat → Int) (Z : ai_S) (o : ai_O) (h : jm_H) (pc : Nat) (lc : jm_L) (j : Option jm_O) : Prop := match o with
  | .inl Ps => ∃ S, j = some (.inl (S, 0, 0)) ∧ ai_out W T ρ Z.1 Ps S
  | .inr (.inl none) => j = some (.inr (.inl none))
  | .inr (.inl (some a)) => ∃ v, j = some (.inr (.inl (some v))) ∧ ai_gv Z.1 ρ a v
  | .inr (.inr (y, as, r)) => ∃ asc rcc, j = some (.inr (.inr (y, asc, rcc))) ∧ ai_gt Z.1 ρ as asc ∧ ai_gt Z.1 ρ r rcc
theorem ai_says_some {W : Nat → Nat → Int32} {T : List ai_C} {ρ : Nat → Int} {Z : ai_S} {o : ai_O} {h : jm_H} {pc : Nat} {lc : jm_L} {j : Option jm_O} (hj : ai_says W T ρ Z o h pc lc j) : ∃ x, j = some x := by
  unfold ai_says at hj
  split at hj
  · obtain ⟨S, e, -⟩ := hj; exact ⟨_, e⟩
  · exact ⟨_, hj⟩
  · obtain ⟨v, e, -⟩ := hj; exact ⟨_, e⟩
  · obtain ⟨a, b, e, -⟩ := hj; exact ⟨_, e⟩
theorem ai_gt_split {nv : Nat} : ∀ (n : Nat) {st : List ai_V} {sc : List Value}, ai_gt nv ρ st sc → ai_gt nv ρ (st.take n) (sc.take n) ∧ ai_gt nv ρ (st.drop n) (sc.drop n) ∧ st.length = sc.length
  | 0, st, sc, h => ⟨trivial, h, by
      have : ∀ {st : List ai_V} {sc : List Value}, ai_gt nv ρ st sc → st.length = sc.length := by
        intro st
        induction st with
        | nil => intro sc h; cases sc with
          | nil => rfl
          | cons _ _ => exact h.elim
        | cons a st ih => intro sc h; cases sc with
          | nil => exact h.elim
          | cons v sc => exact congrArg (· + 1) (ih h.2)
      exact this h⟩
  | n + 1, [], [], h => ⟨trivial, trivial, rfl⟩
  | n + 1, a :: st, v :: sc, h => by
    obtain ⟨h1, h2, h3⟩ := ai_gt_split n h.2
    exact ⟨⟨h.1, h1⟩, h2, congrArg (· + 1) h3⟩
  | n + 1, [], _ :: _, h => h.elim
  | n + 1, _ :: _, [], h => h.elim
theorem ai_gt_app {nv : Nat} : ∀ {s1 s2 : List ai_V} {c1 c2 : List Value}, ai_gt nv ρ s1 c1 → ai_gt nv ρ s2 c2 → ai_gt nv ρ (s1 ++ s2) (c1 ++ c2)
  | [], _, [], _, _, h => h
  | a :: s1, _, v :: c1, _, h, h2 => ⟨h.1, ai_gt_app h.2 h2⟩
  | [], _, _ :: _, _, h, _ => h.elim
  | _ :: _, _, [], _, h, _ => h.elim
theorem ai_gt_rev {nv : Nat} : ∀ {s1 : List ai_V} {c1 : List Value}, ai_gt nv ρ s1 c1 → ai_gt nv ρ s1.reverse c1.reverse
  | [], [], _ => trivial
  | a :: s1, v :: c1, h => by
    rw [List.reverse_cons, List.reverse_cons]
    exact ai_gt_app (ai_gt_rev h.2) ⟨h.1, trivial⟩
  | [], _ :: _, h => h.elim
  | _ :: _, [], h => h.elim
theorem ai_call_ok {oc idx kind : Nat} {o : ai_O} (hs : ai_call T oc idx kind st = some o) (ht : ai_gt Z.1 ρ st sc) (hg : ai_gs W T ρ Z h) : ai_says W T ρ Z o h pc lc (jm_call oc idx kind sc h) := by
  unfold ai_call at hs
  unfold jm_call
  split at hs
  · cases hs
  · rename_i kd y hlk
    rw [hlk]
    dsimp only
    split at hs
    · rename_i hk
      rw [if_pos hk]
      split at hs
      · rename_i q n hq hn
        rw [hq, hn]
        dsimp only
        obtain ⟨s1, s2, s3⟩ := ai_gt_split n ht
        split at hs
        · rename_i hk1
          rw [if_pos hk1]
          split at hs
          · rename_i hc
            cases hs
            rw [if_pos ⟨by rw [← s3]; exact hc.1, by rw [ai_cs_ok s2]; exact hc.2.1, by rw [ai_cs_ok (ai_gt_rev s1)]; exact hc.2.2⟩]
            exact ⟨_, _, rfl, ai_gt_rev s1, s2⟩
          · cases hs
        · rename_i hk1
          rw [if_neg hk1]
          split at hs
          · rename_i ks r hdr
            rw [hdr] at s2
            obtain ⟨v0, rc, e0, ⟨a, ha, rfl⟩, hr⟩ := ai_gt_cons s2
            rw [e0]
            dsimp only
            split at hs
            · rename_i hc
              cases hs
              obtain ⟨c1, c2, c3, c4⟩ := hc
              have h1 := List.all_eq_true.mp c4 a ha
              split at h1
              · rename_i ci ts hT
                have h2 := of_decide_eq_true h1
                obtain ⟨fs, q1, -, -⟩ := ai_objT hg.2.2.2.1 hT
                rw [if_pos ⟨by rw [← s3]; exact c1, by rw [ai_cs_ok hr]; exact c2, by rw [ai_cs_ok (ai_gt_rev s1)]; exact c3⟩, q1]
                dsimp only
                rw [if_pos h2]
                exact ⟨_, _, rfl, ⟨⟨a, ha, rfl⟩, ai_gt_rev s1⟩, hr⟩
              · cases h1
            · cases hs
          · cases hs
      · cases hs
    · cases hs
theorem ai_on_ok {o : Option (List ai_V × ai_S)} {x : ai_O} (hs : ai_on pc lv o = some x) : ∃ st Z, o = some (st, Z) ∧ x = .inl [(pc, lv, st, Z)] := by
  unfold ai_on at hs
  split at hs
  · cases hs; exact ⟨_, _, rfl, rfl⟩
  · cases hs
theorem ai_oz_ok {o : Option (List ai_V)} {x : ai_O} (hs : ai_oz pc lv Z o = some x) : ∃ st, o = some st ∧ x = .inl [(pc, lv, st, Z)] := by
  unfold ai_oz at hs
  split at hs
  · cases hs; exact ⟨_, rfl, rfl⟩
  · cases hs
set_option maxHeartbeats 4000000 in
theorem ai_step_ok {o : ai_O} {dec : Nat → Option (Instr × Nat)} (hdec : ∀ pc i len, dec pc = some (i, len) → decode q.2.1 pc = .ok (i, len)) (hs : ai_step dec T q pc lv st Z = some o) (hl : ai_gl Z.1 ρ lv lc) (ht : ai_gt Z.1 ρ st sc) (hg : ai_gs W T ρ Z h) : ai_says W T ρ Z o h pc lc (jm_step q pc lc sc h) := by
  unfold ai_step at hs
  unfold jm_step
  split at hs
  · cases hs
  · rename_i i len hd0
    have hd := hdec _ _ _ hd0
    rw [hd]
    dsimp only
    cases i with
    | getfield idx =>
      dsimp only at hs ⊢
      split at hs
      · rename_i hc; subst hc
        obtain ⟨st2, Z2, e1, rfl⟩ := ai_on_ok hs
        obtain ⟨sc2, j1, j2⟩ := ai_getf_ok (pc := pc + 3) e1 hl ht hg
        rw [if_pos rfl, j1]; exact ⟨_, rfl, j2⟩
      · cases hs
    | putfield idx =>
      dsimp only at hs ⊢
      split at hs
      · rename_i hc; subst hc
        obtain ⟨st2, Z2, e1, rfl⟩ := ai_on_ok hs
        obtain ⟨sc2, h2, j1, j2⟩ := ai_putf_ok (pc := pc + 3) (isI := q.1.name == "<init>") e1 hl ht hg
        rw [if_pos rfl, j1]; exact ⟨_, rfl, j2⟩
      · cases hs
    | iaload =>
      dsimp only at hs ⊢
      split at hs
      · rename_i hc; subst hc
        obtain ⟨st2, Z2, e1, rfl⟩ := ai_on_ok hs
        obtain ⟨sc2, j1, j2⟩ := ai_iald_ok (pc := pc + 1) e1 hl ht hg
        rw [if_pos rfl, j1]; exact ⟨_, rfl, j2⟩
      · cases hs
    | baload =>
      dsimp only at hs ⊢
      split at hs
      · rename_i hc; subst hc
        obtain ⟨st2, Z2, e1, rfl⟩ := ai_on_ok hs
        obtain ⟨sc2, j1, j2⟩ := ai_bald_ok (pc := pc + 1) e1 hl ht hg
        rw [if_pos rfl, j1]; exact ⟨_, rfl, j2⟩
      · cases hs
    | laload =>
      dsimp only at hs ⊢
      split at hs
      · rename_i hc; subst hc
        obtain ⟨st2, e1, rfl⟩ := ai_oz_ok hs
        obtain ⟨sc2, j1, j2⟩ := ai_lald_ok (pc := pc + 1) e1 hl ht hg
        rw [if_pos rfl, j1]; exact ⟨_, rfl, j2⟩
      · cases hs
    | aaload =>
      dsimp only at hs ⊢
      split at hs
      · rename_i hc; subst hc
        obtain ⟨st2, e1, rfl⟩ := ai_oz_ok hs
        obtain ⟨sc2, j1, j2⟩ := ai_aald_ok (pc := pc + 1) e1 hl ht hg
        rw [if_pos rfl, j1]; exact ⟨_, rfl, j2⟩
      · cases hs
    | arraylength =>
      dsimp only at hs ⊢
      split at hs
      · rename_i hc; subst hc
        obtain ⟨st2, e1, rfl⟩ := ai_oz_ok hs
        obtain ⟨sc2, j1, j2⟩ := ai_alen_ok (pc := pc + 1) e1 hl ht hg
        rw [if_pos rfl, j1]; exact ⟨_, rfl, j2⟩
      · cases hs
    | iastore =>
      dsimp only at hs ⊢
      split at hs
      · rename_i hc; subst hc
        obtain ⟨st2, e1, rfl⟩ := ai_oz_ok hs
        obtain ⟨sc2, h2, j1, j2⟩ := ai_iast_ok (pc := pc + 1) e1 hl ht hg
        rw [if_pos rfl, j1]; exact ⟨_, rfl, j2⟩
      · cases hs
    | bastore =>
      dsimp only at hs ⊢
      split at hs
      · rename_i hc; subst hc
        obtain ⟨st2, e1, rfl⟩ := ai_oz_ok hs
        obtain ⟨sc2, h2, j1, j2⟩ := ai_bast_ok (pc := pc + 1) ai_narz e1 hl ht hg
        rw [if_pos rfl, j1]; exact ⟨_, rfl, j2⟩
      · cases hs
    | lastore =>
      dsimp only at hs ⊢
      split at hs
      · rename_i hc; subst hc
        obtain ⟨st2, e1, rfl⟩ := ai_oz_ok hs
        obtain ⟨sc2, h2, j1, j2⟩ := ai_last_ok (pc := pc + 1) e1 hl ht hg
        rw [if_pos rfl, j1]; exact ⟨_, rfl, j2⟩
      · cases hs
    | ldc idx =>
      dsimp only at hs ⊢
      split at hs
      · rename_i hc; subst hc
        split at hs
        · rename_i v hv
          cases hs
          rw [if_pos rfl, hv]
          exact ⟨_, rfl, ai_stay hl ⟨⟨hg.1, v, rfl, by rw [hg.2.1]; omega⟩, ht⟩ hg⟩
        · cases hs
      · cases hs
    | ldc_w idx =>
      dsimp only at hs ⊢
      split at hs
      · rename_i hc; subst hc
        split at hs
        · rename_i v hv
          cases hs
          rw [if_pos rfl, hv]
          exact ⟨_, rfl, ai_stay hl ⟨⟨hg.1, v, rfl, by rw [hg.2.1]; omega⟩, ht⟩ hg⟩
        · cases hs
      · cases hs
    | ldc2_w idx =>
      dsimp only at hs ⊢
      split at hs
      · rename_i hc; subst hc
        split at hs
        · rename_i v hv
          cases hs
          rw [if_pos rfl, hv]
          exact ⟨_, rfl, ai_stay hl ⟨⟨hg.1, v, rfl, by rw [hg.2.1]; omega⟩, ht⟩ hg⟩
        · cases hs
      · cases hs
    | ireturn =>
      dsimp only at hs ⊢
      split at hs
      · rename_i hc; subst hc
        rw [if_pos rfl]
        split at hs
        · rename_i a e0
          cases hs
          obtain ⟨j, rc, rfl, hj, hr⟩ := ai_gt_i ht
          cases rc with
          | cons _ _ => exact hr.elim
          | nil => rw [e0]; exact ⟨.int j, by simp [narrow], hj.1, j, rfl, hj.2⟩
        · rename_i a e0
          split at hs
          · rename_i hb
            cases hs
            obtain ⟨j, rc, rfl, hj, hr⟩ := ai_gt_i ht
            have hx := ai_lh hg.2.1 hg.2.2.1 hj.2
            cases rc with
            | cons _ _ => exact hr.elim
            | nil =>
              rw [e0]
              have h5 : j.toInt = 0 ∨ j.toInt = 1 := by omega
              have hn : narrow .boolean (.int j) = .int j := by
                rcases h5 with h5 | h5
                · have e : j = 0 := Int32.toInt_inj.mp (by rw [h5]; rfl)
                  subst e; rfl
                · have e : j = 1 := Int32.toInt_inj.mp (by rw [h5]; rfl)
                  subst e; rfl
              exact ⟨.int j, by simp [hn], hj.1, j, rfl, hj.2⟩
          · cases hs
        · cases hs
      · cases hs
    | lreturn =>
      dsimp only at hs ⊢
      split at hs
      · rename_i hc; subst hc
        rw [if_pos rfl]
        split at hs
        · rename_i a e0
          cases hs
          obtain ⟨v, rc, rfl, hv, hr⟩ := ai_gt_cons ht
          obtain ⟨j, rc2, e1, -, -⟩ := ai_gt_l (a := a) (r := []) (sc := [v]) ⟨hv, trivial⟩
          cases e1
          cases rc with
          | cons _ _ => exact hr.elim
          | nil => rw [e0]; exact ⟨.long j, rfl, hv⟩
        · cases hs
      · cases hs
    | areturn =>
      dsimp only at hs ⊢
      split at hs
      · rename_i hc; subst hc
        rw [if_pos rfl]
        split at hs
        · rename_i ks nm e0
          cases hs
          obtain ⟨v, rc, rfl, hv, hr⟩ := ai_gt_cons ht
          obtain ⟨k, hk, rfl⟩ := id hv
          cases rc with
          | cons _ _ => exact hr.elim
          | nil => rw [e0]; exact ⟨.ref k, rfl, hv⟩
        · cases hs
      · cases hs
    | return_ =>
      dsimp only at hs ⊢
      split at hs
      · rename_i hc; subst hc
        rw [if_pos rfl]
        split at hs
        · rename_i e0
          cases hs
          cases sc with
          | cons _ _ => exact ht.elim
          | nil => rw [e0]; exact rfl
        · cases hs
      · cases hs
    | invokestatic idx =>
      dsimp only at hs ⊢
      split at hs
      · rename_i hc; subst hc
        rw [if_pos rfl]
        split at hs
        · split at hs
          · rename_i h8
            obtain ⟨st2, Z2, e1, rfl⟩ := ai_on_ok hs
            obtain ⟨sc2, j1, j2⟩ := ai_math_ok (pc := pc + 3) e1 h8 hl ht hg
            rw [j1]; exact ⟨_, rfl, j2⟩
          · cases hs
        · rename_i hno
          have hm : jm_math q.2.2.2.2.1 idx sc = none := by
            unfold jm_math
            rw [if_neg (fun z => hno (Or.inl z)), if_neg (fun z => hno (Or.inr (Or.inl z))), if_neg (fun z => hno (Or.inr (Or.inr z)))]
          rw [hm]
          dsimp only
          split at hs
          · rename_i hcp
            rw [if_pos hcp]
            split at hs
            · rename_i h8
              obtain ⟨st2, e1, rfl⟩ := ai_oz_ok hs
              obtain ⟨sc2, h2, j1, j2⟩ := ai_copy_ok (pc := pc + 3) e1 h8 hl ht hg
              rw [j1]; exact ⟨_, rfl, j2⟩
            · cases hs
          · rename_i hcp
            rw [if_neg hcp]
            exact ai_call_ok hs ht hg
      · cases hs
    | invokevirtual idx =>
      dsimp only at hs ⊢
      split at hs
      · rename_i hc; subst hc
        rw [if_pos rfl]
        have j0 := ai_call_ok (pc := pc) (lc := lc) hs ht hg
        obtain ⟨x, ex⟩ := ai_says_some j0
        rw [ex] at j0 ⊢
        exact j0
      · cases hs
    | invokespecial idx => cases hs
    | aastore => cases hs
    | new idx => cases hs
    | newarray t => cases hs
    | anewarray idx => cases hs
    | multianewarray a b => cases hs
    | _ =>
      dsimp only at hs ⊢
      split at hs
      · rename_i z hz
        cases hs
        obtain ⟨z2, j1, j2⟩ := ai_pure_ok hz hl ht hg
        rw [j1]; exact ⟨_, rfl, j2⟩
      · cases hs
end AS
