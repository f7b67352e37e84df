/-! the checker's step without cells, and that it covers the small machine's -/
def ai_gp (W : Nat → Nat → Int32) (T : List ai_C) (ρ : Nat → Int) (P : ai_P) (S : jm_S) : Prop := S.1 = P.1 ∧ ai_gl P.2.2.2.1 ρ P.2.1 S.2.1 ∧ ai_gt P.2.2.2.1 ρ P.2.2.1 S.2.2.1 ∧ ai_gs W T ρ P.2.2.2 S.2.2.2
def ai_out (W : Nat → Nat → Int32) (T : List ai_C) (ρ : Nat → Int) (nv : Nat) (Ps : List ai_P) (S : jm_S) : Prop := ∃ P ∈ Ps, ∃ ρ', ai_ext nv ρ ρ' ∧ nv ≤ P.2.2.2.1 ∧ ai_gp W T ρ' P S
def ai_i1 (st : List ai_V) (k : (Nat × Int) → List ai_V → Option (List ai_P)) : Option (List ai_P) := match st with
  | .inl a :: r => k a r
  | _ => none
def ai_i2 (st : List ai_V) (k : (Nat × Int) → (Nat × Int) → List ai_V → Option (List ai_P)) : Option (List ai_P) := match st with
  | .inl b :: .inl a :: r => k a b r
  | _ => none
def ai_j1 (st : List ai_V) (k : Option (Nat × Int) → List ai_V → Option (List ai_P)) : Option (List ai_P) := match st with
  | .inr (.inr (.inl a)) :: r => k a r
  | _ => none
def ai_j2 (st : List ai_V) (k : Option (Nat × Int) → Option (Nat × Int) → List ai_V → Option (List ai_P)) : Option (List ai_P) := match st with
  | .inr (.inr (.inl b)) :: .inr (.inr (.inl a)) :: r => k a b r
  | _ => none
def ai_p1 (pc : Nat) (lv : ai_L) (st : List ai_V) (r : ai_V × ai_S) : List ai_P := [(pc, lv, r.1 :: st, r.2)]
def ai_lg' (x : Option (Nat × Int)) : ai_V := .inr (.inr (.inl x))
def ai_get (lv : ai_L) (i : Nat) : Option ai_V := (lv.find? (fun q => q.1 == i)).map (fun q => q.2)
section AP
variable {W : Nat → Nat → Int32} {T : List ai_C} {ρ : Nat → Int} {Z : ai_S} {h : jm_H} {lv : ai_L} {lc : jm_L} {st r : List ai_V} {sc : List Value} {pc : Nat}
theorem ai_get_ok {nv i : Nat} {a : ai_V} (hl : ai_gl nv ρ lv lc) (hg : ai_get lv i = some a) : ∃ v, jm_get lc i = some v ∧ ai_gv nv ρ a v := by
  unfold ai_get at hg
  cases hf : lv.find? (fun q => q.1 == i) with
  | none => rw [hf] at hg; cases hg
  | some q =>
    rw [hf] at hg
    have h1 : q.1 = i := by simpa using List.find?_some hf
    have h2 : q.2 = a := Option.some.inj hg
    obtain ⟨v, g1, g2⟩ := hl q (List.mem_of_find?_eq_some hf)
    rw [h1] at g1
    rw [h2] at g2
    exact ⟨v, g1, g2⟩
theorem ai_i1_ok {k : (Nat × Int) → List ai_V → Option (List ai_P)} {z : List ai_P} (hk : ai_i1 st k = some z) : ∃ a r, st = .inl a :: r ∧ k a r = some z := by
  unfold ai_i1 at hk
  split at hk
  · exact ⟨_, _, rfl, hk⟩
  · cases hk
theorem ai_i2_ok {k : (Nat × Int) → (Nat × Int) → List ai_V → Option (List ai_P)} {z : List ai_P} (hk : ai_i2 st k = some z) : ∃ a b r, st = .inl b :: .inl a :: r ∧ k a b r = some z := by
  unfold ai_i2 at hk
  split at hk
  · exact ⟨_, _, _, rfl, hk⟩
  · cases hk
theorem ai_j1_ok {k : Option (Nat × Int) → List ai_V → Option (List ai_P)} {z : List ai_P} (hk : ai_j1 st k = some z) : ∃ a r, st = ai_lg' a :: r ∧ k a r = some z := by
  unfold ai_j1 at hk
  split at hk
  · exact ⟨_, _, rfl, hk⟩
  · cases hk
theorem ai_j2_ok {k : Option (Nat × Int) → Option (Nat × Int) → List ai_V → Option (List ai_P)} {z : List ai_P} (hk : ai_j2 st k = some z) : ∃ a b r, st = ai_lg' b :: ai_lg' a :: r ∧ k a b r = some z := by
  unfold ai_j2 at hk
  split at hk
  · exact ⟨_, _, _, rfl, hk⟩
  · cases hk
theorem ai_gt_cons {nv : Nat} {a : ai_V} (hg : ai_gt nv ρ (a :: r) sc) : ∃ v rc, sc = v :: rc ∧ ai_gv nv ρ a v ∧ ai_gt nv ρ r rc := by
  cases sc with
  | nil => exact hg.elim
  | cons v rc => exact ⟨v, rc, rfl, hg.1, hg.2⟩
theorem ai_gt_i {nv : Nat} {a : Nat × Int} (hg : ai_gt nv ρ (.inl a :: r) sc) : ∃ (i : Int32) (rc : List Value), sc = .int i :: rc ∧ (a.1 < nv ∧ i.toInt = ρ a.1 + a.2) ∧ ai_gt nv ρ r rc := by
  obtain ⟨v, rc, rfl, ⟨h1, i, rfl, h2⟩, h3⟩ := ai_gt_cons hg
  exact ⟨i, rc, rfl, ⟨h1, h2⟩, h3⟩
theorem ai_gt_l {nv : Nat} {a : Option (Nat × Int)} (hg : ai_gt nv ρ (ai_lg' a :: r) sc) : ∃ (i : Int64) (rc : List Value), sc = .long i :: rc ∧ (∀ x, a = some x → x.1 < nv ∧ i.toInt = ρ x.1 + x.2) ∧ ai_gt nv ρ r rc := by
  obtain ⟨v, rc, rfl, h1, h3⟩ := ai_gt_cons hg
  cases a with
  | none => obtain ⟨i, rfl⟩ := h1; exact ⟨i, rc, rfl, (fun x hx => by cases hx), h3⟩
  | some y => obtain ⟨h1, i, rfl, h2⟩ := h1; exact ⟨i, rc, rfl, (fun x hx => by cases hx; exact ⟨h1, h2⟩), h3⟩
/-- a result laid on the stack -/
theorem ai_push {v : Value} {x : ai_V × ai_S} {rc : List Value} (hR : ai_R W T ρ Z h x v) (hl : ai_gl Z.1 ρ lv lc) (hr : ai_gt Z.1 ρ r rc) : ai_out W T ρ Z.1 (ai_p1 pc lv r x) (pc, lc, v :: rc, h) := by
  obtain ⟨ρ', e1, e2, e3, e4⟩ := hR
  exact ⟨_, List.mem_singleton.mpr rfl, ρ', e1, e2, rfl, hl.ext e2 e1, ⟨e4, ai_gt.ext e2 e1 hr⟩, e3⟩
theorem ai_stay {lv' : ai_L} {lc' : jm_L} {r' : List ai_V} {rc' : List Value} (hl : ai_gl Z.1 ρ lv' lc') (hr : ai_gt Z.1 ρ r' rc') (hs : ai_gs W T ρ Z h) : ai_out W T ρ Z.1 [(pc, lv', r', Z)] (pc, lc', rc', h) :=
  ⟨_, List.mem_singleton.mpr rfl, ρ, fun _ _ => rfl, Nat.le_refl _, rfl, hl, hr, hs⟩
end AP
def ai_br (Z : ai_S) (op : ClassFile.Cond) (a b : Nat × Int) (pc : Nat) (off : Int) (lv : ai_L) (st : List ai_V) : Option (List ai_P) := match jm_tg pc off with
  | none => none
  | some t => some ((match ai_cmp Z op a b true with
    | some Z' => [(t, lv, st, Z')]
    | none => []) ++ (match ai_cmp Z op a b false with
    | some Z' => [(pc + 3, lv, st, Z')]
    | none => []))
/-- a table's places: each number with its target -/
def ai_tab (Z : ai_S) (a : Nat × Int) (pc : Nat) (lv : ai_L) (st : List ai_V) : Int → List Int → Option (List ai_P)
  | _, [] => some []
  | n, off :: offs => match jm_tg pc off, ai_tab Z a pc lv st (n + 1) offs with
    | some t, some ps => (match ai_cmp Z .eq a (0, n) true with
      | some Z' => some ((t, lv, st, Z') :: ps)
      | none => some ps)
    | _, _ => none

def ai_pure (nL : Nat) (i : Instr) (len pc : Nat) (lv : ai_L) (st : List ai_V) (Z : ai_S) : Option (List ai_P) := match i with
  | .iconst n => if len = 1 then some [(pc + 1, lv, .inl (0, (Int32.ofInt n).toInt) :: st, Z)] else none
  | .bipush n => if len = 2 then some [(pc + 2, lv, .inl (0, (Int8.ofInt n).toInt32.toInt) :: st, Z)] else none
  | .sipush n => if len = 3 then some [(pc + 3, lv, .inl (0, (Int16.ofInt n).toInt32.toInt) :: st, Z)] else none
  | .lconst n => if len = 1 then some [(pc + 1, lv, ai_lg' (some (0, (Int64.ofNat (n : Nat)).toInt)) :: st, Z)] else none
  | .iload k => if len = 2 then (match ai_get lv k with
    | some (.inl a) => some [(pc + 2, lv, .inl a :: st, Z)]
    | _ => none) else none
  | .iload_n k => if len = 1 then (match ai_get lv k.val with
    | some (.inl a) => some [(pc + 1, lv, .inl a :: st, Z)]
    | _ => none) else none
  | .lload k => if len = 2 then (match ai_get lv k with
    | some (.inr (.inr (.inl a))) => some [(pc + 2, lv, ai_lg' a :: st, Z)]
    | _ => none) else none
  | .lload_n k => if len = 1 then (match ai_get lv k.val with
    | some (.inr (.inr (.inl a))) => some [(pc + 1, lv, ai_lg' a :: st, Z)]
    | _ => none) else none
  | .aload k => if len = 2 then (match ai_get lv k with
    | some (.inr (.inl a)) => some [(pc + 2, lv, .inr (.inl a) :: st, Z)]
    | some (.inr (.inr (.inr a))) => some [(pc + 2, lv, .inr (.inr (.inr a)) :: st, Z)]
    | _ => none) else none
  | .aload_n k => if len = 1 then (match ai_get lv k.val with
    | some (.inr (.inl a)) => some [(pc + 1, lv, .inr (.inl a) :: st, Z)]
    | some (.inr (.inr (.inr a))) => some [(pc + 1, lv, .inr (.inr (.inr a)) :: st, Z)]
    | _ => none) else none
  | .istore k => if len = 2 ∧ k < nL then ai_i1 st (fun a r => some [(pc + 2, ai_st1 k (.inl a) lv, r, Z)]) else none
  | .istore_n k => if len = 1 ∧ k.val < nL then ai_i1 st (fun a r => some [(pc + 1, ai_st1 k.val (.inl a) lv, r, Z)]) else none
  | .lstore k => if len = 2 ∧ k + 1 < nL then ai_j1 st (fun a r => some [(pc + 2, ai_st2 k (ai_lg' a) lv, r, Z)]) else none
  | .lstore_n k => if len = 1 ∧ k.val + 1 < nL then ai_j1 st (fun a r => some [(pc + 1, ai_st2 k.val (ai_lg' a) lv, r, Z)]) else none
  | .astore k => if len = 2 ∧ k < nL then (match st with
    | .inr (.inl a) :: r => some [(pc + 2, ai_st1 k (.inr (.inl a)) lv, r, Z)]
    | _ => none) else none
  | .astore_n k => if len = 1 ∧ k.val < nL then (match st with
    | .inr (.inl a) :: r => some [(pc + 1, ai_st1 k.val (.inr (.inl a)) lv, r, Z)]
    | _ => none) else none
  | .iinc k n => if len = 3 ∧ k < nL then (match ai_get lv k with
    | some (.inl a) => some [(pc + 3, ai_st1 k (ai_add Z a (0, (Int32.ofInt n).toInt)).1 lv, st, (ai_add Z a (0, (Int32.ofInt n).toInt)).2)]
    | _ => none) else none
  | .iadd => if len = 1 then ai_i2 st (fun a b r => some (ai_p1 (pc + 1) lv r (ai_add Z a b))) else none
  | .isub => if len = 1 then ai_i2 st (fun a b r => some (ai_p1 (pc + 1) lv r (ai_sub Z a b))) else none
  | .imul => if len = 1 then ai_i2 st (fun a b r => some (ai_p1 (pc + 1) lv r (ai_mul Z a b))) else none
  | .iand => if len = 1 then ai_i2 st (fun a b r => some (ai_p1 (pc + 1) lv r (ai_and Z a b))) else none
  | .ior => if len = 1 then ai_i2 st (fun a b r => some (ai_p1 (pc + 1) lv r (ai_orx Z a b))) else none
  | .ixor => if len = 1 then ai_i2 st (fun a b r => some (ai_p1 (pc + 1) lv r (ai_orx Z a b))) else none
  | .ishl => if len = 1 then ai_i2 st (fun a b r => some (ai_p1 (pc + 1) lv r (ai_shl Z a b))) else none
  | .ishr => if len = 1 then ai_i2 st (fun a b r => some (ai_p1 (pc + 1) lv r (ai_shr Z a b))) else none
  | .idiv => if len = 1 then ai_i2 st (fun a b r => (ai_div Z a b).map (fun x => ai_p1 (pc + 1) lv r x)) else none
  | .irem => if len = 1 then ai_i2 st (fun a b r => (ai_rem Z a b).map (fun x => ai_p1 (pc + 1) lv r x)) else none
  | .iushr => if len = 1 then ai_i2 st (fun _ _ r => some (ai_p1 (pc + 1) lv r (ai_mk Z ai_min ai_max))) else none
  | .ineg => if len = 1 then ai_i1 st (fun a r => some (ai_p1 (pc + 1) lv r (ai_neg Z a))) else none
  | .ladd => if len = 1 then ai_j2 st (fun _ _ r => some [(pc + 1, lv, ai_lg' none :: r, Z)]) else none
  | .lsub => if len = 1 then ai_j2 st (fun _ _ r => some [(pc + 1, lv, ai_lg' none :: r, Z)]) else none
  | .lmul => if len = 1 then ai_j2 st (fun _ _ r => some [(pc + 1, lv, ai_lg' none :: r, Z)]) else none
  | .lor => if len = 1 then ai_j2 st (fun _ _ r => some [(pc + 1, lv, ai_lg' none :: r, Z)]) else none
  | .land => if len = 1 then ai_j2 st (fun _ b r => (match b with
    | some y => (match ai_lo Z.2.1 y, ai_hi Z.2.1 y with
      | some d, some u => if 0 ≤ d then some [(pc + 1, lv, ai_lg' (some (Z.1, 0)) :: r, ai_new Z 0 u)] else some [(pc + 1, lv, ai_lg' none :: r, Z)]
      | _, _ => some [(pc + 1, lv, ai_lg' none :: r, Z)])
    | none => some [(pc + 1, lv, ai_lg' none :: r, Z)])) else none
  | .ldiv => if len = 1 then ai_j2 st (fun _ b r => (match b with
    | some y => (match ai_lo Z.2.1 y with
      | some d => if 1 ≤ d then some [(pc + 1, lv, ai_lg' none :: r, Z)] else none
      | none => none)
    | none => none)) else none
  | .lshl => if len = 1 then ai_i1 st (fun _ r => ai_j1 r (fun _ r2 => some [(pc + 1, lv, ai_lg' none :: r2, Z)])) else none
  | .lshr => if len = 1 then ai_i1 st (fun _ r => ai_j1 r (fun _ r2 => some [(pc + 1, lv, ai_lg' none :: r2, Z)])) else none
  | .lcmp => if len = 1 then ai_j2 st (fun _ _ r => some (ai_p1 (pc + 1) lv r (ai_mk Z (-1) 1))) else none
  | .i2l => if len = 1 then ai_i1 st (fun a r => some [(pc + 1, lv, ai_lg' (some a) :: r, Z)]) else none
  | .i2b => if len = 1 then ai_i1 st (fun _ r => some (ai_p1 (pc + 1) lv r (ai_mk Z (-128) 127))) else none
  | .l2i => if len = 1 then ai_j1 st (fun a r => (match a with
    | some y => (match ai_lo Z.2.1 y, ai_hi Z.2.1 y with
      | some d, some u => if ai_min ≤ d ∧ u ≤ ai_max then some [(pc + 1, lv, .inl y :: r, Z)] else some (ai_p1 (pc + 1) lv r (ai_mk Z ai_min ai_max))
      | _, _ => some (ai_p1 (pc + 1) lv r (ai_mk Z ai_min ai_max)))
    | none => some (ai_p1 (pc + 1) lv r (ai_mk Z ai_min ai_max)))) else none
  | .dup => if len = 1 then (match st with
    | v :: r => if ai_isl v = false then some [(pc + 1, lv, v :: v :: r, Z)] else none
    | _ => none) else none
  | .dup2 => if len = 1 then (match st with
    | v :: w :: r => if ai_isl v = false ∧ ai_isl w = false then some [(pc + 1, lv, v :: w :: v :: w :: r, Z)] else none
    | _ => none) else none
  | .pop => if len = 1 then (match st with
    | v :: r => if ai_isl v = false then some [(pc + 1, lv, r, Z)] else none
    | _ => none) else none
  | .pop2 => if len = 1 then (match st with
    | v :: r => if ai_isl v = true then some [(pc + 1, lv, r, Z)] else none
    | _ => none) else none
  | .goto off => if len = 3 then (match jm_tg pc off with
    | some t => some [(t, lv, st, Z)]
    | none => none) else none
  | .ifCond op off => if len = 3 then ai_i1 st (fun a r => ai_br Z op a (0, 0) pc off lv r) else none
  | .if_icmp op off => if len = 3 then ai_i2 st (fun a b r => ai_br Z op a b pc off lv r) else none
  | .tableswitch d lo hi offs => if hi = lo + offs.size - 1 then ai_i1 st (fun a r => (match jm_tg pc d, ai_tab Z a pc lv r lo offs.toList with
    | some t, some ps => some ((t, lv, r, Z) :: ps)
    | _, _ => none)) else none
  | _ => none
section AQ
variable {W : Nat → Nat → Int32} {T : List ai_C} {ρ : Nat → Int} {Z : ai_S} {h : jm_H} {lv : ai_L} {lc : jm_L} {st r : List ai_V} {sc rc : List Value} {pc : Nat}
theorem ai_lcmp (x y : Int64) : -1 ≤ (lg_cmp x y).toInt ∧ (lg_cmp x y).toInt ≤ 1 := by
  unfold lg_cmp
  repeat' split
  all_goals decide
theorem ai_land_ok (x j : Int64) (hlo : 0 ≤ j.toInt) : 0 ≤ (x &&& j).toInt ∧ (x &&& j).toInt ≤ j.toInt := by
  have e : j.toInt = j.toBitVec.toInt := rfl
  have e1 := BitVec.toInt_eq_toNat_cond j.toBitVec
  have e2 := j.toBitVec.isLt
  have hb : (x &&& j).toBitVec.toNat ≤ j.toBitVec.toNat := by
    rw [Int64.toBitVec_and, BitVec.toNat_and]
    exact Nat.and_le_right
  have e3 : (x &&& j).toInt = (x &&& j).toBitVec.toInt := rfl
  have e4 := BitVec.toInt_eq_toNat_cond (x &&& j).toBitVec
  have hjn : (j.toBitVec.toNat : Int) = j.toInt := by
    rw [e] at hlo ⊢
    split at e1 <;> omega
  have hlt : 2 * j.toBitVec.toNat < 2 ^ 64 := by
    rw [e] at hlo
    split at e1
    · rename_i hq; exact hq
    · omega
  rw [if_pos (by omega)] at e4
  exact ⟨by rw [e3, e4]; exact Int.natCast_nonneg _, by rw [e3, e4, ← hjn]; exact Int.ofNat_le.mpr hb⟩
theorem ai_br_ok {op : ClassFile.Cond} {a b : Nat × Int} {i j : Int32} {off : Int} {Ps : List ai_P} (hs : ai_gs W T ρ Z h) (ha : a.1 < Z.1 ∧ i.toInt = ρ a.1 + a.2) (hb : b.1 < Z.1 ∧ j.toInt = ρ b.1 + b.2) (hl : ai_gl Z.1 ρ lv lc) (hr : ai_gt Z.1 ρ r rc) (hk : ai_br Z op a b pc off lv r = some Ps) :
    ∃ z, jm_br (jm_c2 op i j) pc off lc rc = some z ∧ ai_out W T ρ Z.1 Ps (z.1, z.2.1, z.2.2, h) := by
  obtain ⟨Z', c1, c2, c3⟩ := ai_cmp_ok op hs ha hb
  unfold ai_br at hk
  unfold jm_br
  split at hk
  · cases hk
  · rename_i t ht
    cases hk
    cases hc : jm_c2 op i j with
    | true =>
      rw [hc] at c1
      refine ⟨(t, lc, rc), by rw [ht]; rfl, (t, lv, r, Z'), ?_, ρ, fun _ _ => rfl, by rw [show (t, lv, r, Z').2.2.2.1 = Z'.1 from rfl, c2]; exact Nat.le_refl _, rfl, by show ai_gl Z'.1 ρ lv lc; rw [c2]; exact hl, by show ai_gt Z'.1 ρ r rc; rw [c2]; exact hr, c3⟩
      rw [c1]
      exact List.mem_append_left _ (List.mem_singleton.mpr rfl)
    | false =>
      rw [hc] at c1
      refine ⟨(pc + 3, lc, rc), by rw [ht]; rfl, (pc + 3, lv, r, Z'), ?_, ρ, fun _ _ => rfl, by rw [show (pc + 3, lv, r, Z').2.2.2.1 = Z'.1 from rfl, c2]; exact Nat.le_refl _, rfl, by show ai_gl Z'.1 ρ lv lc; rw [c2]; exact hl, by show ai_gt Z'.1 ρ r rc; rw [c2]; exact hr, c3⟩
      rw [c1]
      exact List.mem_append_right _ (List.mem_singleton.mpr rfl)
theorem ai_tab_ok {a : Nat × Int} {i : Int32} (hs : ai_gs W T ρ Z h) (ha : a.1 < Z.1 ∧ i.toInt = ρ a.1 + a.2) (hl : ai_gl Z.1 ρ lv lc) (hr : ai_gt Z.1 ρ r rc) : ∀ (offs : List Int) (n : Int) (ps : List ai_P), ai_tab Z a pc lv r n offs = some ps → n ≤ i.toInt → i.toInt < n + offs.length →
    ∃ off t, offs[(i.toInt - n).toNat]? = some off ∧ jm_tg pc off = some t ∧ ai_out W T ρ Z.1 ps (t, lc, rc, h)
  | [], n, ps, _, h1, h2 => by simp at h2; omega
  | off :: offs, n, ps, hk, h1, h2 => by
    unfold ai_tab at hk
    split at hk
    · rename_i t ps2 ht hps
      by_cases hn : i.toInt = n
      · have hb : (0 : Nat) < Z.1 ∧ (Int32.ofInt n).toInt = ρ 0 + n := ⟨hs.1, by rw [hs.2.1, ← hn, Int32.ofInt_toInt]; omega⟩
        have hij : i = Int32.ofInt n := by rw [← hn, Int32.ofInt_toInt]
        obtain ⟨Z', c1, c2, c3⟩ := ai_cmp_ok (a := a) (b := (0, n)) (i := i) (j := Int32.ofInt n) .eq hs ha hb
        have e : jm_c2 .eq i (Int32.ofInt n) = true := by simp [jm_c2, hij]
        rw [e] at c1
        rw [c1] at hk
        cases hk
        refine ⟨off, t, by rw [hn, Int.sub_self]; rfl, ht, (t, lv, r, Z'), List.mem_cons_self, ρ, fun _ _ => rfl, by rw [show (t, lv, r, Z').2.2.2.1 = Z'.1 from rfl, c2]; exact Nat.le_refl _, rfl, by show ai_gl Z'.1 ρ lv lc; rw [c2]; exact hl, by show ai_gt Z'.1 ρ r rc; rw [c2]; exact hr, c3⟩
      · obtain ⟨off2, t2, g1, g2, P, hP, ho⟩ := ai_tab_ok hs ha hl hr offs (n + 1) ps2 hps (by omega) (by rw [List.length_cons] at h2; omega)
        have hx : (i.toInt - n).toNat = (i.toInt - (n + 1)).toNat + 1 := by omega
        refine ⟨off2, t2, by rw [hx]; exact g1, g2, P, ?_, ho⟩
        split at hk
        · cases hk; exact List.mem_cons_of_mem _ hP
        · cases hk; exact hP
    · cases hk

set_option maxHeartbeats 4000000 in
theorem ai_pure_ok {nL : Nat} {i : Instr} {len : Nat} {Ps : List ai_P} (hs : ai_pure nL i len pc lv st Z = some Ps) (hl : ai_gl Z.1 ρ lv lc) (ht : ai_gt Z.1 ρ st sc) (hg : ai_gs W T ρ Z h) :
    ∃ z, jm_pure nL i len pc lc sc = some z ∧ ai_out W T ρ Z.1 Ps (z.1, z.2.1, z.2.2, h) := by
  cases i with
  | iconst n =>
    simp only [ai_pure] at hs
    split at hs
    · rename_i hlen
      subst hlen
      cases hs
      exact ⟨_, rfl, ai_stay hl ⟨⟨hg.1, _, rfl, by rw [hg.2.1]; omega⟩, ht⟩ hg⟩
    · cases hs
  | bipush n =>
    simp only [ai_pure] at hs
    split at hs
    · rename_i hlen
      subst hlen
      cases hs
      exact ⟨_, rfl, ai_stay hl ⟨⟨hg.1, _, rfl, by rw [hg.2.1]; omega⟩, ht⟩ hg⟩
    · cases hs
  | sipush n =>
    simp only [ai_pure] at hs
    split at hs
    · rename_i hlen
      subst hlen
      cases hs
      exact ⟨_, rfl, ai_stay hl ⟨⟨hg.1, _, rfl, by rw [hg.2.1]; omega⟩, ht⟩ hg⟩
    · cases hs
  | lconst n =>
    simp only [ai_pure] at hs
    split at hs
    · rename_i hlen
      subst hlen
      cases hs
      exact ⟨_, rfl, ai_stay hl ⟨⟨hg.1, _, rfl, by rw [hg.2.1]; omega⟩, ht⟩ hg⟩
    · cases hs
  | iload k =>
    simp only [ai_pure] at hs
    split at hs
    · rename_i hlen
      subst hlen
      split at hs
      · rename_i a ha
        cases hs
        obtain ⟨v, g1, g2⟩ := ai_get_ok hl ha
        obtain ⟨g3, i, rfl, g4⟩ := id g2
        refine ⟨(pc + 2, lc, .int i :: sc), ?_, ai_stay hl ⟨g2, ht⟩ hg⟩
        simp only [jm_pure, jm_ldi, g1, if_true]
      · cases hs
    · cases hs
  | iload_n k =>
    simp only [ai_pure] at hs
    split at hs
    · rename_i hlen
      subst hlen
      split at hs
      · rename_i a ha
        cases hs
        obtain ⟨v, g1, g2⟩ := ai_get_ok hl ha
        obtain ⟨g3, i, rfl, g4⟩ := id g2
        refine ⟨(pc + 1, lc, .int i :: sc), ?_, ai_stay hl ⟨g2, ht⟩ hg⟩
        simp only [jm_pure, jm_ldi, g1, if_true]
      · cases hs
    · cases hs
  | lload k =>
    simp only [ai_pure] at hs
    split at hs
    · rename_i hlen
      subst hlen
      split at hs
      · rename_i a ha
        cases hs
        obtain ⟨v, g1, g2⟩ := ai_get_ok hl ha
        obtain ⟨i, rc, e1, -, -⟩ := ai_gt_l (r := []) (sc := [v]) ⟨g2, trivial⟩
        cases e1
        refine ⟨(pc + 2, lc, .long i :: sc), ?_, ai_stay hl ⟨g2, ht⟩ hg⟩
        simp only [jm_pure, jm_ldl, g1, if_true]
      · cases hs
    · cases hs
  | lload_n k =>
    simp only [ai_pure] at hs
    split at hs
    · rename_i hlen
      subst hlen
      split at hs
      · rename_i a ha
        cases hs
        obtain ⟨v, g1, g2⟩ := ai_get_ok hl ha
        obtain ⟨i, rc, e1, -, -⟩ := ai_gt_l (r := []) (sc := [v]) ⟨g2, trivial⟩
        cases e1
        refine ⟨(pc + 1, lc, .long i :: sc), ?_, ai_stay hl ⟨g2, ht⟩ hg⟩
        simp only [jm_pure, jm_ldl, g1, if_true]
      · cases hs
    · cases hs
  | aload k =>
    simp only [ai_pure] at hs
    split at hs
    · rename_i hlen
      subst hlen
      split at hs
      · rename_i a ha
        cases hs
        obtain ⟨v, g1, g2⟩ := ai_get_ok hl ha
        obtain ⟨q, g3, rfl⟩ := id g2
        refine ⟨(pc + 2, lc, .ref q :: sc), ?_, ai_stay hl ⟨g2, ht⟩ hg⟩
        simp only [jm_pure, jm_lda, g1, if_true]
      · rename_i a ha
        cases hs
        obtain ⟨v, g1, g2⟩ := ai_get_ok hl ha
        have g3 : v = .float (UInt32.ofNat a) := g2
        subst g3
        refine ⟨(pc + 2, lc, .float (UInt32.ofNat a) :: sc), ?_, ai_stay hl ⟨g2, ht⟩ hg⟩
        simp only [jm_pure, jm_lda, g1, if_true]
      · cases hs
    · cases hs
  | aload_n k =>
    simp only [ai_pure] at hs
    split at hs
    · rename_i hlen
      subst hlen
      split at hs
      · rename_i a ha
        cases hs
        obtain ⟨v, g1, g2⟩ := ai_get_ok hl ha
        obtain ⟨q, g3, rfl⟩ := id g2
        refine ⟨(pc + 1, lc, .ref q :: sc), ?_, ai_stay hl ⟨g2, ht⟩ hg⟩
        simp only [jm_pure, jm_lda, g1, if_true]
      · rename_i a ha
        cases hs
        obtain ⟨v, g1, g2⟩ := ai_get_ok hl ha
        have g3 : v = .float (UInt32.ofNat a) := g2
        subst g3
        refine ⟨(pc + 1, lc, .float (UInt32.ofNat a) :: sc), ?_, ai_stay hl ⟨g2, ht⟩ hg⟩
        simp only [jm_pure, jm_lda, g1, if_true]
      · cases hs
    · cases hs
  | istore k =>
    simp only [ai_pure] at hs
    split at hs
    · rename_i hlen
      obtain ⟨rfl, hlt⟩ := hlen
      obtain ⟨a, r, rfl, hs2⟩ := ai_i1_ok hs
      cases hs2
      obtain ⟨i, rc, rfl, ha, hr⟩ := ai_gt_i ht
      refine ⟨(pc + 2, jm_st1 k (.int i) lc, rc), ?_, ai_stay (ai_gl_st1 (v := .int i) hl ⟨ha.1, i, rfl, ha.2⟩) hr hg⟩
      simp only [jm_pure, jm_sti, hlt, if_true]
    · cases hs
  | istore_n k =>
    simp only [ai_pure] at hs
    split at hs
    · rename_i hlen
      obtain ⟨rfl, hlt⟩ := hlen
      obtain ⟨a, r, rfl, hs2⟩ := ai_i1_ok hs
      cases hs2
      obtain ⟨i, rc, rfl, ha, hr⟩ := ai_gt_i ht
      refine ⟨(pc + 1, jm_st1 k.val (.int i) lc, rc), ?_, ai_stay (ai_gl_st1 (v := .int i) hl ⟨ha.1, i, rfl, ha.2⟩) hr hg⟩
      simp only [jm_pure, jm_sti, hlt, if_true]
    · cases hs
  | lstore k =>
    simp only [ai_pure] at hs
    split at hs
    · rename_i hlen
      obtain ⟨rfl, hlt⟩ := hlen
      obtain ⟨a, r, rfl, hs2⟩ := ai_j1_ok hs
      cases hs2
      obtain ⟨v, rc, rfl, ha, hr⟩ := ai_gt_cons ht
      obtain ⟨i, rc2, e1, -, -⟩ := ai_gt_l (r := []) (sc := [v]) ⟨ha, trivial⟩
      cases e1
      refine ⟨(pc + 2, jm_st2 k (.long i) lc, rc), ?_, ai_stay (ai_gl_st2 (v := .long i) hl ha) hr hg⟩
      simp only [jm_pure, jm_stl, hlt, if_true]
    · cases hs
  | lstore_n k =>
    simp only [ai_pure] at hs
    split at hs
    · rename_i hlen
      obtain ⟨rfl, hlt⟩ := hlen
      obtain ⟨a, r, rfl, hs2⟩ := ai_j1_ok hs
      cases hs2
      obtain ⟨v, rc, rfl, ha, hr⟩ := ai_gt_cons ht
      obtain ⟨i, rc2, e1, -, -⟩ := ai_gt_l (r := []) (sc := [v]) ⟨ha, trivial⟩
      cases e1
      refine ⟨(pc + 1, jm_st2 k.val (.long i) lc, rc), ?_, ai_stay (ai_gl_st2 (v := .long i) hl ha) hr hg⟩
      simp only [jm_pure, jm_stl, hlt, if_true]
    · cases hs
  | astore k =>
    simp only [ai_pure] at hs
    split at hs
    · rename_i hlen
      obtain ⟨rfl, hlt⟩ := hlen
      split at hs
      · cases hs
        obtain ⟨v, rc, rfl, ha, hr⟩ := ai_gt_cons ht
        obtain ⟨q, g3, rfl⟩ := id ha
        refine ⟨(pc + 2, jm_st1 k (.ref q) lc, rc), ?_, ai_stay (ai_gl_st1 (v := .ref q) hl ha) hr hg⟩
        simp only [jm_pure, jm_sta, hlt, if_true]
      · cases hs
    · cases hs
  | astore_n k =>
    simp only [ai_pure] at hs
    split at hs
    · rename_i hlen
      obtain ⟨rfl, hlt⟩ := hlen
      split at hs
      · cases hs
        obtain ⟨v, rc, rfl, ha, hr⟩ := ai_gt_cons ht
        obtain ⟨q, g3, rfl⟩ := id ha
        refine ⟨(pc + 1, jm_st1 k.val (.ref q) lc, rc), ?_, ai_stay (ai_gl_st1 (v := .ref q) hl ha) hr hg⟩
        simp only [jm_pure, jm_sta, hlt, if_true]
      · cases hs
    · cases hs
  | iinc k n =>
    simp only [ai_pure] at hs
    split at hs
    · rename_i hlen
      obtain ⟨rfl, hlt⟩ := hlen
      split at hs
      · rename_i a ha
        cases hs
        obtain ⟨v, g1, g2⟩ := ai_get_ok hl ha
        obtain ⟨g3, i, rfl, g4⟩ := id g2
        obtain ⟨ρ2, e1, e2, e3, e4⟩ := ai_add_ok (i := i) (j := Int32.ofInt n) (a := a) (b := (0, (Int32.ofInt n).toInt)) hg ⟨g3, g4⟩ ⟨hg.1, by rw [hg.2.1]; omega⟩
        refine ⟨(pc + 3, jm_st1 k (.int (i + Int32.ofInt n)) lc, sc), ?_, ?_⟩
        · simp only [jm_pure, g1, hlt, if_true]
        · exact ⟨_, List.mem_singleton.mpr rfl, ρ2, e1, e2, rfl, ai_gl_st1 (hl.ext e2 e1) e4, ai_gt.ext e2 e1 ht, e3⟩
      · cases hs
    · cases hs
  | iadd =>
    simp only [ai_pure] at hs
    split at hs
    · rename_i hlen
      subst hlen
      obtain ⟨a, b, r, rfl, hs2⟩ := ai_i2_ok hs
      cases hs2
      obtain ⟨j, rc, rfl, hb, hr⟩ := ai_gt_i ht
      obtain ⟨i, rc2, rfl, ha, hr2⟩ := ai_gt_i hr
      exact ⟨_, rfl, ai_push (ai_add_ok hg ha hb) hl hr2⟩
    · cases hs
  | isub =>
    simp only [ai_pure] at hs
    split at hs
    · rename_i hlen
      subst hlen
      obtain ⟨a, b, r, rfl, hs2⟩ := ai_i2_ok hs
      cases hs2
      obtain ⟨j, rc, rfl, hb, hr⟩ := ai_gt_i ht
      obtain ⟨i, rc2, rfl, ha, hr2⟩ := ai_gt_i hr
      exact ⟨_, rfl, ai_push (ai_sub_ok hg ha hb) hl hr2⟩
    · cases hs
  | imul =>
    simp only [ai_pure] at hs
    split at hs
    · rename_i hlen
      subst hlen
      obtain ⟨a, b, r, rfl, hs2⟩ := ai_i2_ok hs
      cases hs2
      obtain ⟨j, rc, rfl, hb, hr⟩ := ai_gt_i ht
      obtain ⟨i, rc2, rfl, ha, hr2⟩ := ai_gt_i hr
      exact ⟨_, rfl, ai_push (ai_mul_ok hg ha hb) hl hr2⟩
    · cases hs
  | iand =>
    simp only [ai_pure] at hs
    split at hs
    · rename_i hlen
      subst hlen
      obtain ⟨a, b, r, rfl, hs2⟩ := ai_i2_ok hs
      cases hs2
      obtain ⟨j, rc, rfl, hb, hr⟩ := ai_gt_i ht
      obtain ⟨i, rc2, rfl, ha, hr2⟩ := ai_gt_i hr
      exact ⟨_, rfl, ai_push (ai_and_ok hg ha hb) hl hr2⟩
    · cases hs
  | ior =>
    simp only [ai_pure] at hs
    split at hs
    · rename_i hlen
      subst hlen
      obtain ⟨a, b, r, rfl, hs2⟩ := ai_i2_ok hs
      cases hs2
      obtain ⟨j, rc, rfl, hb, hr⟩ := ai_gt_i ht
      obtain ⟨i, rc2, rfl, ha, hr2⟩ := ai_gt_i hr
      exact ⟨_, rfl, ai_push (ai_orx_ok hg ha hb (Or.inl rfl)) hl hr2⟩
    · cases hs
  | ixor =>
    simp only [ai_pure] at hs
    split at hs
    · rename_i hlen
      subst hlen
      obtain ⟨a, b, r, rfl, hs2⟩ := ai_i2_ok hs
      cases hs2
      obtain ⟨j, rc, rfl, hb, hr⟩ := ai_gt_i ht
      obtain ⟨i, rc2, rfl, ha, hr2⟩ := ai_gt_i hr
      exact ⟨_, rfl, ai_push (ai_orx_ok hg ha hb (Or.inr rfl)) hl hr2⟩
    · cases hs
  | ishl =>
    simp only [ai_pure] at hs
    split at hs
    · rename_i hlen
      subst hlen
      obtain ⟨a, b, r, rfl, hs2⟩ := ai_i2_ok hs
      cases hs2
      obtain ⟨j, rc, rfl, hb, hr⟩ := ai_gt_i ht
      obtain ⟨i, rc2, rfl, ha, hr2⟩ := ai_gt_i hr
      exact ⟨_, rfl, ai_push (ai_shl_ok hg ha hb) hl hr2⟩
    · cases hs
  | ishr =>
    simp only [ai_pure] at hs
    split at hs
    · rename_i hlen
      subst hlen
      obtain ⟨a, b, r, rfl, hs2⟩ := ai_i2_ok hs
      cases hs2
      obtain ⟨j, rc, rfl, hb, hr⟩ := ai_gt_i ht
      obtain ⟨i, rc2, rfl, ha, hr2⟩ := ai_gt_i hr
      exact ⟨_, rfl, ai_push (ai_shr_ok hg ha hb) hl hr2⟩
    · cases hs
  | idiv =>
    simp only [ai_pure] at hs
    split at hs
    · rename_i hlen
      subst hlen
      obtain ⟨a, b, r, rfl, hs2⟩ := ai_i2_ok hs
      obtain ⟨j, rc, rfl, hb, hr⟩ := ai_gt_i ht
      obtain ⟨i, rc2, rfl, ha, hr2⟩ := ai_gt_i hr
      cases hx : ai_div Z a b with
      | none => rw [hx] at hs2; cases hs2
      | some x =>
        rw [hx] at hs2
        cases hs2
        obtain ⟨hne, hR⟩ := ai_div_ok hg ha hb hx
        refine ⟨(pc + 1, lc, .int (i / j) :: rc2), ?_, ai_push hR hl hr2⟩
        simp only [jm_pure, jm_i2, if_neg hne, if_true]
    · cases hs
  | irem =>
    simp only [ai_pure] at hs
    split at hs
    · rename_i hlen
      subst hlen
      obtain ⟨a, b, r, rfl, hs2⟩ := ai_i2_ok hs
      obtain ⟨j, rc, rfl, hb, hr⟩ := ai_gt_i ht
      obtain ⟨i, rc2, rfl, ha, hr2⟩ := ai_gt_i hr
      cases hx : ai_rem Z a b with
      | none => rw [hx] at hs2; cases hs2
      | some x =>
        rw [hx] at hs2
        cases hs2
        obtain ⟨hne, hR⟩ := ai_rem_ok hg ha hb hx
        refine ⟨(pc + 1, lc, .int (i - i / j * j) :: rc2), ?_, ai_push hR hl hr2⟩
        simp only [jm_pure, jm_i2, if_neg hne, if_true]
    · cases hs
  | iushr =>
    simp only [ai_pure] at hs
    split at hs
    · rename_i hlen
      subst hlen
      obtain ⟨a, b, r, rfl, hs2⟩ := ai_i2_ok hs
      cases hs2
      obtain ⟨j, rc, rfl, hb, hr⟩ := ai_gt_i ht
      obtain ⟨i, rc2, rfl, ha, hr2⟩ := ai_gt_i hr
      exact ⟨_, rfl, ai_push (ai_full hg) hl hr2⟩
    · cases hs
  | ineg =>
    simp only [ai_pure] at hs
    split at hs
    · rename_i hlen
      subst hlen
      obtain ⟨a, r, rfl, hs2⟩ := ai_i1_ok hs
      cases hs2
      obtain ⟨i, rc, rfl, ha, hr⟩ := ai_gt_i ht
      exact ⟨_, rfl, ai_push (ai_neg_ok hg ha) hl hr⟩
    · cases hs
  | ladd =>
    simp only [ai_pure] at hs
    split at hs
    · rename_i hlen
      subst hlen
      obtain ⟨a, b, r, rfl, hs2⟩ := ai_j2_ok hs
      obtain ⟨j, rc, rfl, hb, hr⟩ := ai_gt_l ht
      obtain ⟨i, rc2, rfl, ha, hr2⟩ := ai_gt_l hr
      cases hs2
      exact ⟨_, rfl, ai_stay hl ⟨⟨_, rfl⟩, hr2⟩ hg⟩
    · cases hs
  | lsub =>
    simp only [ai_pure] at hs
    split at hs
    · rename_i hlen
      subst hlen
      obtain ⟨a, b, r, rfl, hs2⟩ := ai_j2_ok hs
      obtain ⟨j, rc, rfl, hb, hr⟩ := ai_gt_l ht
      obtain ⟨i, rc2, rfl, ha, hr2⟩ := ai_gt_l hr
      cases hs2
      exact ⟨_, rfl, ai_stay hl ⟨⟨_, rfl⟩, hr2⟩ hg⟩
    · cases hs
  | lmul =>
    simp only [ai_pure] at hs
    split at hs
    · rename_i hlen
      subst hlen
      obtain ⟨a, b, r, rfl, hs2⟩ := ai_j2_ok hs
      obtain ⟨j, rc, rfl, hb, hr⟩ := ai_gt_l ht
      obtain ⟨i, rc2, rfl, ha, hr2⟩ := ai_gt_l hr
      cases hs2
      exact ⟨_, rfl, ai_stay hl ⟨⟨_, rfl⟩, hr2⟩ hg⟩
    · cases hs
  | lor =>
    simp only [ai_pure] at hs
    split at hs
    · rename_i hlen
      subst hlen
      obtain ⟨a, b, r, rfl, hs2⟩ := ai_j2_ok hs
      obtain ⟨j, rc, rfl, hb, hr⟩ := ai_gt_l ht
      obtain ⟨i, rc2, rfl, ha, hr2⟩ := ai_gt_l hr
      cases hs2
      exact ⟨_, rfl, ai_stay hl ⟨⟨_, rfl⟩, hr2⟩ hg⟩
    · cases hs
  | land =>
    simp only [ai_pure] at hs
    split at hs
    · rename_i hlen
      subst hlen
      obtain ⟨a, b, r, rfl, hs2⟩ := ai_j2_ok hs
      obtain ⟨j, rc, rfl, hb, hr⟩ := ai_gt_l ht
      obtain ⟨i, rc2, rfl, ha, hr2⟩ := ai_gt_l hr
      split at hs2
      · rename_i y
        split at hs2
        · rename_i d u hd1 hd2
          split at hs2
          · rename_i hz
            cases hs2
            have hy := hb y rfl
            have w1 := ai_lo_ok hg.2.1 hg.2.2.1 hd1
            have w2 := ai_hi_ok hg.2.1 hg.2.2.1 hd2
            obtain ⟨q1, q2⟩ := ai_land_ok i j (by omega)
            obtain ⟨ρ2, e1, e2, e3⟩ := ai_new_ok (lo := 0) (hi := u) hg q1 (by omega)
            exact ⟨_, rfl, _, List.mem_singleton.mpr rfl, ρ2, e1, Nat.le_succ _, rfl, hl.ext (Nat.le_succ _) e1, ⟨⟨Nat.lt_succ_self _, _, rfl, by rw [e2]; omega⟩, ai_gt.ext (Nat.le_succ _) e1 hr2⟩, e3⟩
          · cases hs2
            exact ⟨_, rfl, ai_stay hl ⟨⟨_, rfl⟩, hr2⟩ hg⟩
        · cases hs2
          exact ⟨_, rfl, ai_stay hl ⟨⟨_, rfl⟩, hr2⟩ hg⟩
      · cases hs2
        exact ⟨_, rfl, ai_stay hl ⟨⟨_, rfl⟩, hr2⟩ hg⟩
    · cases hs
  | ldiv =>
    simp only [ai_pure] at hs
    split at hs
    · rename_i hlen
      subst hlen
      obtain ⟨a, b, r, rfl, hs2⟩ := ai_j2_ok hs
      obtain ⟨j, rc, rfl, hb, hr⟩ := ai_gt_l ht
      obtain ⟨i, rc2, rfl, ha, hr2⟩ := ai_gt_l hr
      split at hs2
      · rename_i y
        split at hs2
        · rename_i d hd2
          split at hs2
          · rename_i h1
            cases hs2
            have hy := hb y rfl
            have hlo := ai_lo_ok hg.2.1 hg.2.2.1 hd2
            have hne : ¬ j = 0 := fun e => by rw [e] at hy; have := hy.2; rw [Int64.toInt_zero] at this; omega
            refine ⟨(pc + 1, lc, .long (i / j) :: rc2), ?_, ai_stay hl ⟨⟨_, rfl⟩, hr2⟩ hg⟩
            simp only [jm_pure, jm_l2, if_neg hne, if_true]
          · cases hs2
        · cases hs2
      · cases hs2
    · cases hs
  | lshl =>
    simp only [ai_pure] at hs
    split at hs
    · rename_i hlen
      subst hlen
      obtain ⟨a, r, rfl, hs2⟩ := ai_i1_ok hs
      obtain ⟨b, r2, rfl, hs3⟩ := ai_j1_ok hs2
      cases hs3
      obtain ⟨i, rc, rfl, ha, hr⟩ := ai_gt_i ht
      obtain ⟨j, rc2, rfl, hb, hr2⟩ := ai_gt_l hr
      exact ⟨_, rfl, ai_stay hl ⟨⟨_, rfl⟩, hr2⟩ hg⟩
    · cases hs
  | lshr =>
    simp only [ai_pure] at hs
    split at hs
    · rename_i hlen
      subst hlen
      obtain ⟨a, r, rfl, hs2⟩ := ai_i1_ok hs
      obtain ⟨b, r2, rfl, hs3⟩ := ai_j1_ok hs2
      cases hs3
      obtain ⟨i, rc, rfl, ha, hr⟩ := ai_gt_i ht
      obtain ⟨j, rc2, rfl, hb, hr2⟩ := ai_gt_l hr
      exact ⟨_, rfl, ai_stay hl ⟨⟨_, rfl⟩, hr2⟩ hg⟩
    · cases hs
  | lcmp =>
    simp only [ai_pure] at hs
    split at hs
    · rename_i hlen
      subst hlen
      obtain ⟨a, b, r, rfl, hs2⟩ := ai_j2_ok hs
      obtain ⟨j, rc, rfl, hb, hr⟩ := ai_gt_l ht
      obtain ⟨i, rc2, rfl, ha, hr2⟩ := ai_gt_l hr
      cases hs2
      exact ⟨_, rfl, ai_push (ai_mk_ok hg (ai_lcmp i j).1 (ai_lcmp i j).2) hl hr2⟩
    · cases hs
  | i2l =>
    simp only [ai_pure] at hs
    split at hs
    · rename_i hlen
      subst hlen
      obtain ⟨a, r, rfl, hs2⟩ := ai_i1_ok hs
      cases hs2
      obtain ⟨i, rc, rfl, ha, hr⟩ := ai_gt_i ht
      exact ⟨_, rfl, ai_stay hl ⟨⟨ha.1, _, rfl, by rw [Int32.toInt_toInt64]; exact ha.2⟩, hr⟩ hg⟩
    · cases hs
  | i2b =>
    simp only [ai_pure] at hs
    split at hs
    · rename_i hlen
      subst hlen
      obtain ⟨a, r, rfl, hs2⟩ := ai_i1_ok hs
      cases hs2
      obtain ⟨i, rc, rfl, ha, hr⟩ := ai_gt_i ht
      exact ⟨_, rfl, ai_push (ai_mk_ok hg (ai_i2b i).1 (ai_i2b i).2) hl hr⟩
    · cases hs
  | l2i =>
    simp only [ai_pure] at hs
    split at hs
    · rename_i hlen
      subst hlen
      obtain ⟨a, r, rfl, hs2⟩ := ai_j1_ok hs
      obtain ⟨i, rc, rfl, ha, hr⟩ := ai_gt_l ht
      split at hs2
      · rename_i y
        split at hs2
        · rename_i d u hd1 hd2
          split at hs2
          · rename_i hz
            cases hs2
            have hy := ha y rfl
            have q1 := ai_lo_ok hg.2.1 hg.2.2.1 hd1
            have q2 := ai_hi_ok hg.2.1 hg.2.2.1 hd2
            exact ⟨_, rfl, ai_stay hl ⟨⟨hy.1, _, rfl, by rw [Int64.toInt_toInt32, hy.2, ai_bm (by omega) (by omega)]⟩, hr⟩ hg⟩
          · cases hs2
            exact ⟨_, rfl, ai_push (ai_full hg) hl hr⟩
        · cases hs2
          exact ⟨_, rfl, ai_push (ai_full hg) hl hr⟩
      · cases hs2
        exact ⟨_, rfl, ai_push (ai_full hg) hl hr⟩
    · cases hs
  | dup =>
    simp only [ai_pure] at hs
    split at hs
    · rename_i hlen
      subst hlen
      split at hs
      · split at hs
        · rename_i hn
          cases hs
          obtain ⟨v, rc, rfl, ha, hr⟩ := ai_gt_cons ht
          have hc : v.category = 1 := by rw [ai_cat ha, hn]; rfl
          refine ⟨(pc + 1, lc, v :: v :: rc), ?_, ai_stay hl ⟨ha, ha, hr⟩ hg⟩
          simp only [jm_pure, hc, if_true]
        · cases hs
      · cases hs
    · cases hs
  | dup2 =>
    simp only [ai_pure] at hs
    split at hs
    · rename_i hlen
      subst hlen
      split at hs
      · split at hs
        · rename_i hn
          cases hs
          obtain ⟨v, rc, rfl, ha, hr⟩ := ai_gt_cons ht
          obtain ⟨w, rc2, rfl, hb, hr2⟩ := ai_gt_cons hr
          have hc : v.category = 1 := by rw [ai_cat ha, hn.1]; rfl
          have hc2 : w.category = 1 := by rw [ai_cat hb, hn.2]; rfl
          refine ⟨(pc + 1, lc, v :: w :: v :: w :: rc2), ?_, ai_stay hl ⟨ha, hb, ha, hb, hr2⟩ hg⟩
          simp only [jm_pure, hc, hc2, and_self, if_true]
        · cases hs
      · cases hs
    · cases hs
  | pop =>
    simp only [ai_pure] at hs
    split at hs
    · rename_i hlen
      subst hlen
      split at hs
      · split at hs
        · rename_i hn
          cases hs
          obtain ⟨v, rc, rfl, ha, hr⟩ := ai_gt_cons ht
          have hc : v.category = 1 := by rw [ai_cat ha, hn]; rfl
          refine ⟨(pc + 1, lc, rc), ?_, ai_stay hl hr hg⟩
          simp only [jm_pure, hc, if_true]
        · cases hs
      · cases hs
    · cases hs
  | pop2 =>
    simp only [ai_pure] at hs
    split at hs
    · rename_i hlen
      subst hlen
      split at hs
      · split at hs
        · rename_i hn
          cases hs
          obtain ⟨v, rc, rfl, ha, hr⟩ := ai_gt_cons ht
          have hc : v.category = 2 := by rw [ai_cat ha, hn]; rfl
          refine ⟨(pc + 1, lc, rc), ?_, ai_stay hl hr hg⟩
          simp only [jm_pure, hc, if_true]
        · cases hs
      · cases hs
    · cases hs
  | goto off =>
    simp only [ai_pure] at hs
    split at hs
    · rename_i hlen
      subst hlen
      split at hs
      · rename_i t ht2
        cases hs
        refine ⟨(t, lc, sc), ?_, ai_stay hl ht hg⟩
        simp only [jm_pure, ht2, if_true]
      · cases hs
    · cases hs
  | ifCond op off =>
    simp only [ai_pure] at hs
    split at hs
    · rename_i hlen
      subst hlen
      obtain ⟨a, r, rfl, hs2⟩ := ai_i1_ok hs
      obtain ⟨i, rc, rfl, ha, hr⟩ := ai_gt_i ht
      obtain ⟨z, hz, ho⟩ := ai_br_ok (i := i) (j := 0) hg ha ⟨hg.1, by rw [hg.2.1, Int32.toInt_zero]; rfl⟩ hl hr hs2
      refine ⟨z, ?_, ho⟩
      simp only [jm_pure, jm_i1, if_true]
      rw [ai_c1c2]
      exact hz
    · cases hs
  | if_icmp op off =>
    simp only [ai_pure] at hs
    split at hs
    · rename_i hlen
      subst hlen
      obtain ⟨a, b, r, rfl, hs2⟩ := ai_i2_ok hs
      obtain ⟨j, rc, rfl, hb, hr⟩ := ai_gt_i ht
      obtain ⟨i, rc2, rfl, ha, hr2⟩ := ai_gt_i hr
      obtain ⟨z, hz, ho⟩ := ai_br_ok (i := i) (j := j) hg ha hb hl hr2 hs2
      refine ⟨z, ?_, ho⟩
      simp only [jm_pure, jm_i2, if_true]
      exact hz
    · cases hs
  | tableswitch d lo hi offs =>
    simp only [ai_pure] at hs
    split at hs
    · rename_i hlen
      obtain ⟨a, r, rfl, hs2⟩ := ai_i1_ok hs
      obtain ⟨i, rc, rfl, ha, hr⟩ := ai_gt_i ht
      split at hs2
      · rename_i t ps ht1 ht2
        cases hs2
        by_cases hin : i.toInt < lo ∨ hi < i.toInt
        · refine ⟨(t, lc, rc), ?_, (t, lv, r, Z), List.mem_cons_self, ρ, fun _ _ => rfl, Nat.le_refl _, rfl, hl, hr, hg⟩
          simp only [jm_pure, jm_i1, if_pos hin, ht1]
        · obtain ⟨off, t2, g1, g2, P, hP, ho⟩ := ai_tab_ok (i := i) hg ha hl hr offs.toList lo ps ht2 (by omega) (by rw [Array.length_toList]; omega)
          refine ⟨(t2, lc, rc), ?_, P, List.mem_cons_of_mem _ hP, ho⟩
          have g3 : offs[(i.toInt - lo).toNat]? = some off := by rw [← Array.getElem?_toList]; exact g1
          simp only [jm_pure, jm_i1, if_neg hin, g3, g2]
      · cases hs2
    · cases hs
  | _ => exact absurd hs (by simp [ai_pure])
end AQ
