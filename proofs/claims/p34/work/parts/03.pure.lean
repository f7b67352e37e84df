/-! the small machine's steps that touch no cell, and that they are the machine's -/
def jm_tg (pc : Nat) (off : Int) : Option Nat := if 0 ≤ (pc : Int) + off then some ((pc : Int) + off).toNat else none
theorem jm_tg_ok {pc t : Nat} {off : Int} (h : jm_tg pc off = some t) : (pc : Int) + off = (t : Int) := by
  unfold jm_tg at h
  split at h
  · cases h; omega
  · cases h
def jm_get (lv : jm_L) (i : Nat) : Option Value := (lv.find? (fun q => q.1 == i)).map (fun q => q.2)
theorem jm_get_ok {B : jm_E} {ls : Array Slot} {nL i : Nat} {lv : jm_L} {v : Value} (hl : lv_has ls nL (jm_lv B lv)) (h : jm_get lv i = some v) : ls[i]? = some (.val (jm_v B v)) := by
  unfold jm_get at h
  cases hf : lv.find? (fun q => q.1 == i) with
  | none => rw [hf] at h; cases h
  | some q =>
    rw [hf] at h
    have h1 : q.1 = i := by simpa using List.find?_some hf
    have h2 : q.2 = v := Option.some.inj h
    refine jm_lvat hl (v := v) ?_
    rw [hf, ← h1, ← h2]
def jm_ldi (lv : jm_L) (i pc : Nat) (st : List Value) : Option (Nat × jm_L × List Value) := match jm_get lv i with
  | some (.int x) => some (pc, lv, .int x :: st)
  | _ => none
def jm_ldl (lv : jm_L) (i pc : Nat) (st : List Value) : Option (Nat × jm_L × List Value) := match jm_get lv i with
  | some (.long x) => some (pc, lv, .long x :: st)
  | _ => none
def jm_lda (lv : jm_L) (i pc : Nat) (st : List Value) : Option (Nat × jm_L × List Value) := match jm_get lv i with
  | some (.ref x) => some (pc, lv, .ref x :: st)
  | some (.float x) => some (pc, lv, .float x :: st)
  | _ => none
def jm_sti (nL : Nat) (lv : jm_L) (i pc : Nat) (st : List Value) : Option (Nat × jm_L × List Value) := match st with
  | .int x :: r => if i < nL then some (pc, jm_st1 i (.int x) lv, r) else none
  | _ => none
def jm_stl (nL : Nat) (lv : jm_L) (i pc : Nat) (st : List Value) : Option (Nat × jm_L × List Value) := match st with
  | .long x :: r => if i + 1 < nL then some (pc, jm_st2 i (.long x) lv, r) else none
  | _ => none
def jm_sta (nL : Nat) (lv : jm_L) (i pc : Nat) (st : List Value) : Option (Nat × jm_L × List Value) := match st with
  | .ref x :: r => if i < nL then some (pc, jm_st1 i (.ref x) lv, r) else none
  | _ => none
def jm_i1 (st : List Value) (k : Int32 → List Value → Option (Nat × jm_L × List Value)) : Option (Nat × jm_L × List Value) := match st with
  | .int x :: r => k x r
  | _ => none
def jm_i2 (st : List Value) (k : Int32 → Int32 → List Value → Option (Nat × jm_L × List Value)) : Option (Nat × jm_L × List Value) := match st with
  | .int y :: .int x :: r => k x y r
  | _ => none
def jm_l2 (st : List Value) (k : Int64 → Int64 → List Value → Option (Nat × jm_L × List Value)) : Option (Nat × jm_L × List Value) := match st with
  | .long y :: .long x :: r => k x y r
  | _ => none
def jm_il (st : List Value) (k : Int64 → Int32 → List Value → Option (Nat × jm_L × List Value)) : Option (Nat × jm_L × List Value) := match st with
  | .int y :: .long x :: r => k x y r
  | _ => none
theorem jm_i1_ok {st : List Value} {k : Int32 → List Value → Option (Nat × jm_L × List Value)} {z : Nat × jm_L × List Value} (h : jm_i1 st k = some z) : ∃ x r, st = .int x :: r ∧ k x r = some z := by
  unfold jm_i1 at h
  split at h
  · exact ⟨_, _, rfl, h⟩
  · cases h
theorem jm_i2_ok {st : List Value} {k : Int32 → Int32 → List Value → Option (Nat × jm_L × List Value)} {z : Nat × jm_L × List Value} (h : jm_i2 st k = some z) : ∃ x y r, st = .int y :: .int x :: r ∧ k x y r = some z := by
  unfold jm_i2 at h
  split at h
  · exact ⟨_, _, _, rfl, h⟩
  · cases h
theorem jm_l2_ok {st : List Value} {k : Int64 → Int64 → List Value → Option (Nat × jm_L × List Value)} {z : Nat × jm_L × List Value} (h : jm_l2 st k = some z) : ∃ x y r, st = .long y :: .long x :: r ∧ k x y r = some z := by
  unfold jm_l2 at h
  split at h
  · exact ⟨_, _, _, rfl, h⟩
  · cases h
theorem jm_il_ok {st : List Value} {k : Int64 → Int32 → List Value → Option (Nat × jm_L × List Value)} {z : Nat × jm_L × List Value} (h : jm_il st k = some z) : ∃ x y r, st = .int y :: .long x :: r ∧ k x y r = some z := by
  unfold jm_il at h
  split at h
  · exact ⟨_, _, _, rfl, h⟩
  · cases h
def jm_c1 (op : ClassFile.Cond) (x : Int32) : Bool := match op with
  | .eq => decide (x = 0)
  | .ne => decide (¬ x = 0)
  | .lt => decide (x < 0)
  | .ge => decide (0 ≤ x)
  | .gt => decide (0 < x)
  | .le => decide (x ≤ 0)
def jm_c2 (op : ClassFile.Cond) (x y : Int32) : Bool := match op with
  | .eq => decide (x = y)
  | .ne => decide (¬ x = y)
  | .lt => decide (x < y)
  | .ge => decide (y ≤ x)
  | .gt => decide (y < x)
  | .le => decide (x ≤ y)
def jm_br (c : Bool) (pc : Nat) (off : Int) (lv : jm_L) (st : List Value) : Option (Nat × jm_L × List Value) := match jm_tg pc off with
  | none => none
  | some t => if c then some (t, lv, st) else some (pc + 3, lv, st)
def jm_pop (st : List Value) : Option (List Value) := match st with
  | v :: r => if v.category = 1 then some r else none
  | _ => none
def jm_pure (nL : Nat) (i : Instr) (len pc : Nat) (lv : jm_L) (st : List Value) : Option (Nat × jm_L × List Value) := match i with
  | .iconst n => if len = 1 then some (pc + 1, lv, .int (Int32.ofInt n) :: st) else none
  | .bipush n => if len = 2 then some (pc + 2, lv, .int (Int8.ofInt n).toInt32 :: st) else none
  | .sipush n => if len = 3 then some (pc + 3, lv, .int (Int16.ofInt n).toInt32 :: st) else none
  | .lconst n => if len = 1 then some (pc + 1, lv, .long (Int64.ofNat (n : Nat)) :: st) else none
  | .iload_n k => if len = 1 then jm_ldi lv k.val (pc + 1) st else none
  | .iload k => if len = 2 then jm_ldi lv k (pc + 2) st else none
  | .lload_n k => if len = 1 then jm_ldl lv k.val (pc + 1) st else none
  | .lload k => if len = 2 then jm_ldl lv k (pc + 2) st else none
  | .aload_n k => if len = 1 then jm_lda lv k.val (pc + 1) st else none
  | .aload k => if len = 2 then jm_lda lv k (pc + 2) st else none
  | .istore_n k => if len = 1 then jm_sti nL lv k.val (pc + 1) st else none
  | .istore k => if len = 2 then jm_sti nL lv k (pc + 2) st else none
  | .lstore_n k => if len = 1 then jm_stl nL lv k.val (pc + 1) st else none
  | .lstore k => if len = 2 then jm_stl nL lv k (pc + 2) st else none
  | .astore_n k => if len = 1 then jm_sta nL lv k.val (pc + 1) st else none
  | .astore k => if len = 2 then jm_sta nL lv k (pc + 2) st else none
  | .iinc k n => if len = 3 then (match jm_get lv k with
    | some (.int x) => if k < nL then some (pc + 3, jm_st1 k (.int (x + Int32.ofInt n)) lv, st) else none
    | _ => none) else none
  | .iadd => if len = 1 then jm_i2 st (fun x y r => some (pc + 1, lv, .int (x + y) :: r)) else none
  | .isub => if len = 1 then jm_i2 st (fun x y r => some (pc + 1, lv, .int (x - y) :: r)) else none
  | .imul => if len = 1 then jm_i2 st (fun x y r => some (pc + 1, lv, .int (x * y) :: r)) else none
  | .iand => if len = 1 then jm_i2 st (fun x y r => some (pc + 1, lv, .int (x &&& y) :: r)) else none
  | .ior => if len = 1 then jm_i2 st (fun x y r => some (pc + 1, lv, .int (x ||| y) :: r)) else none
  | .ixor => if len = 1 then jm_i2 st (fun x y r => some (pc + 1, lv, .int (x ^^^ y) :: r)) else none
  | .idiv => if len = 1 then jm_i2 st (fun x y r => if y = 0 then none else some (pc + 1, lv, .int (x / y) :: r)) else none
  | .irem => if len = 1 then jm_i2 st (fun x y r => if y = 0 then none else some (pc + 1, lv, .int (x - x / y * y) :: r)) else none
  | .ineg => if len = 1 then jm_i1 st (fun x r => some (pc + 1, lv, .int (-x) :: r)) else none
  | .ishl => if len = 1 then jm_i2 st (fun x y r => some (pc + 1, lv, .int (x <<< (y &&& 31)) :: r)) else none
  | .ishr => if len = 1 then jm_i2 st (fun x y r => some (pc + 1, lv, .int (x >>> (y &&& 31)) :: r)) else none
  | .iushr => if len = 1 then jm_i2 st (fun x y r => some (pc + 1, lv, .int (x.toUInt32 >>> (y.toUInt32 &&& Int32.toUInt32 31)).toInt32 :: r)) else none
  | .ladd => if len = 1 then jm_l2 st (fun x y r => some (pc + 1, lv, .long (x + y) :: r)) else none
  | .lsub => if len = 1 then jm_l2 st (fun x y r => some (pc + 1, lv, .long (x - y) :: r)) else none
  | .lmul => if len = 1 then jm_l2 st (fun x y r => some (pc + 1, lv, .long (x * y) :: r)) else none
  | .ldiv => if len = 1 then jm_l2 st (fun x y r => if y = 0 then none else some (pc + 1, lv, .long (x / y) :: r)) else none
  | .land => if len = 1 then jm_l2 st (fun x y r => some (pc + 1, lv, .long (x &&& y) :: r)) else none
  | .lor => if len = 1 then jm_l2 st (fun x y r => some (pc + 1, lv, .long (x ||| y) :: r)) else none
  | .lshl => if len = 1 then jm_il st (fun x y r => some (pc + 1, lv, .long (x <<< (y.toInt64 &&& 63)) :: r)) else none
  | .lshr => if len = 1 then jm_il st (fun x y r => some (pc + 1, lv, .long (x >>> (y.toInt64 &&& 63)) :: r)) else none
  | .lcmp => if len = 1 then jm_l2 st (fun x y r => some (pc + 1, lv, .int (lg_cmp x y) :: r)) else none
  | .i2l => if len = 1 then jm_i1 st (fun x r => some (pc + 1, lv, .long x.toInt64 :: r)) else none
  | .i2b => if len = 1 then jm_i1 st (fun x r => some (pc + 1, lv, .int x.toInt8.toInt32 :: r)) else none
  | .l2i => if len = 1 then (match st with
    | .long x :: r => some (pc + 1, lv, .int x.toInt32 :: r)
    | _ => none) else none
  | .dup => if len = 1 then (match st with
    | v :: r => if v.category = 1 then some (pc + 1, lv, v :: v :: r) else none
    | _ => none) else none
  | .dup2 => if len = 1 then (match st with
    | v :: w :: r => if v.category = 1 ∧ w.category = 1 then some (pc + 1, lv, v :: w :: v :: w :: r) else none
    | _ => none) else none
  | .pop => if len = 1 then (match st with
    | v :: r => if v.category = 1 then some (pc + 1, lv, r) else none
    | _ => none) else none
  | .pop2 => if len = 1 then (match st with
    | v :: r => if v.category = 2 then some (pc + 1, lv, r) else none
    | _ => none) else none
  | .goto off => if len = 3 then (match jm_tg pc off with
    | some t => some (t, lv, st)
    | none => none) else none
  | .ifCond op off => if len = 3 then jm_i1 st (fun x r => jm_br (jm_c1 op x) pc off lv r) else none
  | .if_icmp op off => if len = 3 then jm_i2 st (fun x y r => jm_br (jm_c2 op x y) pc off lv r) else none
  | .tableswitch d lo hi offs => jm_i1 st (fun x r => if x.toInt < lo ∨ hi < x.toInt then (match jm_tg pc d with
      | some t => some (t, lv, r)
      | none => none) else (match offs[(x.toInt - lo).toNat]? with
      | some off => (match jm_tg pc off with
        | some t => some (t, lv, r)
        | none => none)
      | none => none))
  | .lookupswitch d ps => jm_i1 st (fun x r => if (ps.toList.zip (ps.toList.drop 1)).all (fun (a, next) => a.1 < next.1) = true then (match jm_tg pc (Op.lookupswitch.offset ps.toList d x.toInt) with
      | some t => some (t, lv, r)
      | none => none) else none)
  | _ => none
theorem jm_getj {B : jm_E} {ls : Array Slot} {nL i : Nat} {lv : jm_L} {x : Int32} (hl : lv_has ls nL (jm_lv B lv)) (h : jm_get lv i = some (.int x)) : ∃ j : Nat, (jm_lv B lv)[j]? = some (i, .int x) := by
  unfold jm_get at h
  cases hf : lv.find? (fun q => q.1 == i) with
  | none => rw [hf] at h; cases h
  | some q =>
    rw [hf] at h
    have h1 : q.1 = i := by simpa using List.find?_some hf
    have h2 : q.2 = .int x := Option.some.inj h
    have hm : (i, Value.int x) ∈ jm_lv B lv := List.mem_map.mpr ⟨q, List.mem_of_find?_eq_some hf, by rw [h1, h2]; rfl⟩
    exact List.getElem?_of_mem hm
theorem jm_br_ok {b : Bool} {pc : Nat} {off : Int} {lv : jm_L} {st : List Value} {z : Nat × jm_L × List Value} (h : jm_br b pc off lv st = some z) : ∃ t, jm_tg pc off = some t ∧ (b = true → z = (t, lv, st)) ∧ (b = false → z = (pc + 3, lv, st)) := by
  unfold jm_br at h
  split at h
  · cases h
  · rename_i t ht
    refine ⟨t, ht, fun hb => ?_, fun hb => ?_⟩
    · subst hb; exact (Option.some.inj h).symm
    · subst hb; exact (Option.some.inj h).symm
section JP
variable {p : Program} {l : Launch} {e : Env} {R : Room} {s : State} {m : MethodId} {args : Array Value} {below : List Frame} {meth : Method} {c : Code} {cc : ByteArray} {oc : Nat} {isI : Bool} {ret : Option FieldType} {nL : Nat} {D : va_G} {B : jm_E} {cells slots : Nat} {Q : State → Prop}
variable {pc : Nat} {lv : jm_L} {st : List Value} {h : jm_H} {z : Nat × jm_L × List Value}
set_option maxHeartbeats 4000000 in
theorem jm_pure_ok0 (hx : p.tables.exec = Jvm.exec) (hb : c.code = cc) {i : Instr} {len : Nat} (hd : decode cc pc = .ok (i, len)) (hs : jm_pure nL i len pc lv st = some z)
    (k : jm_W p l e R s m args below meth c nL D B cells slots Q z.1 z.2.1 z.2.2 h) : jm_W p l e R s m args below meth c nL D B cells slots Q pc lv st h := by
  intro H locs ls hM hl
  cases i with
  | iconst n =>
    simp only [jm_pure] at hs
    split at hs
    · rename_i hlen
      subst hlen
      cases hs
      exact lv_iconst hx hb hd rfl (k H locs ls hM hl)
    · cases hs
  | bipush n =>
    simp only [jm_pure] at hs
    split at hs
    · rename_i hlen
      subst hlen
      cases hs
      exact lv_bipush hx hb hd rfl (k H locs ls hM hl)
    · cases hs
  | sipush n =>
    simp only [jm_pure] at hs
    split at hs
    · rename_i hlen
      subst hlen
      cases hs
      exact lv_sipush hx hb hd rfl (k H locs ls hM hl)
    · cases hs
  | lconst n =>
    simp only [jm_pure] at hs
    split at hs
    · rename_i hlen
      subst hlen
      cases hs
      exact lv_lconst hx hb hd rfl (k H locs ls hM hl)
    · cases hs
  | iload_n n =>
    simp only [jm_pure] at hs
    split at hs
    · rename_i hlen
      subst hlen
      unfold jm_ldi at hs
      split at hs
      · rename_i x hg
        cases hs
        exact lv_iload_n hx hb hd rfl (jm_get_ok hl hg) (k H locs ls hM hl)
      · cases hs
    · cases hs
  | iload n =>
    simp only [jm_pure] at hs
    split at hs
    · rename_i hlen
      subst hlen
      unfold jm_ldi at hs
      split at hs
      · rename_i x hg
        cases hs
        exact lv_iload hx hb hd (jm_get_ok hl hg) (k H locs ls hM hl)
      · cases hs
    · cases hs
  | lload_n n =>
    simp only [jm_pure] at hs
    split at hs
    · rename_i hlen
      subst hlen
      unfold jm_ldl at hs
      split at hs
      · rename_i x hg
        cases hs
        exact lv_lload_n hx hb hd rfl (jm_get_ok hl hg) (k H locs ls hM hl)
      · cases hs
    · cases hs
  | lload n =>
    simp only [jm_pure] at hs
    split at hs
    · rename_i hlen
      subst hlen
      unfold jm_ldl at hs
      split at hs
      · rename_i x hg
        cases hs
        exact lv_lload hx hb hd (jm_get_ok hl hg) (k H locs ls hM hl)
      · cases hs
    · cases hs
  | aload_n n =>
    simp only [jm_pure] at hs
    split at hs
    · rename_i hlen
      subst hlen
      unfold jm_lda at hs
      split at hs
      · rename_i x hg
        cases hs
        exact lv_aload_n hx hb hd rfl (jm_get_ok hl hg) (k H locs ls hM hl)
      · rename_i x hg
        cases hs
        exact lv_aload_n hx hb hd rfl (jm_get_ok hl hg) (k H locs ls hM hl)
      · cases hs
    · cases hs
  | aload n =>
    simp only [jm_pure] at hs
    split at hs
    · rename_i hlen
      subst hlen
      unfold jm_lda at hs
      split at hs
      · rename_i x hg
        cases hs
        exact lv_aload hx hb hd (jm_get_ok hl hg) (k H locs ls hM hl)
      · rename_i x hg
        cases hs
        exact lv_aload hx hb hd (jm_get_ok hl hg) (k H locs ls hM hl)
      · cases hs
    · cases hs
  | istore_n n =>
    simp only [jm_pure] at hs
    split at hs
    · rename_i hlen
      subst hlen
      unfold jm_sti at hs
      split at hs
      · rename_i x r
        split at hs
        · rename_i hlt
          cases hs
          exact lv_istore_n hx hb hd rfl hl hlt (jm_st1_lv B _ (.int x) lv) (fun ls1 hl1 => k H locs ls1 hM hl1)
        · cases hs
      · cases hs
    · cases hs
  | istore n =>
    simp only [jm_pure] at hs
    split at hs
    · rename_i hlen
      subst hlen
      unfold jm_sti at hs
      split at hs
      · rename_i x r
        split at hs
        · rename_i hlt
          cases hs
          exact lv_istore hx hb hd hl hlt (jm_st1_lv B _ (.int x) lv) (fun ls1 hl1 => k H locs ls1 hM hl1)
        · cases hs
      · cases hs
    · cases hs
  | lstore_n n =>
    simp only [jm_pure] at hs
    split at hs
    · rename_i hlen
      subst hlen
      unfold jm_stl at hs
      split at hs
      · rename_i x r
        split at hs
        · rename_i hlt
          cases hs
          exact lv_lstore_n hx hb hd rfl hl hlt (jm_st2_lv B _ (.long x) lv) (fun ls1 hl1 => k H locs ls1 hM hl1)
        · cases hs
      · cases hs
    · cases hs
  | lstore n =>
    simp only [jm_pure] at hs
    split at hs
    · rename_i hlen
      subst hlen
      unfold jm_stl at hs
      split at hs
      · rename_i x r
        split at hs
        · rename_i hlt
          cases hs
          exact lv_lstore hx hb hd hl hlt (jm_st2_lv B _ (.long x) lv) (fun ls1 hl1 => k H locs ls1 hM hl1)
        · cases hs
      · cases hs
    · cases hs
  | astore_n n =>
    simp only [jm_pure] at hs
    split at hs
    · rename_i hlen
      subst hlen
      unfold jm_sta at hs
      split at hs
      · rename_i x r
        split at hs
        · rename_i hlt
          cases hs
          exact lv_astore_n hx hb hd rfl hl hlt (jm_st1_lv B _ (.ref x) lv) (fun ls1 hl1 => k H locs ls1 hM hl1)
        · cases hs
      · cases hs
    · cases hs
  | astore n =>
    simp only [jm_pure] at hs
    split at hs
    · rename_i hlen
      subst hlen
      unfold jm_sta at hs
      split at hs
      · rename_i x r
        split at hs
        · rename_i hlt
          cases hs
          exact lv_astore hx hb hd hl hlt (jm_st1_lv B _ (.ref x) lv) (fun ls1 hl1 => k H locs ls1 hM hl1)
        · cases hs
      · cases hs
    · cases hs
  | iinc n d =>
    simp only [jm_pure] at hs
    split at hs
    · rename_i hlen
      subst hlen
      split at hs
      · rename_i x hg
        split at hs
        · rename_i hlt
          cases hs
          obtain ⟨j, hj⟩ := jm_getj hl hg
          exact lv_iinc hx hb hd hl hj rfl hlt (jm_st1_lv B _ (.int (x + Int32.ofInt d)) lv) (fun ls1 hl1 => k H locs ls1 hM hl1)
        · cases hs
      · cases hs
    · cases hs
  | iadd =>
    simp only [jm_pure] at hs
    split at hs
    · rename_i hlen
      subst hlen
      obtain ⟨x, y, r, rfl, hs2⟩ := jm_i2_ok hs
      cases hs2
      exact lv_iadd hx hb hd (k H locs ls hM hl)
    · cases hs
  | isub =>
    simp only [jm_pure] at hs
    split at hs
    · rename_i hlen
      subst hlen
      obtain ⟨x, y, r, rfl, hs2⟩ := jm_i2_ok hs
      cases hs2
      exact lv_isub hx hb hd (k H locs ls hM hl)
    · cases hs
  | imul =>
    simp only [jm_pure] at hs
    split at hs
    · rename_i hlen
      subst hlen
      obtain ⟨x, y, r, rfl, hs2⟩ := jm_i2_ok hs
      cases hs2
      exact lv_imul hx hb hd (k H locs ls hM hl)
    · cases hs
  | iand =>
    simp only [jm_pure] at hs
    split at hs
    · rename_i hlen
      subst hlen
      obtain ⟨x, y, r, rfl, hs2⟩ := jm_i2_ok hs
      cases hs2
      exact lv_iand hx hb hd (k H locs ls hM hl)
    · cases hs
  | ior =>
    simp only [jm_pure] at hs
    split at hs
    · rename_i hlen
      subst hlen
      obtain ⟨x, y, r, rfl, hs2⟩ := jm_i2_ok hs
      cases hs2
      exact lv_ior hx hb hd (k H locs ls hM hl)
    · cases hs
  | ixor =>
    simp only [jm_pure] at hs
    split at hs
    · rename_i hlen
      subst hlen
      obtain ⟨x, y, r, rfl, hs2⟩ := jm_i2_ok hs
      cases hs2
      exact lv_ixor hx hb hd (k H locs ls hM hl)
    · cases hs
  | ishl =>
    simp only [jm_pure] at hs
    split at hs
    · rename_i hlen
      subst hlen
      obtain ⟨x, y, r, rfl, hs2⟩ := jm_i2_ok hs
      cases hs2
      exact lv_ishl hx hb hd (k H locs ls hM hl)
    · cases hs
  | ishr =>
    simp only [jm_pure] at hs
    split at hs
    · rename_i hlen
      subst hlen
      obtain ⟨x, y, r, rfl, hs2⟩ := jm_i2_ok hs
      cases hs2
      exact lv_ishr hx hb hd (k H locs ls hM hl)
    · cases hs
  | iushr =>
    simp only [jm_pure] at hs
    split at hs
    · rename_i hlen
      subst hlen
      obtain ⟨x, y, r, rfl, hs2⟩ := jm_i2_ok hs
      cases hs2
      exact lv_iushr hx hb hd rfl (k H locs ls hM hl)
    · cases hs
  | idiv =>
    simp only [jm_pure] at hs
    split at hs
    · rename_i hlen
      subst hlen
      obtain ⟨x, y, r, rfl, hs2⟩ := jm_i2_ok hs
      split at hs2
      · cases hs2
      · rename_i hne
        cases hs2
        exact lv_idiv hx hb hd hne (k H locs ls hM hl)
    · cases hs
  | irem =>
    simp only [jm_pure] at hs
    split at hs
    · rename_i hlen
      subst hlen
      obtain ⟨x, y, r, rfl, hs2⟩ := jm_i2_ok hs
      split at hs2
      · cases hs2
      · rename_i hne
        cases hs2
        exact lv_irem hx hb hd hne (k H locs ls hM hl)
    · cases hs
  | ineg =>
    simp only [jm_pure] at hs
    split at hs
    · rename_i hlen
      subst hlen
      obtain ⟨x, r, rfl, hs2⟩ := jm_i1_ok hs
      cases hs2
      exact lv_ineg hx hb hd (k H locs ls hM hl)
    · cases hs
  | ladd =>
    simp only [jm_pure] at hs
    split at hs
    · rename_i hlen
      subst hlen
      obtain ⟨x, y, r, rfl, hs2⟩ := jm_l2_ok hs
      cases hs2
      exact lv_ladd hx hb hd (k H locs ls hM hl)
    · cases hs
  | lsub =>
    simp only [jm_pure] at hs
    split at hs
    · rename_i hlen
      subst hlen
      obtain ⟨x, y, r, rfl, hs2⟩ := jm_l2_ok hs
      cases hs2
      exact lv_lsub hx hb hd (k H locs ls hM hl)
    · cases hs
  | lmul =>
    simp only [jm_pure] at hs
    split at hs
    · rename_i hlen
      subst hlen
      obtain ⟨x, y, r, rfl, hs2⟩ := jm_l2_ok hs
      cases hs2
      exact lv_lmul hx hb hd (k H locs ls hM hl)
    · cases hs
  | land =>
    simp only [jm_pure] at hs
    split at hs
    · rename_i hlen
      subst hlen
      obtain ⟨x, y, r, rfl, hs2⟩ := jm_l2_ok hs
      cases hs2
      exact lv_land hx hb hd (k H locs ls hM hl)
    · cases hs
  | lor =>
    simp only [jm_pure] at hs
    split at hs
    · rename_i hlen
      subst hlen
      obtain ⟨x, y, r, rfl, hs2⟩ := jm_l2_ok hs
      cases hs2
      exact lv_lor hx hb hd (k H locs ls hM hl)
    · cases hs
  | ldiv =>
    simp only [jm_pure] at hs
    split at hs
    · rename_i hlen
      subst hlen
      obtain ⟨x, y, r, rfl, hs2⟩ := jm_l2_ok hs
      split at hs2
      · cases hs2
      · rename_i hne
        cases hs2
        exact lv_ldiv hx hb hd hne (k H locs ls hM hl)
    · cases hs
  | lshl =>
    simp only [jm_pure] at hs
    split at hs
    · rename_i hlen
      subst hlen
      obtain ⟨x, y, r, rfl, hs2⟩ := jm_il_ok hs
      cases hs2
      exact lv_lshl hx hb hd rfl (k H locs ls hM hl)
    · cases hs
  | lshr =>
    simp only [jm_pure] at hs
    split at hs
    · rename_i hlen
      subst hlen
      obtain ⟨x, y, r, rfl, hs2⟩ := jm_il_ok hs
      cases hs2
      exact lv_lshr hx hb hd rfl (k H locs ls hM hl)
    · cases hs
  | lcmp =>
    simp only [jm_pure] at hs
    split at hs
    · rename_i hlen
      subst hlen
      obtain ⟨x, y, r, rfl, hs2⟩ := jm_l2_ok hs
      cases hs2
      exact W.lcmp hx hb hd (k H locs ls hM hl)
    · cases hs
  | i2l =>
    simp only [jm_pure] at hs
    split at hs
    · rename_i hlen
      subst hlen
      obtain ⟨x, r, rfl, hs2⟩ := jm_i1_ok hs
      cases hs2
      exact lv_i2l hx hb hd rfl (k H locs ls hM hl)
    · cases hs
  | i2b =>
    simp only [jm_pure] at hs
    split at hs
    · rename_i hlen
      subst hlen
      obtain ⟨x, r, rfl, hs2⟩ := jm_i1_ok hs
      cases hs2
      exact lv_i2b hx hb hd rfl (k H locs ls hM hl)
    · cases hs
  | l2i =>
    simp only [jm_pure] at hs
    split at hs
    · rename_i hlen
      subst hlen
      split at hs
      · cases hs
        exact lv_l2i hx hb hd rfl (k H locs ls hM hl)
      · cases hs
    · cases hs
  | dup =>
    simp only [jm_pure] at hs
    split at hs
    · rename_i hlen
      subst hlen
      split at hs
      · split at hs
        · rename_i hc
          cases hs
          exact lv_dup hx hb hd (by rw [jm_cat]; exact hc) (k H locs ls hM hl)
        · cases hs
      · cases hs
    · cases hs
  | dup2 =>
    simp only [jm_pure] at hs
    split at hs
    · rename_i hlen
      subst hlen
      split at hs
      · split at hs
        · rename_i hc
          cases hs
          exact lv_dup2_11 hx hb hd (by rw [jm_cat]; exact hc.1) (by rw [jm_cat]; exact hc.2) (k H locs ls hM hl)
        · cases hs
      · cases hs
    · cases hs
  | pop =>
    simp only [jm_pure] at hs
    split at hs
    · rename_i hlen
      subst hlen
      split at hs
      · split at hs
        · rename_i hc
          cases hs
          exact lv_pop hx hb hd (by rw [jm_cat]; exact hc) (k H locs ls hM hl)
        · cases hs
      · cases hs
    · cases hs
  | pop2 =>
    simp only [jm_pure] at hs
    split at hs
    · rename_i hlen
      subst hlen
      split at hs
      · split at hs
        · rename_i hc
          cases hs
          exact lv_pop2_2 hx hb hd (by rw [jm_cat]; exact hc) (k H locs ls hM hl)
        · cases hs
      · cases hs
    · cases hs
  | goto off =>
    simp only [jm_pure] at hs
    split at hs
    · rename_i hlen
      subst hlen
      split at hs
      · rename_i t ht
        cases hs
        exact lv_goto hx hb hd (jm_tg_ok ht) (k H locs ls hM hl)
      · cases hs
    · cases hs
  | ifCond op off =>
    simp only [jm_pure] at hs
    split at hs
    · rename_i hlen
      subst hlen
      obtain ⟨x, r, rfl, hs2⟩ := jm_i1_ok hs
      obtain ⟨t, ht, hc⟩ := jm_br_ok hs2
      cases op with
      | eq =>
        exact lv_if_eq hx hb hd (jm_tg_ok ht) (fun q => by have e := hc.1 (by simpa [jm_c1] using q); subst e; exact k H locs ls hM hl) (fun q => by have e := hc.2 (by simpa [jm_c1] using q); subst e; exact k H locs ls hM hl)
      | ne =>
        exact lv_if_ne hx hb hd (jm_tg_ok ht) (fun q => by have e := hc.1 (by simpa [jm_c1] using q); subst e; exact k H locs ls hM hl) (fun q => by have e := hc.2 (by simpa [jm_c1] using q); subst e; exact k H locs ls hM hl)
      | lt =>
        exact lv_if_lt hx hb hd (jm_tg_ok ht) (fun q => by have e := hc.1 (by simpa [jm_c1] using q); subst e; exact k H locs ls hM hl) (fun q => by have e := hc.2 (by simpa [jm_c1] using q); subst e; exact k H locs ls hM hl)
      | ge =>
        exact lv_if_ge hx hb hd (jm_tg_ok ht) (fun q => by have e := hc.1 (by simpa [jm_c1] using q); subst e; exact k H locs ls hM hl) (fun q => by have e := hc.2 (by simpa [jm_c1] using q); subst e; exact k H locs ls hM hl)
      | gt =>
        exact lv_if_gt hx hb hd (jm_tg_ok ht) (fun q => by have e := hc.1 (by simpa [jm_c1] using q); subst e; exact k H locs ls hM hl) (fun q => by have e := hc.2 (by simpa [jm_c1] using q); subst e; exact k H locs ls hM hl)
      | le =>
        exact lv_if_le hx hb hd (jm_tg_ok ht) (fun q => by have e := hc.1 (by simpa [jm_c1] using q); subst e; exact k H locs ls hM hl) (fun q => by have e := hc.2 (by simpa [jm_c1] using q); subst e; exact k H locs ls hM hl)
    · cases hs
  | if_icmp op off =>
    simp only [jm_pure] at hs
    split at hs
    · rename_i hlen
      subst hlen
      obtain ⟨x, y, r, rfl, hs2⟩ := jm_i2_ok hs
      obtain ⟨t, ht, hc⟩ := jm_br_ok hs2
      cases op with
      | eq =>
        exact lv_icmp_eq hx hb hd (jm_tg_ok ht) (fun q => by have e := hc.1 (by simpa [jm_c2] using q); subst e; exact k H locs ls hM hl) (fun q => by have e := hc.2 (by simpa [jm_c2] using q); subst e; exact k H locs ls hM hl)
      | ne =>
        exact lv_icmp_ne hx hb hd (jm_tg_ok ht) (fun q => by have e := hc.1 (by simpa [jm_c2] using q); subst e; exact k H locs ls hM hl) (fun q => by have e := hc.2 (by simpa [jm_c2] using q); subst e; exact k H locs ls hM hl)
      | lt =>
        exact lv_icmp_lt hx hb hd (jm_tg_ok ht) (fun q => by have e := hc.1 (by simpa [jm_c2] using q); subst e; exact k H locs ls hM hl) (fun q => by have e := hc.2 (by simpa [jm_c2] using q); subst e; exact k H locs ls hM hl)
      | ge =>
        exact lv_icmp_ge hx hb hd (jm_tg_ok ht) (fun q => by have e := hc.1 (by simpa [jm_c2] using q); subst e; exact k H locs ls hM hl) (fun q => by have e := hc.2 (by simpa [jm_c2] using q); subst e; exact k H locs ls hM hl)
      | gt =>
        exact lv_icmp_gt hx hb hd (jm_tg_ok ht) (fun q => by have e := hc.1 (by simpa [jm_c2] using q); subst e; exact k H locs ls hM hl) (fun q => by have e := hc.2 (by simpa [jm_c2] using q); subst e; exact k H locs ls hM hl)
      | le =>
        exact lv_icmp_le hx hb hd (jm_tg_ok ht) (fun q => by have e := hc.1 (by simpa [jm_c2] using q); subst e; exact k H locs ls hM hl) (fun q => by have e := hc.2 (by simpa [jm_c2] using q); subst e; exact k H locs ls hM hl)
    · cases hs
  | tableswitch d lo hi offs =>
    simp only [jm_pure] at hs
    obtain ⟨x, r, rfl, hs2⟩ := jm_i1_ok hs
    split at hs2
    · rename_i hout
      split at hs2
      · rename_i t ht
        cases hs2
        exact lv_tableOut hx hb hd hout (jm_tg_ok ht) (k H locs ls hM hl)
      · cases hs2
    · rename_i hin
      split at hs2
      · rename_i off ho
        split at hs2
        · rename_i t ht
          cases hs2
          exact lv_tableIn hx hb hd (fun q => hin (Or.inl q)) (fun q => hin (Or.inr q)) ho (jm_tg_ok ht) (k H locs ls hM hl)
        · cases hs2
      · cases hs2
  | lookupswitch d ps =>
    simp only [jm_pure] at hs
    obtain ⟨x, r, rfl, hs2⟩ := jm_i1_ok hs
    split at hs2
    · rename_i hp
      split at hs2
      · rename_i t ht
        cases hs2
        exact lv_lookup hx hb hd hp rfl (jm_tg_ok ht) (k H locs ls hM hl)
      · cases hs2
    · cases hs2
  | _ => exact absurd hs (by simp [jm_pure])
theorem jm_pure_ok (X : jm_X p s m args meth c cc oc nL D B isI ret) {i : Instr} {len : Nat} (hd : decode cc pc = .ok (i, len)) (hs : jm_pure nL i len pc lv st = some z)
    (k : jm_W p l e R s m args below meth c nL D B cells slots Q z.1 z.2.1 z.2.2 h) : jm_W p l e R s m args below meth c nL D B cells slots Q pc lv st h := jm_pure_ok0 X.1 X.2.1 hd hs k
end JP
