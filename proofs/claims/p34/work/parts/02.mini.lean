/-! A small machine over the kit's worlds: cells by their numbers (cell k lies at b + k), a step a function. jm_W: the kit's W said of its states. -/
/-- a cell: an array of ints (bytes, booleans: the type tells), of longs, of references (numbers of cells), an object (number of its class, its fields) -/
abbrev jm_C : Type := (FieldType × Nat × (Nat → Int32)) ⊕ (Nat × (Nat → Int64)) ⊕ (FieldType × Nat × (Nat → Option Nat)) ⊕ (Nat × List Value)
abbrev jm_H : Type := List jm_C
abbrev jm_L : Type := List (Nat × Value)
/-- where things lie: the first cell's address; the String constants'; the array classes' ids -/
abbrev jm_E : Type := Nat × (Nat → Nat) × (FieldType → ClassId)
def jm_v (B : jm_E) : Value → Value
  | .ref k => .ref (B.1 + k)
  | .float u => .ref (B.2.1 u.toNat)
  | v => v
def jm_c (B : jm_E) : jm_C → va_E
  | .inl (t, n, f) => .inl (B.2.2 t, n, .inl f)
  | .inr (.inl (n, f)) => .inl (B.2.2 .long, n, .inr (.inl f))
  | .inr (.inr (.inl (t, n, f))) => .inl (B.2.2 t, n, .inr (.inr (.inr (.inr (fun i => (f i).map (fun k => B.1 + k))))))
  | .inr (.inr (.inr (ci, fs))) => .inr (ci, fs.map (jm_v B))
def jm_ws (B : jm_E) (h : jm_H) : va_W := h.mapIdx (fun k c => (B.1 + k, jm_c B c))
def jm_A (B : jm_E) : Nat → Prop := fun q => B.1 ≤ q
def jm_tyl : List FieldType := [.int, .byte, .boolean, .long, .object "OneWayTown$Town", .array .int]
def jm_tys (B : jm_E) : List (ClassId × FieldType) := jm_tyl.map (fun t => (B.2.2 t, t))
def jm_lv (B : jm_E) (lv : jm_L) : jm_L := lv.map (fun q => (q.1, jm_v B q.2))
theorem jm_cat (B : jm_E) (v : Value) : (jm_v B v).category = v.category := by cases v <;> rfl
theorem jm_ws_at {B : jm_E} {h : jm_H} {k : Nat} {c : jm_C} (e : h[k]? = some c) : (jm_ws B h)[k]? = some (B.1 + k, jm_c B c) := by
  unfold jm_ws
  rw [List.getElem?_mapIdx, e]
  rfl
theorem jm_ws_of {B : jm_E} {h : jm_H} {k : Nat} {q : Nat × va_E} (e : (jm_ws B h)[k]? = some q) : ∃ c, h[k]? = some c ∧ q = (B.1 + k, jm_c B c) := by
  unfold jm_ws at e
  rw [List.getElem?_mapIdx] at e
  cases hc : h[k]? with
  | none => rw [hc] at e; cases e
  | some c => rw [hc] at e; cases e; exact ⟨c, rfl, rfl⟩
theorem jm_D (B : jm_E) (h : jm_H) : va_D (jm_A B) (jm_ws B h) := by
  refine ⟨fun i j p q hi hj hpq => ?_, fun k q hk => ?_⟩
  · obtain ⟨c1, -, rfl⟩ := jm_ws_of hi
    obtain ⟨c2, -, rfl⟩ := jm_ws_of hj
    have h9 : B.1 + i = B.1 + j := hpq
    omega
  · obtain ⟨c, -, rfl⟩ := jm_ws_of hk
    exact Nat.le_add_right _ _
theorem jm_ws_set (B : jm_E) (h : jm_H) (k : Nat) (c : jm_C) : (jm_ws B h).set k (B.1 + k, jm_c B c) = jm_ws B (h.set k c) := by
  apply List.ext_getElem?
  intro i
  unfold jm_ws
  by_cases hik : i = k
  · subst hik
    by_cases hl : i < h.length
    · rw [List.getElem?_set_self (by simpa using hl), List.getElem?_mapIdx, List.getElem?_set_self hl]
      rfl
    · rw [List.getElem?_eq_none (by simp; omega), List.getElem?_eq_none (by simp; omega)]
  · rw [List.getElem?_set_ne (Ne.symm hik), List.getElem?_mapIdx, List.getElem?_mapIdx, List.getElem?_set_ne (Ne.symm hik)]
theorem jm_ws_app (B : jm_E) (h : jm_H) (c : jm_C) : jm_ws B (h ++ [c]) = jm_ws B h ++ [(B.1 + h.length, jm_c B c)] := by
  unfold jm_ws
  rw [List.mapIdx_append]
  simp
/-- the heap holds the cells, and nothing behind them -/
def jm_M (B : jm_E) (D : va_G) (H0 H : Heap) (locs : List Loc) (h : jm_H) : Prop := va_P D vwCl (jm_ws B h) H ∧ H.size = B.1 + h.length ∧ va_S (jm_A B) H0 H locs
theorem jm_M.set {B : jm_E} {D : va_G} {H0 H H1 : Heap} {locs locs1 : List Loc} {h : jm_H} {k : Nat} {c : jm_C} (hM : jm_M B D H0 H locs h) (hP : va_P D vwCl ((jm_ws B h).set k (B.1 + k, jm_c B c)) H1) (hz : H1.size = H.size) (hS : va_S (jm_A B) H0 H1 locs1) : jm_M B D H0 H1 locs1 (h.set k c) :=
  ⟨by rw [← jm_ws_set]; exact hP, by rw [hz, hM.2.1, List.length_set], hS⟩
theorem jm_lvat {B : jm_E} {ls : Array Slot} {nL i : Nat} {lv : jm_L} {v : Value} (hl : lv_has ls nL (jm_lv B lv)) (h : lv.find? (fun q => q.1 == i) = some (i, v)) : ls[i]? = some (.val (jm_v B v)) :=
  hl.2.2 (i, jm_v B v) (List.mem_map.mpr ⟨(i, v), List.mem_of_find?_eq_some h, rfl⟩)
theorem jm_lvfil (B : jm_E) (lv : jm_L) (p : Nat × Nat → Bool) : (jm_lv B lv).filter (fun q => p (q.1, q.2.category)) = jm_lv B (lv.filter (fun q => p (q.1, q.2.category))) := by
  unfold jm_lv
  rw [List.filter_map]
  congr 1
  apply List.filter_congr
  intro q _
  simp [jm_cat]
def jm_st1 (i : Nat) (v : Value) (lv : jm_L) : jm_L := (i, v) :: lv.filter (fun q => !(q.1 == i) && !(q.1 + 1 == i && q.2.category == 2))
def jm_st2 (i : Nat) (v : Value) (lv : jm_L) : jm_L := (i, v) :: lv.filter (fun q => !(q.1 == i) && (!(q.1 == i + 1) && !(q.1 + 1 == i && q.2.category == 2)))
theorem jm_st1_lv (B : jm_E) (i : Nat) (v : Value) (lv : jm_L) : (i, jm_v B v) :: (jm_lv B lv).filter (fun q => !(q.1 == i) && !(q.1 + 1 == i && q.2.category == 2)) = jm_lv B (jm_st1 i v lv) := by
  have := jm_lvfil B lv (fun q => !(q.1 == i) && !(q.1 + 1 == i && q.2 == 2))
  unfold jm_st1
  rw [show jm_lv B ((i, v) :: lv.filter (fun q => !(q.1 == i) && !(q.1 + 1 == i && q.2.category == 2))) = (i, jm_v B v) :: jm_lv B (lv.filter (fun q => !(q.1 == i) && !(q.1 + 1 == i && q.2.category == 2))) from rfl]
  rw [← this]
theorem jm_st2_lv (B : jm_E) (i : Nat) (v : Value) (lv : jm_L) : (i, jm_v B v) :: (jm_lv B lv).filter (fun q => !(q.1 == i) && (!(q.1 == i + 1) && !(q.1 + 1 == i && q.2.category == 2))) = jm_lv B (jm_st2 i v lv) := by
  have := jm_lvfil B lv (fun q => !(q.1 == i) && (!(q.1 == i + 1) && !(q.1 + 1 == i && q.2 == 2)))
  unfold jm_st2
  rw [show jm_lv B ((i, v) :: lv.filter (fun q => !(q.1 == i) && (!(q.1 == i + 1) && !(q.1 + 1 == i && q.2.category == 2)))) = (i, jm_v B v) :: jm_lv B (lv.filter (fun q => !(q.1 == i) && (!(q.1 == i + 1) && !(q.1 + 1 == i && q.2.category == 2)))) from rfl]
  rw [← this]
/-- the words that go with a call -/
def jm_T : List Cond := lw_tbl.filter goodWord
theorem jm_T_mem {w : Cond} {i : Nat} (h : lw_tbl[i]? = some w) (hg : goodWord w = true) : w ∈ jm_T := List.mem_filter.mpr ⟨List.mem_of_getElem? h, hg⟩
theorem jm_T_in : ∀ w ∈ jm_T, w ∈ lw_tbl := fun _ h => (List.mem_filter.mp h).1
theorem jm_T_good : GoodIn jm_T jm_T := fun w h => ⟨h, good_of_word (List.mem_filter.mp h).2⟩
/-- what stands fast within one call: the machine, the code, the locals' number, the class whose method it is, the words, the classes; whether it is a constructor, what it gives back -/
def jm_X (p : Program) (s : State) (m : MethodId) (args : Array Value) (meth : Method) (c : Code) (cc : ByteArray) (oc : Nat) (nL : Nat) (D : va_G) (B : jm_E) (isI : Bool) (ret : Option FieldType) : Prop :=
  p.tables.exec = Jvm.exec ∧ c.code = cc ∧ c.maxLocals = nL ∧ s.vm.findClass (jm_cn oc) = some m.cls ∧ (∀ w ∈ jm_T, w.before args s = true) ∧ va_K D vwCl (jm_tys B) s ∧ meth.locks = false ∧ (isI = true → meth.name = "<init>") ∧ meth.sig.returnType = ret
/-- W, of a state of the small machine -/
def jm_W (p : Program) (l : Launch) (e : Env) (R : Room) (s : State) (m : MethodId) (args : Array Value) (below : List Frame) (meth : Method) (c : Code) (nL : Nat) (D : va_G) (B : jm_E) (cells slots : Nat) (Q : State → Prop) (pc : Nat) (lv : jm_L) (st : List Value) (h : jm_H) : Prop :=
  ∀ (H : Heap) (locs : List Loc) (ls : Array Slot), jm_M B D s.heap H locs h → lv_has ls nL (jm_lv B lv) → W p l e R s m args below meth c H locs cells slots Q (F0 m pc ls (st.map (jm_v B)))
