/-! proofs by hand over a store: values, states, the bytecode made ready, and what must hold ahead of a run of instructions -/
abbrev fw_V : Type := Int ⊕ Nat ⊕ Nat
abbrev fw_L : Type := List (Nat × fw_V)
abbrev fw_W : Type := Nat → Nat → Int32
abbrev fw_X : Type := List fw_V → fw_W → (Option fw_V → fw_W → Prop) → Prop
/-- an instruction made ready: what it does, two numbers, an int -/
abbrev fw_O : Type := Nat × Nat × Nat × Int
abbrev fw_P : Type := List (Nat × fw_O)
def fw_g (W : fw_W) (c : Nat) (i : Int) : Int := (W c i.toNat).toInt
def fw_up (W : fw_W) (c : Nat) (i z : Int) : fw_W := fun c' i' => if c' = c ∧ i' = i.toNat then Int32.ofInt z else W c' i'
/-- an int; a cell; a row of the rows that a cell holds; a long (1000: any; 1001 + m: of 0 .. m) -/
def fw_isl (a : Nat ⊕ Nat) : Bool := match a with
  | .inl _ => false
  | .inr c => Nat.ble 1000 c
/-- the words that lines begin with, as longs; which of them a long is -/
def fw_kn (l : Int64) : Nat := if l.toInt = 448546567013 then 1 else if l.toInt = 1667330676 then 2 else if l.toInt = 1685217655 then 3 else 0
/-- 1000: any long; 1001 + m: of 0 .. m; 1300 + k: word k -/
def fw_lk (c : Nat) (l : Int64) : Prop := match Nat.ble 1300 c with
  | true => fw_kn l + 1300 = c
  | false => c = 1000 ∨ (0 ≤ l.toInt ∧ l.toInt + 1001 ≤ (c : Int))
/-- 400: the present town and the boxes -/
def fw_ss (c : Nat) : List Nat := match c with
  | 400 => [12, 340, 344, 348]
  | _ => []
def fw_leq : List Nat → List Nat → Bool
  | [], [] => true
  | a :: l, b :: m => Nat.beq a b && fw_leq l m
  | _, _ => false
theorem fw_leq_ok : ∀ {l m : List Nat}, fw_leq l m = true → l = m
  | [], [], _ => rfl
  | a :: l, b :: m, h => by
    unfold fw_leq at h
    rw [Bool.and_eq_true] at h
    rw [Nat.eq_of_beq_eq_true h.1, fw_leq_ok h.2]
  | [], _ :: _, h => by cases h
  | _ :: _, [], h => by cases h
def fw_v (T : List ai_C) (a : fw_V) (v : Value) : Prop := match a with
  | .inl z => ∃ i : Int32, v = .int i ∧ i.toInt = z
  | .inr (.inl k) => v = .ref k
  | .inr (.inr c) => (match Nat.ble 1000 c with
    | true => ∃ l : Int64, v = .long l ∧ fw_lk c l
    | false => (match Nat.ble 500 c with
      | true => v = .float (UInt32.ofNat (c - 500))
      | false => (match Nat.ble 400 c with
        | true => ∃ k, k ∈ fw_ss c ∧ v = .ref k
        | false => ∃ t es k, T[c]? = some (.inr (.inr (.inl (t, es)))) ∧ k ∈ es ∧ v = .ref k)))
/-- a reference that is no String -/
def fw_isr (a : Nat ⊕ Nat) : Bool := match a with
  | .inl _ => true
  | .inr c => !(Nat.ble 500 c)
theorem fw_b4 {c : Nat} (h : Nat.ble 400 c = false) : Nat.ble 500 c = false := by
  cases e : Nat.ble 500 c with
  | false => rfl
  | true =>
    have e1 := Nat.le_of_ble_eq_true e
    rw [Nat.ble_eq_true_of_le (show 400 ≤ c by omega)] at h
    cases h
theorem fw_b5 {c : Nat} (h : Nat.ble 500 c = false) : Nat.ble 1000 c = false := by
  cases e : Nat.ble 1000 c with
  | false => rfl
  | true =>
    have e1 := Nat.le_of_ble_eq_true e
    rw [Nat.ble_eq_true_of_le (show 500 ≤ c by omega)] at h
    cases h
def fw_wd (a : fw_V) : Nat := match a with
  | .inr (.inr c) => (match Nat.ble 1000 c with
    | true => 2
    | false => 1)
  | _ => 1
def fw_ws : List fw_V → Nat
  | [] => 0
  | a :: l => fw_wd a + fw_ws l
theorem fw_v_rs {T : List ai_C} {a : Nat ⊕ Nat} {v : Value} (h : fw_v T (.inr a) v) (hl : fw_isl a = false) : fw_wd (.inr a) = 1 ∧ ((∃ k, v = .ref k) ∨ ∃ u, v = .float u) := by
  cases a with
  | inl c => exact ⟨rfl, Or.inl ⟨c, h⟩⟩
  | inr c =>
    have e : Nat.ble 1000 c = false := hl
    unfold fw_v at h
    unfold fw_wd
    dsimp only at h ⊢
    rw [e] at h ⊢
    dsimp only at h ⊢
    cases e5 : Nat.ble 500 c with
    | true => rw [e5] at h; exact ⟨rfl, Or.inr ⟨_, h⟩⟩
    | false =>
      rw [e5] at h
      dsimp only at h
      cases e4 : Nat.ble 400 c with
      | true =>
        rw [e4] at h
        obtain ⟨k, -, e⟩ := h
        exact ⟨rfl, Or.inl ⟨k, e⟩⟩
      | false =>
        rw [e4] at h
        obtain ⟨t, es, k, -, -, e⟩ := h
        exact ⟨rfl, Or.inl ⟨k, e⟩⟩
theorem fw_v_ref {T : List ai_C} {a : Nat ⊕ Nat} {v : Value} (h : fw_v T (.inr a) v) (hl : fw_isr a = true) : fw_wd (.inr a) = 1 ∧ ∃ k, v = .ref k := by
  cases a with
  | inl c => exact ⟨rfl, c, h⟩
  | inr c =>
    have e5 : Nat.ble 500 c = false := by
      have h2 : (!(Nat.ble 500 c)) = true := hl
      rwa [Bool.not_eq_true'] at h2
    have e := fw_b5 e5
    unfold fw_v at h
    unfold fw_wd
    dsimp only at h ⊢
    rw [e] at h ⊢
    dsimp only at h ⊢
    rw [e5] at h
    dsimp only at h
    cases e4 : Nat.ble 400 c with
    | true =>
      rw [e4] at h
      obtain ⟨k, -, e⟩ := h
      exact ⟨rfl, k, e⟩
    | false =>
      rw [e4] at h
      obtain ⟨t, es, k, -, -, e⟩ := h
      exact ⟨rfl, k, e⟩
theorem fw_b45 {c : Nat} (h : (Nat.ble 400 c && !(Nat.ble 500 c)) = true) : Nat.ble 400 c = true ∧ Nat.ble 500 c = false := by
  rw [Bool.and_eq_true, Bool.not_eq_true'] at h
  exact h
theorem fw_v_set {T : List ai_C} {c : Nat} {v : Value} (hb : (Nat.ble 400 c && !(Nat.ble 500 c)) = true) : fw_v T (.inr (.inr c)) v ↔ ∃ k, k ∈ fw_ss c ∧ v = .ref k := by
  obtain ⟨b4, b5⟩ := fw_b45 hb
  unfold fw_v
  dsimp only
  rw [fw_b5 b5]
  dsimp only
  rw [b5]
  dsimp only
  rw [b4]
theorem fw_v_st {T : List ai_C} {c : Nat} {v : Value} (h : fw_v T (.inr (.inr c)) v) (h1 : Nat.ble 500 c = true) (h2 : Nat.ble 1000 c = false) : v = .float (UInt32.ofNat (c - 500)) := by
  unfold fw_v at h
  dsimp only at h
  rw [h2] at h
  dsimp only at h
  rw [h1] at h
  exact h
theorem fw_v_lg {T : List ai_C} {c : Nat} {v : Value} (h : fw_v T (.inr (.inr c)) v) (hl : Nat.ble 1000 c = true) : fw_wd (.inr (.inr c)) = 2 ∧ ∃ l : Int64, v = .long l ∧ fw_lk c l := by
  unfold fw_v at h
  unfold fw_wd
  dsimp only at h ⊢
  rw [hl] at h ⊢
  exact ⟨rfl, h⟩
theorem fw_v_any (T : List ai_C) (l : Int64) : fw_v T (.inr (.inr 1000)) (.long l) := ⟨l, rfl, Or.inl rfl⟩
def fw_l (T : List ai_C) (lv : fw_L) (lc : jm_L) : Prop := ∀ q ∈ lv, ∃ v, jm_get lc q.1 = some v ∧ fw_v T q.2 v
def fw_t (T : List ai_C) : List fw_V → List Value → Prop
  | [], [] => True
  | a :: as, v :: vs => fw_v T a v ∧ fw_t T as vs
  | _, _ => False
def fw_o (T : List ai_C) (a : Option fw_V) (v : Option Value) : Prop := match a, v with
  | none, none => True
  | some a, some v => fw_v T a v
  | _, _ => False
/-- place 0 of cell 999 of the store: which word the reference's name is -/
def fw_nm (W : fw_W) (h : jm_H) : Prop := match (h[352]? : Option jm_C) with
  | some (.inr (.inr (.inr (_, fs)))) => (match (fs[10]? : Option Value) with
    | some (.long l) => W 999 0 = Int32.ofNat (fw_kn l)
    | _ => True)
  | _ => True
def fw_gh (W : fw_W) (T : List ai_C) (h : jm_H) : Prop := ai_gh W T h ∧ fw_nm W h
/-- from such a state the method ends, with an answer and a store of which Post holds -/
def jf (T : List ai_C) (d y pc : Nat) (lv : fw_L) (st : List fw_V) (W : fw_W) (Post : Option fw_V → fw_W → Prop) : Prop := ∀ (lc : jm_L) (sc : List Value) (h : jm_H), fw_l T lv lc → fw_t T st sc → fw_gh W T h → jg d y (pc, lc, sc, h) (fun v h' => ∃ a W', fw_o T a v ∧ fw_gh W' T h' ∧ Post a W')
/-- a call: from such arguments the method ends .. -/
def jc (T : List ai_C) (d y : Nat) (as : List fw_V) (W : fw_W) (Post : Option fw_V → fw_W → Prop) : Prop := ∀ (asc : List Value) (h : jm_H), fw_t T as asc → fw_gh W T h → jg d y (0, lv_args 0 asc, [], h) (fun v h' => ∃ a W', fw_o T a v ∧ fw_gh W' T h' ∧ Post a W')
theorem jf_mono {T : List ai_C} {d y pc : Nat} {lv : fw_L} {st : List fw_V} {W : fw_W} {Post Post' : Option fw_V → fw_W → Prop} (h : jf T d y pc lv st W Post) (hp : ∀ a W', Post a W' → Post' a W') : jf T d y pc lv st W Post' := fun lc sc hh h1 h2 h3 => jg_mono (h lc sc hh h1 h2 h3) (fun v h' ⟨a, W', e1, e2, e3⟩ => ⟨a, W', e1, e2, hp a W' e3⟩)
theorem jf_deep {T : List ai_C} {d y pc : Nat} {lv : fw_L} {st : List fw_V} {W : fw_W} {Post : Option fw_V → fw_W → Prop} (h : jf T d y pc lv st W Post) : jf T (d + 1) y pc lv st W Post := fun lc sc hh h1 h2 h3 => jg_deep (h lc sc hh h1 h2 h3)
/-- ints are ints -/
def fw_rg : fw_L → Prop
  | [] => True
  | (_, .inl z) :: l => -2147483648 ≤ z ∧ z ≤ 2147483647 ∧ fw_rg l
  | (_, .inr _) :: l => fw_rg l
theorem fw_rg_ok {T : List ai_C} {lc : jm_L} : ∀ {lv : fw_L}, fw_l T lv lc → fw_rg lv
  | [], _ => trivial
  | (k, .inl z) :: l, h => by
    obtain ⟨v, -, i, -, e⟩ := h (k, .inl z) List.mem_cons_self
    have hb := ai_b i
    unfold ai_min ai_max at hb
    rw [e] at hb
    exact ⟨hb.1, hb.2, fw_rg_ok (fun q hq => h q (List.mem_cons_of_mem _ hq))⟩
  | (k, .inr a) :: l, h => fw_rg_ok (lv := l) (fun q hq => h q (List.mem_cons_of_mem _ hq))
theorem jf_rng {T : List ai_C} {d y pc : Nat} {lv : fw_L} {st : List fw_V} {W : fw_W} {Post : Option fw_V → fw_W → Prop} (h : fw_rg lv → jf T d y pc lv st W Post) : jf T d y pc lv st W Post := fun lc sc hh h1 h2 h3 => h (fw_rg_ok h1) lc sc hh h1 h2 h3
def fw_get (lv : fw_L) (i : Nat) : Option fw_V := match lv with
  | [] => none
  | q :: l => (match Nat.beq q.1 i with
    | true => some q.2
    | false => fw_get l i)
theorem fw_get_ok {T : List ai_C} {lc : jm_L} {i : Nat} {a : fw_V} : ∀ {lv : fw_L}, fw_l T lv lc → fw_get lv i = some a → ∃ v, jm_get lc i = some v ∧ fw_v T a v
  | [], _, h => by cases h
  | q :: l, hl, h => by
    unfold fw_get at h
    split at h
    · rename_i hb
      have e : q.1 = i := Nat.eq_of_beq_eq_true hb
      have e2 : q.2 = a := Option.some.inj h
      obtain ⟨v, h1, h2⟩ := hl q List.mem_cons_self
      rw [e] at h1
      rw [e2] at h2
      exact ⟨v, h1, h2⟩
    · exact fw_get_ok (fun q hq => hl q (List.mem_cons_of_mem _ hq)) h
/-- a local written: the others as they were, in order -/
def fw_ov (i w : Nat) (q : Nat × fw_V) : Bool := Nat.beq q.1 i || ((Nat.beq w 2 && Nat.beq q.1 (i + 1)) || (Nat.beq (fw_wd q.2) 2 && Nat.beq (q.1 + 1) i))
def fw_rm (i w : Nat) (lv : fw_L) : fw_L := match lv with
  | [] => []
  | q :: l => (match fw_ov i w q with
    | true => fw_rm i w l
    | false => q :: fw_rm i w l)
def fw_ins (i : Nat) (a : fw_V) (lv : fw_L) : fw_L := match lv with
  | [] => [(i, a)]
  | q :: l => (match Nat.ble i q.1 with
    | true => (i, a) :: q :: l
    | false => q :: fw_ins i a l)
def fw_set (i : Nat) (a : fw_V) (lv : fw_L) : fw_L := fw_ins i a (fw_rm i (fw_wd a) lv)
theorem fw_rm_mem {i w : Nat} {q : Nat × fw_V} : ∀ {lv : fw_L}, q ∈ fw_rm i w lv → q ∈ lv ∧ fw_ov i w q = false
  | [], h => by cases h
  | x :: l, h => by
    unfold fw_rm at h
    split at h
    · obtain ⟨h1, h2⟩ := fw_rm_mem h
      exact ⟨List.mem_cons_of_mem _ h1, h2⟩
    · rename_i hb
      rcases List.mem_cons.mp h with rfl | h
      · exact ⟨List.mem_cons_self, hb⟩
      · obtain ⟨h1, h2⟩ := fw_rm_mem h
        exact ⟨List.mem_cons_of_mem _ h1, h2⟩
theorem fw_ov_ok {i w : Nat} {q : Nat × fw_V} (h : fw_ov i w q = false) : q.1 ≠ i ∧ (w = 2 → q.1 ≠ i + 1) ∧ (fw_wd q.2 = 2 → q.1 + 1 ≠ i) := by
  unfold fw_ov at h
  rw [Bool.or_eq_false_iff, Bool.or_eq_false_iff, Bool.and_eq_false_iff, Bool.and_eq_false_iff] at h
  obtain ⟨h1, h2, h3⟩ := h
  refine ⟨fun e => ?_, fun e e2 => ?_, fun e e2 => ?_⟩
  · rw [e, Nat.beq_refl] at h1; cases h1
  · rcases h2 with h2 | h2
    · rw [e] at h2; cases h2
    · rw [e2, Nat.beq_refl] at h2; cases h2
  · rcases h3 with h3 | h3
    · rw [e] at h3; cases h3
    · rw [e2, Nat.beq_refl] at h3; cases h3
theorem fw_ins_mem {i : Nat} {a : fw_V} {q : Nat × fw_V} : ∀ {lv : fw_L}, q ∈ fw_ins i a lv → q = (i, a) ∨ q ∈ lv
  | [], h => Or.inl (List.mem_singleton.mp h)
  | x :: l, h => by
    unfold fw_ins at h
    split at h
    · rcases List.mem_cons.mp h with rfl | h
      · exact Or.inl rfl
      · exact Or.inr h
    · rcases List.mem_cons.mp h with rfl | h
      · exact Or.inr List.mem_cons_self
      · rcases fw_ins_mem h with h | h
        · exact Or.inl h
        · exact Or.inr (List.mem_cons_of_mem _ h)
theorem fw_cat {T : List ai_C} {a : fw_V} {v : Value} (h : fw_v T a v) : v.category = fw_wd a := by
  rcases a with z | k | c
  · obtain ⟨i, rfl, -⟩ := h; rfl
  · have h : v = .ref k := h
    subst h; rfl
  · cases e : Nat.ble 1000 c with
    | true =>
      obtain ⟨h1, l, rfl, -⟩ := fw_v_lg h e
      rw [h1]; rfl
    | false =>
      obtain ⟨h1, ⟨k, rfl⟩ | ⟨k, rfl⟩⟩ := fw_v_rs (a := .inr c) h e
      · rw [h1]; rfl
      · rw [h1]; rfl
theorem fw_l_set {T : List ai_C} {lv : fw_L} {lc : jm_L} {i : Nat} {a : fw_V} {v : Value} (hl : fw_l T lv lc) (hv : fw_v T a v) : fw_l T (fw_set i a lv) (jm_st1 i v lc) := by
  intro q hq
  rcases fw_ins_mem hq with rfl | hq
  · exact ⟨v, jm_get_hd _ _ _, hv⟩
  · obtain ⟨h1, h2⟩ := fw_rm_mem hq
    obtain ⟨h2, -, h3⟩ := fw_ov_ok h2
    obtain ⟨w, g1, g2⟩ := hl q h1
    refine ⟨w, jm_get_st lc q.1 w h2 g1 ?_, g2⟩
    have h4 := fw_cat g2
    by_cases e : q.1 + 1 = i
    · have h5 : w.category ≠ 2 := fun z => h3 (by rw [← h4]; exact z) e
      simp [h2, h5]
    · simp [h2, e]
theorem fw_l_set2 {T : List ai_C} {lv : fw_L} {lc : jm_L} {i : Nat} {a : fw_V} {v : Value} (hl : fw_l T lv lc) (hv : fw_v T a v) (hw : fw_wd a = 2) : fw_l T (fw_set i a lv) (jm_st2 i v lc) := by
  intro q hq
  rcases fw_ins_mem hq with rfl | hq
  · exact ⟨v, jm_get_hd _ _ _, hv⟩
  · obtain ⟨h1, h2⟩ := fw_rm_mem hq
    obtain ⟨h2, h6, h3⟩ := fw_ov_ok h2
    have h6 := h6 hw
    obtain ⟨w, g1, g2⟩ := hl q h1
    refine ⟨w, jm_get_st lc q.1 w h2 g1 ?_, g2⟩
    have h4 := fw_cat g2
    by_cases e : q.1 + 1 = i
    · have h5 : w.category ≠ 2 := fun z => h3 (by rw [← h4]; exact z) e
      simp [h2, h5, h6]
    · simp [h2, e, h6]
/-- the locals that are wanted still -/
def fw_keep (ks : List Nat) (lv : fw_L) : fw_L := match lv with
  | [] => []
  | q :: l => (match ks.any (fun k => Nat.beq q.1 k) with
    | true => q :: fw_keep ks l
    | false => fw_keep ks l)
theorem fw_keep_mem {ks : List Nat} {q : Nat × fw_V} : ∀ {lv : fw_L}, q ∈ fw_keep ks lv → q ∈ lv
  | [], h => by cases h
  | x :: l, h => by
    unfold fw_keep at h
    split at h
    · rcases List.mem_cons.mp h with rfl | h
      · exact List.mem_cons_self
      · exact List.mem_cons_of_mem _ (fw_keep_mem h)
    · exact List.mem_cons_of_mem _ (fw_keep_mem h)
theorem jf_keep {T : List ai_C} {d y pc : Nat} {lv : fw_L} {st : List fw_V} {W : fw_W} {Post : Option fw_V → fw_W → Prop} (ks : List Nat) (h : jf T d y pc (fw_keep ks lv) st W Post) : jf T d y pc lv st W Post := fun lc sc hh h1 h2 h3 => h lc sc hh (fun q hq => h1 q (fw_keep_mem hq)) h2 h3
theorem jf_sub {T : List ai_C} {d y pc : Nat} {lv lv' : fw_L} {st : List fw_V} {W : fw_W} {Post : Option fw_V → fw_W → Prop} (hs : ∀ q ∈ lv', q ∈ lv) (h : jf T d y pc lv' st W Post) : jf T d y pc lv st W Post := fun lc sc hh h1 h2 h3 => h lc sc hh (fun q hq => h1 q (hs q hq)) h2 h3
theorem fw_t_cons {T : List ai_C} {a : fw_V} {r : List fw_V} {sc : List Value} (hg : fw_t T (a :: r) sc) : ∃ v rc, sc = v :: rc ∧ fw_v T a v ∧ fw_t T r rc := by
  cases sc with
  | nil => exact hg.elim
  | cons v rc => exact ⟨v, rc, rfl, hg.1, hg.2⟩
theorem fw_t_i {T : List ai_C} {z : Int} {r : List fw_V} {sc : List Value} (hg : fw_t T (.inl z :: r) sc) : ∃ (i : Int32) (rc : List Value), sc = .int i :: rc ∧ i.toInt = z ∧ fw_t T r rc := by
  obtain ⟨v, rc, rfl, ⟨i, rfl, h2⟩, h3⟩ := fw_t_cons hg
  exact ⟨i, rc, rfl, h2, h3⟩
theorem fw_t_len {T : List ai_C} : ∀ {st : List fw_V} {sc : List Value}, fw_t T st sc → jm_cs sc = fw_ws st ∧ sc.length = st.length
  | [], [], _ => ⟨rfl, rfl⟩
  | a :: st, v :: sc, h => by
    obtain ⟨h1, h2⟩ := fw_t_len h.2
    have := fw_cat h.1
    constructor
    · show (List.map (fun v => v.category) (v :: sc)).sum = _
      rw [List.map_cons, List.sum_cons, this]
      show fw_wd a + jm_cs sc = fw_wd a + fw_ws st
      omega
    · exact congrArg (· + 1) h2
  | [], _ :: _, h => h.elim
  | _ :: _, [], h => h.elim
def fw_z : fw_O := (99, 0, 0, 0)
def fw_tg (pc : Nat) (off : Int) (code : Nat) : fw_O := match jm_tg pc off with
  | some t => (code, t, 0, 0)
  | none => fw_z
def fw_cc (op : ClassFile.Cond) : Nat := match op with
  | .eq => 0
  | .ne => 1
  | .lt => 2
  | .ge => 3
  | .gt => 4
  | .le => 5
def fw_cl (oc idx kind : Nat) : fw_O := match jm_lnk oc idx with
  | none => fw_z
  | some (kd, y) => if kd = kind then (match jm_ms[y]?, jm_na[y]? with
    | some q, some n => if kind = 1 then (65, y, n, ((100 * q.2.2.1 : Nat) : Int)) else if q.2.2.2.2.1 < 100 then (64, y, n, ((q.2.2.2.2.1 + 100 * q.2.2.1 : Nat) : Int)) else fw_z
    | _, _ => fw_z) else fw_z
def fw_con (o : Option Int32) : fw_O := match o with
  | some v => (0, 0, 0, v.toInt)
  | none => fw_z
def fw_cons (o : Option Int32) (s : Option Nat) : fw_O := match o with
  | some v => (0, 0, 0, v.toInt)
  | none => (match s with
    | some i => (96, i, 0, 0)
    | none => fw_z)
def fw_clv (oc idx : Nat) : fw_O := if oc = 7 ∧ idx = 73 then (97, 0, 0, 0) else if oc = 7 ∧ idx = 78 then (98, 0, 0, 0) else fw_cl oc idx 0
def fw_gf (oc idx : Nat) : fw_O := match jm_fld oc idx with
  | some (ci, k) => (50, ci, k, 0)
  | none => fw_z
def fw_pf (oc idx : Nat) : fw_O := match jm_fld oc idx with
  | some (ci, k) => if jm_fin ci k = false then (match jm_ty ci k with
    | .int => (51, ci, k, 0)
    | .boolean => (58, ci, k, 0)
    | .long => (59, ci, k, 0)
    | .object _ => (67, ci, k, 0)
    | _ => fw_z) else fw_z
  | none => fw_z
def fw_st (oc idx : Nat) : fw_O := if jm_has jm_kmax oc idx = true then (60, 0, 0, 0) else if jm_has jm_kmin oc idx = true then (61, 0, 0, 0) else if jm_has jm_kabs oc idx = true then (62, 0, 0, 0) else if oc = 9 ∧ idx = 28 then (66, 0, 0, 0) else fw_cl oc idx 1
def fw_conl (o : Option Int64) : fw_O := match o with
  | some v => if 0 ≤ v.toInt ∧ v.toInt ≤ 100 then (80, 1001 + v.toInt.toNat, 0, 0) else if fw_kn v = 0 then (80, 1000, 0, 0) else (80, 1300 + fw_kn v, 0, 0)
  | none => fw_z
def fw_rt (ret : Option FieldType) : fw_O := match ret with
  | some .int => (70, 0, 0, 0)
  | some .boolean => (71, 0, 0, 0)
  | _ => fw_z
def fw_ra (ret : Option FieldType) : fw_O := match ret with
  | some (.object _) => (94, 0, 0, 0)
  | _ => fw_z
def fw_tgs (pc : Nat) : List Int → Option (Nat × Nat)
  | [] => some (0, 0)
  | off :: l => (match jm_tg pc off, fw_tgs pc l with
    | some t, some (a, n) => if t < 65536 then some (t + 65536 * a, n + 1) else none
    | _, _ => none)
def fw_swr (o : Option (Nat × Nat)) : fw_O := match o with
  | some (a, n) => (95, a, n, 0)
  | none => fw_z
/-- an instruction made ready -/
def fw_res (nL oc : Nat) (ret : Option FieldType) (pc : Nat) (i : Instr) (len : Nat) : fw_O := match i with
  | .iconst n => if len = 1 ∧ -1 ≤ n ∧ n ≤ 5 then (0, 0, 0, n) else fw_z
  | .bipush n => if len = 2 ∧ -128 ≤ n ∧ n ≤ 127 then (0, 0, 0, n) else fw_z
  | .sipush n => if len = 3 ∧ -32768 ≤ n ∧ n ≤ 32767 then (0, 0, 0, n) else fw_z
  | .ldc idx => if len = 2 then fw_cons (jm_con oc idx) (jm_str oc idx) else fw_z
  | .ldc_w idx => if len = 3 then fw_con (jm_con oc idx) else fw_z
  | .tableswitch d lo hi offs => if hi = lo + offs.size - 1 then fw_swr (fw_tgs pc (d :: offs.toList)) else fw_z
  | .lookupswitch d ps => if (ps.toList.zip (ps.toList.drop 1)).all (fun (a, next) => a.1 < next.1) = true then fw_swr (fw_tgs pc (d :: ps.toList.map (fun q => q.2))) else fw_z
  | .lconst n => if len = 1 then (80, 1001 + n.val, 0, 0) else fw_z
  | .ldc2_w idx => if len = 3 then fw_conl (jm_conl oc idx) else fw_z
  | .lload_n k => if len = 1 then (81, k.val, 0, 0) else fw_z
  | .lload k => if len = 2 then (81, k, 0, 0) else fw_z
  | .lstore_n k => if len = 1 ∧ k.val + 1 < nL then (82, k.val, 0, 0) else fw_z
  | .lstore k => if len = 2 ∧ k + 1 < nL then (82, k, 0, 0) else fw_z
  | .laload => if len = 1 then (85, 0, 0, 0) else fw_z
  | .lastore => if len = 1 then (86, 0, 0, 0) else fw_z
  | .lmul => if len = 1 then (87, 0, 0, 0) else fw_z
  | .lor => if len = 1 then (87, 0, 0, 0) else fw_z
  | .land => if len = 1 then (88, 0, 0, 0) else fw_z
  | .lshl => if len = 1 then (89, 0, 0, 0) else fw_z
  | .lshr => if len = 1 then (89, 0, 0, 0) else fw_z
  | .lcmp => if len = 1 then (90, 0, 0, 0) else fw_z
  | .i2l => if len = 1 then (91, 0, 0, 0) else fw_z
  | .l2i => if len = 1 then (92, 0, 0, 0) else fw_z
  | .lreturn => if len = 1 ∧ ret = some .long then (93, 0, 0, 0) else fw_z
  | .areturn => if len = 1 then fw_ra ret else fw_z
  | .iload_n k => if len = 1 then (1, k.val, 0, 0) else fw_z
  | .iload k => if len = 2 then (1, k, 0, 0) else fw_z
  | .aload_n k => if len = 1 then (2, k.val, 0, 0) else fw_z
  | .aload k => if len = 2 then (2, k, 0, 0) else fw_z
  | .istore_n k => if len = 1 ∧ k.val < nL then (3, k.val, 0, 0) else fw_z
  | .istore k => if len = 2 ∧ k < nL then (3, k, 0, 0) else fw_z
  | .astore_n k => if len = 1 ∧ k.val < nL then (4, k.val, 0, 0) else fw_z
  | .astore k => if len = 2 ∧ k < nL then (4, k, 0, 0) else fw_z
  | .iinc k n => if len = 3 ∧ k < nL ∧ -32768 ≤ n ∧ n ≤ 32767 then (5, k, 0, n) else fw_z
  | .goto off => if len = 3 then fw_tg pc off 6 else fw_z
  | .if_icmp op off => if len = 3 then fw_tg pc off (10 + fw_cc op) else fw_z
  | .ifCond op off => if len = 3 then fw_tg pc off (20 + fw_cc op) else fw_z
  | .iadd => if len = 1 then (30, 0, 0, 0) else fw_z
  | .isub => if len = 1 then (31, 0, 0, 0) else fw_z
  | .imul => if len = 1 then (32, 0, 0, 0) else fw_z
  | .idiv => if len = 1 then (33, 0, 0, 0) else fw_z
  | .irem => if len = 1 then (34, 0, 0, 0) else fw_z
  | .ineg => if len = 1 then (35, 0, 0, 0) else fw_z
  | .iand => if len = 1 then (36, 0, 0, 0) else fw_z
  | .ior => if len = 1 then (37, 0, 0, 0) else fw_z
  | .ixor => if len = 1 then (38, 0, 0, 0) else fw_z
  | .ishl => if len = 1 then (39, 0, 0, 0) else fw_z
  | .ishr => if len = 1 then (40, 0, 0, 0) else fw_z
  | .iushr => if len = 1 then (41, 0, 0, 0) else fw_z
  | .i2b => if len = 1 then (46, 0, 0, 0) else fw_z
  | .dup => if len = 1 then (43, 0, 0, 0) else fw_z
  | .dup2 => if len = 1 then (44, 0, 0, 0) else fw_z
  | .pop => if len = 1 then (45, 0, 0, 0) else fw_z
  | .getfield idx => if len = 3 then fw_gf oc idx else fw_z
  | .putfield idx => if len = 3 then fw_pf oc idx else fw_z
  | .iaload => if len = 1 then (52, 0, 0, 0) else fw_z
  | .iastore => if len = 1 then (53, 0, 0, 0) else fw_z
  | .baload => if len = 1 then (54, 0, 0, 0) else fw_z
  | .bastore => if len = 1 then (55, 0, 0, 0) else fw_z
  | .aaload => if len = 1 then (56, 0, 0, 0) else fw_z
  | .arraylength => if len = 1 then (57, 0, 0, 0) else fw_z
  | .invokestatic idx => if len = 3 then fw_st oc idx else fw_z
  | .invokevirtual idx => if len = 3 then fw_clv oc idx else fw_z
  | .ireturn => if len = 1 then fw_rt ret else fw_z
  | .return_ => if len = 1 ∧ ret = none then (72, 0, 0, 0) else fw_z
  | _ => fw_z
/-- a whole method made ready -/
def fw_prog (nL oc : Nat) (ret : Option FieldType) : List (Nat × Instr × Nat) → fw_P
  | [] => []
  | e :: l => (e.1, fw_res nL oc ret e.1 e.2.1 e.2.2) :: fw_prog nL oc ret l
def fw_seq : List (Nat × Instr × Nat) → Bool
  | [] => true
  | e :: l => (match l with
    | [] => true
    | e' :: _ => Nat.beq e'.1 (e.1 + e.2.2)) && fw_seq l
def fw_mk (y nL oc : Nat) (ret : Option FieldType) (R : fw_P) : Bool := (match jm_ms[y]? with
  | some q => decide (q.2.2.1 = nL ∧ q.2.2.2.2.1 = oc ∧ q.2.2.2.1 = ret)
  | none => false) && (fw_seq (jd_at y) && decide (fw_prog nL oc ret (jd_at y) = R))
def fw_fit (q : jm_Y) : fw_P → Prop
  | [] => True
  | e :: p => (∃ i len, decode q.2.1 e.1 = .ok (i, len) ∧ e.2 = fw_res q.2.2.1 q.2.2.2.2.1 q.2.2.2.1 e.1 i len ∧ ∀ e' p', p = e' :: p' → e'.1 = e.1 + len) ∧ fw_fit q p
def fw_seek (t : Nat) (R : fw_P) : fw_P := match R with
  | [] => []
  | e :: l => (match Nat.beq e.1 t with
    | true => e :: l
    | false => fw_seek t l)
theorem fw_seek_ok {q : jm_Y} {t : Nat} : ∀ {R : fw_P}, fw_fit q R → fw_fit q (fw_seek t R) ∧ ∀ e p, fw_seek t R = e :: p → e.1 = t
  | [], _ => ⟨trivial, fun e p h => by cases h⟩
  | x :: l, hR => by
    unfold fw_seek
    split
    · rename_i hb
      refine ⟨hR, fun e p h => ?_⟩
      cases h
      exact Nat.eq_of_beq_eq_true hb
    · exact fw_seek_ok hR.2
theorem fw_fit_of {q : jm_Y} : ∀ {l : List (Nat × Instr × Nat)}, (∀ e ∈ l, decode q.2.1 e.1 = .ok e.2) → fw_seq l = true → fw_fit q (fw_prog q.2.2.1 q.2.2.2.2.1 q.2.2.2.1 l)
  | [], _, _ => trivial
  | e :: l, hd, hs => by
    unfold fw_seq at hs
    rw [Bool.and_eq_true] at hs
    refine ⟨⟨e.2.1, e.2.2, hd e List.mem_cons_self, rfl, fun e' p' he => ?_⟩, fw_fit_of (fun x hx => hd x (List.mem_cons_of_mem _ hx)) hs.2⟩
    cases l with
    | nil => cases he
    | cons e2 l2 =>
      have h1 := Nat.eq_of_beq_eq_true hs.1
      have h2 : (e2.1, fw_res q.2.2.1 q.2.2.2.2.1 q.2.2.2.1 e2.1 e2.2.1 e2.2.2) = e' := (List.cons.inj he).1
      rw [← h2]
      exact h1
theorem jd_in {y : Nat} {q : MethodName × ByteArray × Nat × Option FieldType × Nat × Nat} (hq : jm_ms[y]? = some q) : ∀ e ∈ jd_at y, decode q.2.1 e.1 = .ok e.2 := by
  intro e he
  have ha := jd_all y (by have := (List.getElem?_eq_some_iff.mp hq).1; rwa [jm_m_len.1] at this) q hq
  have h1 : jd_fd e.1 [e] = some (e.2.1, e.2.2) := by
    unfold jd_fd
    rw [Nat.beq_refl]
  have h2 : [e].all (jd_q q.2.1) = true := by
    rw [List.all_cons, List.all_eq_true.mp ha e he]
    rfl
  exact jd_fd_ok [e] h2 h1
theorem fw_mk_ok {y nL oc : Nat} {ret : Option FieldType} {R : fw_P} (h : fw_mk y nL oc ret R = true) : ∃ q, jm_ms[y]? = some q ∧ fw_fit q R := by
  unfold fw_mk at h
  rw [Bool.and_eq_true, Bool.and_eq_true] at h
  obtain ⟨h1, h2, h3⟩ := h
  split at h1
  · rename_i q hq
    have h4 := of_decide_eq_true h1
    have h5 := of_decide_eq_true h3
    refine ⟨q, hq, ?_⟩
    rw [← h5, ← h4.1, ← h4.2.1, ← h4.2.2]
    exact fw_fit_of (jd_in hq) h2
  · cases h1
def fw_at {α : Type} (V : List (Nat × α)) (c : Nat) : Option α := match V with
  | [] => none
  | q :: l => (match Nat.beq q.1 c with
    | true => some q.2
    | false => fw_at l c)
theorem fw_at_ok {α : Type} {c : Nat} {x : α} : ∀ {V : List (Nat × α)}, fw_at V c = some x → (c, x) ∈ V
  | [], h => by cases h
  | q :: l, h => by
    unfold fw_at at h
    split at h
    · rename_i hb
      have e : q.1 = c := Nat.eq_of_beq_eq_true hb
      have e2 : q.2 = x := Option.some.inj h
      rw [← e, ← e2]
      exact List.mem_cons_self
    · exact List.mem_cons_of_mem _ (fw_at_ok h)
/-- the cells that are looked at; rows of rows: how many, how long, what they hold -/
abbrev fw_G : Type := List (Nat × Nat × Nat × Int × Int)
def fw_view (T : List ai_C) (V : List (Nat × ai_C)) (G : fw_G) : Prop := (∀ q ∈ V, T[q.1]? = some q.2) ∧ (∀ q ∈ G, ∃ t es, T[q.1]? = some (.inr (.inr (.inl (t, es)))) ∧ jm_tin t = true ∧ jm_isref t = true ∧ es.length = q.2.1 ∧ (∀ k ∈ es, T[k]? = some (.inl (.int, q.2.2.1, q.2.2.2.1, q.2.2.2.2, false))) ∧ Nat.ble 400 q.1 = false) ∧ T.length ≤ 900
def fw_i1 (st : List fw_V) (k : Int → List fw_V → Prop) : Prop := match st with
  | .inl x :: r => k x r
  | _ => False
def fw_i2 (st : List fw_V) (k : Int → Int → List fw_V → Prop) : Prop := match st with
  | .inl y :: .inl x :: r => k x y r
  | _ => False
theorem fw_i1_ok {st : List fw_V} {k : Int → List fw_V → Prop} (h : fw_i1 st k) : ∃ x r, st = .inl x :: r ∧ k x r := by
  unfold fw_i1 at h
  split at h
  · exact ⟨_, _, rfl, h⟩
  · exact h.elim
theorem fw_i2_ok {st : List fw_V} {k : Int → Int → List fw_V → Prop} (h : fw_i2 st k) : ∃ x y r, st = .inl y :: .inl x :: r ∧ k x y r := by
  unfold fw_i2 at h
  split at h
  · exact ⟨_, _, _, rfl, h⟩
  · exact h.elim
def fw_has (pc : Nat) (hv : List Nat) : Bool := hv.any (fun k => Nat.beq k pc)
/-- an int made: in range, or any -/
def fw_rs (hv : List Nat) (pc : Nat) (z : Int) (k : Int → Prop) : Prop := match fw_has pc hv with
  | true => ∀ x, -2147483648 ≤ x → x ≤ 2147483647 → k x
  | false => -2147483648 ≤ z ∧ z ≤ 2147483647 ∧ k z
theorem fw_rs_ok {hv : List Nat} {pc : Nat} {z : Int} {k : Int → Prop} (h : fw_rs hv pc z k) (i : Int32) (hi : -2147483648 ≤ z → z ≤ 2147483647 → i.toInt = z) : k i.toInt := by
  unfold fw_rs at h
  have hb := ai_b i
  unfold ai_min ai_max at hb
  split at h
  · exact h _ hb.1 hb.2
  · rw [hi h.1 h.2.1]
    exact h.2.2
/-- a quotient, a rest: of ints that are not negative, or any -/
def fw_dv (hv : List Nat) (pc : Nat) (x y z : Int) (k : Int → Prop) : Prop := match fw_has pc hv with
  | true => ¬ y = 0 ∧ ∀ x, -2147483648 ≤ x → x ≤ 2147483647 → k x
  | false => 0 ≤ x ∧ 0 < y ∧ k z
theorem fw_dv_ok {hv : List Nat} {pc : Nat} {x y z : Int} {k : Int → Prop} (h : fw_dv hv pc x y z k) (i : Int32) (hi : 0 ≤ x → 0 < y → i.toInt = z) : ¬ y = 0 ∧ k i.toInt := by
  unfold fw_dv at h
  have hb := ai_b i
  unfold ai_min ai_max at hb
  split at h
  · exact ⟨h.1, h.2 _ hb.1 hb.2⟩
  · refine ⟨by omega, ?_⟩
    rw [hi h.1 h.2.1]
    exact h.2.2
def fw_br (c : Nat) (x y : Int) (A B : Prop) : Prop := match c with
  | 0 => (x = y → A) ∧ (¬ x = y → B)
  | 1 => (¬ x = y → A) ∧ (x = y → B)
  | 2 => (x < y → A) ∧ (y ≤ x → B)
  | 3 => (y ≤ x → A) ∧ (x < y → B)
  | 4 => (y < x → A) ∧ (x ≤ y → B)
  | _ => (x ≤ y → A) ∧ (y < x → B)
theorem fw_br_ok {x y : Int} {A B : Prop} {i j : Int32} (op : ClassFile.Cond) (h : fw_br (fw_cc op) x y A B) (hi : i.toInt = x) (hj : j.toInt = y) : (jm_c2 op i j = true → A) ∧ (jm_c2 op i j = false → B) := by
  subst hi
  subst hj
  have he : i.toInt = j.toInt ↔ i = j := Int32.toInt_inj
  cases op with
  | eq => exact ⟨fun c => h.1 (he.mpr (of_decide_eq_true c)), fun c => h.2 (fun e => of_decide_eq_false c (he.mp e))⟩
  | ne => exact ⟨fun c => h.1 (fun e => of_decide_eq_true c (he.mp e)), fun c => h.2 (Classical.byContradiction (fun n => of_decide_eq_false c (fun e => n (he.mpr e))))⟩
  | lt => exact ⟨fun c => h.1 (Int32.lt_iff_toInt_lt.mp (of_decide_eq_true c)), fun c => h.2 (Int.not_lt.mp (fun e => of_decide_eq_false c (Int32.lt_iff_toInt_lt.mpr e)))⟩
  | ge => exact ⟨fun c => h.1 (Int32.le_iff_toInt_le.mp (of_decide_eq_true c)), fun c => h.2 (Int.not_le.mp (fun e => of_decide_eq_false c (Int32.le_iff_toInt_le.mpr e)))⟩
  | gt => exact ⟨fun c => h.1 (Int32.lt_iff_toInt_lt.mp (of_decide_eq_true c)), fun c => h.2 (Int.not_lt.mp (fun e => of_decide_eq_false c (Int32.lt_iff_toInt_lt.mpr e)))⟩
  | le => exact ⟨fun c => h.1 (Int32.le_iff_toInt_le.mp (of_decide_eq_true c)), fun c => h.2 (Int.not_le.mp (fun e => of_decide_eq_false c (Int32.le_iff_toInt_le.mpr e)))⟩
def fw_and (x y : Int) : Int := (Int32.ofInt x &&& Int32.ofInt y).toInt
def fw_or (x y : Int) : Int := (Int32.ofInt x ||| Int32.ofInt y).toInt
def fw_xor (x y : Int) : Int := (Int32.ofInt x ^^^ Int32.ofInt y).toInt
def fw_shl (x y : Int) : Int := (Int32.ofInt x <<< (Int32.ofInt y &&& 31)).toInt
def fw_ushr (x y : Int) : Int := ((Int32.ofInt x).toUInt32 >>> ((Int32.ofInt y).toUInt32 &&& Int32.toUInt32 31)).toInt32.toInt
def fw_shr (x y : Int) : Int := (Int32.ofInt x >>> (Int32.ofInt y &&& 31)).toInt
/-- the arguments of a call (the first at the head), what lies below -/
def fw_spl : Nat → List fw_V → List fw_V → Option (List fw_V × List fw_V)
  | 0, st, as => some (as, st)
  | n + 1, a :: st, as => fw_spl n st (a :: as)
  | _ + 1, [], _ => none
def fw_args : Nat → List fw_V → fw_L
  | _, [] => []
  | i, a :: as => (i, a) :: fw_args (i + fw_wd a) as
def fw_all (es : List Nat) (K : Nat → Prop) : Prop := match es with
  | [] => True
  | k :: l => K k ∧ fw_all l K
theorem fw_all_ok {K : Nat → Prop} : ∀ {es : List Nat}, fw_all es K → ∀ k ∈ es, K k
  | [], _, k, hk => by cases hk
  | x :: l, h, k, hk => by
    rcases List.mem_cons.mp hk with rfl | hk
    · exact h.1
    · exact fw_all_ok h.2 k hk
def fw_if (b : Bool) (P : Prop) : Prop := match b with
  | true => P
  | false => False
theorem fw_if_ok {b : Bool} {P : Prop} (h : fw_if b P) : b = true ∧ P := by
  unfold fw_if at h
  split at h
  · exact ⟨rfl, h⟩
  · exact h.elim
/-- a field read -/
def fw_fr (ts : List ai_F) (W : fw_W) (c k : Nat) (K : fw_V → Prop) : Prop := match ts[k]? with
  | some (.inl (lo, hi, true)) => lo ≤ fw_g W c k → fw_g W c k ≤ hi → K (.inl (fw_g W c k))
  | some (.inl (lo, hi, false)) => ∀ x, lo ≤ x → x ≤ hi → K (.inl x)
  | some (.inr (.inl [j])) => K (.inr (.inl j))
  | some (.inr (.inl js)) => fw_if (fw_leq js (fw_ss 400)) (K (.inr (.inr 400)))
  | some (.inr (.inr _)) => (match Nat.beq c 352 && Nat.beq k 10 with
    | true => (fw_g W 999 0 = 0 → K (.inr (.inr 1300))) ∧ (fw_g W 999 0 = 1 → K (.inr (.inr 1301))) ∧ (fw_g W 999 0 = 2 → K (.inr (.inr 1302))) ∧ (fw_g W 999 0 = 3 → K (.inr (.inr 1303)))
    | false => K (.inr (.inr 1000)))
  | _ => False
def fw_fs (ts : List ai_F) (W : fw_W) (c k : Nat) (z : Int) (K : fw_W → Prop) : Prop := match ts[k]? with
  | some (.inl (lo, hi, true)) => lo ≤ z ∧ z ≤ hi ∧ K (fw_up W c k z)
  | some (.inl (lo, hi, false)) => lo ≤ z ∧ z ≤ hi ∧ K W
  | _ => False
/-- fields and arrays, read and written: what must hold ahead, of the stack (and store) behind -/
def fw_sf (V : List (Nat × ai_C)) (ci k : Nat) (lo hi : Int) (c : Nat) : Bool := match fw_at V c with
  | some (.inr (.inr (.inr (cj, ts)))) => Nat.beq cj ci && (match ts[k]? with
    | some (.inl (l, h, _)) => decide (l = lo ∧ h = hi)
    | _ => false)
  | _ => false
def fw_wgs (V : List (Nat × ai_C)) (ci k c : Nat) (K : Int → Prop) : Prop := match fw_ss c with
  | [] => False
  | k0 :: l => (match fw_at V k0 with
    | some (.inr (.inr (.inr (_, ts)))) => (match ts[k]? with
      | some (.inl (lo, hi, _)) => fw_if (fw_sf V ci k lo hi k0 && l.all (fw_sf V ci k lo hi)) (∀ x : Int, lo ≤ x → x ≤ hi → K x)
      | _ => False)
    | _ => False)
def fw_wgf (V : List (Nat × ai_C)) (ci k : Nat) (st : List fw_V) (W : fw_W) (K : List fw_V → Prop) : Prop := match st with
  | .inr (.inl c) :: r => (match fw_at V c with
    | some (.inr (.inr (.inr (cj, ts)))) => (match Nat.beq cj ci with
      | true => fw_fr ts W c k (fun a => K (a :: r))
      | false => False)
    | _ => False)
  | .inr (.inr c) :: r => fw_if (Nat.ble 400 c && !(Nat.ble 500 c)) (fw_wgs V ci k c (fun x => K (.inl x :: r)))
  | _ => False
def fw_wpr (V : List (Nat × ai_C)) (ci k : Nat) (st : List fw_V) (K : List fw_V → Prop) : Prop := match st with
  | .inr (.inl j) :: .inr (.inl c) :: r => (match fw_at V c with
    | some (.inr (.inr (.inr (cj, ts)))) => fw_if (Nat.beq cj ci) (match ts[k]? with
      | some (.inr (.inl js)) => fw_if (js.any (fun q => Nat.beq q j)) (K r)
      | _ => False)
    | _ => False)
  | _ => False
def fw_isc (V : List (Nat × ai_C)) (ci k : Nat) : Bool := match fw_at V k with
  | some (.inr (.inr (.inr (cj, _)))) => Nat.beq cj ci
  | _ => false
def fw_wpf (V : List (Nat × ai_C)) (ci k : Nat) (st : List fw_V) (W : fw_W) (K : List fw_V → fw_W → Prop) : Prop := match st with
  | .inl z :: .inr (.inl c) :: r => (match fw_at V c with
    | some (.inr (.inr (.inr (cj, ts)))) => (match Nat.beq cj ci with
      | true => fw_fs ts W c k z (fun W' => K r W')
      | false => False)
    | _ => False)
  | _ => False
def fw_wpz (V : List (Nat × ai_C)) (ci k : Nat) (st : List fw_V) (W : fw_W) (K : List fw_V → fw_W → Prop) : Prop := match st with
  | .inl z :: _ => 0 ≤ z ∧ z ≤ 1 ∧ fw_wpf V ci k st W K
  | _ => False
def fw_wal (V : List (Nat × ai_C)) (G : fw_G) (st : List fw_V) (W : fw_W) (K : List fw_V → Prop) : Prop := match st with
  | .inl i :: .inr (.inl c) :: r => (match fw_at V c with
    | some (.inl (.int, n, lo, hi, true)) => 0 ≤ i ∧ i < n ∧ (lo ≤ fw_g W c i → fw_g W c i ≤ hi → K (.inl (fw_g W c i) :: r))
    | some (.inl (.int, n, lo, hi, false)) => 0 ≤ i ∧ i < n ∧ ∀ x, lo ≤ x → x ≤ hi → K (.inl x :: r)
    | _ => False)
  | .inl i :: .inr (.inr c) :: r => (match fw_at G c with
    | some (_, n, lo, hi) => 0 ≤ i ∧ i < n ∧ ∀ x, lo ≤ x → x ≤ hi → K (.inl x :: r)
    | _ => False)
  | _ => False
def fw_was (V : List (Nat × ai_C)) (G : fw_G) (st : List fw_V) (W : fw_W) (K : List fw_V → fw_W → Prop) : Prop := match st with
  | .inl z :: .inl i :: .inr (.inl c) :: r => (match fw_at V c with
    | some (.inl (.int, n, lo, hi, true)) => 0 ≤ i ∧ i < n ∧ lo ≤ z ∧ z ≤ hi ∧ K r (fw_up W c i z)
    | some (.inl (.int, n, lo, hi, false)) => 0 ≤ i ∧ i < n ∧ lo ≤ z ∧ z ≤ hi ∧ K r W
    | _ => False)
  | .inl z :: .inl i :: .inr (.inr c) :: r => (match fw_at G c with
    | some (_, n, lo, hi) => 0 ≤ i ∧ i < n ∧ lo ≤ z ∧ z ≤ hi ∧ K r W
    | _ => False)
  | _ => False
def fw_wbl (V : List (Nat × ai_C)) (st : List fw_V) (W : fw_W) (K : List fw_V → Prop) : Prop := match st with
  | .inl i :: .inr (.inl c) :: r => (match fw_at V c with
    | some (.inl (.boolean, n, lo, hi, true)) => 0 ≤ i ∧ i < n ∧ (lo ≤ fw_g W c i → fw_g W c i ≤ hi → K (.inl (fw_g W c i) :: r))
    | some (.inl (.boolean, n, lo, hi, false)) => 0 ≤ i ∧ i < n ∧ ∀ x, lo ≤ x → x ≤ hi → K (.inl x :: r)
    | some (.inl (.byte, n, lo, hi, true)) => 0 ≤ i ∧ i < n ∧ (lo ≤ fw_g W c i → fw_g W c i ≤ hi → K (.inl (fw_g W c i) :: r))
    | _ => False)
  | _ => False
def fw_wbs (V : List (Nat × ai_C)) (st : List fw_V) (W : fw_W) (K : List fw_V → fw_W → Prop) : Prop := match st with
  | .inl z :: .inl i :: .inr (.inl c) :: r => (match fw_at V c with
    | some (.inl (.boolean, n, lo, hi, true)) => 0 ≤ i ∧ i < n ∧ 0 ≤ z ∧ z ≤ 1 ∧ lo ≤ z ∧ z ≤ hi ∧ K r (fw_up W c i z)
    | some (.inl (.boolean, n, lo, hi, false)) => 0 ≤ i ∧ i < n ∧ 0 ≤ z ∧ z ≤ 1 ∧ lo ≤ z ∧ z ≤ hi ∧ K r W
    | some (.inl (.byte, n, lo, hi, true)) => 0 ≤ i ∧ i < n ∧ -128 ≤ z ∧ z ≤ 127 ∧ lo ≤ z ∧ z ≤ hi ∧ K r (fw_up W c i z)
    | _ => False)
  | _ => False
def fw_waa (V : List (Nat × ai_C)) (G : fw_G) (st : List fw_V) (K : List fw_V → Prop) : Prop := match st with
  | .inl i :: .inr (.inl c) :: r => (match fw_at G c with
    | some (m, _, _, _) => 0 ≤ i ∧ i < m ∧ K (.inr (.inr c) :: r)
    | _ => (match fw_at V c with
      | some (.inr (.inr (.inl (t, es)))) => 0 ≤ i ∧ i < es.length ∧ fw_if (jm_tin t && jm_isref t) (fw_all es (fun k => K (.inr (.inl k) :: r)))
      | _ => False))
  | _ => False
/-- longs -/
def fw_lg (st : List fw_V) (K : Nat → List fw_V → Prop) : Prop := match st with
  | .inr (.inr c) :: r => fw_if (Nat.ble 1000 c) (K c r)
  | _ => False
def fw_wpl (V : List (Nat × ai_C)) (ci k : Nat) (st : List fw_V) (W : fw_W) (K : List fw_V → fw_W → Prop) : Prop := match st with
  | .inr (.inr b) :: .inr (.inl c) :: r => (match fw_at V c with
    | some (.inr (.inr (.inr (cj, ts)))) => fw_if (Nat.ble 1000 b && Nat.beq cj ci) (match ts[k]? with
      | some (.inr (.inr _)) => (match Nat.beq c 352 && Nat.beq k 10 with
        | true => ∀ z : Int, 0 ≤ z → z ≤ 3 → K r (fw_up W 999 0 z)
        | false => K r W)
      | _ => False)
    | _ => False)
  | _ => False
def fw_wll (V : List (Nat × ai_C)) (st : List fw_V) (K : List fw_V → Prop) : Prop := match st with
  | .inl i :: .inr (.inl c) :: r => (match fw_at V c with
    | some (.inr (.inl n)) => 0 ≤ i ∧ i < n ∧ K (.inr (.inr 1000) :: r)
    | _ => False)
  | _ => False
def fw_wls (V : List (Nat × ai_C)) (st : List fw_V) (K : List fw_V → Prop) : Prop := match st with
  | .inr (.inr b) :: .inl i :: .inr (.inl c) :: r => (match fw_at V c with
    | some (.inr (.inl n)) => fw_if (Nat.ble 1000 b) (0 ≤ i ∧ i < n ∧ K r)
    | _ => False)
  | _ => False
def fw_sk (a : Nat) : Bool := Nat.ble 1001 a && Nat.ble a 1299
def fw_lm (a b : Nat) : Nat := match fw_sk a with
  | true => a
  | false => (match fw_sk b with
    | true => b
    | false => 1000)
def fw_wli (c : Nat) (K : Int → Prop) : Prop := match fw_sk c with
  | false => ∀ x, -2147483648 ≤ x → x ≤ 2147483647 → K x
  | true => ∀ x, 0 ≤ x → x + 1001 ≤ (c : Int) → K x
/-- longs compared: words that are the same, or not -/
def fw_lc (a b : Nat) (K : Int → Prop) : Prop := match Nat.ble 1300 a && (Nat.ble 1300 b && (Nat.ble 1301 a || Nat.ble 1301 b)) with
  | true => (match Nat.beq a b with
    | true => K 0
    | false => ∀ x, -1 ≤ x → x ≤ 1 → ¬ x = 0 → K x)
  | false => ∀ x, -1 ≤ x → x ≤ 1 → K x
/-- a switch: any of its targets -/
def fw_sw : Nat → Nat → (Nat → Prop) → Prop
  | _, 0, _ => True
  | a, n + 1, K => K (a % 65536) ∧ fw_sw (a / 65536) n K
def fw_ret (st : List fw_V) (K : Nat → Prop) : Prop := match st with
  | [.inr (.inl k)] => K k
  | _ => False
/-- rows copied from the first place on -/
def fw_cp (W : fw_W) (d s : Nat) (n : Int) : fw_W := fun c i => if c = d ∧ i < n.toNat then W s i else W c i
def fw_wcp (V : List (Nat × ai_C)) (st : List fw_V) (W : fw_W) (K : List fw_V → fw_W → Prop) : Prop := match st with
  | .inl n :: .inl z2 :: .inr (.inl d) :: .inl z1 :: .inr (.inl s) :: r => (match fw_at V s, fw_at V d with
    | some (.inl (.int, ns, ls, hs, true)), some (.inl (.int, nd, ld, hd, true)) => fw_if (!(Nat.beq s d)) (z1 = 0 ∧ z2 = 0 ∧ 0 ≤ n ∧ n ≤ ns ∧ n ≤ nd ∧ ld ≤ ls ∧ hs ≤ hd ∧ K r (fw_cp W d s n))
    | _, _ => False)
  | _ => False
def fw_wln (V : List (Nat × ai_C)) (G : fw_G) (st : List fw_V) (K : List fw_V → Prop) : Prop := match st with
  | .inr (.inl c) :: r => (match fw_at G c with
    | some (m, _, _, _) => fw_if (Nat.ble m 2147483647) (K (.inl (m : Int) :: r))
    | _ => (match fw_at V c with
      | some (.inl (.int, n, _, _, _)) => fw_if (Nat.ble n 2147483647) (K (.inl (n : Int) :: r))
      | some (.inr (.inl n)) => fw_if (Nat.ble n 2147483647) (K (.inl (n : Int) :: r))
      | _ => False))
  | _ => False
/-- Strings: 500 + i -/
def fw_wsl (st : List fw_V) (K : List fw_V → Prop) : Prop := match st with
  | .inr (.inr c) :: r => fw_if (Nat.ble 500 c && (Nat.ble c 506 && Nat.ble (fw_ws r) 8)) (K (.inl ((jm_sb (c - 500)).length : Int) :: r))
  | _ => False
def fw_wsc (st : List fw_V) (K : List fw_V → Prop) : Prop := match st with
  | .inl k :: .inr (.inr c) :: r => fw_if (Nat.ble 500 c && (Nat.ble c 506 && Nat.ble (fw_ws r) 8)) (0 ≤ k ∧ k < ((jm_sb (c - 500)).length : Int) ∧ ∀ x : Int, 0 ≤ x → x ≤ 255 → K (.inl x :: r))
  | _ => False
def fw_wcv (V : List (Nat × ai_C)) (ct : List (Nat × fw_X)) (y n : Nat) (cj : Int) (st : List fw_V) (W : fw_W) (J : Prop) (K : List fw_V → fw_W → Prop) : Prop := match fw_at ct y with
  | some X => (match fw_spl n st [] with
    | some (as, .inr (.inl c) :: r) => (match fw_at V c with
      | some (.inr (.inr (.inr (ci, _)))) => fw_if (Nat.beq ci (cj.toNat % 100)) (fw_if (Nat.ble (fw_ws r) 8 && Nat.ble (1 + fw_ws as) (cj.toNat / 100)) (X (.inr (.inl c) :: as) W (fun a W' => K (a.toList ++ r) W')))
      | _ => False)
    | some (as, .inr (.inr c) :: r) => fw_if (Nat.ble 400 c && !(Nat.ble 500 c)) (fw_if ((fw_ss c).all (fw_isc V (cj.toNat % 100))) (fw_if (Nat.ble (fw_ws r) 8 && Nat.ble (1 + fw_ws as) (cj.toNat / 100)) (X (.inr (.inr c) :: as) W (fun a W' => K (a.toList ++ r) W'))))
    | _ => False)
  | none => J
def fw_wcs (ct : List (Nat × fw_X)) (y n : Nat) (cj : Int) (st : List fw_V) (W : fw_W) (J : Prop) (K : List fw_V → fw_W → Prop) : Prop := match fw_at ct y with
  | some X => (match fw_spl n st [] with
    | some (as, r) => fw_if (Nat.ble (fw_ws r) 8 && Nat.ble (fw_ws as) (cj.toNat / 100)) (X as W (fun a W' => K (a.toList ++ r) W'))
    | _ => False)
  | none => J
def fw_wst (st : List fw_V) (K : Nat ⊕ Nat → List fw_V → Prop) : Prop := match st with
  | .inr a :: r => fw_if (fw_isr a) (K a r)
  | _ => False
def fw_wd1 (st : List fw_V) (K : List fw_V → Prop) : Prop := match st with
  | a :: r => fw_if (Nat.beq (fw_wd a) 1) (K (a :: a :: r))
  | _ => False
def fw_wd2 (st : List fw_V) (K : List fw_V → Prop) : Prop := match st with
  | a :: b :: r => fw_if (Nat.beq (fw_wd a) 1 && Nat.beq (fw_wd b) 1) (K (a :: b :: a :: b :: r))
  | _ => False
def fw_wpo (st : List fw_V) (K : List fw_V → Prop) : Prop := match st with
  | a :: r => fw_if (Nat.beq (fw_wd a) 1) (K r)
  | _ => False
def fw_li (lv : fw_L) (k : Nat) (K : Int → Prop) : Prop := match fw_get lv k with
  | some (.inl z) => K z
  | _ => False
def fw_la (lv : fw_L) (k : Nat) (K : Nat ⊕ Nat → Prop) : Prop := match fw_get lv k with
  | some (.inr a) => fw_if (!(fw_isl a)) (K a)
  | _ => False
def fw_ll (lv : fw_L) (k : Nat) (K : Nat → Prop) : Prop := match fw_get lv k with
  | some (.inr (.inr c)) => fw_if (Nat.ble 1000 c) (K c)
  | _ => False
def fw_re (st : List fw_V) (K : Int → Prop) : Prop := match st with
  | [.inl z] => K z
  | _ => False
def fw_rn (st : List fw_V) (K : Prop) : Prop := match st with
  | [] => K
  | _ => False
/-- ahead of one instruction; K: what must hold behind it -/
def fws (V : List (Nat × ai_C)) (G : fw_G) (R : fw_P) (ct : List (Nat × fw_X)) (hv : List Nat) (K : fw_P → fw_L → List fw_V → fw_W → Prop) (J : Prop) (Post : Option fw_V → fw_W → Prop) (pc : Nat) (o : fw_O) (p : fw_P) (lv : fw_L) (st : List fw_V) (W : fw_W) : Prop := match o.1 with
  | 0 => K p lv (.inl o.2.2.2 :: st) W
  | 1 => fw_li lv o.2.1 (fun z => K p lv (.inl z :: st) W)
  | 2 => fw_la lv o.2.1 (fun a => K p lv (.inr a :: st) W)
  | 3 => fw_i1 st (fun x r => K p (fw_set o.2.1 (.inl x) lv) r W)
  | 4 => fw_wst st (fun a r => K p (fw_set o.2.1 (.inr a) lv) r W)
  | 5 => fw_li lv o.2.1 (fun x => fw_rs hv pc (x + o.2.2.2) (fun z => K p (fw_set o.2.1 (.inl z) lv) st W))
  | 6 => K (fw_seek o.2.1 R) lv st W
  | 10 => fw_i2 st (fun x y r => fw_br 0 x y (K (fw_seek o.2.1 R) lv r W) (K p lv r W))
  | 11 => fw_i2 st (fun x y r => fw_br 1 x y (K (fw_seek o.2.1 R) lv r W) (K p lv r W))
  | 12 => fw_i2 st (fun x y r => fw_br 2 x y (K (fw_seek o.2.1 R) lv r W) (K p lv r W))
  | 13 => fw_i2 st (fun x y r => fw_br 3 x y (K (fw_seek o.2.1 R) lv r W) (K p lv r W))
  | 14 => fw_i2 st (fun x y r => fw_br 4 x y (K (fw_seek o.2.1 R) lv r W) (K p lv r W))
  | 15 => fw_i2 st (fun x y r => fw_br 5 x y (K (fw_seek o.2.1 R) lv r W) (K p lv r W))
  | 20 => fw_i1 st (fun x r => fw_br 0 x 0 (K (fw_seek o.2.1 R) lv r W) (K p lv r W))
  | 21 => fw_i1 st (fun x r => fw_br 1 x 0 (K (fw_seek o.2.1 R) lv r W) (K p lv r W))
  | 22 => fw_i1 st (fun x r => fw_br 2 x 0 (K (fw_seek o.2.1 R) lv r W) (K p lv r W))
  | 23 => fw_i1 st (fun x r => fw_br 3 x 0 (K (fw_seek o.2.1 R) lv r W) (K p lv r W))
  | 24 => fw_i1 st (fun x r => fw_br 4 x 0 (K (fw_seek o.2.1 R) lv r W) (K p lv r W))
  | 25 => fw_i1 st (fun x r => fw_br 5 x 0 (K (fw_seek o.2.1 R) lv r W) (K p lv r W))
  | 30 => fw_i2 st (fun x y r => fw_rs hv pc (x + y) (fun z => K p lv (.inl z :: r) W))
  | 31 => fw_i2 st (fun x y r => fw_rs hv pc (x - y) (fun z => K p lv (.inl z :: r) W))
  | 32 => fw_i2 st (fun x y r => fw_rs hv pc (x * y) (fun z => K p lv (.inl z :: r) W))
  | 33 => fw_i2 st (fun x y r => fw_dv hv pc x y (x / y) (fun z => K p lv (.inl z :: r) W))
  | 34 => fw_i2 st (fun x y r => fw_dv hv pc x y (x % y) (fun z => K p lv (.inl z :: r) W))
  | 35 => fw_i1 st (fun x r => fw_rs hv pc (-x) (fun z => K p lv (.inl z :: r) W))
  | 36 => fw_i2 st (fun x y r => -2147483648 ≤ fw_and x y → fw_and x y ≤ 2147483647 → K p lv (.inl (fw_and x y) :: r) W)
  | 37 => fw_i2 st (fun x y r => -2147483648 ≤ fw_or x y → fw_or x y ≤ 2147483647 → K p lv (.inl (fw_or x y) :: r) W)
  | 38 => fw_i2 st (fun x y r => -2147483648 ≤ fw_xor x y → fw_xor x y ≤ 2147483647 → K p lv (.inl (fw_xor x y) :: r) W)
  | 39 => fw_i2 st (fun x y r => -2147483648 ≤ fw_shl x y → fw_shl x y ≤ 2147483647 → K p lv (.inl (fw_shl x y) :: r) W)
  | 40 => fw_i2 st (fun x y r => -2147483648 ≤ fw_shr x y → fw_shr x y ≤ 2147483647 → K p lv (.inl (fw_shr x y) :: r) W)
  | 41 => fw_i2 st (fun x y r => -2147483648 ≤ fw_ushr x y → fw_ushr x y ≤ 2147483647 → K p lv (.inl (fw_ushr x y) :: r) W)
  | 46 => fw_i1 st (fun _ r => ∀ x : Int, -128 ≤ x → x ≤ 127 → K p lv (.inl x :: r) W)
  | 62 => fw_i1 st (fun _ r => fw_if (Nat.ble (fw_ws r) 8) (∀ x : Int, -2147483648 ≤ x → x ≤ 2147483647 → K p lv (.inl x :: r) W))
  | 96 => fw_if (Nat.ble o.2.1 6) (K p lv (.inr (.inr (500 + o.2.1)) :: st) W)
  | 97 => fw_wsl st (fun s => K p lv s W)
  | 98 => fw_wsc st (fun s => K p lv s W)
  | 67 => fw_wpr V o.2.1 o.2.2.1 st (fun s => K p lv s W)
  | 43 => fw_wd1 st (fun s => K p lv s W)
  | 44 => fw_wd2 st (fun s => K p lv s W)
  | 45 => fw_wpo st (fun s => K p lv s W)
  | 50 => fw_wgf V o.2.1 o.2.2.1 st W (fun s => K p lv s W)
  | 51 => fw_wpf V o.2.1 o.2.2.1 st W (fun s W' => K p lv s W')
  | 58 => fw_wpz V o.2.1 o.2.2.1 st W (fun s W' => K p lv s W')
  | 52 => fw_wal V G st W (fun s => K p lv s W)
  | 53 => fw_was V G st W (fun s W' => K p lv s W')
  | 54 => fw_wbl V st W (fun s => K p lv s W)
  | 55 => fw_wbs V st W (fun s W' => K p lv s W')
  | 56 => fw_waa V G st (fun s => K p lv s W)
  | 57 => fw_wln V G st (fun s => K p lv s W)
  | 60 => fw_i2 st (fun x y r => fw_if (Nat.ble (fw_ws r) 8) (K p lv (.inl (max x y) :: r) W))
  | 61 => fw_i2 st (fun x y r => fw_if (Nat.ble (fw_ws r) 8) (K p lv (.inl (min x y) :: r) W))
  | 64 => fw_wcv V ct o.2.1 o.2.2.1 o.2.2.2 st W J (fun s W' => K p lv s W')
  | 65 => fw_wcs ct o.2.1 o.2.2.1 o.2.2.2 st W J (fun s W' => K p lv s W')
  | 70 => fw_re st (fun z => -2147483648 ≤ z → z ≤ 2147483647 → Post (some (.inl z)) W)
  | 71 => fw_re st (fun z => 0 ≤ z ∧ z ≤ 1 ∧ Post (some (.inl z)) W)
  | 72 => fw_rn st (Post none W)
  | 59 => fw_wpl V o.2.1 o.2.2.1 st W (fun s W' => K p lv s W')
  | 66 => fw_if (Nat.ble (fw_ws st) 13) (fw_wcp V st W (fun s W' => K p lv s W'))
  | 80 => fw_if (Nat.ble 1000 o.2.1) (K p lv (.inr (.inr o.2.1) :: st) W)
  | 81 => fw_ll lv o.2.1 (fun c => K p lv (.inr (.inr c) :: st) W)
  | 82 => fw_lg st (fun c r => K p (fw_set o.2.1 (.inr (.inr c)) lv) r W)
  | 85 => fw_wll V st (fun s => K p lv s W)
  | 86 => fw_wls V st (fun s => K p lv s W)
  | 87 => fw_lg st (fun _ s => fw_lg s (fun _ r => K p lv (.inr (.inr 1000) :: r) W))
  | 88 => fw_lg st (fun b s => fw_lg s (fun a r => K p lv (.inr (.inr (fw_lm a b)) :: r) W))
  | 89 => fw_i1 st (fun _ s => fw_lg s (fun _ r => K p lv (.inr (.inr 1000) :: r) W))
  | 90 => fw_lg st (fun b s => fw_lg s (fun a r => fw_lc a b (fun x => K p lv (.inl x :: r) W)))
  | 95 => fw_i1 st (fun _ r => fw_sw o.2.1 o.2.2.1 (fun t => K (fw_seek t R) lv r W))
  | 91 => fw_i1 st (fun _ r => K p lv (.inr (.inr 1000) :: r) W)
  | 92 => fw_lg st (fun c r => fw_wli c (fun x => K p lv (.inl x :: r) W))
  | 93 => fw_lg st (fun c r => fw_rn r (Post (some (.inr (.inr c))) W))
  | 94 => fw_ret st (fun k => Post (some (.inr (.inl k))) W)
  | _ => J
/-- ahead of a run of instructions, up to the stops (with the locals wanted there) -/
def fw_go (V : List (Nat × ai_C)) (G : fw_G) (R : fw_P) (ct : List (Nat × fw_X)) (hv : List Nat) (ss : List (Nat × List Nat)) (T : List ai_C) (d y : Nat) (Post : Option fw_V → fw_W → Prop) : Nat → fw_P → fw_L → List fw_V → fw_W → Prop
  | 0, [], _, _, _ => False
  | 0, (pc, _) :: _, lv, st, W => jf T d y pc lv st W Post
  | _ + 1, [], _, _, _ => False
  | n + 1, (pc, o) :: p, lv, st, W => (match fw_at ss pc with
    | some ks => jf T d y pc (fw_keep ks lv) st W Post
    | none => fws V G R ct hv (fw_go V G R ct hv ss T d y Post n) (jf T d y pc lv st W Post) Post pc o p lv st W)
def fw_run (V : List (Nat × ai_C)) (G : fw_G) (R : fw_P) (ct : List (Nat × fw_X)) (hv : List Nat) (ss : List (Nat × List Nat)) (T : List ai_C) (d y : Nat) (Post : Option fw_V → fw_W → Prop) (n pc : Nat) (lv : fw_L) (st : List fw_V) (W : fw_W) : Prop := match fw_seek pc R with
  | [] => False
  | (pc, o) :: p => fws V G R ct hv (fw_go V G R ct hv ss T d y Post n) (jf T d y pc lv st W Post) Post pc o p lv st W
def fw_cok (T : List ai_C) (d : Nat) (ct : List (Nat × fw_X)) : Prop := ∀ q ∈ ct, ∀ as W Q, q.2 as W Q → jc T d q.1 as W Q
