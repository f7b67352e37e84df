/-! the methods' table; one step; a run -/
theorem jm_chunk {α : Type} {l : List α} {f : α → Bool} (i j : Nat) (e : i + 60 = j) (h1 : ((l.drop i).take 60).all f = true) (h2 : (l.drop j).all f = true) : (l.drop i).all f = true := by
  subst e
  rw [← List.take_append_drop 60 (l.drop i), List.all_append, h1, Bool.true_and, List.drop_drop]
  exact h2
theorem jm_chunk0 {α : Type} {l : List α} {f : α → Bool} (i : Nat) (h : l.length ≤ i) : (l.drop i).all f = true := by
  rw [List.drop_eq_nil_of_le h]; rfl
theorem jm_m_all : (jm_ms.zip jm_mp).all jm_mq = true := by
  have h := jm_chunk (l := jm_ms.zip jm_mp) (f := jm_mq) 0 60 rfl jm_m_all_1 (jm_chunk 60 120 rfl jm_m_all_2 (jm_chunk 120 180 rfl jm_m_all_3 (jm_chunk 180 240 rfl jm_m_all_4 (jm_chunk 240 300 rfl jm_m_all_5 (jm_chunk 300 360 rfl jm_m_all_6 (jm_chunk0 360 (by rw [List.length_zip, jm_m_len.1]; exact Nat.le_trans (Nat.min_le_left _ _) (by decide))))))))
  exact h
theorem jm_ln_len : jm_ln.length = 260 := by decide +kernel
theorem jm_ln_all : jm_ln.all jm_lnq = true := by
  have h := jm_chunk (l := jm_ln) (f := jm_lnq) 0 60 rfl jm_ln_all_1 (jm_chunk 60 120 rfl jm_ln_all_2 (jm_chunk 120 180 rfl jm_ln_all_3 (jm_chunk 180 240 rfl jm_ln_all_4 (jm_chunk 240 300 rfl jm_ln_all_5 (jm_chunk0 300 (by rw [jm_ln_len]; decide))))))
  exact h
/-- how many arguments each method takes, but for the receiver -/
def jm_na : List Nat := [0, 1, 0, 1, 1, 1, 0, 3, 1, 1, 1, 2, 1, 1, 3, 1, 1, 3, 3, 4, 1, 3, 0, 1, 0, 0, 0, 1, 3, 2, 0, 0, 0, 1, 3, 0, 5, 2, 2, 1, 1, 1, 1, 0, 2, 2, 2, 1, 2, 3, 2, 2, 2, 2, 1, 0, 0, 2, 0, 1, 1, 0, 0, 2, 0, 1, 3, 1, 0, 0, 2, 0, 2, 0, 2, 1, 1, 0, 1, 1, 2, 0, 2, 0, 0, 1, 1, 4, 2, 0, 1, 0, 0, 0, 1, 0, 0, 1, 0, 0, 1, 1, 0, 1, 2, 4, 3, 0, 0, 3, 1, 1, 1, 2, 0, 2, 0, 0, 0, 1, 0, 0, 3, 2, 1, 0, 0, 1, 2, 1, 1, 2, 0, 1, 1, 1, 0, 0, 5, 1, 0, 0, 1, 2, 2, 1, 1, 1, 2, 1, 2, 3, 0, 2, 2, 1, 2, 0, 0, 1, 1, 1, 1, 0, 0, 1, 1, 1, 1, 1, 1, 0, 1, 2, 1, 1, 0, 2, 1, 3, 1, 1, 2, 3, 1, 0, 0, 0, 0, 4, 0, 0, 1, 1, 1, 1, 0, 0, 0, 1, 0, 2, 0, 0, 3, 1, 1, 0, 3, 2, 0, 1, 2, 1, 3, 1, 1, 1, 1, 2, 1, 2, 0, 2, 1, 1, 1, 1, 1, 1, 2, 2, 3, 2, 0, 1, 3, 0, 3, 2, 2, 2, 1, 0, 0, 0, 0, 1, 1, 1, 0, 1, 2, 0, 1, 1, 0, 1, 1, 1, 1, 1, 1, 1, 1, 2, 1, 2, 1, 0, 1, 0, 1, 2, 2, 1, 2, 1, 0, 3, 3, 1, 1, 1, 1, 0, 0, 0, 2, 1, 2, 1, 2, 1, 0, 0, 3, 0, 2, 3, 3, 1, 1, 2, 2, 3, 1, 2, 3, 4, 3, 3, 1, 1, 1, 5, 1, 1, 1]
set_option maxRecDepth 100000 in
theorem jm_na_all : (jm_ms.zip jm_na).all (fun q => decide ((parseMethodDescriptor q.1.1.desc).map (fun d => d.parameters.length) = some q.2)) = true := by decide +kernel
theorem jm_na_len : jm_na.length = 319 := by decide +kernel
theorem jm_na_ok {y n : Nat} {q : MethodName × ByteArray × Nat × Option FieldType × Nat × Nat} (h : jm_ms[y]? = some q) (hn : jm_na[y]? = some n) : (parseMethodDescriptor q.1.desc).map (fun d => d.parameters.length) = some n := by
  have hz : (jm_ms.zip jm_na)[y]? = some (q, n) := by rw [List.getElem?_zip_eq_some]; exact ⟨h, hn⟩
  exact of_decide_eq_true (List.all_eq_true.mp jm_na_all _ (List.mem_of_getElem? hz))
theorem jm_m_ok {y : Nat} {q : MethodName × ByteArray × Nat × Option FieldType × Nat × Nat} (h : jm_ms[y]? = some q) : Cond.code q.1 q.2.1 q.2.2.1 q.2.2.2.1 ∈ jm_T ∧ Cond.initialized q.1.cls ∈ jm_T ∧ (if q.2.2.2.2.2 = 1 then Cond.static q.1 else Cond.instanceMethod q.1) ∈ jm_T ∧ q.1.cls = jm_cn q.2.2.2.2.1 ∧ q.1.cls ≠ "java/lang/invoke/MethodHandle" ∧ q.1.cls ≠ "java/lang/invoke/VarHandle" ∧ q.2.2.1 ≤ 40 ∧ plainName q.1.cls = true := by
  have hl := (List.getElem?_eq_some_iff.mp h).1
  obtain ⟨w, hw⟩ : ∃ w, jm_mp[y]? = some w := ⟨_, List.getElem?_eq_getElem (by rw [jm_m_len.2, ← jm_m_len.1]; exact hl)⟩
  have hz : (jm_ms.zip jm_mp)[y]? = some (q, w) := by rw [List.getElem?_zip_eq_some]; exact ⟨h, hw⟩
  have h1 := List.all_eq_true.mp jm_m_all _ (List.mem_of_getElem? hz)
  unfold jm_mq at h1
  simp only [Bool.and_eq_true] at h1
  obtain ⟨⟨⟨⟨⟨⟨h2, h3⟩, h4⟩, h5⟩, h6⟩, h7⟩, h8⟩ := h1
  refine ⟨?_, jm_T_mem (of_decide_eq_true h2) rfl, jm_T_mem (of_decide_eq_true h3) (by split <;> rfl), of_decide_eq_true h4, of_decide_eq_true h5, of_decide_eq_true h6, of_decide_eq_true h7, h8⟩
  exact List.mem_filter.mpr ⟨jm_mc q (List.mem_of_getElem? h), rfl⟩
def jm_lnk (oc idx : Nat) : Option (Nat × Nat) := if idx < 4096 then (jm_ln.find? (fun q => q.1 == oc * 4096 + idx)).map (fun q => (q.2.1, q.2.2.1)) else none
def jm_mwords (oc idx kind : Nat) (y : MethodName × ByteArray × Nat × Option FieldType × Nat × Nat) : Prop :=
  (if kind = 3 then Cond.methodLinkNest (jm_cn oc) idx y.1 "OneWayTown" ∈ lw_tbl else Cond.methodLink (jm_cn oc) idx y.1 ∈ jm_T) ∧ (if kind = 0 then Cond.selects y.1.cls y.1 y.1 ∈ jm_T ∧ y.2.2.2.2.2 = 0 else if kind = 1 then y.2.2.2.2.2 = 1 else y.1.name = "<init>" ∧ y.2.2.2.2.2 = 0 ∧ y.2.2.2.1 = none)
theorem jm_lnk_ok {oc idx kind y : Nat} (h : jm_lnk oc idx = some (kind, y)) : ∃ q, jm_ms[y]? = some q ∧ jm_mwords oc idx kind q := by
  unfold jm_lnk at h
  split at h
  · rename_i hlt
    cases hf : jm_ln.find? (fun q => q.1 == oc * 4096 + idx) with
    | none => rw [hf] at h; cases h
    | some q =>
      rw [hf] at h
      have e1 : q.2.1 = kind := congrArg (fun z : Nat × Nat => z.1) (Option.some.inj h)
      have e2 : q.2.2.1 = y := congrArg (fun z : Nat × Nat => z.2) (Option.some.inj h)
      have e0 : q.1 = oc * 4096 + idx := by simpa using List.find?_some hf
      have ha := List.all_eq_true.mp jm_ln_all q (List.mem_of_find?_eq_some hf)
      unfold jm_lnq at ha
      rw [e1, e2] at ha
      rw [show q.1 / 4096 = oc by omega, show q.1 % 4096 = idx by omega] at ha
      split at ha
      · rename_i w hw
        rw [Bool.and_eq_true] at ha
        refine ⟨w, hw, ?_, ?_⟩
        · have h1 := ha.1
          by_cases hk : kind = 3
          · rw [if_pos hk] at h1 ⊢
            exact List.mem_of_getElem? (of_decide_eq_true h1)
          · rw [if_neg hk] at h1 ⊢
            exact jm_T_mem (of_decide_eq_true h1) rfl
        · have h1 := ha.2
          by_cases hk : kind = 0
          · rw [if_pos hk, Bool.and_eq_true] at h1
            rw [if_pos hk]
            exact ⟨jm_T_mem (of_decide_eq_true h1.1) rfl, of_decide_eq_true h1.2⟩
          · rw [if_neg hk] at h1 ⊢
            by_cases hk1 : kind = 1
            · rw [if_pos hk1] at h1 ⊢
              exact of_decide_eq_true h1
            · rw [if_neg hk1] at h1 ⊢
              simp only [Bool.and_eq_true] at h1
              exact ⟨of_decide_eq_true h1.1.1, of_decide_eq_true h1.1.2, of_decide_eq_true h1.2⟩
      · cases ha
  · cases h
/-- int[n][k]: the rows lie behind the outer array -/
def jm_mna (oc idx : Nat) (st : List Value) (h : jm_H) : Option (List Value × jm_H × Nat × Nat) := match st with
  | .int k :: .int n :: r => if ((oc = 2 ∧ idx = 18) ∨ (oc = 10 ∧ idx = 15) ∨ (oc = 8 ∧ idx = 9) ∨ (oc = 6 ∧ idx = 27) ∨ (oc = 1 ∧ idx = 27)) ∧ ¬ n < 0 ∧ ¬ k < 0 ∧ n.toNatClampNeg ≤ 1000 ∧ k.toNatClampNeg ≤ 1000 then
      some (.ref h.length :: r, h ++ (.inr (.inr (.inl (.array .int, n.toNatClampNeg, fun i => if i < n.toNatClampNeg then some (h.length + 1 + i) else none))) :: List.replicate n.toNatClampNeg (.inl (.int, k.toNatClampNeg, fun _ => 0))), 1 + n.toNatClampNeg, n.toNatClampNeg + n.toNatClampNeg * k.toNatClampNeg) else none
  | _ => none
