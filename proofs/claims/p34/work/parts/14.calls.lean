/-! calls; a run of the small machine is a run of the machine -/
def jm_wy (q : jm_Y) : List Cond := Cond.code q.1 q.2.1 q.2.2.1 q.2.2.2.1 :: jm_T
theorem jm_wy_good {y : Nat} {q : jm_Y} (h : jm_ms[y]? = some q) : GoodIn jm_T (jm_wy q) := by
  intro w hw
  rcases List.mem_cons.mp hw with rfl | hw
  · exact jm_T_good _ (jm_m_ok h).1
  · exact jm_T_good w hw
theorem jm_lgsl (vs : List Value) : (lg_sl vs).length = jm_cs vs := by
  induction vs with
  | nil => rfl
  | cons v vs ih =>
    have e : lg_sl (v :: vs) = (if v.category = 2 then [.val v, .second] else [.val v]) ++ lg_sl vs := rfl
    have e2 : jm_cs (v :: vs) = v.category + jm_cs vs := rfl
    rw [e, e2, List.length_append, ih]
    rcases lv_cat v with h | h <;> simp [h]
theorem jm_lvargs (B : jm_E) : ∀ (as : List Value) (i : Nat), lv_args i (as.map (jm_v B)) = jm_lv B (lv_args i as)
  | [], _ => rfl
  | v :: vs, i => by
    show (i, jm_v B v) :: lv_args (if (jm_v B v).category = 2 then i + 2 else i + 1) (vs.map (jm_v B)) = (i, jm_v B v) :: jm_lv B (lv_args (if v.category = 2 then i + 2 else i + 1) vs)
    rw [jm_cat, jm_lvargs B vs]
theorem jm_cs_map (B : jm_E) (as : List Value) : jm_cs (as.map (jm_v B)) = jm_cs as := jm_cs_v B as
section JC
variable {p : Program} {l : Launch} {e : Env} {R : Room} {s : State} {m : MethodId} {args : Array Value} {below : List Frame} {meth : Method} {c : Code} {D : va_G} {B : jm_E} {cells slots mc ms : Nat} {Q : State → Prop}
variable {pc nL : Nat} {lv : jm_L} {st st' r : List Value} {h h' : jm_H} {q : jm_Y}
theorem jm_after {H : Heap} {locs : List Loc} {ls : Array Slot} {v : Option Value} {aa : Array Value} {st0 : List Value} (hM : jm_M B D s.heap H locs h) (hl : lv_has ls nL (jm_lv B lv)) (hr : va_Run p l e R s m args below meth c H locs cells slots mc ms (F0 m pc ls st0) (r.map (jm_v B)) (jm_Qc B D v h' aa) (jm_A B))
    (k : jm_W p l e R s m args below meth c nL D B (cells + mc) (slots + ms) Q (pc + 3) lv (v.toList ++ r) h') : W p l e R s m args below meth c H locs cells slots Q (F0 m pc ls st0) := by
  intro T hT X
  obtain ⟨v0, st₀, t, T', L, h0, X', hL, e1, e2, ⟨hv, hP1, hz1, hF⟩, go⟩ := hr T hT X
  cases hv
  have hMn : jm_M B D s.heap T'.heap (locs ++ L) h' := by
    refine ⟨by rw [e1]; exact hP1, by rw [e1]; exact hz1, ?_, fun q h1 h2 => ?_, fun q hq => ?_⟩
    · have := hF.1
      rw [h0] at this
      rw [e1]
      exact Nat.le_trans hM.2.2.1 this
    · rw [e1, hF.2 q (by rw [h0]; exact Nat.lt_of_lt_of_le h1 hM.2.2.1) h2, h0]
      exact hM.2.2.2.1 q h1 h2
    · rcases List.mem_append.mp hq with h | h
      · exact hM.2.2.2.2 q h
      · exact hL q h
  obtain ⟨t2, a1, b1⟩ := k T'.heap (locs ++ L) ls hMn hl T' rfl X'
  refine ⟨t2, go t2 ?_, b1⟩
  have ee : (v.toList ++ r).map (jm_v B) = (v.map (jm_v B)).toList ++ r.map (jm_v B) := by cases v <;> simp
  rw [ee] at a1
  exact a1
/-- what a call of the small machine is -/
theorem jm_call_ok {oc idx kind y : Nat} {as : List Value} (hs : jm_call oc idx kind st h = some (.inr (.inr (y, as, r)))) : ∃ q n, jm_lnk oc idx = some (kind, y) ∧ jm_ms[y]? = some q ∧ jm_na[y]? = some n ∧ jm_cs r ≤ 8 ∧ jm_cs as ≤ q.2.2.1 ∧ jm_mwords oc idx kind q ∧
    ((kind = 1 ∧ as.length = n ∧ st = as.reverse ++ r) ∨ (kind ≠ 1 ∧ ∃ a as' fs, as = .ref a :: as' ∧ as'.length = n ∧ st = as'.reverse ++ .ref a :: r ∧ h[a]? = some (.inr (.inr (.inr (q.2.2.2.2.1, fs)))))) := by
  unfold jm_call at hs
  split at hs
  · cases hs
  · rename_i kd y' hlk
    split at hs
    · rename_i hkd
      subst hkd
      obtain ⟨q', hq', hw⟩ := jm_lnk_ok hlk
      split at hs
      · rename_i q n hq hn
        rw [hq] at hq'
        cases hq'
        split at hs
        · rename_i hk1
          split at hs
          · rename_i hh
            cases hs
            refine ⟨_, n, hlk, hq, hn, hh.2.1, hh.2.2, hw, Or.inl ⟨hk1, ?_, ?_⟩⟩
            · rw [List.length_reverse, List.length_take]; omega
            · rw [List.reverse_reverse, List.take_append_drop]
          · cases hs
        · rename_i hk1
          split at hs
          · rename_i a r' hdr
            split at hs
            · rename_i hh
              split at hs
              · rename_i ci fs hc
                split at hs
                · rename_i hci
                  subst hci
                  cases hs
                  refine ⟨_, n, hlk, hq, hn, hh.2.1, hh.2.2, hw, Or.inr ⟨hk1, a, _, fs, rfl, ?_, ?_, hc⟩⟩
                  · rw [List.length_reverse, List.length_take]; omega
                  · rw [List.reverse_reverse, ← hdr, List.take_append_drop]
                · cases hs
              · cases hs
            · cases hs
          · cases hs
      · cases hs
    · cases hs
/-- which call a step is -/
theorem jm_step_cl {y : Nat} {as : List Value} (hs : jm_step q pc lv st h = some (.inr (.inr (y, as, r)))) : ∃ idx, (decode q.2.1 pc = .ok (.invokevirtual idx, 3) ∧ jm_call q.2.2.2.2.1 idx 0 st h = some (.inr (.inr (y, as, r)))) ∨ (decode q.2.1 pc = .ok (.invokestatic idx, 3) ∧ jm_call q.2.2.2.2.1 idx 1 st h = some (.inr (.inr (y, as, r)))) ∨
    (decode q.2.1 pc = .ok (.invokespecial idx, 3) ∧ (jm_call q.2.2.2.2.1 idx 2 st h = some (.inr (.inr (y, as, r))) ∨ jm_call q.2.2.2.2.1 idx 3 st h = some (.inr (.inr (y, as, r))))) := by
  unfold jm_step at hs
  split at hs
  · cases hs
  · rename_i i len hd
    split at hs
    case h_24 =>
      split at hs
      · rename_i hl; subst hl
        split at hs
        · cases hs
        · split at hs
          · unfold jm_nh at hs; repeat' split at hs
            all_goals cases hs
          · exact ⟨_, Or.inr (Or.inl ⟨hd, hs⟩)⟩
      · cases hs
    case h_23 =>
      split at hs
      · rename_i hl; subst hl
        split at hs
        · cases hs
        · split at hs
          · rename_i o ho
            cases hs
            exact ⟨_, Or.inr (Or.inr ⟨hd, Or.inl ho⟩)⟩
          · exact ⟨_, Or.inr (Or.inr ⟨hd, Or.inr hs⟩)⟩
      · cases hs
    case h_25 =>
      split at hs
      · rename_i hl; subst hl
        split at hs
        · rename_i o ho
          cases hs
          exact ⟨_, Or.inl ⟨hd, ho⟩⟩
        · split at hs <;> cases hs
      · cases hs
    all_goals (first | (unfold jm_nx at hs; repeat' split at hs) | (unfold jm_nh at hs; repeat' split at hs) | (repeat' split at hs))
    all_goals cases hs
end JC
