/-! a run of the small machine is a run of the machine -/
def jm_Qc (B : jm_E) (D : va_G) (v : Option Value) (h' : jm_H) : Array Value → State → Outcome → State → Prop := fun _ st o t => o = .returned (v.map (jm_v B)) ∧ va_P D vwCl (jm_ws B h') t.heap ∧ t.heap.size = B.1 + h'.length ∧ va_F (jm_A B) st t
def jm_Pc (B : jm_E) (D : va_G) (as : List Value) (h : jm_H) : Array Value → State → Prop := fun a U => a = (as.map (jm_v B)).toArray ∧ va_P D vwCl (jm_ws B h) U.heap ∧ U.heap.size = B.1 + h.length ∧ va_K D vwCl (jm_tys B) U ∧ jm_Z U ∧ jm_SS B U
theorem jm_Pc_blind (B : jm_E) (D : va_G) (as : List Value) (h : jm_H) : FrameBlind (jm_Pc B D as h) := by
  intro a U g mk hp
  obtain ⟨q0, qP, qz, qK, qZ, qS⟩ := hp
  exact ⟨q0, qP, qz, va_K.moved (u := U) (U := U.calling g mk a) (Vm.Alike.refl U.vm) qK, jm_Z.same (u := U) (U := U.calling g mk a) rfl qZ, jm_SS.same (u := U) (U := U.calling g mk a) rfl rfl qS⟩
section JR
variable {p : Program} {l : Launch} {e : Env} {R : Room} {s : State} {m : MethodId} {args : Array Value} {below : List Frame} {meth : Method} {c : Code} {D : va_G} {B : jm_E} {cells slots : Nat} {Q : State → Prop}
variable {pc : Nat} {lv : jm_L} {st st' : List Value} {h h' : jm_H} {q : jm_Y}
theorem jm_ret_post {H : Heap} {locs : List Loc} {v : Option Value} {t : State} (hM : jm_M B D s.heap H locs h) (ht : t.heap = H) : jm_Qc B D v h args s (.returned (v.map (jm_v B))) t :=
  ⟨rfl, by rw [ht]; exact hM.1, by rw [ht]; exact hM.2.1, hM.2.2.F ht⟩
theorem jm_call_nr {oc idx kind : Nat} {v : Option Value} (hs : jm_call oc idx kind st h = some (.inr (.inl v))) : False := by
  unfold jm_call at hs
  repeat' split at hs
  all_goals cases hs
set_option maxHeartbeats 4000000 in
theorem jm_step_ret {v : Option Value} (X : jm_X p s m args meth c q.2.1 q.2.2.2.2.1 q.2.2.1 D B (q.1.name == "<init>") q.2.2.2.1) (hs : jm_step q pc lv st h = some (.inr (.inl v))) :
    jm_W p l e R s m args below meth c q.2.2.1 D B cells slots (MQ below (jm_Qc B D v h) args s cells slots (jm_A B)) pc lv st h := by
  obtain ⟨hx, hb, hml, hown, hts, hK, hlk, hini, hrt⟩ := X
  unfold jm_step at hs
  split at hs
  · cases hs
  · rename_i i len hd
    split at hs
    · unfold jm_nx at hs; repeat' split at hs
      all_goals cases hs
    · unfold jm_nh at hs; repeat' split at hs
      all_goals cases hs
    · unfold jm_nx at hs; repeat' split at hs
      all_goals cases hs
    · unfold jm_nx at hs; repeat' split at hs
      all_goals cases hs
    · unfold jm_nx at hs; repeat' split at hs
      all_goals cases hs
    · unfold jm_nx at hs; repeat' split at hs
      all_goals cases hs
    · unfold jm_nx at hs; repeat' split at hs
      all_goals cases hs
    · unfold jm_nh at hs; repeat' split at hs
      all_goals cases hs
    · unfold jm_nh at hs; repeat' split at hs
      all_goals cases hs
    · unfold jm_nh at hs; repeat' split at hs
      all_goals cases hs
    · unfold jm_nh at hs; repeat' split at hs
      all_goals cases hs
    · repeat' split at hs
      all_goals cases hs
    · repeat' split at hs
      all_goals cases hs
    · repeat' split at hs
      all_goals cases hs
    · repeat' split at hs
      all_goals cases hs
    · repeat' split at hs
      all_goals cases hs
    · repeat' split at hs
      all_goals cases hs
    · repeat' split at hs
      all_goals cases hs
    · split at hs
      · rename_i hl; subst hl
        split at hs
        · rename_i v0 t0 e0
          split at hs
          · rename_i hn
            cases hs
            intro H locs ls hM hl
            exact W.zret hx hb (hrt.trans e0) hn (fun t ht _ => jm_ret_post hM ht) hM.2.2.2.2 hd hlk
          · cases hs
        · cases hs
      · cases hs
    · split at hs
      · rename_i hl; subst hl
        split at hs
        · rename_i v0 e0
          cases hs
          intro H locs ls hM hl
          exact W.lret hx hb (hrt.trans e0) (fun t ht _ => jm_ret_post hM ht) hM.2.2.2.2 hd hlk
        · cases hs
      · cases hs
    · split at hs
      · rename_i hl; subst hl
        split at hs
        · rename_i a0 n0 e0
          cases hs
          intro H locs ls hM hl
          exact W.aret hx hb (hrt.trans e0) (Or.inl ⟨_, rfl⟩) (Or.inr ⟨_, rfl⟩) (fun t ht _ => jm_ret_post (v := some (.ref a0)) hM ht) hM.2.2.2.2 hd hlk
        · cases hs
      · cases hs
    · split at hs
      · rename_i hl; subst hl
        split at hs
        · rename_i e0
          cases hs
          intro H locs ls hM hl
          exact W.vret hx hb (hrt.trans e0) (fun t ht _ => jm_ret_post (v := none) hM ht) hM.2.2.2.2 hd hlk
        · cases hs
      · cases hs
    · split at hs
      · split at hs
        · cases hs
        · split at hs
          · rename_i o ho
            cases hs
            exact (jm_call_nr ho).elim
          · exact (jm_call_nr hs).elim
      · cases hs
    · split at hs
      · split at hs
        · cases hs
        · split at hs
          · unfold jm_nh at hs; repeat' split at hs
            all_goals cases hs
          · exact (jm_call_nr hs).elim
      · cases hs
    · split at hs
      · split at hs
        · rename_i o ho
          cases hs
          exact (jm_call_nr ho).elim
        · split at hs <;> cases hs
      · cases hs
    · split at hs
      · cases hs
      · cases hs
end JR
