/-! a run of the small machine is a run of the machine: every method's contract out of a run -/
theorem jm_cn_ok {ci : Nat} {rr : vw_C} (h : vwCl[ci]? = some rr) : rr.1 = jm_cn ci := by
  match ci, h with
  | 0, h => cases h; rfl
  | 1, h => cases h; rfl
  | 2, h => cases h; rfl
  | 3, h => cases h; rfl
  | 4, h => cases h; rfl
  | 5, h => cases h; rfl
  | 6, h => cases h; rfl
  | 7, h => cases h; rfl
  | 8, h => cases h; rfl
  | 9, h => cases h; rfl
  | 10, h => cases h; rfl
  | 11, h => cases h; rfl
  | 12, h => cases h; rfl
  | n + 13, h => exact absurd (List.getElem?_eq_some_iff.mp h).1 (by simp [vwCl])
def jm_nsq (q : Nat × Nat × Nat × Nat × Nat) : Bool := if q.2.1 = 3 then (match jm_ms[q.2.2.1]? with
  | some y => decide (Cond.methodLinkNest (jm_cn (q.1 / 4096)) (q.1 % 4096) y.1 "OneWayTown" ∈ jm_zl)
  | none => false) else true
set_option maxRecDepth 100000 in
theorem jm_ns_all : jm_ln.all jm_nsq = true := by decide +kernel
theorem jm_nest_ok {oc idx y : Nat} {w : jm_Y} (h : jm_lnk oc idx = some (3, y)) (hw : jm_ms[y]? = some w) : Cond.methodLinkNest (jm_cn oc) idx w.1 "OneWayTown" ∈ jm_zl := by
  unfold jm_lnk at h
  split at h
  · rename_i hlt
    cases hf : jm_ln.find? (fun q => q.1 == oc * 4096 + idx) with
    | none => rw [hf] at h; cases h
    | some q =>
      rw [hf] at h
      have e1 : q.2.1 = 3 := congrArg (fun z : Nat × Nat => z.1) (Option.some.inj h)
      have e2 : q.2.2.1 = y := congrArg (fun z : Nat × Nat => z.2) (Option.some.inj h)
      have e0 : q.1 = oc * 4096 + idx := by simpa using List.find?_some hf
      have ha := List.all_eq_true.mp jm_ns_all q (List.mem_of_find?_eq_some hf)
      unfold jm_nsq at ha
      rw [if_pos e1, e2, hw, show q.1 / 4096 = oc by omega, show q.1 % 4096 = idx by omega] at ha
      exact of_decide_eq_true ha
  · cases h
section JM
variable {p : Program} {l : Launch} {e : Env} {R : Room} {s : State} {m : MethodId} {args : Array Value} {below : List Frame} {meth : Method} {c : Code} {D : va_G} {B : jm_E} {cells slots mc ms : Nat} {Q : State → Prop}
variable {pc nL : Nat} {lv : jm_L} {st st' r : List Value} {h h' : jm_H} {q : jm_Y}
theorem jm_step_call {y : Nat} {as : List Value} (X : jm_X p s m args meth c q.2.1 q.2.2.2.2.1 q.2.2.1 D B (q.1.name == "<init>") q.2.2.2.1) (hZ : jm_Z s) (hSS : jm_SS B s) (hs : jm_step q pc lv st h = some (.inr (.inr (y, as, r)))) :
    ∃ q', jm_ms[y]? = some q' ∧ jm_cs as ≤ q'.2.2.1 ∧ ∀ (rm : Room) (v : Option Value) (h2 : jm_H), rm.cells = mc → rm.slots = ms → rm.frames + 1 ≤ R.frames → 64 + rm.locals ≤ R.locals → Met l q'.1 (jm_wy q') rm (jm_Pc B D as h) (jm_Qc B D v h2) mc ms (jm_A B) → cells + mc ≤ R.cells ∧ slots + ms ≤ R.slots →
      jm_W p l e R s m args below meth c q.2.2.1 D B (cells + mc) (slots + ms) Q (pc + 3) lv (v.toList ++ r) h2 → jm_W p l e R s m args below meth c q.2.2.1 D B cells slots Q pc lv st h := by
  obtain ⟨idx, hcl⟩ := jm_step_cl hs
  obtain ⟨hx, hb, hml, hown, hts, hK, hlk, hini, hrt⟩ := X
  have hfix : CallFix p m c q.2.1 q.2.2.1 s args jm_T (jm_cn q.2.2.2.2.1) := ⟨hx, hb, hml, hown, hts⟩
  rcases hcl with ⟨hd, hcl⟩ | ⟨hd, hcl⟩ | ⟨hd, hcl | hcl⟩
  · obtain ⟨q2, n, e1, hq2, hn, hr8, has, hw, hsh⟩ := jm_call_ok hcl
    refine ⟨q2, hq2, has, fun rm v h2 hrc hrs hfr hlo hMet hc k => ?_⟩
    obtain ⟨m1, m2, m3, m4, m5, m6, m7, m8⟩ := jm_m_ok hq2
    obtain ⟨w1, w2⟩ := hw
    rw [if_neg (by decide)] at w1
    rw [if_pos rfl] at w2
    rcases hsh with ⟨h0, -⟩ | ⟨-, a, as', fs, rfl, hlen, rfl, hca⟩
    · cases h0
    rw [if_neg (by rw [w2.2]; decide)] at m3
    intro H locs ls hM hl
    have cw : CallW R s args (jm_cn q.2.2.2.2.1) q2.1.cls idx q2.1 q2.2.1 q2.2.2.1 q2.2.2.2.1 (jm_wy q2) rm mc ms n := ⟨callB_of n hts (jm_wy_good hq2) rfl hrc hrs (hts _ m2) (hts _ w1) ⟨m5, m6, jm_na_ok hq2 hn⟩ ⟨hfr, by omega⟩, hts _ m3, hts _ w2.1⟩
    obtain ⟨rr, hcr, cell, g1, g2, g3, -⟩ := hM.1 a _ (jm_ws_at hca)
    have hPre : PreV s H q2.1.cls (B.1 + a) (jm_Pc B D (.ref a :: as') h) (as'.map (jm_v B)) := ⟨jm_Pc_blind B D _ h, ⟨cell, g1, by rw [g3]; rfl, by
        have hkc := (hK.1 _ _ hcr).2.1
        have hnm : rr.1 = q2.1.cls := by rw [m4]; exact jm_cn_ok hcr
        rw [g2, ← hnm]; exact hkc⟩, fun U hU hW => ⟨rfl, by rw [hU]; exact hM.1, by rw [hU]; exact hM.2.1, va_K.moved hW.alike hK, jm_Z.warm hW hZ, hSS.to hM.2.2 hU hW⟩⟩
    refine jm_after hM hl (va_runV hfix hMet cw hPre rfl (by rw [List.length_map]; exact hlen) hl.1 ?_ ?_ hd hc) k
    · show (as'.reverse ++ Value.ref a :: r).map (jm_v B) = (as'.map (jm_v B)).reverse ++ .ref (B.1 + a) :: r.map (jm_v B)
      rw [List.map_append, List.map_reverse]; rfl
    · exact lv_room (by rw [jm_cs_v]; exact hr8)
  · obtain ⟨q2, n, e1, hq2, hn, hr8, has, hw, hsh⟩ := jm_call_ok hcl
    refine ⟨q2, hq2, has, fun rm v h2 hrc hrs hfr hlo hMet hc k => ?_⟩
    obtain ⟨m1, m2, m3, m4, m5, m6, m7, m8⟩ := jm_m_ok hq2
    obtain ⟨w1, w2⟩ := hw
    rw [if_neg (by decide)] at w1
    rw [if_neg (by decide), if_pos rfl] at w2
    rcases hsh with ⟨-, hlen, rfl⟩ | ⟨h0, -⟩
    case inr => exact absurd rfl h0
    rw [if_pos w2] at m3
    intro H locs ls hM hl
    have cw : CallB R s args (jm_cn q.2.2.2.2.1) idx q2.1 q2.2.1 q2.2.2.1 q2.2.2.2.1 (jm_wy q2) rm mc ms n ∧ (Cond.static q2.1).before args s = true := ⟨callB_of n hts (jm_wy_good hq2) rfl hrc hrs (hts _ m2) (hts _ w1) ⟨m5, m6, jm_na_ok hq2 hn⟩ ⟨hfr, by omega⟩, hts _ m3⟩
    have hPre : PreS s H (jm_Pc B D as h) (as.map (jm_v B)) := ⟨jm_Pc_blind B D _ h, fun U hU hW => ⟨rfl, by rw [hU]; exact hM.1, by rw [hU]; exact hM.2.1, va_K.moved hW.alike hK, jm_Z.warm hW hZ, hSS.to hM.2.2 hU hW⟩⟩
    refine jm_after hM hl (va_runS hfix hMet cw hPre rfl (by rw [List.length_map]; exact hlen) hl.1 ?_ ?_ hd hc) k
    · show (as.reverse ++ r).map (jm_v B) = (as.map (jm_v B)).reverse ++ r.map (jm_v B)
      rw [List.map_append, List.map_reverse]
    · exact lv_room (by rw [jm_cs_v]; exact hr8)
  · obtain ⟨q2, n, e1, hq2, hn, hr8, has, hw, hsh⟩ := jm_call_ok hcl
    refine ⟨q2, hq2, has, fun rm v h2 hrc hrs hfr hlo hMet hc k => ?_⟩
    obtain ⟨m1, m2, m3, m4, m5, m6, m7, m8⟩ := jm_m_ok hq2
    obtain ⟨w1, w2⟩ := hw
    rw [if_neg (by decide)] at w1
    rw [if_neg (by decide), if_neg (by decide)] at w2
    rcases hsh with ⟨h0, -⟩ | ⟨-, a, as', fs, rfl, hlen, rfl, hca⟩
    · cases h0
    rw [if_neg (by rw [w2.2.1]; decide)] at m3
    intro H locs ls hM hl
    have cw : CallB R s args (jm_cn q.2.2.2.2.1) idx q2.1 q2.2.1 q2.2.2.1 none (jm_wy q2) rm mc ms n ∧ q2.1.name = "<init>" ∧ (Cond.instanceMethod q2.1).before args s = true := ⟨callB_of n hts (jm_wy_good hq2) (by unfold jm_wy; rw [w2.2.2]) hrc hrs (hts _ m2) (hts _ w1) ⟨m5, m6, jm_na_ok hq2 hn⟩ ⟨hfr, by omega⟩, w2.1, hts _ m3⟩
    have hPre : PreS s H (jm_Pc B D (.ref a :: as') h) (.ref (B.1 + a) :: as'.map (jm_v B)) := ⟨jm_Pc_blind B D _ h, fun U hU hW => ⟨rfl, by rw [hU]; exact hM.1, by rw [hU]; exact hM.2.1, va_K.moved hW.alike hK, jm_Z.warm hW hZ, hSS.to hM.2.2 hU hW⟩⟩
    refine jm_after hM hl (va_runI hfix hMet cw hPre rfl (by rw [List.length_map]; exact hlen) hl.1 ?_ ?_ hd hc) k
    · show (as'.reverse ++ Value.ref a :: r).map (jm_v B) = (as'.map (jm_v B)).reverse ++ .ref (B.1 + a) :: r.map (jm_v B)
      rw [List.map_append, List.map_reverse]; rfl
    · exact lv_room (by rw [jm_cs_v]; exact hr8)
  · obtain ⟨q2, n, e1, hq2, hn, hr8, has, hw, hsh⟩ := jm_call_ok hcl
    refine ⟨q2, hq2, has, fun rm v h2 hrc hrs hfr hlo hMet hc k => ?_⟩
    obtain ⟨m1, m2, m3, m4, m5, m6, m7, m8⟩ := jm_m_ok hq2
    have hnest := jm_nest_ok e1 hq2
    obtain ⟨w1, w2⟩ := hw
    rw [if_neg (by decide), if_neg (by decide)] at w2
    rcases hsh with ⟨h0, -⟩ | ⟨-, a, as', fs, rfl, hlen, rfl, hca⟩
    · cases h0
    rw [if_neg (by rw [w2.2.1]; decide)] at m3
    intro H locs ls hM hl
    have cw : va_CN R s args (jm_cn q.2.2.2.2.1) idx q2.1 "OneWayTown" q2.2.1 q2.2.2.1 none (jm_wy q2) rm mc ms n ∧ q2.1.name = "<init>" ∧ (Cond.instanceMethod q2.1).before args s = true := ⟨va_cnB n hts (jm_wy_good hq2) (by unfold jm_wy; rw [w2.2.2]) hrc hrs (hZ.1 _ hnest) (hts _ m2) ⟨m5, m6, jm_na_ok hq2 hn⟩ ⟨hfr, by omega⟩, w2.1, hts _ m3⟩
    have hPre : PreS s H (jm_Pc B D (.ref a :: as') h) (.ref (B.1 + a) :: as'.map (jm_v B)) := ⟨jm_Pc_blind B D _ h, fun U hU hW => ⟨rfl, by rw [hU]; exact hM.1, by rw [hU]; exact hM.2.1, va_K.moved hW.alike hK, jm_Z.warm hW hZ, hSS.to hM.2.2 hU hW⟩⟩
    refine jm_after hM hl (va_runIN hfix hMet cw hPre rfl (by rw [List.length_map]; exact hlen) hl.1 ?_ ?_ hd hc) k
    · show (as'.reverse ++ Value.ref a :: r).map (jm_v B) = (as'.map (jm_v B)).reverse ++ .ref (B.1 + a) :: r.map (jm_v B)
      rw [List.map_append, List.map_reverse]; rfl
    · exact lv_room (by rw [jm_cs_v]; exact hr8)
end JM
/-- the contract of a method, out of what holds at its entry -/
theorem jm_met_of (l : Launch) {y : Nat} {q : jm_Y} (hq : jm_ms[y]? = some q) (D : va_G) (B : jm_E) (rm : Room) (as : List Value) (h h2 : jm_H) (v : Option Value) (mc ms : Nat) (has : jm_cs as ≤ q.2.2.1)
    (body : ∀ (p : Program) (e : Env) (s : State) (m : MethodId) (args : Array Value) (below : List Frame) (meth : Method) (c : Code), jm_X p s m args meth c q.2.1 q.2.2.2.2.1 q.2.2.1 D B (q.1.name == "<init>") q.2.2.2.1 → jm_Z s → jm_SS B s → jm_W p l e rm s m args below meth c q.2.2.1 D B 0 0 (MQ below (jm_Qc B D v h2) args s mc ms (jm_A B)) 0 (lv_args 0 as) [] h) :
    Met l q.1 (jm_wy q) rm (jm_Pc B D as h) (jm_Qc B D v h2) mc ms (jm_A B) := by
  obtain ⟨m1, m2, m3, m4, m5, m6, m7, m8⟩ := jm_m_ok hq
  refine Met.ofW (cc := q.2.1) (maxL := q.2.2.1) (ret := q.2.2.2.1) m8 rfl ?_
  intro p e s m args below meth c s₁ Bd hml hv
  obtain ⟨rfl, hP, hz, hK, hZ, hSS⟩ := hv
  have hts := atoms_spec (ws := jm_wy q) Bd.pre
  have hown : s.vm.findClass q.1.cls = some m.cls := findClass_of_methodNamed Bd.named
  have hX : jm_X p s m (as.map (jm_v B)).toArray meth c q.2.1 q.2.2.2.2.1 q.2.2.1 D B (q.1.name == "<init>") q.2.2.2.1 := ⟨Bd.exec, Bd.bytes, hml, by rw [← m4]; exact hown, fun w hw => hts w (List.mem_cons_of_mem _ hw), hK, Bd.notSynchronized, fun hi => by
    have h9 := (name_of_methodNamed Bd.named Bd.method).1
    rw [h9]; simpa using hi, Bd.returns⟩
  have hl := lv_entry (as.map (jm_v B)) (n := q.2.2.1) (by rw [jm_lgsl, jm_cs_map]; exact has)
  rw [lg_entry_eq]
  generalize (lg_sl (as.map (jm_v B)) ++ List.replicate (q.2.2.1 - (lg_sl (as.map (jm_v B))).length) Slot.unset).toArray = ls at hl ⊢
  rw [jm_lvargs] at hl
  exact body p e s m _ below meth c hX hZ hSS s.heap [] ls ⟨hP, hz, va_S.rf⟩ hl
theorem jm_sound (l : Launch) : ∀ (n d y : Nat) (S : jm_S) (nc ns : Nat) (v : Option Value) (hF : jm_H) (ncF nsF : Nat), jm_run n d y S nc ns = some (v, hF, ncF, nsF) → ∀ q, jm_ms[y]? = some q →
    ∀ (p : Program) (e : Env) (s : State) (m : MethodId) (args : Array Value) (below : List Frame) (meth : Method) (c : Code) (D : va_G) (B : jm_E), jm_X p s m args meth c q.2.1 q.2.2.2.2.1 q.2.2.1 D B (q.1.name == "<init>") q.2.2.2.1 → jm_Z s → jm_SS B s →
      jm_W p l e (jm_R d ncF nsF) s m args below meth c q.2.2.1 D B nc ns (MQ below (jm_Qc B D v hF) args s ncF nsF (jm_A B)) S.1 S.2.1 S.2.2.1 S.2.2.2 := by
  intro n
  induction n with
  | zero => intro d y S nc ns v hF ncF nsF h; cases h
  | succ n ih =>
    intro d y S nc ns v hF ncF nsF h q hq p e s m args below meth c D B X hZ hSS
    obtain ⟨pc, lv, st, h0⟩ := S
    have hR : 6 ≤ (jm_R d ncF nsF).frames ∧ 384 ≤ (jm_R d ncF nsF).locals := ⟨Nat.le_add_left 6 d, by show 384 ≤ 64 * (d + 6); omega⟩
    unfold jm_run at h
    rw [hq] at h
    dsimp only at h
    split at h
    · cases h
    · rename_i S' dc ds hs
      have hm := jm_run_mono _ _ _ _ _ _ _ _ _ _ h
      exact jm_step_ok X hZ hSS hR hs hm (ih _ _ _ _ _ _ _ _ _ h q hq p e s m args below meth c D B X hZ hSS)
    · rename_i v' hs
      cases h
      exact jm_step_ret X hs
    · rename_i y' as r hs
      split at h
      · cases h
      · rename_i d'
        split at h
        · cases h
        · rename_i v1 h1 c1 s1 h2
          have hm := jm_run_mono _ _ _ _ _ _ _ _ _ _ h
          obtain ⟨q2, hq2, has, hk⟩ := jm_step_call (l := l) (e := e) (R := jm_R (d' + 1) ncF nsF) (below := below) (cells := nc) (slots := ns) (mc := c1) (ms := s1) (Q := MQ below (jm_Qc B D v hF) args s ncF nsF (jm_A B)) X hZ hSS hs
          refine hk (jm_R d' c1 s1) v1 h1 rfl rfl (Nat.le_refl _) (by show 64 + 64 * (d' + 6) ≤ 64 * (d' + 1 + 6); omega) ?_ hm (ih _ _ _ _ _ _ _ _ _ h q hq p e s m args below meth c D B X hZ hSS)
          exact jm_met_of l hq2 D B _ as h0 h1 v1 c1 s1 has (fun p e s m args below meth c X2 hZ2 hS2 => ih _ _ _ _ _ _ _ _ _ h2 q2 hq2 p e s m args below meth c D B X2 hZ2 hS2)
/-- EVERY METHOD'S CONTRACT OUT OF A RUN of the small machine -/
theorem jm_met (l : Launch) {n d y : Nat} {as : List Value} {h h2 : jm_H} {v : Option Value} {mc ms : Nat} {q : jm_Y} (hq : jm_ms[y]? = some q) (has : jm_cs as ≤ q.2.2.1) (hr : jm_run n d y (0, lv_args 0 as, [], h) 0 0 = some (v, h2, mc, ms)) (D : va_G) (B : jm_E) :
    Met l q.1 (jm_wy q) (jm_R d mc ms) (jm_Pc B D as h) (jm_Qc B D v h2) mc ms (jm_A B) :=
  jm_met_of l hq D B _ as h h2 v mc ms has (fun p e s m args below meth c X2 hZ2 hS2 => jm_sound l _ _ _ _ _ _ _ _ _ _ hr q hq p e s m args below meth c D B X2 hZ2 hS2)
