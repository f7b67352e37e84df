/-! that what must hold ahead is enough -/
def fw_kok (T : List ai_C) (d y : Nat) (q : jm_Y) (Post : Option fw_V → fw_W → Prop) (K : fw_P → fw_L → List fw_V → fw_W → Prop) : Prop := ∀ p lv st W, fw_fit q p → K p lv st W → ∃ e p', p = e :: p' ∧ jf T d y e.1 lv st W Post
section FS
variable {T : List ai_C} {V : List (Nat × ai_C)} {G : fw_G} {R : fw_P} {ct : List (Nat × fw_X)} {hv : List Nat} {K : fw_P → fw_L → List fw_V → fw_W → Prop} {J : Prop} {Post : Option fw_V → fw_W → Prop} {d y pc t : Nat} {q : jm_Y} {o : fw_O} {p : fw_P} {lv : fw_L} {st : List fw_V} {W : fw_W} {sc : List Value} {h : jm_H} {lc : jm_L}
theorem fw_nx (hK : fw_kok T d y q Post K) (hp : fw_fit q p) (hn : ∀ e' p', p = e' :: p' → e'.1 = t) (hk : K p lv st W) : jf T d y t lv st W Post := by
  obtain ⟨e, p', rfl, h⟩ := hK p lv st W hp hk
  rw [hn e p' rfl] at h
  exact h
theorem fw_jp (hK : fw_kok T d y q Post K) (hR : fw_fit q R) (hk : K (fw_seek t R) lv st W) : jf T d y t lv st W Post := by
  obtain ⟨h1, h2⟩ := fw_seek_ok (t := t) hR
  exact fw_nx hK h1 h2 hk
theorem fw_ix {i : Int32} {z : Int} {n : Nat} (hi : i.toInt = z) (h0 : 0 ≤ z) (h1 : z < n) : jm_in i n = true ∧ i.toNatClampNeg < n ∧ i.toNatClampNeg = z.toNat := by
  have e : i.toNatClampNeg = i.toInt.toNat := rfl
  refine ⟨?_, by omega, by rw [e, hi]⟩
  unfold jm_in
  apply decide_eq_true
  rintro (q | q)
  · have := Int32.lt_iff_toInt_lt.mp q
    rw [Int32.toInt_zero] at this
    omega
  · omega
theorem fw_obj {c ci : Nat} {ts : List ai_F} (hT : fw_view T V G) (hc : fw_at V c = some (.inr (.inr (.inr (ci, ts))))) (hh : ai_gh W T h) : T[c]? = some (.inr (.inr (.inr (ci, ts)))) ∧ ∃ fs, h[c]? = some (.inr (.inr (.inr (ci, fs)))) ∧ fs.length = ts.length ∧ ∀ (i : Nat) (t : ai_F) (v : Value), ts[i]? = some t → fs[i]? = some v → ai_gf (W c i) t v := by
  have h1 := hT.1 _ (fw_at_ok hc)
  exact ⟨h1, ai_objT hh h1⟩
theorem fw_kn_b (l : Int64) : fw_kn l ≤ 3 := by
  unfold fw_kn
  repeat' split
  all_goals decide
theorem fw_fr_ok {ts : List ai_F} {c k : Nat} {K' : fw_V → Prop} {v : Value} (hw : fw_fr ts W c k K') (hf : ∀ t, ts[k]? = some t → ai_gf (W c k) t v) (hn : ∀ l : Int64, c = 352 → k = 10 → v = .long l → W 999 0 = Int32.ofNat (fw_kn l)) : ∃ a, K' a ∧ fw_v T a v := by
  unfold fw_fr at hw
  split at hw
  · rename_i lo hi e
    obtain ⟨⟨i, rfl, h1, h2⟩, h3⟩ := hf _ e
    have h4 : i = W c k := Value.int.inj h3
    have h5 : fw_g W c k = i.toInt := by rw [h4]; rfl
    exact ⟨_, hw (by omega) (by omega), i, rfl, h5.symm⟩
  · rename_i lo hi e
    obtain ⟨⟨i, rfl, h1, h2⟩, h3⟩ := hf _ e
    exact ⟨_, hw _ h1 h2, i, rfl, rfl⟩
  · rename_i j e
    obtain ⟨⟨k2, h1, rfl⟩, h3⟩ := hf _ e
    rw [List.mem_singleton] at h1
    subst h1
    exact ⟨_, hw, rfl⟩
  · rename_i js hne e
    obtain ⟨⟨k2, h1, rfl⟩, h3⟩ := hf _ e
    obtain ⟨hb, hk⟩ := fw_if_ok hw
    rw [fw_leq_ok hb] at h1
    exact ⟨_, hk, (fw_v_set rfl).mpr ⟨k2, h1, rfl⟩⟩
  · rename_i u e
    obtain ⟨⟨l, rfl⟩, h3⟩ := hf _ e
    split at hw
    · rename_i hb
      rw [Bool.and_eq_true] at hb
      have hk := hn l (Nat.eq_of_beq_eq_true hb.1) (Nat.eq_of_beq_eq_true hb.2) rfl
      have key : ∀ q : Nat, fw_kn l = q → q ≤ 3 → fw_g W 999 0 = (q : Int) ∧ fw_v T (.inr (.inr (1300 + q))) (.long l) := fun q e1 e2 => by
        refine ⟨?_, ?_⟩
        · unfold fw_g
          show (W 999 0).toInt = _
          rw [hk, e1]
          exact nI_toInt (by omega)
        · unfold fw_v
          dsimp only
          rw [show Nat.ble 1000 (1300 + q) = true from Nat.ble_eq_true_of_le (by omega)]
          refine ⟨l, rfl, ?_⟩
          unfold fw_lk
          rw [show Nat.ble 1300 (1300 + q) = true from Nat.ble_eq_true_of_le (by omega)]
          show fw_kn l + 1300 = 1300 + q
          omega
      have hb3 := fw_kn_b l
      rcases (by omega : fw_kn l = 0 ∨ fw_kn l = 1 ∨ fw_kn l = 2 ∨ fw_kn l = 3) with q | q | q | q
      · exact ⟨_, hw.1 (key 0 q (by omega)).1, (key 0 q (by omega)).2⟩
      · exact ⟨_, hw.2.1 (key 1 q (by omega)).1, (key 1 q (by omega)).2⟩
      · exact ⟨_, hw.2.2.1 (key 2 q (by omega)).1, (key 2 q (by omega)).2⟩
      · exact ⟨_, hw.2.2.2 (key 3 q (by omega)).1, (key 3 q (by omega)).2⟩
    · exact ⟨_, hw, fw_v_any T l⟩
  · exact hw.elim
theorem fw_wgf_ok {ci k : Nat} {K' : List fw_V → Prop} (hw : fw_wgf V ci k st W K') (hT : fw_view T V G) (ht : fw_t T st sc) (hh : fw_gh W T h) : ∃ c fs v rc st', sc = .ref c :: rc ∧ h[c]? = some (.inr (.inr (.inr (ci, fs)))) ∧ fs[k]? = some v ∧ K' st' ∧ fw_t T st' (v :: rc) := by
  unfold fw_wgf at hw
  split at hw
  · rename_i c r
    obtain ⟨v0, rc, rfl, e0, hr⟩ := fw_t_cons ht
    have e0 : v0 = .ref c := e0
    subst e0
    split at hw
    · rename_i cj ts hc
      split at hw
      · rename_i hb
        have e : cj = ci := Nat.eq_of_beq_eq_true hb
        subst e
        obtain ⟨-, fs, h1, h2, h3⟩ := fw_obj hT hc hh.1
        have hk : k < ts.length := by
          unfold fw_fr at hw
          split at hw
          · rename_i e; exact (List.getElem?_eq_some_iff.mp e).1
          · rename_i e; exact (List.getElem?_eq_some_iff.mp e).1
          · rename_i e; exact (List.getElem?_eq_some_iff.mp e).1
          · rename_i e; exact (List.getElem?_eq_some_iff.mp e).1
          · rename_i e; exact (List.getElem?_eq_some_iff.mp e).1
          · exact hw.elim
        have hk2 : k < fs.length := by rw [h2]; exact hk
        obtain ⟨a, g1, g2⟩ := fw_fr_ok (T := T) (v := fs[k]) hw (fun t ht => h3 k t _ ht (List.getElem?_eq_getElem hk2)) (fun l e1 e2 e3 => by
          subst e1
          subst e2
          have hn := hh.2
          unfold fw_nm at hn
          rw [h1] at hn
          dsimp only at hn
          rw [List.getElem?_eq_getElem hk2, e3] at hn
          exact hn)
        exact ⟨c, fs, fs[k], rc, _, rfl, h1, List.getElem?_eq_getElem hk2, g1, g2, hr⟩
      · exact hw.elim
    · exact hw.elim
  · rename_i c r
    obtain ⟨hb, hw⟩ := fw_if_ok hw
    obtain ⟨v0, rc, rfl, e0, hr⟩ := fw_t_cons ht
    obtain ⟨k2, hk2, rfl⟩ := (fw_v_set hb).mp e0
    unfold fw_wgs at hw
    split at hw
    · exact hw.elim
    · rename_i k0 l hss
      split at hw
      · rename_i cj0 ts0 hc0
        split at hw
        · rename_i lo hi b0 ht0
          obtain ⟨ha, hK⟩ := fw_if_ok hw
          rw [Bool.and_eq_true, List.all_eq_true] at ha
          have hf : fw_sf V ci k lo hi k2 = true := by
            rw [hss] at hk2
            rcases List.mem_cons.mp hk2 with rfl | hm
            · exact ha.1
            · exact ha.2 k2 hm
          unfold fw_sf at hf
          split at hf
          · rename_i cj ts hc
            rw [Bool.and_eq_true] at hf
            have e : cj = ci := Nat.eq_of_beq_eq_true hf.1
            subst e
            have hf2 := hf.2
            split at hf2
            · rename_i l1 h1 b1 htk
              have he := of_decide_eq_true hf2
              rw [he.1, he.2] at htk
              obtain ⟨-, fs, q1, q2, q3⟩ := fw_obj hT hc hh.1
              have hkl : k < fs.length := by rw [q2]; exact (List.getElem?_eq_some_iff.mp htk).1
              obtain ⟨⟨i, hi2, r1, r2⟩, -⟩ := q3 k _ _ htk (List.getElem?_eq_getElem hkl)
              exact ⟨k2, fs, fs[k], rc, _, rfl, q1, List.getElem?_eq_getElem hkl, hK _ r1 r2, ⟨i, hi2, rfl⟩, hr⟩
            · cases hf2
          · cases hf
        · exact hw.elim
      · exact hw.elim
  · exact hw.elim
theorem fw_up_ne {c c' i' : Nat} {i z : Int} (hc : c' ≠ c) : fw_up W c i z c' i' = W c' i' := if_neg (fun e => hc e.1)
theorem fw_up_nx {c i' : Nat} {i z : Int} (hc : i' ≠ i.toNat) : fw_up W c i z c i' = W c i' := if_neg (fun e => hc e.2)
theorem fw_up_at {c : Nat} {i z : Int} : fw_up W c i z c i.toNat = Int32.ofInt z := if_pos ⟨rfl, rfl⟩
theorem fw_gh_up {c : Nat} {x : ai_C} {c1 : jm_C} {i z : Int} (hh : ai_gh W T h) (hc : T[c]? = some x) (hg : ai_gcell (fw_up W c i z c) x c1) : ai_gh (fw_up W c i z) T (h.set c c1) := by
  refine ⟨by rw [List.length_set]; exact hh.1, fun k y d h1 h2 => ?_⟩
  by_cases e : k = c
  · subst e
    rw [hc] at h1
    cases h1
    have hl : k < h.length := by rw [hh.1]; exact (List.getElem?_eq_some_iff.mp hc).1
    rw [List.getElem?_set_self hl] at h2
    cases h2
    exact hg
  · rw [List.getElem?_set_ne (Ne.symm e)] at h2
    have h3 : fw_up W c i z k = W k := funext (fun i' => fw_up_ne e)
    rw [h3]
    exact hh.2 k y d h1 h2
theorem fw_nm_cell {c : Nat} {x : jm_C} (hn : fw_nm W h) (hx : ∀ y, x ≠ .inr (.inr (.inr y))) : fw_nm W (h.set c x) := by
  unfold fw_nm at hn ⊢
  by_cases e : c = 352
  · subst e
    by_cases hl : 352 < h.length
    · rw [List.getElem?_set_self hl]
      rcases x with x | x | x | x
      · trivial
      · trivial
      · trivial
      · exact absurd rfl (hx x)
    · rw [List.getElem?_eq_none (by rw [List.length_set]; omega)]
      trivial
  · rw [List.getElem?_set_ne e]
    exact hn
theorem fw_nm_int {c ci k : Nat} {fs : List Value} {i : Int32} (hn : fw_nm W h) (h1 : h[c]? = some (.inr (.inr (.inr (ci, fs))))) : fw_nm W (h.set c (.inr (.inr (.inr (ci, fs.set k (.int i)))))) := by
  unfold fw_nm at hn ⊢
  by_cases e : c = 352
  · subst e
    rw [List.getElem?_set_self (List.getElem?_eq_some_iff.mp h1).1]
    dsimp only
    rw [h1] at hn
    dsimp only at hn
    by_cases e2 : k = 10
    · subst e2
      by_cases hl : 10 < fs.length
      · rw [List.getElem?_set_self hl]
        trivial
      · rw [List.getElem?_eq_none (by rw [List.length_set]; omega)]
        trivial
    · rw [List.getElem?_set_ne e2]
      exact hn
  · rw [List.getElem?_set_ne e]
    exact hn
theorem fw_nm_ref {c ci k j : Nat} {fs : List Value} (hn : fw_nm W h) (h1 : h[c]? = some (.inr (.inr (.inr (ci, fs))))) : fw_nm W (h.set c (.inr (.inr (.inr (ci, fs.set k (.ref j)))))) := by
  unfold fw_nm at hn ⊢
  by_cases e : c = 352
  · subst e
    rw [List.getElem?_set_self (List.getElem?_eq_some_iff.mp h1).1]
    dsimp only
    rw [h1] at hn
    dsimp only at hn
    by_cases e2 : k = 10
    · subst e2
      by_cases hl : 10 < fs.length
      · rw [List.getElem?_set_self hl]
        trivial
      · rw [List.getElem?_eq_none (by rw [List.length_set]; omega)]
        trivial
    · rw [List.getElem?_set_ne e2]
      exact hn
  · rw [List.getElem?_set_ne e]
    exact hn
theorem fw_nm_lg {c ci k : Nat} {fs : List Value} {l : Int64} (hn : fw_nm W h) (h1 : h[c]? = some (.inr (.inr (.inr (ci, fs))))) (hc : ¬ (c = 352 ∧ k = 10)) : fw_nm W (h.set c (.inr (.inr (.inr (ci, fs.set k (.long l)))))) := by
  unfold fw_nm at hn ⊢
  by_cases e : c = 352
  · subst e
    rw [List.getElem?_set_self (List.getElem?_eq_some_iff.mp h1).1]
    dsimp only
    rw [h1] at hn
    dsimp only at hn
    rw [List.getElem?_set_ne (fun z => hc ⟨rfl, z⟩)]
    exact hn
  · rw [List.getElem?_set_ne e]
    exact hn
theorem fw_nm_nw {c ci k : Nat} {fs : List Value} {l : Int64} (h1 : h[c]? = some (.inr (.inr (.inr (ci, fs))))) (hk : k < fs.length) (hc : c = 352 ∧ k = 10) : fw_nm (fw_up W 999 0 (fw_kn l)) (h.set c (.inr (.inr (.inr (ci, fs.set k (.long l)))))) := by
  obtain ⟨e1, e2⟩ := hc
  subst e1
  subst e2
  unfold fw_nm
  rw [List.getElem?_set_self (List.getElem?_eq_some_iff.mp h1).1]
  dsimp only
  rw [List.getElem?_set_self hk]
  show (if (999 : Nat) = 999 ∧ (0 : Nat) = (0 : Int).toNat then Int32.ofInt ((fw_kn l : Nat) : Int) else W 999 0) = _
  rw [if_pos ⟨rfl, rfl⟩]
  rfl
theorem fw_nm_up {c : Nat} {i z : Int} (hn : fw_nm W h) (hc : c ≠ 999) : fw_nm (fw_up W c i z) h := by
  have e : fw_up W c i z 999 0 = W 999 0 := fw_up_ne (fun e => hc e.symm)
  unfold fw_nm at hn ⊢
  rw [e]
  exact hn
theorem fw_gh_999 {z : Int} (hT : T.length ≤ 900) (hh : ai_gh W T h) : ai_gh (fw_up W 999 0 z) T h := by
  refine ⟨hh.1, fun k a c ha hc => ?_⟩
  have hk : k < T.length := (List.getElem?_eq_some_iff.mp ha).1
  have e : fw_up W 999 0 z k = W k := funext (fun i => fw_up_ne (by omega))
  rw [e]
  exact hh.2 k a c ha hc
theorem fw_lt {c : Nat} {x : ai_C} (hT : fw_view T V G) (h : T[c]? = some x) : c ≠ 999 := by
  have h1 := (List.getElem?_eq_some_iff.mp h).1
  have h2 := hT.2.2
  omega
theorem fw_ofi {i : Int32} {z : Int} (h : i.toInt = z) : Int32.ofInt z = i := by rw [← h]; exact Int32.ofInt_toInt i
theorem fw_wpf_ok {ci k : Nat} {K' : List fw_V → fw_W → Prop} (hw : fw_wpf V ci k st W K') (hT : fw_view T V G) (ht : fw_t T st sc) (hh : fw_gh W T h) : ∃ (c : Nat) (fs : List Value) (i : Int32) (rc : List Value) (W' : fw_W) (r : List fw_V), sc = .int i :: .ref c :: rc ∧ st = .inl i.toInt :: .inr (.inl c) :: r ∧ h[c]? = some (.inr (.inr (.inr (ci, fs)))) ∧ k < fs.length ∧ K' r W' ∧ fw_t T r rc ∧ fw_gh W' T (h.set c (.inr (.inr (.inr (ci, fs.set k (.int i)))))) := by
  unfold fw_wpf at hw
  split at hw
  · rename_i z c r
    obtain ⟨i, rc1, rfl, hi, ht1⟩ := fw_t_i ht
    subst hi
    obtain ⟨v0, rc, rfl, e0, hr⟩ := fw_t_cons ht1
    have e0 : v0 = .ref c := e0
    subst e0
    split at hw
    · rename_i cj ts hc
      split at hw
      · rename_i hb
        have e : cj = ci := Nat.eq_of_beq_eq_true hb
        subst e
        obtain ⟨h0, fs, h1, h2, h3⟩ := fw_obj hT hc hh.1
        unfold fw_fs at hw
        split at hw
        · rename_i lo hi e
          have hk : k < fs.length := by rw [h2]; exact (List.getElem?_eq_some_iff.mp e).1
          refine ⟨c, fs, i, rc, _, r, rfl, rfl, h1, hk, hw.2.2, hr, fw_gh_up hh.1 h0 ⟨rfl, by rw [List.length_set]; exact h2, fun j t v e1 e2 => ?_⟩, fw_nm_up (fw_nm_int hh.2 h1) (fw_lt hT h0)⟩
          by_cases hj : j = k
          · subst hj
            rw [e] at e1
            cases e1
            rw [List.getElem?_set_self hk] at e2
            cases e2
            refine ⟨⟨i, rfl, hw.1, hw.2.1⟩, ?_⟩
            have h5 : fw_up W c (j : Int) i.toInt c j = i := by
              have := @fw_up_at W c (j : Int) i.toInt
              rw [Int.toNat_natCast] at this
              rw [this]
              exact Int32.ofInt_toInt i
            show Value.int i = Value.int _
            rw [h5]
          · rw [List.getElem?_set_ne (Ne.symm hj)] at e2
            rw [fw_up_nx (by rw [Int.toNat_natCast]; exact hj)]
            exact h3 j t v e1 e2
        · rename_i lo hi e
          have hk : k < fs.length := by rw [h2]; exact (List.getElem?_eq_some_iff.mp e).1
          refine ⟨c, fs, i, rc, _, r, rfl, rfl, h1, hk, hw.2.2, hr, ai_gh_set hh.1 h0 ⟨rfl, by rw [List.length_set]; exact h2, fun j t v e1 e2 => ?_⟩, fw_nm_int hh.2 h1⟩
          by_cases hj : j = k
          · subst hj
            rw [e] at e1
            cases e1
            rw [List.getElem?_set_self hk] at e2
            cases e2
            exact ⟨⟨i, rfl, hw.1, hw.2.1⟩, trivial⟩
          · rw [List.getElem?_set_ne (Ne.symm hj)] at e2
            exact h3 j t v e1 e2
        · exact hw.elim
      · exact hw.elim
    · exact hw.elim
  · exact hw.elim
theorem fw_arr {c n : Nat} {lo hi : Int} {b : Bool} {ft : FieldType} (h1 : T[c]? = some (.inl (ft, n, lo, hi, b))) (hh : ai_gh W T h) : ∃ f, h[c]? = some (.inl (ft, n, f)) ∧ (∀ i, i < n → lo ≤ (f i).toInt ∧ (f i).toInt ≤ hi) ∧ (b = true → ∀ i, i < n → f i = W c i) := by
  obtain ⟨x, g1, g2⟩ := ai_gh_at hh h1
  unfold ai_gcell at g2
  split at g2
  · rename_i e
    cases e
    obtain ⟨rfl, rfl, g3, g4⟩ := g2
    exact ⟨_, g1, g3, g4⟩
  · rename_i e; cases e
  · rename_i e; cases e
  · rename_i e; cases e
  · exact g2.elim
/-- a place of a known array, read -/
theorem fw_rd1 {c n : Nat} {lo hi : Int} {ft : FieldType} {i : Int32} (h1 : T[c]? = some (.inl (ft, n, lo, hi, true))) (hh : ai_gh W T h) (h2 : 0 ≤ i.toInt) (h3 : i.toInt < n) : ∃ f, h[c]? = some (.inl (ft, n, f)) ∧ jm_in i n = true ∧ lo ≤ fw_g W c i.toInt ∧ fw_g W c i.toInt ≤ hi ∧ (f i.toNatClampNeg).toInt = fw_g W c i.toInt := by
  obtain ⟨f, g1, g2, g3⟩ := fw_arr h1 hh
  obtain ⟨w1, w2, w3⟩ := fw_ix rfl h2 h3
  have g4 := g2 _ w2
  have g5 : (f i.toNatClampNeg).toInt = fw_g W c i.toInt := by rw [g3 rfl _ w2, w3]; rfl
  exact ⟨f, g1, w1, by omega, by omega, g5⟩
theorem fw_row {c m n : Nat} {lo hi : Int} {v : Value} (hT : fw_view T V G) (hc : fw_at G c = some (m, n, lo, hi)) (hv : fw_v T (.inr (.inr c)) v) : ∃ k, v = .ref k ∧ T[k]? = some (.inl (.int, n, lo, hi, false)) := by
  obtain ⟨t, es, g1, g2, g3, g4, g5⟩ := hT.2.1 _ (fw_at_ok hc)
  obtain ⟨g5, g6⟩ := g5
  unfold fw_v at hv
  dsimp only at hv
  rw [fw_b5 (fw_b4 g6)] at hv
  dsimp only at hv
  rw [fw_b4 g6] at hv
  dsimp only at hv
  rw [g6] at hv
  obtain ⟨t2, es2, k, e1, e2, e3⟩ := hv
  rw [g1] at e1
  cases e1
  exact ⟨k, e3, g5 k e2⟩
theorem fw_wal_ok {K' : List fw_V → Prop} (hw : fw_wal V G st W K') (hT : fw_view T V G) (ht : fw_t T st sc) (hh : ai_gh W T h) : ∃ st' sc', jm_iald sc h = some sc' ∧ K' st' ∧ fw_t T st' sc' := by
  unfold fw_wal at hw
  split at hw
  · rename_i z c r
    obtain ⟨i, rc1, rfl, hi, ht1⟩ := fw_t_i ht
    subst hi
    obtain ⟨v0, rc, rfl, e0, hr⟩ := fw_t_cons ht1
    have e0 : v0 = .ref c := e0
    subst e0
    split at hw
    · rename_i n lo hi hc
      obtain ⟨f, g1, g2, g3, g4, g5⟩ := fw_rd1 (hT.1 _ (fw_at_ok hc)) hh hw.1 hw.2.1
      refine ⟨_, .int (f i.toNatClampNeg) :: rc, ?_, hw.2.2 g3 g4, ⟨⟨_, rfl, g5⟩, hr⟩⟩
      unfold jm_iald
      simp only [g1, g2, if_true]
    · rename_i n lo hi hc
      obtain ⟨f, g1, g2, g3⟩ := fw_arr (hT.1 _ (fw_at_ok hc)) hh
      obtain ⟨w1, w2, w3⟩ := fw_ix (i := i) rfl hw.1 hw.2.1
      have g4 := g2 _ w2
      refine ⟨_, .int (f i.toNatClampNeg) :: rc, ?_, hw.2.2 _ g4.1 g4.2, ⟨⟨_, rfl, rfl⟩, hr⟩⟩
      unfold jm_iald
      simp only [g1, w1, if_true]
    · exact hw.elim
  · rename_i z c r
    obtain ⟨i, rc1, rfl, hi, ht1⟩ := fw_t_i ht
    subst hi
    obtain ⟨v0, rc, rfl, e0, hr⟩ := fw_t_cons ht1
    split at hw
    · rename_i m n lo hi hc
      obtain ⟨k, rfl, hk⟩ := fw_row hT hc e0
      obtain ⟨f, g1, g2, g3⟩ := fw_arr hk hh
      obtain ⟨w1, w2, w3⟩ := fw_ix (i := i) rfl hw.1 hw.2.1
      have g4 := g2 _ w2
      refine ⟨_, .int (f i.toNatClampNeg) :: rc, ?_, hw.2.2 _ g4.1 g4.2, ⟨⟨_, rfl, rfl⟩, hr⟩⟩
      unfold jm_iald
      simp only [g1, w1, if_true]
    · exact hw.elim
  · exact hw.elim
theorem fw_ga1 {c n : Nat} {lo hi : Int} {ft : FieldType} {f : Nat → Int32} {i x : Int32} (h1 : T[c]? = some (.inl (ft, n, lo, hi, false))) (hh : ai_gh W T h) (hf : ∀ i, i < n → lo ≤ (f i).toInt ∧ (f i).toInt ≤ hi) (hx : lo ≤ x.toInt ∧ x.toInt ≤ hi) : ai_gh W T (h.set c (.inl (ft, n, upd f i.toNatClampNeg x))) := by
  refine ai_gh_set hh h1 ⟨rfl, rfl, fun k hk => ?_, fun hb => by cases hb⟩
  by_cases e : k = i.toNatClampNeg
  · subst e
    rw [pk_us]
    exact hx
  · rw [pk_un e]
    exact hf k hk
theorem fw_ga2 {c n : Nat} {lo hi : Int} {ft : FieldType} {f : Nat → Int32} {i x : Int32} (h1 : T[c]? = some (.inl (ft, n, lo, hi, true))) (hh : ai_gh W T h) (hf : ∀ i, i < n → lo ≤ (f i).toInt ∧ (f i).toInt ≤ hi) (hg : ∀ i, i < n → f i = W c i) (hx : lo ≤ x.toInt ∧ x.toInt ≤ hi) (hi : i.toNatClampNeg = i.toInt.toNat) : ai_gh (fw_up W c i.toInt x.toInt) T (h.set c (.inl (ft, n, upd f i.toNatClampNeg x))) := by
  refine fw_gh_up hh h1 ⟨rfl, rfl, fun k hk => ?_, fun _ k hk => ?_⟩
  · by_cases e : k = i.toNatClampNeg
    · subst e
      rw [pk_us]
      exact hx
    · rw [pk_un e]
      exact hf k hk
  · by_cases e : k = i.toNatClampNeg
    · subst e
      rw [pk_us, hi, fw_up_at]
      exact (Int32.ofInt_toInt x).symm
    · rw [pk_un e, fw_up_nx (by rw [← hi]; exact e)]
      exact hg k hk
theorem fw_was_ok {K' : List fw_V → fw_W → Prop} (hw : fw_was V G st W K') (hT : fw_view T V G) (ht : fw_t T st sc) (hh : fw_gh W T h) : ∃ st' W' sc' h', jm_iast sc h = some (sc', h') ∧ K' st' W' ∧ fw_t T st' sc' ∧ fw_gh W' T h' := by
  unfold fw_was at hw
  split at hw
  · rename_i z j c r
    obtain ⟨x, rc0, rfl, hx, ht0⟩ := fw_t_i ht
    subst hx
    obtain ⟨i, rc1, rfl, hi, ht1⟩ := fw_t_i ht0
    subst hi
    obtain ⟨v0, rc, rfl, e0, hr⟩ := fw_t_cons ht1
    have e0 : v0 = .ref c := e0
    subst e0
    split at hw
    · rename_i n lo hi hc
      have hc := hT.1 _ (fw_at_ok hc)
      obtain ⟨f, g1, g2, g3⟩ := fw_arr hc hh.1
      obtain ⟨w1, w2, w3⟩ := fw_ix (i := i) rfl hw.1 hw.2.1
      refine ⟨r, _, rc, _, ?_, hw.2.2.2.2, hr, fw_ga2 (i := i) (x := x) hc hh.1 g2 (g3 rfl) ⟨hw.2.2.1, hw.2.2.2.1⟩ w3, fw_nm_up (fw_nm_cell hh.2 (fun y e => by cases e)) (fw_lt hT hc)⟩
      unfold jm_iast
      simp only [g1, w1, if_true]
    · rename_i n lo hi hc
      have hc := hT.1 _ (fw_at_ok hc)
      obtain ⟨f, g1, g2, g3⟩ := fw_arr hc hh.1
      obtain ⟨w1, w2, w3⟩ := fw_ix (i := i) rfl hw.1 hw.2.1
      refine ⟨r, _, rc, _, ?_, hw.2.2.2.2, hr, fw_ga1 (i := i) (x := x) hc hh.1 g2 ⟨hw.2.2.1, hw.2.2.2.1⟩, fw_nm_cell hh.2 (fun y e => by cases e)⟩
      unfold jm_iast
      simp only [g1, w1, if_true]
    · exact hw.elim
  · rename_i z j c r
    obtain ⟨x, rc0, rfl, hx, ht0⟩ := fw_t_i ht
    subst hx
    obtain ⟨i, rc1, rfl, hi, ht1⟩ := fw_t_i ht0
    subst hi
    obtain ⟨v0, rc, rfl, e0, hr⟩ := fw_t_cons ht1
    split at hw
    · rename_i m n lo hi hc
      obtain ⟨k, rfl, hk⟩ := fw_row hT hc e0
      obtain ⟨f, g1, g2, g3⟩ := fw_arr hk hh.1
      obtain ⟨w1, w2, w3⟩ := fw_ix (i := i) rfl hw.1 hw.2.1
      refine ⟨r, _, rc, _, ?_, hw.2.2.2.2, hr, fw_ga1 (i := i) (x := x) hk hh.1 g2 ⟨hw.2.2.1, hw.2.2.2.1⟩, fw_nm_cell hh.2 (fun y e => by cases e)⟩
      unfold jm_iast
      simp only [g1, w1, if_true]
    · exact hw.elim
  · exact hw.elim
theorem fw_wbl_ok {K' : List fw_V → Prop} (hw : fw_wbl V st W K') (hT : fw_view T V G) (ht : fw_t T st sc) (hh : ai_gh W T h) : ∃ st' sc', jm_bald sc h = some sc' ∧ K' st' ∧ fw_t T st' sc' := by
  unfold fw_wbl at hw
  split at hw
  · rename_i z c r
    obtain ⟨i, rc1, rfl, hi, ht1⟩ := fw_t_i ht
    subst hi
    obtain ⟨v0, rc, rfl, e0, hr⟩ := fw_t_cons ht1
    have e0 : v0 = .ref c := e0
    subst e0
    split at hw
    · rename_i n lo hi hc
      obtain ⟨f, g1, g2, g3, g4, g5⟩ := fw_rd1 (hT.1 _ (fw_at_ok hc)) hh hw.1 hw.2.1
      refine ⟨_, .int (f i.toNatClampNeg) :: rc, ?_, hw.2.2 g3 g4, ⟨⟨_, rfl, g5⟩, hr⟩⟩
      unfold jm_bald
      simp only [g1, g2, if_true]
    · rename_i n lo hi hc
      obtain ⟨f, g1, g2, g3⟩ := fw_arr (hT.1 _ (fw_at_ok hc)) hh
      obtain ⟨w1, w2, w3⟩ := fw_ix (i := i) rfl hw.1 hw.2.1
      have g4 := g2 _ w2
      refine ⟨_, .int (f i.toNatClampNeg) :: rc, ?_, hw.2.2 _ g4.1 g4.2, ⟨⟨_, rfl, rfl⟩, hr⟩⟩
      unfold jm_bald
      simp only [g1, w1, if_true]
    · rename_i n lo hi hc
      obtain ⟨f, g1, g2, g3, g4, g5⟩ := fw_rd1 (hT.1 _ (fw_at_ok hc)) hh hw.1 hw.2.1
      refine ⟨_, .int (f i.toNatClampNeg) :: rc, ?_, hw.2.2 g3 g4, ⟨⟨_, rfl, g5⟩, hr⟩⟩
      unfold jm_bald
      simp only [g1, g2, if_true]
    · exact hw.elim
  · exact hw.elim
theorem fw_nz {x : Int32} (h0 : 0 ≤ x.toInt) (h1 : x.toInt ≤ 1) : vp_nar .boolean x = x := by
  have h5 : x.toInt = 0 ∨ x.toInt = 1 := by omega
  rcases h5 with h5 | h5
  · have e : x = 0 := Int32.toInt_inj.mp (by rw [h5]; rfl)
    subst e; rfl
  · have e : x = 1 := Int32.toInt_inj.mp (by rw [h5]; rfl)
    subst e; rfl
theorem fw_nb {x : Int32} (h0 : -128 ≤ x.toInt) (h1 : x.toInt ≤ 127) : vp_nar .byte x = x := by
  rw [vp_nar_byte]
  apply Int32.toInt_inj.mp
  rw [Int8.toInt_toInt32, Int32.toInt_toInt8]
  exact Int.bmod_eq_of_le (by omega) (by omega)
theorem fw_wbs_ok {K' : List fw_V → fw_W → Prop} (hw : fw_wbs V st W K') (hT : fw_view T V G) (ht : fw_t T st sc) (hh : fw_gh W T h) : ∃ st' W' sc' h', jm_bast sc h = some (sc', h') ∧ K' st' W' ∧ fw_t T st' sc' ∧ fw_gh W' T h' := by
  unfold fw_wbs at hw
  split at hw
  · rename_i z j c r
    obtain ⟨x, rc0, rfl, hx, ht0⟩ := fw_t_i ht
    subst hx
    obtain ⟨i, rc1, rfl, hi, ht1⟩ := fw_t_i ht0
    subst hi
    obtain ⟨v0, rc, rfl, e0, hr⟩ := fw_t_cons ht1
    have e0 : v0 = .ref c := e0
    subst e0
    split at hw
    · rename_i n lo hi hc
      have hc := hT.1 _ (fw_at_ok hc)
      obtain ⟨b1, b2, b3, b4, b5, b6, b7⟩ := hw
      obtain ⟨f, g1, g2, g3⟩ := fw_arr hc hh.1
      obtain ⟨w1, w2, w3⟩ := fw_ix (i := i) rfl b1 b2
      refine ⟨r, _, rc, _, ?_, b7, hr, fw_ga2 (i := i) (x := x) hc hh.1 g2 (g3 rfl) ⟨b5, b6⟩ w3, fw_nm_up (fw_nm_cell hh.2 (fun y e => by cases e)) (fw_lt hT hc)⟩
      unfold jm_bast
      simp only [g1, w1, if_true, fw_nz b3 b4]
    · rename_i n lo hi hc
      have hc := hT.1 _ (fw_at_ok hc)
      obtain ⟨b1, b2, b3, b4, b5, b6, b7⟩ := hw
      obtain ⟨f, g1, g2, g3⟩ := fw_arr hc hh.1
      obtain ⟨w1, w2, w3⟩ := fw_ix (i := i) rfl b1 b2
      refine ⟨r, _, rc, _, ?_, b7, hr, fw_ga1 (i := i) (x := x) hc hh.1 g2 ⟨b5, b6⟩, fw_nm_cell hh.2 (fun y e => by cases e)⟩
      unfold jm_bast
      simp only [g1, w1, if_true, fw_nz b3 b4]
    · rename_i n lo hi hc
      have hc := hT.1 _ (fw_at_ok hc)
      obtain ⟨b1, b2, b3, b4, b5, b6, b7⟩ := hw
      obtain ⟨f, g1, g2, g3⟩ := fw_arr hc hh.1
      obtain ⟨w1, w2, w3⟩ := fw_ix (i := i) rfl b1 b2
      refine ⟨r, _, rc, _, ?_, b7, hr, fw_ga2 (i := i) (x := x) hc hh.1 g2 (g3 rfl) ⟨b5, b6⟩ w3, fw_nm_up (fw_nm_cell hh.2 (fun y e => by cases e)) (fw_lt hT hc)⟩
      unfold jm_bast
      simp only [g1, w1, if_true, fw_nb b3 b4]
    · exact hw.elim
  · exact hw.elim
theorem fw_waa_ok {K' : List fw_V → Prop} (hw : fw_waa V G st K') (hT : fw_view T V G) (ht : fw_t T st sc) (hh : ai_gh W T h) : ∃ st' sc', jm_aald sc h = some sc' ∧ K' st' ∧ fw_t T st' sc' := by
  unfold fw_waa at hw
  split at hw
  · rename_i z c r
    obtain ⟨i, rc1, rfl, hi, ht1⟩ := fw_t_i ht
    subst hi
    obtain ⟨v0, rc, rfl, e0, hr⟩ := fw_t_cons ht1
    have e0 : v0 = .ref c := e0
    subst e0
    split at hw
    · rename_i m n lo hi hc
      obtain ⟨t, es, g1, g2, g3, g4, g5⟩ := hT.2.1 _ (fw_at_ok hc)
      obtain ⟨f, q1, q2⟩ := ai_rarr hh g1
      have g4 : es.length = m := g4
      obtain ⟨w1, w2, w3⟩ := fw_ix (i := i) (n := es.length) rfl hw.1 (by rw [g4]; exact hw.2.1)
      have hf := q2 _ w2
      rw [List.getElem?_eq_getElem w2] at hf
      have hb4 : Nat.ble 400 c = false := g5.2
      have hb5 := fw_b4 hb4
      have hb := fw_b5 hb5
      have hk := hw.2.2
      refine ⟨_, .ref (es[i.toNatClampNeg]'w2) :: rc, ?_, hk, ⟨?_, hr⟩⟩
      · unfold jm_aald
        simp only [q1, w1, g2, g3, and_self, if_true, hf]
      · unfold fw_v
        dsimp only
        rw [hb]
        dsimp only
        rw [hb5]
        dsimp only
        rw [hb4]
        exact ⟨t, es, _, g1, List.getElem_mem w2, rfl⟩
    · split at hw
      · rename_i t es hc
        obtain ⟨f, q1, q2⟩ := ai_rarr hh (hT.1 _ (fw_at_ok hc))
        obtain ⟨w1, w2, w3⟩ := fw_ix (i := i) (n := es.length) rfl hw.1 hw.2.1
        have hf := q2 _ w2
        rw [List.getElem?_eq_getElem w2] at hf
        obtain ⟨hb, hk⟩ := fw_if_ok hw.2.2
        rw [Bool.and_eq_true] at hb
        refine ⟨_, .ref (es[i.toNatClampNeg]'w2) :: rc, ?_, fw_all_ok hk _ (List.getElem_mem w2), ⟨rfl, hr⟩⟩
        unfold jm_aald
        simp only [q1, w1, hb.1, hb.2, and_self, if_true, hf]
      · exact hw.elim
  · exact hw.elim
/-- longs -/
theorem fw_lg_ok {K' : Nat → List fw_V → Prop} (hw : fw_lg st K') (ht : fw_t T st sc) : ∃ c r l rc, st = .inr (.inr c) :: r ∧ sc = .long l :: rc ∧ Nat.ble 1000 c = true ∧ fw_lk c l ∧ fw_t T r rc ∧ K' c r := by
  unfold fw_lg at hw
  split at hw
  · rename_i c r
    obtain ⟨hb, hk⟩ := fw_if_ok hw
    obtain ⟨v, rc, rfl, g, hr⟩ := fw_t_cons ht
    obtain ⟨-, l, rfl, hl⟩ := fw_v_lg g hb
    exact ⟨c, r, l, rc, rfl, rfl, hb, hl, hr, hk⟩
  · exact hw.elim
theorem fw_wpl_ok {ci k : Nat} {K' : List fw_V → fw_W → Prop} (hw : fw_wpl V ci k st W K') (hT : fw_view T V G) (ht : fw_t T st sc) (hh : fw_gh W T h) : ∃ (c : Nat) (fs : List Value) (l : Int64) (rc : List Value) (r : List fw_V) (W' : fw_W), sc = .long l :: .ref c :: rc ∧ h[c]? = some (.inr (.inr (.inr (ci, fs)))) ∧ k < fs.length ∧ K' r W' ∧ fw_t T r rc ∧ fw_gh W' T (h.set c (.inr (.inr (.inr (ci, fs.set k (.long l)))))) := by
  unfold fw_wpl at hw
  split at hw
  · rename_i b c r
    obtain ⟨v, rc1, rfl, g, ht1⟩ := fw_t_cons ht
    obtain ⟨v0, rc, rfl, e0, hr⟩ := fw_t_cons ht1
    have e0 : v0 = .ref c := e0
    subst e0
    split at hw
    · rename_i cj ts hc
      obtain ⟨hb, hk⟩ := fw_if_ok hw
      rw [Bool.and_eq_true] at hb
      have e : cj = ci := Nat.eq_of_beq_eq_true hb.2
      subst e
      obtain ⟨-, l, rfl, -⟩ := fw_v_lg g hb.1
      obtain ⟨h0, fs, h1, h2, h3⟩ := fw_obj hT hc hh.1
      split at hk
      · rename_i u e
        have hk2 : k < fs.length := by rw [h2]; exact (List.getElem?_eq_some_iff.mp e).1
        have hg : ai_gh W T (h.set c (.inr (.inr (.inr (cj, fs.set k (.long l)))))) := ai_gh_set hh.1 h0 ⟨rfl, by rw [List.length_set]; exact h2, fun j t v e1 e2 => by
          by_cases ej : k = j
          · subst ej
            rw [List.getElem?_set_self hk2] at e2
            rw [e] at e1
            cases e1
            cases e2
            exact ⟨⟨l, rfl⟩, trivial⟩
          · rw [List.getElem?_set_ne ej] at e2
            exact h3 j t v e1 e2⟩
        split at hk
        · rename_i hb2
          rw [Bool.and_eq_true] at hb2
          have hb3 := fw_kn_b l
          exact ⟨c, fs, l, rc, r, _, rfl, h1, hk2, hk (fw_kn l : Int) (by omega) (by omega), hr, fw_gh_999 hT.2.2 hg, fw_nm_nw h1 hk2 ⟨Nat.eq_of_beq_eq_true hb2.1, Nat.eq_of_beq_eq_true hb2.2⟩⟩
        · rename_i hb2
          refine ⟨c, fs, l, rc, r, _, rfl, h1, hk2, hk, hr, hg, fw_nm_lg hh.2 h1 (fun z => ?_)⟩
          rw [z.1, z.2] at hb2
          cases hb2
      · exact hk.elim
    · exact hw.elim
  · exact hw.elim
theorem fw_wpr_ok {ci k : Nat} {K' : List fw_V → Prop} (hw : fw_wpr V ci k st K') (hT : fw_view T V G) (ht : fw_t T st sc) (hh : fw_gh W T h) : ∃ (c : Nat) (fs : List Value) (j : Nat) (rc : List Value) (r : List fw_V), sc = .ref j :: .ref c :: rc ∧ h[c]? = some (.inr (.inr (.inr (ci, fs)))) ∧ k < fs.length ∧ K' r ∧ fw_t T r rc ∧ fw_gh W T (h.set c (.inr (.inr (.inr (ci, fs.set k (.ref j)))))) := by
  unfold fw_wpr at hw
  split at hw
  · rename_i j c r
    obtain ⟨v, rc1, rfl, g, ht1⟩ := fw_t_cons ht
    obtain ⟨v0, rc, rfl, e0, hr⟩ := fw_t_cons ht1
    have g : v = .ref j := g
    have e0 : v0 = .ref c := e0
    subst g
    subst e0
    split at hw
    · rename_i cj ts hc
      obtain ⟨hb, hk⟩ := fw_if_ok hw
      have e : cj = ci := Nat.eq_of_beq_eq_true hb
      subst e
      obtain ⟨h0, fs, h1, h2, h3⟩ := fw_obj hT hc hh.1
      split at hk
      · rename_i js e
        obtain ⟨hj, hk⟩ := fw_if_ok hk
        obtain ⟨j2, m1, m2⟩ := List.any_eq_true.mp hj
        have m2 := Nat.eq_of_beq_eq_true m2
        rw [m2] at m1
        have hk2 : k < fs.length := by rw [h2]; exact (List.getElem?_eq_some_iff.mp e).1
        refine ⟨c, fs, j, rc, r, rfl, h1, hk2, hk, hr, ai_gh_set hh.1 h0 ⟨rfl, by rw [List.length_set]; exact h2, fun i t v e1 e2 => ?_⟩, fw_nm_ref hh.2 h1⟩
        by_cases ej : k = i
        · subst ej
          rw [List.getElem?_set_self hk2] at e2
          rw [e] at e1
          cases e1
          cases e2
          exact ⟨⟨j, m1, rfl⟩, trivial⟩
        · rw [List.getElem?_set_ne ej] at e2
          exact h3 i t v e1 e2
      · exact hk.elim
    · exact hw.elim
  · exact hw.elim
theorem fw_larr {c n : Nat} (h1 : T[c]? = some (.inr (.inl n))) (hh : ai_gh W T h) : ∃ f, h[c]? = some (.inr (.inl (n, f))) := by
  have hl : c < h.length := by rw [hh.1]; exact (List.getElem?_eq_some_iff.mp h1).1
  have h2 := hh.2 c _ _ h1 (List.getElem?_eq_getElem hl)
  rw [List.getElem?_eq_getElem hl]
  cases e : h[c] with
  | inl x => rw [e] at h2; exact h2.elim
  | inr x => cases x with
    | inl y =>
      obtain ⟨n', f⟩ := y
      rw [e] at h2
      have h2 : n' = n := h2
      subst h2
      exact ⟨f, rfl⟩
    | inr y => cases y with
      | inl z => rw [e] at h2; exact h2.elim
      | inr z => rw [e] at h2; exact h2.elim
theorem fw_wll_ok {K' : List fw_V → Prop} (hw : fw_wll V st K') (hT : fw_view T V G) (ht : fw_t T st sc) (hh : ai_gh W T h) : ∃ st' sc', jm_lald sc h = some sc' ∧ K' st' ∧ fw_t T st' sc' := by
  unfold fw_wll at hw
  split at hw
  · rename_i z c r
    obtain ⟨i, rc1, rfl, hi, ht1⟩ := fw_t_i ht
    subst hi
    obtain ⟨v0, rc, rfl, e0, hr⟩ := fw_t_cons ht1
    have e0 : v0 = .ref c := e0
    subst e0
    split at hw
    · rename_i n hc
      obtain ⟨f, g1⟩ := fw_larr (hT.1 _ (fw_at_ok hc)) hh
      obtain ⟨w1, w2, w3⟩ := fw_ix (i := i) rfl hw.1 hw.2.1
      refine ⟨_, .long (f i.toNatClampNeg) :: rc, ?_, hw.2.2, ⟨fw_v_any T _, hr⟩⟩
      unfold jm_lald
      simp only [g1, w1, if_true]
    · exact hw.elim
  · exact hw.elim
theorem fw_wls_ok {K' : List fw_V → Prop} (hw : fw_wls V st K') (hT : fw_view T V G) (ht : fw_t T st sc) (hh : fw_gh W T h) : ∃ st' sc' h', jm_last sc h = some (sc', h') ∧ K' st' ∧ fw_t T st' sc' ∧ fw_gh W T h' := by
  unfold fw_wls at hw
  split at hw
  · rename_i b z c r
    obtain ⟨v, rc2, rfl, g, ht2⟩ := fw_t_cons ht
    obtain ⟨i, rc1, rfl, hi, ht1⟩ := fw_t_i ht2
    subst hi
    obtain ⟨v0, rc, rfl, e0, hr⟩ := fw_t_cons ht1
    have e0 : v0 = .ref c := e0
    subst e0
    split at hw
    · rename_i n hc
      obtain ⟨hb, hk⟩ := fw_if_ok hw
      obtain ⟨-, l, rfl, -⟩ := fw_v_lg g hb
      have h1 := hT.1 _ (fw_at_ok hc)
      obtain ⟨f, g1⟩ := fw_larr h1 hh.1
      obtain ⟨w1, w2, w3⟩ := fw_ix (i := i) rfl hk.1 hk.2.1
      refine ⟨r, rc, h.set c (.inr (.inl (n, vp_updL f i.toNatClampNeg l))), ?_, hk.2.2, hr, ai_gh_set hh.1 h1 rfl, fw_nm_cell hh.2 (fun y e => by cases e)⟩
      unfold jm_last
      simp only [g1, w1, if_true]
    · exact hw.elim
  · exact hw.elim
theorem fw_gh_cp {d s nd : Nat} {n ld hd : Int} {g : Nat → Int32} (hh : ai_gh W T h) (hc : T[d]? = some (.inl (.int, nd, ld, hd, true))) (hg : ∀ i, i < nd → ld ≤ (g i).toInt ∧ (g i).toInt ≤ hd) (he : ∀ i, i < nd → g i = if i < n.toNat then W s i else W d i) : ai_gh (fw_cp W d s n) T (h.set d (.inl (.int, nd, g))) := by
  refine ⟨by rw [List.length_set]; exact hh.1, fun k y dd h1 h2 => ?_⟩
  by_cases e : k = d
  · subst e
    rw [hc] at h1
    cases h1
    have hl : k < h.length := by rw [hh.1]; exact (List.getElem?_eq_some_iff.mp hc).1
    rw [List.getElem?_set_self hl] at h2
    cases h2
    refine ⟨rfl, rfl, hg, fun _ i hi => ?_⟩
    rw [he i hi]
    show _ = fw_cp W k s n k i
    unfold fw_cp
    by_cases c : i < n.toNat
    · rw [if_pos c, if_pos ⟨rfl, c⟩]
    · rw [if_neg c, if_neg (fun z => c z.2)]
  · rw [List.getElem?_set_ne (Ne.symm e)] at h2
    have h3 : fw_cp W d s n k = W k := funext (fun i' => if_neg (fun z => e z.1))
    rw [h3]
    exact hh.2 k y dd h1 h2
theorem fw_nm_cp {d s : Nat} {n : Int} (hn : fw_nm W h) (hc : d ≠ 999) : fw_nm (fw_cp W d s n) h := by
  have e : fw_cp W d s n 999 0 = W 999 0 := if_neg (fun z => hc z.1.symm)
  unfold fw_nm at hn ⊢
  rw [e]
  exact hn
theorem fw_wcp_ok {K' : List fw_V → fw_W → Prop} (hw : fw_wcp V st W K') (h8 : fw_ws st ≤ 13) (hT : fw_view T V G) (ht : fw_t T st sc) (hh : fw_gh W T h) : ∃ st' W' sc' h', jm_copy sc h = some (sc', h') ∧ K' st' W' ∧ fw_t T st' sc' ∧ fw_gh W' T h' := by
  unfold fw_wcp at hw
  split at hw
  · rename_i xn z2 d z1 s r
    obtain ⟨n, r1, rfl, hn, t1⟩ := fw_t_i ht
    obtain ⟨dp, r2, rfl, hdp, t2⟩ := fw_t_i t1
    obtain ⟨v0, r3, rfl, e0, t3⟩ := fw_t_cons t2
    obtain ⟨sp, r4, rfl, hsp, t4⟩ := fw_t_i t3
    obtain ⟨v1, rc, rfl, e1, hr⟩ := fw_t_cons t4
    have e0 : v0 = .ref d := e0
    have e1 : v1 = .ref s := e1
    subst e0
    subst e1
    split at hw
    · rename_i ns ls hs nd ld hd c1 c2
      obtain ⟨hne, k1, k2, k3, k4, k5, k6, k7, k8⟩ := fw_if_ok hw
      have q0 := hT.1 _ (fw_at_ok c2)
      obtain ⟨f, f1, f2, f3⟩ := fw_arr (hT.1 _ (fw_at_ok c1)) hh.1
      obtain ⟨g, g1, g2, g3⟩ := fw_arr q0 hh.1
      have z : ∀ x : Int32, 0 ≤ x.toInt → ¬ x < 0 := fun x hx q => by
        have := Int32.lt_iff_toInt_lt.mp q
        rw [Int32.toInt_zero] at this
        omega
      have en : n.toNatClampNeg = n.toInt.toNat := rfl
      have edp : dp.toNatClampNeg = dp.toInt.toNat := rfl
      have esp : sp.toNatClampNeg = sp.toInt.toNat := rfl
      have sp0 : sp.toNatClampNeg = 0 := by omega
      have dp0 : dp.toNatClampNeg = 0 := by omega
      have h9 : jm_cs rc ≤ 8 := by
        rw [(fw_t_len hr).1]
        have : fw_ws (.inl xn :: .inl z2 :: .inr (.inl d) :: .inl z1 :: .inr (.inl s) :: r) = 1 + (1 + (1 + (1 + (1 + fw_ws r)))) := rfl
        omega
      have eg : ∀ i, va_cpy f g sp.toNatClampNeg dp.toNatClampNeg n.toNatClampNeg i = if i < n.toNatClampNeg then f i else g i := fun i => by
        rw [sp0, dp0]
        by_cases c : i < n.toNatClampNeg
        · rw [pk_cpy_in (by omega) (by omega), if_pos c]
          show f (0 + (i - 0)) = f i
          rw [Nat.zero_add, Nat.sub_zero]
        · rw [pk_cpy_out (by omega), if_neg c]
      refine ⟨r, fw_cp W d s xn, rc, h.set d (.inl (.int, nd, va_cpy f g sp.toNatClampNeg dp.toNatClampNeg n.toNatClampNeg)), ?_, k8, hr, fw_gh_cp hh.1 q0 (fun i hi => ?_) (fun i hi => ?_), fw_nm_cp (fw_nm_cell hh.2 (fun y e => by cases e)) (fw_lt hT q0)⟩
      · unfold jm_copy
        simp only [f1, g1]
        rw [if_pos ⟨z sp (by omega), z dp (by omega), z n (by omega), by omega, by omega, h9⟩]
      · rw [eg i]
        by_cases c : i < n.toNatClampNeg
        · rw [if_pos c]
          have := f2 i (by omega)
          omega
        · rw [if_neg c]; exact g2 i hi
      · rw [eg i]
        have ex : n.toNatClampNeg = xn.toNat := by rw [en, hn]
        rw [ex]
        by_cases c : i < xn.toNat
        · rw [if_pos c, if_pos c]; exact f3 rfl i (by omega)
        · rw [if_neg c, if_neg c]; exact g3 rfl i hi
    · exact hw.elim
  · exact hw.elim
theorem fw_wln_ok {K' : List fw_V → Prop} (hw : fw_wln V G st K') (hT : fw_view T V G) (ht : fw_t T st sc) (hh : ai_gh W T h) : ∃ st' sc', jm_alen sc h = some sc' ∧ K' st' ∧ fw_t T st' sc' := by
  unfold fw_wln at hw
  split at hw
  · rename_i c r
    obtain ⟨v0, rc, rfl, e0, hr⟩ := fw_t_cons ht
    have e0 : v0 = .ref c := e0
    subst e0
    split at hw
    · rename_i m n lo hi hc
      obtain ⟨t, es, g1, g2, g3, g4, g5⟩ := hT.2.1 _ (fw_at_ok hc)
      obtain ⟨f, q1, q2⟩ := ai_rarr hh g1
      have g4 : es.length = m := g4
      obtain ⟨hw1, hw2⟩ := fw_if_ok hw
      have hw1 : m < 2147483648 := Nat.lt_succ_of_le (Nat.le_of_ble_eq_true hw1)
      refine ⟨_, .int (Int32.ofNat m) :: rc, ?_, hw2, ⟨⟨_, rfl, nI_toInt hw1⟩, hr⟩⟩
      unfold jm_alen
      simp only [q1, g2, if_true, g4]
    · split at hw
      · rename_i n lo hi b hc
        obtain ⟨f, g1, g2, g3⟩ := fw_arr (hT.1 _ (fw_at_ok hc)) hh
        obtain ⟨hw1, hw2⟩ := fw_if_ok hw
        have hw1 : n < 2147483648 := Nat.lt_succ_of_le (Nat.le_of_ble_eq_true hw1)
        refine ⟨_, .int (Int32.ofNat n) :: rc, ?_, hw2, ⟨⟨_, rfl, nI_toInt hw1⟩, hr⟩⟩
        unfold jm_alen
        simp only [g1, jm_tin, if_true]
      · rename_i n hc
        obtain ⟨f, g1⟩ := fw_larr (hT.1 _ (fw_at_ok hc)) hh
        obtain ⟨hw1, hw2⟩ := fw_if_ok hw
        have hw1 : n < 2147483648 := Nat.lt_succ_of_le (Nat.le_of_ble_eq_true hw1)
        refine ⟨_, .int (Int32.ofNat n) :: rc, ?_, hw2, ⟨⟨_, rfl, nI_toInt hw1⟩, hr⟩⟩
        unfold jm_alen
        simp only [g1]
      · exact hw.elim
  · exact hw.elim
theorem fw_sb_len : ∀ i, i < 7 → (jm_sb i).length < 100 := by decide +kernel
theorem fw_sb_in : ∀ i, i < 7 → ∀ k, k < (jm_sb i).length → 0 ≤ ((jm_sb i).getD k 0).toInt ∧ ((jm_sb i).getD k 0).toInt ≤ 255 := by decide +kernel
theorem fw_u7 : ∀ i, i < 7 → (UInt32.ofNat i).toNat = i := by decide +kernel
theorem fw_wsl_ok {K' : List fw_V → Prop} (hw : fw_wsl st K') (ht : fw_t T st sc) : ∃ st' sc', jm_strv 7 73 sc = some sc' ∧ K' st' ∧ fw_t T st' sc' := by
  unfold fw_wsl at hw
  split at hw
  · rename_i c r
    obtain ⟨hb, hw⟩ := fw_if_ok hw
    rw [Bool.and_eq_true, Bool.and_eq_true] at hb
    have b1 := Nat.le_of_ble_eq_true hb.1
    have b2 := Nat.le_of_ble_eq_true hb.2.1
    have b3 := Nat.le_of_ble_eq_true hb.2.2
    obtain ⟨v0, rc, rfl, e0, hr⟩ := fw_t_cons ht
    have e1 : v0 = .float (UInt32.ofNat (c - 500)) := fw_v_st e0 hb.1 (by
      cases e : Nat.ble 1000 c with
      | false => rfl
      | true => have := Nat.le_of_ble_eq_true e; omega)
    subst e1
    have u7 := fw_u7 (c - 500) (by omega)
    refine ⟨_, .int (Int32.ofNat (jm_sb (c - 500)).length) :: rc, ?_, hw, ⟨⟨_, rfl, nI_toInt (by have := fw_sb_len (c - 500) (by omega); omega)⟩, hr⟩⟩
    unfold jm_strv
    rw [if_pos ⟨rfl, rfl⟩]
    dsimp only
    rw [u7, if_pos ⟨by omega, by rw [(fw_t_len hr).1]; exact b3⟩]
  · exact hw.elim
theorem fw_wsc_ok {K' : List fw_V → Prop} (hw : fw_wsc st K') (ht : fw_t T st sc) : ∃ st' sc', jm_strv 7 78 sc = some sc' ∧ K' st' ∧ fw_t T st' sc' := by
  unfold fw_wsc at hw
  split at hw
  · rename_i k c r
    obtain ⟨hb, hk0, hk1, hw2⟩ := fw_if_ok hw
    rw [Bool.and_eq_true, Bool.and_eq_true] at hb
    have b1 := Nat.le_of_ble_eq_true hb.1
    have b2 := Nat.le_of_ble_eq_true hb.2.1
    have b3 := Nat.le_of_ble_eq_true hb.2.2
    obtain ⟨i, rc1, rfl, hi, ht1⟩ := fw_t_i ht
    subst hi
    obtain ⟨v0, rc, rfl, e0, hr⟩ := fw_t_cons ht1
    have e1 : v0 = .float (UInt32.ofNat (c - 500)) := fw_v_st e0 hb.1 (by
      cases e : Nat.ble 1000 c with
      | false => rfl
      | true => have := Nat.le_of_ble_eq_true e; omega)
    subst e1
    have u7 := fw_u7 (c - 500) (by omega)
    have l1 := fw_sb_len (c - 500) (by omega)
    obtain ⟨w1, w2, w3⟩ := fw_ix (i := i) (n := (jm_sb (c - 500)).length) rfl hk0 hk1
    have b4 := fw_sb_in (c - 500) (by omega) _ w2
    refine ⟨_, .int ((jm_sb (c - 500)).getD i.toNatClampNeg 0) :: rc, ?_, hw2 _ b4.1 b4.2, ⟨⟨_, rfl, rfl⟩, hr⟩⟩
    unfold jm_strv
    rw [if_neg (by decide), if_pos ⟨rfl, rfl⟩]
    dsimp only
    rw [u7, if_pos ⟨by omega, fun z => by have := Int32.lt_iff_toInt_lt.mp z; rw [Int32.toInt_zero] at this; omega, w2, by rw [(fw_t_len hr).1]; exact b3⟩]
  · exact hw.elim
theorem fw_t_app : ∀ {s1 s2 : List fw_V} {c1 c2 : List Value}, fw_t T s1 c1 → fw_t T s2 c2 → fw_t T (s1 ++ s2) (c1 ++ c2)
  | [], _, [], _, _, h => h
  | a :: s1, _, v :: c1, _, h, h2 => ⟨h.1, fw_t_app h.2 h2⟩
  | [], _, _ :: _, _, h, _ => h.elim
  | _ :: _, _, [], _, h, _ => h.elim
theorem fw_spl_ok : ∀ (n : Nat) {st as as' r : List fw_V} {sc ac : List Value}, fw_spl n st as = some (as', r) → fw_t T st sc → fw_t T as ac → n ≤ sc.length ∧ fw_t T r (sc.drop n) ∧ fw_t T as' ((sc.take n).reverse ++ ac)
  | 0, st, as, as', r, sc, ac, hs, h1, h2 => by
    cases hs
    exact ⟨Nat.zero_le _, h1, h2⟩
  | n + 1, [], as, as', r, sc, ac, hs, h1, h2 => by cases hs
  | n + 1, a :: st, as, as', r, [], ac, hs, h1, h2 => h1.elim
  | n + 1, a :: st, as, as', r, v :: sc, ac, hs, h1, h2 => by
    obtain ⟨g1, g2, g3⟩ := fw_spl_ok n (ac := v :: ac) hs h1.2 ⟨h1.1, h2⟩
    refine ⟨Nat.succ_le_succ g1, g2, ?_⟩
    rw [List.take_succ_cons, List.reverse_cons, List.append_assoc]
    exact g3
theorem fw_wd_12 (a : fw_V) : fw_wd a = 1 ∨ fw_wd a = 2 := by
  rcases a with z | k | c
  · exact Or.inl rfl
  · exact Or.inl rfl
  · unfold fw_wd
    dsimp only
    cases Nat.ble 1000 c
    · exact Or.inl rfl
    · exact Or.inr rfl
theorem fw_args_ge : ∀ (as : List fw_V) (i : Nat), ∀ q ∈ fw_args i as, i ≤ q.1
  | [], i, q, h => by cases h
  | a :: as, i, q, h => by
    rcases List.mem_cons.mp h with rfl | h
    · exact Nat.le_refl _
    · exact Nat.le_trans (Nat.le_add_right _ _) (fw_args_ge as (i + fw_wd a) q h)
theorem fw_args_ok : ∀ (as : List fw_V) (asc : List Value) (i : Nat), fw_t T as asc → fw_l T (fw_args i as) (lv_args i asc)
  | [], [], i, _ => fun q h => by cases h
  | a :: as, v :: asc, i, h => by
    intro q hq
    have hv : lv_args i (v :: asc) = (i, v) :: lv_args (if v.category = 2 then i + 2 else i + 1) asc := rfl
    have hwd : (if v.category = 2 then i + 2 else i + 1) = i + fw_wd a := by
      rw [fw_cat h.1]
      rcases fw_wd_12 a with e | e
      · rw [e, if_neg (by decide)]
      · rw [e, if_pos rfl]
    rw [hv, hwd]
    rcases List.mem_cons.mp hq with rfl | hq
    · exact ⟨v, jm_get_hd _ _ _, h.1⟩
    · have hge := fw_args_ge as (i + fw_wd a) q hq
      have hw1 : 1 ≤ fw_wd a := by rcases fw_wd_12 a with e | e <;> omega
      obtain ⟨w, g1, g2⟩ := fw_args_ok as asc (i + fw_wd a) h.2 q hq
      refine ⟨w, ?_, g2⟩
      unfold jm_get at g1 ⊢
      rw [List.find?_cons_of_neg (by simpa using (by omega : ¬ i = q.1))]
      exact g1
  | [], _ :: _, i, h => h.elim
  | _ :: _, [], i, h => h.elim
theorem jc_of {y' : Nat} {as : List fw_V} {Q : Option fw_V → fw_W → Prop} (hf : jf T d y' 0 (fw_args 0 as) [] W Q) : jc T d y' as W Q := fun asc hh ht hg => hf _ [] hh (fw_args_ok as asc 0 ht) trivial hg
theorem fw_o_list {a : Option fw_V} {v : Option Value} (h : fw_o T a v) : fw_t T a.toList v.toList := by
  cases a with
  | none => cases v with
    | none => exact trivial
    | some v => exact h.elim
  | some a => cases v with
    | none => exact h.elim
    | some v => exact ⟨h, trivial⟩
/-- behind a call -/
theorem fw_aft {y' : Nat} {as r : List fw_V} {rc : List Value} {X : fw_X} {Q : Option fw_V → fw_W → Prop} (hc : fw_cok T d ct) (hX : fw_at ct y' = some X) (hk : X as W Q) (hQ : ∀ a W', Q a W' → jf T (d + 1) y (pc + 3) lv (a.toList ++ r) W' Post) (hl : fw_l T lv lc) {asc : List Value} (ha : fw_t T as asc) (hr : fw_t T r rc) (hh : fw_gh W T h) : jg d y' (0, lv_args 0 asc, [], h) (fun v h' => jg (d + 1) y (pc + 3, lc, v.toList ++ rc, h') (fun v h' => ∃ a W', fw_o T a v ∧ fw_gh W' T h' ∧ Post a W')) := by
  refine jg_mono (hc _ (fw_at_ok hX) as W Q hk asc h ha hh) (fun v h' hx => ?_)
  obtain ⟨a, W', e1, e2, e3⟩ := hx
  exact hQ a W' e3 lc _ h' hl (fw_t_app (fw_o_list e1) hr) e2
theorem fw_idiv {i j : Int32} {x z : Int} (hi : i.toInt = x) (hj : j.toInt = z) (hx : 0 ≤ x) (hz : 0 < z) : (i / j).toInt = x / z := by
  have hb := ai_b i
  unfold ai_min ai_max at hb
  have h1 : x / z ≤ x := Int.ediv_le_self z hx
  have h2 : 0 ≤ x / z := Int.ediv_nonneg hx (Int.le_of_lt hz)
  rw [Int32.toInt_div, hi, hj, Int.tdiv_eq_ediv_of_nonneg hx]
  exact ai_bm (by unfold ai_min; omega) (by unfold ai_max; omega)
theorem fw_irem {i j : Int32} {x z : Int} (hi : i.toInt = x) (hj : j.toInt = z) (hx : 0 ≤ x) (hz : 0 < z) : (i - i / j * j).toInt = x % z := by
  have hb := ai_b i
  unfold ai_min ai_max at hb
  have h0 := fw_idiv hi hj hx hz
  have h1 : x % z = x - x / z * z := by rw [Int.mul_comm]; exact Int.emod_def x z
  have h2 : 0 ≤ x % z := Int.emod_nonneg x (by omega)
  have h3 : x % z < z := Int.emod_lt_of_pos x hz
  have h4 : 0 ≤ x / z := Int.ediv_nonneg hx (Int.le_of_lt hz)
  have h5 : 0 ≤ x / z * z := Int.mul_nonneg h4 (Int.le_of_lt hz)
  have e1 : (i / j * j).toInt = x / z * z := by
    rw [Int32.toInt_mul, h0, hj]
    exact ai_bm (by unfold ai_min; omega) (by unfold ai_max; omega)
  rw [Int32.toInt_sub, e1, hi, ai_bm (by unfold ai_min; omega) (by unfold ai_max; omega), h1]
end FS
