/-! one instruction, a run of them -/
section FT
variable {T : List ai_C} {V : List (Nat × ai_C)} {G : fw_G} {R : fw_P} {ct : List (Nat × fw_X)} {hv : List Nat} {K : fw_P → fw_L → List fw_V → fw_W → Prop} {J : Prop} {Post : Option fw_V → fw_W → Prop} {d y pc t : Nat} {q : jm_Y} {o : fw_O} {p : fw_P} {lv : fw_L} {st : List fw_V} {W : fw_W} {sc : List Value} {h : jm_H} {lc : jm_L}
theorem fw_cl_ok {idx y' n : Nat} {cj : Int} {kind a b : Nat} (he : fw_cl q.2.2.2.2.1 idx kind = (a, y', n, cj)) (ha : a = b) (hb : b = 64 ∨ b = 65) : ∃ q', jm_lnk q.2.2.2.2.1 idx = some (kind, y') ∧ jm_ms[y']? = some q' ∧ jm_na[y']? = some n ∧ ((kind = 1 ∧ b = 65 ∧ cj = ((100 * q'.2.2.1 : Nat) : Int)) ∨ (¬ kind = 1 ∧ b = 64 ∧ q'.2.2.2.2.1 < 100 ∧ cj = ((q'.2.2.2.2.1 + 100 * q'.2.2.1 : Nat) : Int))) := by
  subst ha
  have hz : ∀ {x : Prop}, fw_z = (a, y', n, cj) → x := fun {x} e => by
    have e1 : 99 = a := congrArg Prod.fst e
    omega
  unfold fw_cl at he
  split at he
  · exact hz he
  · rename_i kd y2 hlk
    split at he
    · rename_i hk
      subst hk
      split at he
      · rename_i q' n' hq' hn'
        split at he
        · rename_i h1
          cases he
          exact ⟨q', hlk, hq', hn', Or.inl ⟨h1, rfl, rfl⟩⟩
        · rename_i h1
          split at he
          · rename_i h2
            cases he
            exact ⟨q', hlk, hq', hn', Or.inr ⟨h1, rfl, h2, rfl⟩⟩
          · exact hz he
      · exact hz he
    · exact hz he
theorem fw_cl_is (oc idx kind : Nat) : fw_cl oc idx kind = fw_z ∨ (kind = 1 ∧ ∃ y' n cj, fw_cl oc idx kind = (65, y', n, cj)) ∨ (¬ kind = 1 ∧ ∃ y' n cj, fw_cl oc idx kind = (64, y', n, cj)) := by
  unfold fw_cl
  split
  · exact Or.inl rfl
  · split
    · split
      · split
        · rename_i h1
          exact Or.inr (Or.inl ⟨h1, _, _, _, rfl⟩)
        · rename_i h1
          split
          · exact Or.inr (Or.inr ⟨h1, _, _, _, rfl⟩)
          · exact Or.inl rfl
      · exact Or.inl rfl
    · exact Or.inl rfl
theorem fw_lnks : jm_lnk 7 73 = none ∧ jm_lnk 7 78 = none := by decide +kernel
theorem fw_wst_ok {k : Nat ⊕ Nat → List fw_V → Prop} (h : fw_wst st k) : ∃ a r, st = .inr a :: r ∧ fw_isr a = true ∧ k a r := by
  unfold fw_wst at h
  split at h
  · obtain ⟨h1, h2⟩ := fw_if_ok h
    exact ⟨_, _, rfl, h1, h2⟩
  · exact h.elim
theorem fw_wpz_ok {ci k : Nat} {K' : List fw_V → fw_W → Prop} (h : fw_wpz V ci k st W K') : ∃ z r, st = .inl z :: r ∧ 0 ≤ z ∧ z ≤ 1 ∧ fw_wpf V ci k st W K' := by
  unfold fw_wpz at h
  split at h
  · exact ⟨_, _, rfl, h⟩
  · exact h.elim
theorem fw_bm (i j : Int32) (z : Int) (h1 : -2147483648 ≤ z) (h2 : z ≤ 2147483647) : z.bmod (2 ^ 32) = z := ai_bm (by unfold ai_min; omega) (by unfold ai_max; omega)
theorem fw_kn_inj {x y : Int64} (h : 1 ≤ fw_kn x) (e : fw_kn x = fw_kn y) : x = y := by
  apply Int64.toInt_inj.mp
  unfold fw_kn at h e
  repeat' split at h
  all_goals repeat' split at e
  all_goals first | omega | (exfalso; omega)
theorem fw_lcmp (x y : Int64) : -1 ≤ (lg_cmp x y).toInt ∧ (lg_cmp x y).toInt ≤ 1 := ai_lcmp x y
theorem fw_a64 (x y : Int64) : x &&& y = y &&& x := by
  apply Int64.toBitVec_inj.mp
  rw [Int64.toBitVec_and, Int64.toBitVec_and, BitVec.and_comm]
theorem fw_o64 (n : Fin 2) : (Int64.ofNat n.val).toInt = (n.val : Int) := by
  rcases n with ⟨n, h⟩
  rcases (by omega : n = 0 ∨ n = 1) with rfl | rfl <;> rfl
theorem fw_sk_ok {c : Nat} {l : Int64} (h : fw_sk c = true) (hl : fw_lk c l) : 0 ≤ l.toInt ∧ l.toInt + 1001 ≤ (c : Int) ∧ c ≤ 1299 := by
  unfold fw_sk at h
  rw [Bool.and_eq_true] at h
  have h1 := Nat.le_of_ble_eq_true h.1
  have h2 := Nat.le_of_ble_eq_true h.2
  unfold fw_lk at hl
  split at hl
  · rename_i e
    have := Nat.le_of_ble_eq_true e
    omega
  · omega
theorem fw_sk_mk {T : List ai_C} {c : Nat} {l : Int64} (h1 : 1001 ≤ c) (h2 : c ≤ 1299) (h3 : 0 ≤ l.toInt) (h4 : l.toInt + 1001 ≤ (c : Int)) : fw_v T (.inr (.inr c)) (.long l) := by
  unfold fw_v
  dsimp only
  rw [show Nat.ble 1000 c = true from Nat.ble_eq_true_of_le (by omega)]
  refine ⟨l, rfl, ?_⟩
  unfold fw_lk
  split
  · rename_i e
    have := Nat.le_of_ble_eq_true e
    omega
  · exact Or.inr ⟨h3, h4⟩
theorem fw_l2i {c : Nat} {l : Int64} {k : Int → Prop} (h : fw_wli c k) (hx : fw_lk c l) : k l.toInt32.toInt := by
  have hr := ai_b l.toInt32
  unfold ai_min ai_max at hr
  unfold fw_wli at h
  split at h
  · exact h _ hr.1 hr.2
  · rename_i e
    have hs := fw_sk_ok e hx
    have e2 : l.toInt32.toInt = l.toInt := by
      rw [Int64.toInt_toInt32]
      exact ai_bm (by unfold ai_min; omega) (by unfold ai_max; omega)
    rw [e2]
    exact h _ hs.1 hs.2.1
theorem fw_land {T : List ai_C} {a b : Nat} {x y : Int64} (hx : fw_lk a x) (hy : fw_lk b y) : fw_v T (.inr (.inr (fw_lm a b))) (.long (x &&& y)) := by
  unfold fw_lm
  split
  · rename_i e
    have hs := fw_sk_ok e hx
    have := ai_land_ok y x hs.1
    rw [fw_a64] at this
    exact fw_sk_mk (by omega) hs.2.2 this.1 (by omega)
  · split
    · rename_i e
      have hs := fw_sk_ok e hy
      have := ai_land_ok x y hs.1
      exact fw_sk_mk (by omega) hs.2.2 this.1 (by omega)
    · exact fw_v_any T _
theorem fw_lcmp0 (x y : Int64) : (lg_cmp x y).toInt = 0 ↔ x = y := by
  unfold lg_cmp
  by_cases h1 : x > y
  · rw [if_pos h1]
    refine ⟨fun e => absurd e (by decide), fun e => ?_⟩
    subst e
    exact absurd (Int64.lt_iff_toInt_lt.mp h1) (Int.lt_irrefl _)
  · rw [if_neg h1]
    by_cases h2 : x = y
    · rw [if_pos h2]
      exact ⟨fun _ => h2, fun _ => rfl⟩
    · rw [if_neg h2]
      exact ⟨fun e => absurd e (by decide), fun e => absurd e h2⟩
theorem fw_lc_ok {a b : Nat} {x y : Int64} {k : Int → Prop} (h : fw_lc a b k) (hx : fw_lk a x) (hy : fw_lk b y) : k (lg_cmp x y).toInt := by
  have hc := fw_lcmp x y
  unfold fw_lc at h
  split at h
  · rename_i e
    rw [Bool.and_eq_true, Bool.and_eq_true, Bool.or_eq_true] at e
    obtain ⟨e1, e2, e3⟩ := e
    unfold fw_lk at hx hy
    rw [e1] at hx
    rw [e2] at hy
    have hx : fw_kn x + 1300 = a := hx
    have hy : fw_kn y + 1300 = b := hy
    split at h
    · rename_i e4
      have e4 := Nat.eq_of_beq_eq_true e4
      have e5 : fw_kn x = fw_kn y := by omega
      have e6 : 1 ≤ fw_kn x := by
        rcases e3 with e3 | e3
        · have := Nat.le_of_ble_eq_true e3; omega
        · have := Nat.le_of_ble_eq_true e3; omega
      have e7 : x = y := fw_kn_inj e6 e5
      rw [(fw_lcmp0 x y).mpr e7]
      exact h
    · rename_i e4
      refine h _ hc.1 hc.2 (fun z => ?_)
      have e5 := (fw_lcmp0 x y).mp z
      rw [e5] at hx
      have : a = b := by omega
      rw [this, Nat.beq_refl] at e4
      cases e4
  · exact h _ hc.1 hc.2
theorem fw_tgs_ok {pc : Nat} : ∀ {l : List Int} {a n : Nat} {P : Nat → Prop}, fw_tgs pc l = some (a, n) → fw_sw a n P → ∀ off ∈ l, ∃ t, jm_tg pc off = some t ∧ P t
  | [], a, n, P, h, hs, off, ho => by cases ho
  | x :: l, a, n, P, h, hs, off, ho => by
    unfold fw_tgs at h
    split at h
    · rename_i t a2 n2 e1 e2
      split at h
      · rename_i ht
        cases h
        have hs1 : P ((t + 65536 * a2) % 65536) := hs.1
        have hs2 : fw_sw ((t + 65536 * a2) / 65536) n2 P := hs.2
        rw [show (t + 65536 * a2) % 65536 = t by omega] at hs1
        rw [show (t + 65536 * a2) / 65536 = a2 by omega] at hs2
        rcases List.mem_cons.mp ho with rfl | ho
        · exact ⟨t, e1, hs1⟩
        · exact fw_tgs_ok e2 hs2 off ho
      · cases h
    · cases h
theorem fw_lko {d x : Int} : ∀ {l : List (Int × Int)}, Op.lookupswitch.offset l d x ∈ d :: l.map (fun q => q.2)
  | [] => List.mem_cons_self
  | (a, o) :: l => by
    unfold Op.lookupswitch.offset
    split
    · exact List.mem_cons_of_mem _ List.mem_cons_self
    · rcases List.mem_cons.mp (fw_lko (d := d) (x := x) (l := l)) with h | h
      · rw [h]; exact List.mem_cons_self
      · exact List.mem_cons_of_mem _ (List.mem_cons_of_mem _ h)
set_option maxHeartbeats 8000000 in
theorem fws_ok (hq : jm_ms[y]? = some q) (hT : fw_view T V G) (hc : fw_cok T d ct) (hK : fw_kok T (d + 1) y q Post K) (hR : fw_fit q R) (hp : fw_fit q ((pc, o) :: p)) (hJ : J → jf T (d + 1) y pc lv st W Post) (hw : fws V G R ct hv K J Post pc o p lv st W) : jf T (d + 1) y pc lv st W Post := by
  obtain ⟨⟨i, len, hd, ho, hn⟩, hp'⟩ := hp
  dsimp only at hd ho hn
  have hz : o = fw_z → jf T (d + 1) y pc lv st W Post := fun e => by
    subst e
    exact hJ hw
  cases i with
  | iconst n =>
    by_cases hlen : len = 1 ∧ -1 ≤ n ∧ n ≤ 5
    · have e : o = (0, 0, 0, n) := ho.trans (if_pos hlen)
      obtain ⟨rfl, hlen⟩ := hlen
      subst e
      obtain ⟨h1, h2⟩ := hlen
      intro lc sc h hl ht hh
      have ev : ((Int32.ofInt n)).toInt = n := Int32.toInt_ofInt_of_le (by omega) (by omega)
      exact jg_step hq (S' := (pc + 1, lc, .int (Int32.ofInt n) :: sc, h)) (by unfold jm_step; rw [hd]; rfl) (fw_nx hK hp' hn hw lc _ h hl ⟨⟨_, rfl, ev⟩, ht⟩ hh)
    · exact hz (ho.trans (if_neg hlen))
  | bipush n =>
    by_cases hlen : len = 2 ∧ -128 ≤ n ∧ n ≤ 127
    · have e : o = (0, 0, 0, n) := ho.trans (if_pos hlen)
      obtain ⟨rfl, hlen⟩ := hlen
      subst e
      obtain ⟨h1, h2⟩ := hlen
      intro lc sc h hl ht hh
      have ev : ((Int8.ofInt n).toInt32).toInt = n := by rw [Int8.toInt_toInt32, Int8.toInt_ofInt_of_le (by omega) (by omega)]
      exact jg_step hq (S' := (pc + 2, lc, .int (Int8.ofInt n).toInt32 :: sc, h)) (by unfold jm_step; rw [hd]; rfl) (fw_nx hK hp' hn hw lc _ h hl ⟨⟨_, rfl, ev⟩, ht⟩ hh)
    · exact hz (ho.trans (if_neg hlen))
  | sipush n =>
    by_cases hlen : len = 3 ∧ -32768 ≤ n ∧ n ≤ 32767
    · have e : o = (0, 0, 0, n) := ho.trans (if_pos hlen)
      obtain ⟨rfl, hlen⟩ := hlen
      subst e
      obtain ⟨h1, h2⟩ := hlen
      intro lc sc h hl ht hh
      have ev : ((Int16.ofInt n).toInt32).toInt = n := by rw [Int16.toInt_toInt32, Int16.toInt_ofInt_of_le (by omega) (by omega)]
      exact jg_step hq (S' := (pc + 3, lc, .int (Int16.ofInt n).toInt32 :: sc, h)) (by unfold jm_step; rw [hd]; rfl) (fw_nx hK hp' hn hw lc _ h hl ⟨⟨_, rfl, ev⟩, ht⟩ hh)
    · exact hz (ho.trans (if_neg hlen))
  | ldc idx =>
    by_cases hlen : len = 2
    · have e : o = fw_cons (jm_con q.2.2.2.2.1 idx) (jm_str q.2.2.2.2.1 idx) := ho.trans (if_pos hlen)
      subst hlen
      cases hcn : jm_con q.2.2.2.2.1 idx with
      | none =>
        cases hcs : jm_str q.2.2.2.2.1 idx with
        | none => rw [hcn, hcs] at e; exact hz e
        | some i =>
          rw [hcn, hcs] at e
          have e : o = (96, i, 0, 0) := e
          subst e
          intro lc sc h hl ht hh
          obtain ⟨w6, hw⟩ := fw_if_ok (P := K p lv (.inr (.inr (500 + i)) :: st) W) hw
          have w6 : i ≤ 6 := Nat.le_of_ble_eq_true w6
          refine jg_step hq (S' := (pc + 2, lc, .float (UInt32.ofNat i) :: sc, h)) (by unfold jm_step; rw [hd]; dsimp only; rw [if_pos rfl, hcn]; dsimp only; rw [hcs]) (fw_nx hK hp' hn hw lc _ h hl ⟨?_, ht⟩ hh)
          unfold fw_v
          dsimp only
          rw [show Nat.ble 1000 (500 + i) = false from by
            cases e : Nat.ble 1000 (500 + i) with
            | false => rfl
            | true => have := Nat.le_of_ble_eq_true e; omega]
          dsimp only
          rw [Nat.ble_eq_true_of_le (show 500 ≤ 500 + i by omega)]
          dsimp only
          rw [show 500 + i - 500 = i by omega]
      | some v =>
        rw [hcn] at e
        have e : o = (0, 0, 0, v.toInt) := e
        subst e
        intro lc sc h hl ht hh
        exact jg_step hq (S' := (pc + 2, lc, .int v :: sc, h)) (by unfold jm_step; rw [hd]; dsimp only; rw [if_pos rfl, hcn]) (fw_nx hK hp' hn hw lc _ h hl ⟨⟨_, rfl, rfl⟩, ht⟩ hh)
    · exact hz (ho.trans (if_neg hlen))
  | ldc_w idx =>
    by_cases hlen : len = 3
    · have e : o = fw_con (jm_con q.2.2.2.2.1 idx) := ho.trans (if_pos hlen)
      subst hlen
      cases hcn : jm_con q.2.2.2.2.1 idx with
      | none => rw [hcn] at e; exact hz e
      | some v =>
        rw [hcn] at e
        have e : o = (0, 0, 0, v.toInt) := e
        subst e
        intro lc sc h hl ht hh
        exact jg_step hq (S' := (pc + 3, lc, .int v :: sc, h)) (by unfold jm_step; rw [hd]; dsimp only; rw [if_pos rfl, hcn]) (fw_nx hK hp' hn hw lc _ h hl ⟨⟨_, rfl, rfl⟩, ht⟩ hh)
    · exact hz (ho.trans (if_neg hlen))
  | iload_n k =>
    by_cases hlen : len = 1
    · have e : o = (1, k.val, 0, 0) := ho.trans (if_pos hlen)
      obtain rfl := hlen
      subst e
      intro lc sc h hl ht hh
      have hw : fw_li lv k.val (fun z => K p lv (.inl z :: st) W) := hw
      unfold fw_li at hw
      split at hw
      · rename_i z hg
        obtain ⟨v, g1, i, rfl, g3⟩ := fw_get_ok hl hg
        exact jg_step hq (S' := (pc + 1, lc, .int i :: sc, h)) (by unfold jm_step; rw [hd]; simp only [jm_pure, jm_ldi, g1, if_true]) (fw_nx hK hp' hn hw lc _ h hl ⟨⟨_, rfl, g3⟩, ht⟩ hh)
      · exact hw.elim
    · exact hz (ho.trans (if_neg hlen))
  | iload k =>
    by_cases hlen : len = 2
    · have e : o = (1, k, 0, 0) := ho.trans (if_pos hlen)
      obtain rfl := hlen
      subst e
      intro lc sc h hl ht hh
      have hw : fw_li lv k (fun z => K p lv (.inl z :: st) W) := hw
      unfold fw_li at hw
      split at hw
      · rename_i z hg
        obtain ⟨v, g1, i, rfl, g3⟩ := fw_get_ok hl hg
        exact jg_step hq (S' := (pc + 2, lc, .int i :: sc, h)) (by unfold jm_step; rw [hd]; simp only [jm_pure, jm_ldi, g1, if_true]) (fw_nx hK hp' hn hw lc _ h hl ⟨⟨_, rfl, g3⟩, ht⟩ hh)
      · exact hw.elim
    · exact hz (ho.trans (if_neg hlen))
  | aload_n k =>
    by_cases hlen : len = 1
    · have e : o = (2, k.val, 0, 0) := ho.trans (if_pos hlen)
      obtain rfl := hlen
      subst e
      intro lc sc h hl ht hh
      have hw : fw_la lv k.val (fun a => K p lv (.inr a :: st) W) := hw
      unfold fw_la at hw
      split at hw
      · rename_i a hg
        obtain ⟨v, g1, g2⟩ := fw_get_ok hl hg
        obtain ⟨hb, hw⟩ := fw_if_ok hw
        rw [Bool.not_eq_true'] at hb
        obtain ⟨-, ⟨k2, rfl⟩ | ⟨k2, rfl⟩⟩ := fw_v_rs g2 hb
        · exact jg_step hq (S' := (pc + 1, lc, .ref k2 :: sc, h)) (by unfold jm_step; rw [hd]; simp only [jm_pure, jm_lda, g1, if_true]) (fw_nx hK hp' hn hw lc _ h hl ⟨g2, ht⟩ hh)
        · exact jg_step hq (S' := (pc + 1, lc, .float k2 :: sc, h)) (by unfold jm_step; rw [hd]; simp only [jm_pure, jm_lda, g1, if_true]) (fw_nx hK hp' hn hw lc _ h hl ⟨g2, ht⟩ hh)
      · exact hw.elim
    · exact hz (ho.trans (if_neg hlen))
  | aload k =>
    by_cases hlen : len = 2
    · have e : o = (2, k, 0, 0) := ho.trans (if_pos hlen)
      obtain rfl := hlen
      subst e
      intro lc sc h hl ht hh
      have hw : fw_la lv k (fun a => K p lv (.inr a :: st) W) := hw
      unfold fw_la at hw
      split at hw
      · rename_i a hg
        obtain ⟨v, g1, g2⟩ := fw_get_ok hl hg
        obtain ⟨hb, hw⟩ := fw_if_ok hw
        rw [Bool.not_eq_true'] at hb
        obtain ⟨-, ⟨k2, rfl⟩ | ⟨k2, rfl⟩⟩ := fw_v_rs g2 hb
        · exact jg_step hq (S' := (pc + 2, lc, .ref k2 :: sc, h)) (by unfold jm_step; rw [hd]; simp only [jm_pure, jm_lda, g1, if_true]) (fw_nx hK hp' hn hw lc _ h hl ⟨g2, ht⟩ hh)
        · exact jg_step hq (S' := (pc + 2, lc, .float k2 :: sc, h)) (by unfold jm_step; rw [hd]; simp only [jm_pure, jm_lda, g1, if_true]) (fw_nx hK hp' hn hw lc _ h hl ⟨g2, ht⟩ hh)
      · exact hw.elim
    · exact hz (ho.trans (if_neg hlen))
  | istore_n k =>
    by_cases hlen : len = 1 ∧ k.val < q.2.2.1
    · have e : o = (3, k.val, 0, 0) := ho.trans (if_pos hlen)
      obtain ⟨rfl, hlen⟩ := hlen
      subst e
      intro lc sc h hl ht hh
      obtain ⟨x, r, rfl, hk⟩ := fw_i1_ok (k := fun x r => K p (fw_set k.val (.inl x) lv) r W) hw
      obtain ⟨i, rc, rfl, hi, hr⟩ := fw_t_i ht
      exact jg_step hq (S' := (pc + 1, jm_st1 k.val (.int i) lc, rc, h)) (by unfold jm_step; rw [hd]; simp only [jm_pure, jm_sti, hlen, if_true]) (fw_nx hK hp' hn hk _ rc h (fw_l_set hl ⟨i, rfl, hi⟩) hr hh)
    · exact hz (ho.trans (if_neg hlen))
  | istore k =>
    by_cases hlen : len = 2 ∧ k < q.2.2.1
    · have e : o = (3, k, 0, 0) := ho.trans (if_pos hlen)
      obtain ⟨rfl, hlen⟩ := hlen
      subst e
      intro lc sc h hl ht hh
      obtain ⟨x, r, rfl, hk⟩ := fw_i1_ok (k := fun x r => K p (fw_set k (.inl x) lv) r W) hw
      obtain ⟨i, rc, rfl, hi, hr⟩ := fw_t_i ht
      exact jg_step hq (S' := (pc + 2, jm_st1 k (.int i) lc, rc, h)) (by unfold jm_step; rw [hd]; simp only [jm_pure, jm_sti, hlen, if_true]) (fw_nx hK hp' hn hk _ rc h (fw_l_set hl ⟨i, rfl, hi⟩) hr hh)
    · exact hz (ho.trans (if_neg hlen))
  | astore_n k =>
    by_cases hlen : len = 1 ∧ k.val < q.2.2.1
    · have e : o = (4, k.val, 0, 0) := ho.trans (if_pos hlen)
      obtain ⟨rfl, hlen⟩ := hlen
      subst e
      intro lc sc h hl ht hh
      obtain ⟨a, r, rfl, hb, hk⟩ := fw_wst_ok (k := fun a r => K p (fw_set k.val (.inr a) lv) r W) hw
      obtain ⟨v, rc, rfl, g2, hr⟩ := fw_t_cons ht
      obtain ⟨-, k2, rfl⟩ := fw_v_ref g2 hb
      exact jg_step hq (S' := (pc + 1, jm_st1 k.val (.ref k2) lc, rc, h)) (by unfold jm_step; rw [hd]; simp only [jm_pure, jm_sta, hlen, if_true]) (fw_nx hK hp' hn hk _ rc h (fw_l_set hl g2) hr hh)
    · exact hz (ho.trans (if_neg hlen))
  | astore k =>
    by_cases hlen : len = 2 ∧ k < q.2.2.1
    · have e : o = (4, k, 0, 0) := ho.trans (if_pos hlen)
      obtain ⟨rfl, hlen⟩ := hlen
      subst e
      intro lc sc h hl ht hh
      obtain ⟨a, r, rfl, hb, hk⟩ := fw_wst_ok (k := fun a r => K p (fw_set k (.inr a) lv) r W) hw
      obtain ⟨v, rc, rfl, g2, hr⟩ := fw_t_cons ht
      obtain ⟨-, k2, rfl⟩ := fw_v_ref g2 hb
      exact jg_step hq (S' := (pc + 2, jm_st1 k (.ref k2) lc, rc, h)) (by unfold jm_step; rw [hd]; simp only [jm_pure, jm_sta, hlen, if_true]) (fw_nx hK hp' hn hk _ rc h (fw_l_set hl g2) hr hh)
    · exact hz (ho.trans (if_neg hlen))
  | iinc k n =>
    by_cases hlen : len = 3 ∧ k < q.2.2.1 ∧ -32768 ≤ n ∧ n ≤ 32767
    · have e : o = (5, k, 0, n) := ho.trans (if_pos hlen)
      obtain ⟨rfl, hlen⟩ := hlen
      subst e
      obtain ⟨hk, hn1, hn2⟩ := hlen
      intro lc sc h hl ht hh
      have hw : fw_li lv k (fun x => fw_rs hv pc (x + n) (fun z => K p (fw_set k (.inl z) lv) st W)) := hw
      unfold fw_li at hw
      split at hw
      · rename_i z hg
        obtain ⟨v, g1, i, rfl, g3⟩ := fw_get_ok hl hg
        have k2 := fw_rs_ok hw (i + Int32.ofInt n) (fun a b => by rw [Int32.toInt_add, g3, Int32.toInt_ofInt_of_le (by omega) (by omega), fw_bm i i _ a b])
        exact jg_step hq (S' := (pc + 3, jm_st1 k (.int (i + Int32.ofInt n)) lc, sc, h)) (by unfold jm_step; rw [hd]; simp only [jm_pure, g1, hk, if_true]) (fw_nx hK hp' hn k2 _ sc h (fw_l_set hl ⟨_, rfl, rfl⟩) ht hh)
      · exact hw.elim
    · exact hz (ho.trans (if_neg hlen))
  | goto off =>
    by_cases hlen : len = 3
    · have e : o = fw_tg pc off 6 := ho.trans (if_pos hlen)
      subst hlen
      unfold fw_tg at e
      cases htg : jm_tg pc off with
      | none => rw [htg] at e; exact hz e
      | some t =>
        rw [htg] at e
        have e : o = (6, t, 0, 0) := e
        subst e
        intro lc sc h hl ht hh
        exact jg_step hq (S' := (t, lc, sc, h)) (by unfold jm_step; rw [hd]; simp only [jm_pure, htg, if_true]) (fw_jp hK hR hw lc _ h hl ht hh)
    · exact hz (ho.trans (if_neg hlen))
  | if_icmp op off =>
    by_cases hlen : len = 3
    · have e : o = fw_tg pc off (10 + fw_cc op) := ho.trans (if_pos hlen)
      subst hlen
      unfold fw_tg at e
      cases htg : jm_tg pc off with
      | none => rw [htg] at e; exact hz e
      | some t =>
        rw [htg] at e
        have e : o = (10 + fw_cc op, t, 0, 0) := e
        have hw' : fw_i2 st (fun x y r => fw_br (fw_cc op) x y (K (fw_seek t R) lv r W) (K p lv r W)) := by
          subst e
          cases op <;> exact hw
        intro lc sc h hl ht hh
        obtain ⟨x, z, r, rfl, hk⟩ := fw_i2_ok hw'
        obtain ⟨j, rc1, rfl, hj, ht1⟩ := fw_t_i ht
        obtain ⟨i, rc, rfl, hi, hr⟩ := fw_t_i ht1
        cases hb : jm_c2 op i j with
        | true => exact jg_step hq (S' := (t, lc, rc, h)) (by unfold jm_step; rw [hd]; simp only [jm_pure, jm_i2, jm_br, htg, hb, if_true]) (fw_jp hK hR ((fw_br_ok op hk hi hj).1 hb) lc _ h hl hr hh)
        | false => exact jg_step hq (S' := (pc + 3, lc, rc, h)) (by unfold jm_step; rw [hd]; simp [jm_pure, jm_i2, jm_br, htg, hb]) (fw_nx hK hp' hn ((fw_br_ok op hk hi hj).2 hb) lc _ h hl hr hh)
    · exact hz (ho.trans (if_neg hlen))
  | ifCond op off =>
    by_cases hlen : len = 3
    · have e : o = fw_tg pc off (20 + fw_cc op) := ho.trans (if_pos hlen)
      subst hlen
      unfold fw_tg at e
      cases htg : jm_tg pc off with
      | none => rw [htg] at e; exact hz e
      | some t =>
        rw [htg] at e
        have e : o = (20 + fw_cc op, t, 0, 0) := e
        have hw' : fw_i1 st (fun x r => fw_br (fw_cc op) x 0 (K (fw_seek t R) lv r W) (K p lv r W)) := by
          subst e
          cases op <;> exact hw
        intro lc sc h hl ht hh
        obtain ⟨x, r, rfl, hk⟩ := fw_i1_ok hw'
        obtain ⟨i, rc, rfl, hi, hr⟩ := fw_t_i ht
        have hj : (0 : Int32).toInt = 0 := rfl
        cases hb : jm_c1 op i with
        | true => exact jg_step hq (S' := (t, lc, rc, h)) (by unfold jm_step; rw [hd]; simp only [jm_pure, jm_i1, jm_br, htg, hb, if_true]) (fw_jp hK hR ((fw_br_ok op hk hi hj).1 (by rw [← ai_c1c2]; exact hb)) lc _ h hl hr hh)
        | false => exact jg_step hq (S' := (pc + 3, lc, rc, h)) (by unfold jm_step; rw [hd]; simp [jm_pure, jm_i1, jm_br, htg, hb]) (fw_nx hK hp' hn ((fw_br_ok op hk hi hj).2 (by rw [← ai_c1c2]; exact hb)) lc _ h hl hr hh)
    · exact hz (ho.trans (if_neg hlen))
  | iadd =>
    by_cases hlen : len = 1
    · have e : o = (30, 0, 0, 0) := ho.trans (if_pos hlen)
      obtain rfl := hlen
      subst e
      intro lc sc h hl ht hh
      obtain ⟨x, z, r, rfl, hk⟩ := fw_i2_ok (k := fun x y r => fw_rs hv pc (x + y) (fun z => K p lv (.inl z :: r) W)) hw
      obtain ⟨j, rc1, rfl, hj, ht1⟩ := fw_t_i ht
      obtain ⟨i, rc, rfl, hi, hr⟩ := fw_t_i ht1
      have k2 := fw_rs_ok hk (i + j) (fun a b => by rw [Int32.toInt_add, hi, hj, fw_bm i j _ a b])
      have k3 : (i + j).toInt = (i + j).toInt := rfl
      exact jg_step hq (S' := (pc + 1, lc, .int (i + j) :: rc, h)) (by unfold jm_step; rw [hd]; simp only [jm_pure, jm_i2, if_true]) (fw_nx hK hp' hn k2 lc _ h hl ⟨⟨_, rfl, k3⟩, hr⟩ hh)
    · exact hz (ho.trans (if_neg hlen))
  | isub =>
    by_cases hlen : len = 1
    · have e : o = (31, 0, 0, 0) := ho.trans (if_pos hlen)
      obtain rfl := hlen
      subst e
      intro lc sc h hl ht hh
      obtain ⟨x, z, r, rfl, hk⟩ := fw_i2_ok (k := fun x y r => fw_rs hv pc (x - y) (fun z => K p lv (.inl z :: r) W)) hw
      obtain ⟨j, rc1, rfl, hj, ht1⟩ := fw_t_i ht
      obtain ⟨i, rc, rfl, hi, hr⟩ := fw_t_i ht1
      have k2 := fw_rs_ok hk (i - j) (fun a b => by rw [Int32.toInt_sub, hi, hj, fw_bm i j _ a b])
      have k3 : (i - j).toInt = (i - j).toInt := rfl
      exact jg_step hq (S' := (pc + 1, lc, .int (i - j) :: rc, h)) (by unfold jm_step; rw [hd]; simp only [jm_pure, jm_i2, if_true]) (fw_nx hK hp' hn k2 lc _ h hl ⟨⟨_, rfl, k3⟩, hr⟩ hh)
    · exact hz (ho.trans (if_neg hlen))
  | imul =>
    by_cases hlen : len = 1
    · have e : o = (32, 0, 0, 0) := ho.trans (if_pos hlen)
      obtain rfl := hlen
      subst e
      intro lc sc h hl ht hh
      obtain ⟨x, z, r, rfl, hk⟩ := fw_i2_ok (k := fun x y r => fw_rs hv pc (x * y) (fun z => K p lv (.inl z :: r) W)) hw
      obtain ⟨j, rc1, rfl, hj, ht1⟩ := fw_t_i ht
      obtain ⟨i, rc, rfl, hi, hr⟩ := fw_t_i ht1
      have k2 := fw_rs_ok hk (i * j) (fun a b => by rw [Int32.toInt_mul, hi, hj, fw_bm i j _ a b])
      have k3 : (i * j).toInt = (i * j).toInt := rfl
      exact jg_step hq (S' := (pc + 1, lc, .int (i * j) :: rc, h)) (by unfold jm_step; rw [hd]; simp only [jm_pure, jm_i2, if_true]) (fw_nx hK hp' hn k2 lc _ h hl ⟨⟨_, rfl, k3⟩, hr⟩ hh)
    · exact hz (ho.trans (if_neg hlen))
  | iand =>
    by_cases hlen : len = 1
    · have e : o = (36, 0, 0, 0) := ho.trans (if_pos hlen)
      obtain rfl := hlen
      subst e
      intro lc sc h hl ht hh
      obtain ⟨x, z, r, rfl, hk⟩ := fw_i2_ok (k := fun x y r => -2147483648 ≤ fw_and x y → fw_and x y ≤ 2147483647 → K p lv (.inl (fw_and x y) :: r) W) hw
      obtain ⟨j, rc1, rfl, hj, ht1⟩ := fw_t_i ht
      obtain ⟨i, rc, rfl, hi, hr⟩ := fw_t_i ht1
      have k3 : (i &&& j).toInt = fw_and x z := by unfold fw_and; rw [fw_ofi hi, fw_ofi hj]
      have hb := ai_b (i &&& j)
      unfold ai_min ai_max at hb
      rw [k3] at hb
      have k2 := hk hb.1 hb.2
      exact jg_step hq (S' := (pc + 1, lc, .int (i &&& j) :: rc, h)) (by unfold jm_step; rw [hd]; simp only [jm_pure, jm_i2, if_true]) (fw_nx hK hp' hn k2 lc _ h hl ⟨⟨_, rfl, k3⟩, hr⟩ hh)
    · exact hz (ho.trans (if_neg hlen))
  | ior =>
    by_cases hlen : len = 1
    · have e : o = (37, 0, 0, 0) := ho.trans (if_pos hlen)
      obtain rfl := hlen
      subst e
      intro lc sc h hl ht hh
      obtain ⟨x, z, r, rfl, hk⟩ := fw_i2_ok (k := fun x y r => -2147483648 ≤ fw_or x y → fw_or x y ≤ 2147483647 → K p lv (.inl (fw_or x y) :: r) W) hw
      obtain ⟨j, rc1, rfl, hj, ht1⟩ := fw_t_i ht
      obtain ⟨i, rc, rfl, hi, hr⟩ := fw_t_i ht1
      have k3 : (i ||| j).toInt = fw_or x z := by unfold fw_or; rw [fw_ofi hi, fw_ofi hj]
      have hb := ai_b (i ||| j)
      unfold ai_min ai_max at hb
      rw [k3] at hb
      have k2 := hk hb.1 hb.2
      exact jg_step hq (S' := (pc + 1, lc, .int (i ||| j) :: rc, h)) (by unfold jm_step; rw [hd]; simp only [jm_pure, jm_i2, if_true]) (fw_nx hK hp' hn k2 lc _ h hl ⟨⟨_, rfl, k3⟩, hr⟩ hh)
    · exact hz (ho.trans (if_neg hlen))
  | ixor =>
    by_cases hlen : len = 1
    · have e : o = (38, 0, 0, 0) := ho.trans (if_pos hlen)
      obtain rfl := hlen
      subst e
      intro lc sc h hl ht hh
      obtain ⟨x, z, r, rfl, hk⟩ := fw_i2_ok (k := fun x y r => -2147483648 ≤ fw_xor x y → fw_xor x y ≤ 2147483647 → K p lv (.inl (fw_xor x y) :: r) W) hw
      obtain ⟨j, rc1, rfl, hj, ht1⟩ := fw_t_i ht
      obtain ⟨i, rc, rfl, hi, hr⟩ := fw_t_i ht1
      have k3 : (i ^^^ j).toInt = fw_xor x z := by unfold fw_xor; rw [fw_ofi hi, fw_ofi hj]
      have hb := ai_b (i ^^^ j)
      unfold ai_min ai_max at hb
      rw [k3] at hb
      have k2 := hk hb.1 hb.2
      exact jg_step hq (S' := (pc + 1, lc, .int (i ^^^ j) :: rc, h)) (by unfold jm_step; rw [hd]; simp only [jm_pure, jm_i2, if_true]) (fw_nx hK hp' hn k2 lc _ h hl ⟨⟨_, rfl, k3⟩, hr⟩ hh)
    · exact hz (ho.trans (if_neg hlen))
  | ishl =>
    by_cases hlen : len = 1
    · have e : o = (39, 0, 0, 0) := ho.trans (if_pos hlen)
      obtain rfl := hlen
      subst e
      intro lc sc h hl ht hh
      obtain ⟨x, z, r, rfl, hk⟩ := fw_i2_ok (k := fun x y r => -2147483648 ≤ fw_shl x y → fw_shl x y ≤ 2147483647 → K p lv (.inl (fw_shl x y) :: r) W) hw
      obtain ⟨j, rc1, rfl, hj, ht1⟩ := fw_t_i ht
      obtain ⟨i, rc, rfl, hi, hr⟩ := fw_t_i ht1
      have k3 : (i <<< (j &&& 31)).toInt = fw_shl x z := by unfold fw_shl; rw [fw_ofi hi, fw_ofi hj]
      have hb := ai_b (i <<< (j &&& 31))
      unfold ai_min ai_max at hb
      rw [k3] at hb
      have k2 := hk hb.1 hb.2
      exact jg_step hq (S' := (pc + 1, lc, .int (i <<< (j &&& 31)) :: rc, h)) (by unfold jm_step; rw [hd]; simp only [jm_pure, jm_i2, if_true]) (fw_nx hK hp' hn k2 lc _ h hl ⟨⟨_, rfl, k3⟩, hr⟩ hh)
    · exact hz (ho.trans (if_neg hlen))
  | ishr =>
    by_cases hlen : len = 1
    · have e : o = (40, 0, 0, 0) := ho.trans (if_pos hlen)
      obtain rfl := hlen
      subst e
      intro lc sc h hl ht hh
      obtain ⟨x, z, r, rfl, hk⟩ := fw_i2_ok (k := fun x y r => -2147483648 ≤ fw_shr x y → fw_shr x y ≤ 2147483647 → K p lv (.inl (fw_shr x y) :: r) W) hw
      obtain ⟨j, rc1, rfl, hj, ht1⟩ := fw_t_i ht
      obtain ⟨i, rc, rfl, hi, hr⟩ := fw_t_i ht1
      have k3 : (i >>> (j &&& 31)).toInt = fw_shr x z := by unfold fw_shr; rw [fw_ofi hi, fw_ofi hj]
      have hb := ai_b (i >>> (j &&& 31))
      unfold ai_min ai_max at hb
      rw [k3] at hb
      have k2 := hk hb.1 hb.2
      exact jg_step hq (S' := (pc + 1, lc, .int (i >>> (j &&& 31)) :: rc, h)) (by unfold jm_step; rw [hd]; simp only [jm_pure, jm_i2, if_true]) (fw_nx hK hp' hn k2 lc _ h hl ⟨⟨_, rfl, k3⟩, hr⟩ hh)
    · exact hz (ho.trans (if_neg hlen))
  | iushr =>
    by_cases hlen : len = 1
    · have e : o = (41, 0, 0, 0) := ho.trans (if_pos hlen)
      obtain rfl := hlen
      subst e
      intro lc sc h hl ht hh
      obtain ⟨x, z, r, rfl, hk⟩ := fw_i2_ok (k := fun x y r => -2147483648 ≤ fw_ushr x y → fw_ushr x y ≤ 2147483647 → K p lv (.inl (fw_ushr x y) :: r) W) hw
      obtain ⟨j, rc1, rfl, hj, ht1⟩ := fw_t_i ht
      obtain ⟨i, rc, rfl, hi, hr⟩ := fw_t_i ht1
      have k3 : ((i.toUInt32 >>> (j.toUInt32 &&& Int32.toUInt32 31)).toInt32).toInt = fw_ushr x z := by unfold fw_ushr; rw [fw_ofi hi, fw_ofi hj]
      have hb := ai_b ((i.toUInt32 >>> (j.toUInt32 &&& Int32.toUInt32 31)).toInt32)
      unfold ai_min ai_max at hb
      rw [k3] at hb
      have k2 := hk hb.1 hb.2
      exact jg_step hq (S' := (pc + 1, lc, .int (i.toUInt32 >>> (j.toUInt32 &&& Int32.toUInt32 31)).toInt32 :: rc, h)) (by unfold jm_step; rw [hd]; simp only [jm_pure, jm_i2, if_true]) (fw_nx hK hp' hn k2 lc _ h hl ⟨⟨_, rfl, k3⟩, hr⟩ hh)
    · exact hz (ho.trans (if_neg hlen))
  | i2b =>
    by_cases hlen : len = 1
    · have e : o = (46, 0, 0, 0) := ho.trans (if_pos hlen)
      obtain rfl := hlen
      subst e
      intro lc sc h hl ht hh
      obtain ⟨x, r, rfl, hk⟩ := fw_i1_ok (k := fun _ r => ∀ x : Int, -128 ≤ x → x ≤ 127 → K p lv (.inl x :: r) W) hw
      obtain ⟨i, rc, rfl, hi, hr⟩ := fw_t_i ht
      exact jg_step hq (S' := (pc + 1, lc, .int i.toInt8.toInt32 :: rc, h)) (by unfold jm_step; rw [hd]; simp only [jm_pure, jm_i1, if_true]) (fw_nx hK hp' hn (hk _ (ai_i2b i).1 (ai_i2b i).2) lc _ h hl ⟨⟨_, rfl, rfl⟩, hr⟩ hh)
    · exact hz (ho.trans (if_neg hlen))
  | idiv =>
    by_cases hlen : len = 1
    · have e : o = (33, 0, 0, 0) := ho.trans (if_pos hlen)
      obtain rfl := hlen
      subst e
      intro lc sc h hl ht hh
      obtain ⟨x, z, r, rfl, hk⟩ := fw_i2_ok (k := fun x y r => fw_dv hv pc x y (x / y) (fun z => K p lv (.inl z :: r) W)) hw
      obtain ⟨j, rc1, rfl, hj, ht1⟩ := fw_t_i ht
      obtain ⟨i, rc, rfl, hi, hr⟩ := fw_t_i ht1
      obtain ⟨hz0, hk2⟩ := fw_dv_ok hk (i / j) (fun hx hz0 => fw_idiv hi hj hx hz0)
      have hj0 : ¬ j = 0 := fun e => by rw [e, Int32.toInt_zero] at hj; exact hz0 hj.symm
      exact jg_step hq (S' := (pc + 1, lc, .int (i / j) :: rc, h)) (by unfold jm_step; rw [hd]; simp only [jm_pure, jm_i2, if_true, hj0, if_false]) (fw_nx hK hp' hn hk2 lc _ h hl ⟨⟨_, rfl, rfl⟩, hr⟩ hh)
    · exact hz (ho.trans (if_neg hlen))
  | irem =>
    by_cases hlen : len = 1
    · have e : o = (34, 0, 0, 0) := ho.trans (if_pos hlen)
      obtain rfl := hlen
      subst e
      intro lc sc h hl ht hh
      obtain ⟨x, z, r, rfl, hk⟩ := fw_i2_ok (k := fun x y r => fw_dv hv pc x y (x % y) (fun z => K p lv (.inl z :: r) W)) hw
      obtain ⟨j, rc1, rfl, hj, ht1⟩ := fw_t_i ht
      obtain ⟨i, rc, rfl, hi, hr⟩ := fw_t_i ht1
      obtain ⟨hz0, hk2⟩ := fw_dv_ok hk (i - i / j * j) (fun hx hz0 => fw_irem hi hj hx hz0)
      have hj0 : ¬ j = 0 := fun e => by rw [e, Int32.toInt_zero] at hj; exact hz0 hj.symm
      exact jg_step hq (S' := (pc + 1, lc, .int (i - i / j * j) :: rc, h)) (by unfold jm_step; rw [hd]; simp only [jm_pure, jm_i2, if_true, hj0, if_false]) (fw_nx hK hp' hn hk2 lc _ h hl ⟨⟨_, rfl, rfl⟩, hr⟩ hh)
    · exact hz (ho.trans (if_neg hlen))
  | ineg =>
    by_cases hlen : len = 1
    · have e : o = (35, 0, 0, 0) := ho.trans (if_pos hlen)
      obtain rfl := hlen
      subst e
      intro lc sc h hl ht hh
      obtain ⟨x, r, rfl, hk⟩ := fw_i1_ok (k := fun x r => fw_rs hv pc (-x) (fun z => K p lv (.inl z :: r) W)) hw
      obtain ⟨i, rc, rfl, hi, hr⟩ := fw_t_i ht
      have k2 := fw_rs_ok hk (-i) (fun a b => by rw [Int32.toInt_neg, hi, fw_bm i i _ a b])
      exact jg_step hq (S' := (pc + 1, lc, .int (-i) :: rc, h)) (by unfold jm_step; rw [hd]; simp only [jm_pure, jm_i1, if_true]) (fw_nx hK hp' hn k2 lc _ h hl ⟨⟨_, rfl, rfl⟩, hr⟩ hh)
    · exact hz (ho.trans (if_neg hlen))
  | dup =>
    by_cases hlen : len = 1
    · have e : o = (43, 0, 0, 0) := ho.trans (if_pos hlen)
      obtain rfl := hlen
      subst e
      intro lc sc h hl ht hh
      have hw : fw_wd1 st (fun s => K p lv s W) := hw
      unfold fw_wd1 at hw
      split at hw
      · obtain ⟨v, rc, rfl, g, hr⟩ := fw_t_cons ht
        obtain ⟨hb, hw⟩ := fw_if_ok hw
        have hb := Nat.eq_of_beq_eq_true hb
        exact jg_step hq (S' := (pc + 1, lc, v :: v :: rc, h)) (by unfold jm_step; rw [hd]; simp only [jm_pure, fw_cat g, hb, if_true]) (fw_nx hK hp' hn hw lc _ h hl ⟨g, g, hr⟩ hh)
      · exact hw.elim
    · exact hz (ho.trans (if_neg hlen))
  | dup2 =>
    by_cases hlen : len = 1
    · have e : o = (44, 0, 0, 0) := ho.trans (if_pos hlen)
      obtain rfl := hlen
      subst e
      intro lc sc h hl ht hh
      have hw : fw_wd2 st (fun s => K p lv s W) := hw
      unfold fw_wd2 at hw
      split at hw
      · obtain ⟨v, rc1, rfl, g, ht1⟩ := fw_t_cons ht
        obtain ⟨v2, rc, rfl, g2, hr⟩ := fw_t_cons ht1
        obtain ⟨hb, hw⟩ := fw_if_ok hw
        rw [Bool.and_eq_true] at hb
        have hb1 := Nat.eq_of_beq_eq_true hb.1
        have hb2 := Nat.eq_of_beq_eq_true hb.2
        exact jg_step hq (S' := (pc + 1, lc, v :: v2 :: v :: v2 :: rc, h)) (by unfold jm_step; rw [hd]; simp only [jm_pure, fw_cat g, fw_cat g2, hb1, hb2, and_self, if_true]) (fw_nx hK hp' hn hw lc _ h hl ⟨g, g2, g, g2, hr⟩ hh)
      · exact hw.elim
    · exact hz (ho.trans (if_neg hlen))
  | pop =>
    by_cases hlen : len = 1
    · have e : o = (45, 0, 0, 0) := ho.trans (if_pos hlen)
      obtain rfl := hlen
      subst e
      intro lc sc h hl ht hh
      have hw : fw_wpo st (fun s => K p lv s W) := hw
      unfold fw_wpo at hw
      split at hw
      · obtain ⟨v, rc, rfl, g, hr⟩ := fw_t_cons ht
        obtain ⟨hb, hw⟩ := fw_if_ok hw
        have hb := Nat.eq_of_beq_eq_true hb
        exact jg_step hq (S' := (pc + 1, lc, rc, h)) (by unfold jm_step; rw [hd]; simp only [jm_pure, fw_cat g, hb, if_true]) (fw_nx hK hp' hn hw lc _ h hl hr hh)
      · exact hw.elim
    · exact hz (ho.trans (if_neg hlen))
  | getfield idx =>
    by_cases hlen : len = 3
    · have e : o = fw_gf q.2.2.2.2.1 idx := ho.trans (if_pos hlen)
      subst hlen
      unfold fw_gf at e
      cases hf : jm_fld q.2.2.2.2.1 idx with
      | none => rw [hf] at e; exact hz e
      | some f =>
        obtain ⟨ci, k⟩ := f
        rw [hf] at e
        have e : o = (50, ci, k, 0) := e
        subst e
        intro lc sc h hl ht hh
        obtain ⟨c, fs, v, rc, st', rfl, g1, g2, g3, g4⟩ := fw_wgf_ok (K' := fun s => K p lv s W) hw hT ht hh
        exact jg_step hq (S' := (pc + 3, lc, v :: rc, h)) (by unfold jm_step; rw [hd]; simp only [jm_nx, jm_getf, hf, g1, g2, if_true]) (fw_nx hK hp' hn g3 lc _ h hl g4 hh)
    · exact hz (ho.trans (if_neg hlen))
  | putfield idx =>
    by_cases hlen : len = 3
    · have e : o = fw_pf q.2.2.2.2.1 idx := ho.trans (if_pos hlen)
      subst hlen
      unfold fw_pf at e
      cases hf : jm_fld q.2.2.2.2.1 idx with
      | none => rw [hf] at e; exact hz e
      | some f =>
        obtain ⟨ci, k⟩ := f
        rw [hf] at e
        dsimp only at e
        by_cases hfin : jm_fin ci k = false
        · rw [if_pos hfin] at e
          have fin : ∀ lc sc h, fw_l T lv lc → fw_t T st sc → fw_gh W T h → fw_wpf V ci k st W (fun s W' => K p lv s W') → (∀ i : Int32, st.head? = some (.inl i.toInt) → jm_fit (jm_ty ci k) (.int i) = true) → jg (d + 1) y (pc, lc, sc, h) (fun v h' => ∃ a W', fw_o T a v ∧ fw_gh W' T h' ∧ Post a W') := by
            intro lc sc h hl ht hh hw hfit
            obtain ⟨c, fs, i, rc, W', r, rfl, rfl, g1, g2, g3, g4, g5⟩ := fw_wpf_ok (K' := fun s W' => K p lv s W') hw hT ht hh
            exact jg_step hq (S' := (pc + 3, lc, rc, h.set c (.inr (.inr (.inr (ci, fs.set k (.int i))))))) (by unfold jm_step; rw [hd]; simp only [jm_nh, jm_putf, hf, g1, g2, hfit i rfl, hfin, true_or, and_self, if_true]) (fw_nx hK hp' hn g3 lc _ _ hl g4 g5)
          split at e
          · rename_i hty
            subst e
            intro lc sc h hl ht hh
            exact fin lc sc h hl ht hh hw (fun i _ => by rw [hty]; simp [jm_fit, narrow, fits])
          · rename_i hty
            subst e
            intro lc sc h hl ht hh
            obtain ⟨z, r, rfl, h0, h1, hw2⟩ := fw_wpz_ok (ci := ci) (k := k) (K' := fun s W' => K p lv s W') hw
            refine fin lc sc h hl ht hh hw2 (fun i hi => ?_)
            have hi : z = i.toInt := Sum.inl.inj (Option.some.inj hi)
            rw [hty]
            have h5 : i.toInt = 0 ∨ i.toInt = 1 := by omega
            rcases h5 with h5 | h5
            · have e : i = 0 := Int32.toInt_inj.mp (by rw [h5]; rfl)
              subst e; rfl
            · have e : i = 1 := Int32.toInt_inj.mp (by rw [h5]; rfl)
              subst e; rfl
          · rename_i hty
            subst e
            intro lc sc h hl ht hh
            obtain ⟨c, fs, l, rc, r, W', rfl, g1, g2, g3, g4, g5⟩ := fw_wpl_ok (K' := fun s W' => K p lv s W') hw hT ht hh
            have hfit : jm_fit (jm_ty ci k) (.long l) = true := by rw [hty]; simp [jm_fit, narrow, fits]
            exact jg_step hq (S' := (pc + 3, lc, rc, h.set c (.inr (.inr (.inr (ci, fs.set k (.long l))))))) (by unfold jm_step; rw [hd]; simp only [jm_nh, jm_putf, hf, g1, g2, hfit, hfin, true_or, and_self, if_true]) (fw_nx hK hp' hn g3 lc _ _ hl g4 g5)
          · rename_i hty
            subst e
            intro lc sc h hl ht hh
            obtain ⟨c, fs, j, rc, r, rfl, g1, g2, g3, g4, g5⟩ := fw_wpr_ok (K' := fun s => K p lv s W) hw hT ht hh
            have hfit : jm_fit (jm_ty ci k) (.ref j) = true := by rw [hty]; rfl
            exact jg_step hq (S' := (pc + 3, lc, rc, h.set c (.inr (.inr (.inr (ci, fs.set k (.ref j))))))) (by unfold jm_step; rw [hd]; simp only [jm_nh, jm_putf, hf, g1, g2, hfit, hfin, true_or, and_self, if_true]) (fw_nx hK hp' hn g3 lc _ _ hl g4 g5)
          · exact hz e
        · rw [if_neg hfin] at e
          exact hz e
    · exact hz (ho.trans (if_neg hlen))
  | iaload =>
    by_cases hlen : len = 1
    · have e : o = (52, 0, 0, 0) := ho.trans (if_pos hlen)
      obtain rfl := hlen
      subst e
      intro lc sc h hl ht hh
      obtain ⟨st', sc', g1, g2, g3⟩ := fw_wal_ok (K' := fun s => K p lv s W) hw hT ht hh.1
      exact jg_step hq (S' := (pc + 1, lc, sc', h)) (by unfold jm_step; rw [hd]; simp only [jm_nx, g1, if_true]) (fw_nx hK hp' hn g2 lc _ h hl g3 hh)
    · exact hz (ho.trans (if_neg hlen))
  | baload =>
    by_cases hlen : len = 1
    · have e : o = (54, 0, 0, 0) := ho.trans (if_pos hlen)
      obtain rfl := hlen
      subst e
      intro lc sc h hl ht hh
      obtain ⟨st', sc', g1, g2, g3⟩ := fw_wbl_ok (K' := fun s => K p lv s W) hw hT ht hh.1
      exact jg_step hq (S' := (pc + 1, lc, sc', h)) (by unfold jm_step; rw [hd]; simp only [jm_nx, g1, if_true]) (fw_nx hK hp' hn g2 lc _ h hl g3 hh)
    · exact hz (ho.trans (if_neg hlen))
  | aaload =>
    by_cases hlen : len = 1
    · have e : o = (56, 0, 0, 0) := ho.trans (if_pos hlen)
      obtain rfl := hlen
      subst e
      intro lc sc h hl ht hh
      obtain ⟨st', sc', g1, g2, g3⟩ := fw_waa_ok (K' := fun s => K p lv s W) hw hT ht hh.1
      exact jg_step hq (S' := (pc + 1, lc, sc', h)) (by unfold jm_step; rw [hd]; simp only [jm_nx, g1, if_true]) (fw_nx hK hp' hn g2 lc _ h hl g3 hh)
    · exact hz (ho.trans (if_neg hlen))
  | arraylength =>
    by_cases hlen : len = 1
    · have e : o = (57, 0, 0, 0) := ho.trans (if_pos hlen)
      obtain rfl := hlen
      subst e
      intro lc sc h hl ht hh
      obtain ⟨st', sc', g1, g2, g3⟩ := fw_wln_ok (K' := fun s => K p lv s W) hw hT ht hh.1
      exact jg_step hq (S' := (pc + 1, lc, sc', h)) (by unfold jm_step; rw [hd]; simp only [jm_nx, g1, if_true]) (fw_nx hK hp' hn g2 lc _ h hl g3 hh)
    · exact hz (ho.trans (if_neg hlen))
  | iastore =>
    by_cases hlen : len = 1
    · have e : o = (53, 0, 0, 0) := ho.trans (if_pos hlen)
      obtain rfl := hlen
      subst e
      intro lc sc h hl ht hh
      obtain ⟨st', W', sc', h', g1, g2, g3, g4⟩ := fw_was_ok (K' := fun s W' => K p lv s W') hw hT ht hh
      exact jg_step hq (S' := (pc + 1, lc, sc', h')) (by unfold jm_step; rw [hd]; simp only [jm_nh, g1, if_true]) (fw_nx hK hp' hn g2 lc _ h' hl g3 g4)
    · exact hz (ho.trans (if_neg hlen))
  | bastore =>
    by_cases hlen : len = 1
    · have e : o = (55, 0, 0, 0) := ho.trans (if_pos hlen)
      obtain rfl := hlen
      subst e
      intro lc sc h hl ht hh
      obtain ⟨st', W', sc', h', g1, g2, g3, g4⟩ := fw_wbs_ok (K' := fun s W' => K p lv s W') hw hT ht hh
      exact jg_step hq (S' := (pc + 1, lc, sc', h')) (by unfold jm_step; rw [hd]; simp only [jm_nh, g1, if_true]) (fw_nx hK hp' hn g2 lc _ h' hl g3 g4)
    · exact hz (ho.trans (if_neg hlen))
  | invokevirtual idx =>
    by_cases hlen : len = 3
    · have e : o = fw_clv q.2.2.2.2.1 idx := ho.trans (if_pos hlen)
      subst hlen
      unfold fw_clv at e
      by_cases s1 : q.2.2.2.2.1 = 7 ∧ idx = 73
      · rw [if_pos s1] at e
        subst e
        intro lc sc h hl ht hh
        obtain ⟨st', sc', g1, g2, g3⟩ := fw_wsl_ok (K' := fun s => K p lv s W) hw ht
        have hcall : jm_call q.2.2.2.2.1 idx 0 sc h = none := by rw [s1.1, s1.2]; unfold jm_call; rw [fw_lnks.1]
        exact jg_step hq (S' := (pc + 3, lc, sc', h)) (by unfold jm_step; rw [hd]; dsimp only; rw [if_pos rfl, hcall]; dsimp only; rw [s1.1, s1.2, g1]) (fw_nx hK hp' hn g2 lc _ h hl g3 hh)
      rw [if_neg s1] at e
      by_cases s2 : q.2.2.2.2.1 = 7 ∧ idx = 78
      · rw [if_pos s2] at e
        subst e
        intro lc sc h hl ht hh
        obtain ⟨st', sc', g1, g2, g3⟩ := fw_wsc_ok (K' := fun s => K p lv s W) hw ht
        have hcall : jm_call q.2.2.2.2.1 idx 0 sc h = none := by rw [s2.1, s2.2]; unfold jm_call; rw [fw_lnks.2]
        exact jg_step hq (S' := (pc + 3, lc, sc', h)) (by unfold jm_step; rw [hd]; dsimp only; rw [if_pos rfl, hcall]; dsimp only; rw [s2.1, s2.2, g1]) (fw_nx hK hp' hn g2 lc _ h hl g3 hh)
      rw [if_neg s2] at e
      rcases fw_cl_is q.2.2.2.2.1 idx 0 with h0 | ⟨h0, -⟩ | ⟨-, y', n, cj, h0⟩
      · exact hz (e.trans h0)
      · cases h0
      · obtain ⟨q', l1, l2, l3, l4⟩ := fw_cl_ok h0 rfl (Or.inl rfl)
        rw [h0] at e
        subst e
        have hw : fw_wcv V ct y' n cj st W J (fun s W' => K p lv s W') := hw
        unfold fw_wcv at hw
        split at hw
        · rename_i X hX
          split at hw
          · rename_i as c r hs
            split at hw
            · rename_i ci ts hcell
              obtain ⟨w1, hw⟩ := fw_if_ok hw
              obtain ⟨w2, w3⟩ := fw_if_ok hw
              have w1 := Nat.eq_of_beq_eq_true w1
              rw [Bool.and_eq_true] at w2
              have w4 := Nat.le_of_ble_eq_true w2.2
              have w2 := Nat.le_of_ble_eq_true w2.1
              intro lc sc h hl ht hh
              obtain ⟨s1, s2, s3⟩ := fw_spl_ok n (ac := []) hs ht trivial
              rw [List.append_nil] at s3
              obtain ⟨v0, rc, e0, e1, hr⟩ := fw_t_cons s2
              have e1 : v0 = .ref c := e1
              subst e1
              obtain ⟨-, fs, o1, -, -⟩ := fw_obj hT hcell hh.1
              have hla := fw_t_len s3
              have hlr := fw_t_len hr
              have hln : as.length = n := by
                have := hla.2
                rw [List.length_reverse, List.length_take] at this
                omega
              rcases l4 with ⟨a1, -⟩ | ⟨a1, -, a3, a4⟩
              · cases a1
              · have hci : ci = q'.2.2.2.2.1 := by rw [a4, Int.toNat_natCast] at w1; omega
                have hnl : 1 + fw_ws as ≤ q'.2.2.1 := by rw [a4, Int.toNat_natCast] at w4; omega
                have hcall : jm_call q.2.2.2.2.1 idx 0 sc h = some (.inr (.inr (y', .ref c :: (sc.take n).reverse, rc))) := by
                  unfold jm_call
                  rw [l1]
                  dsimp only
                  rw [if_pos rfl, l2, l3]
                  dsimp only
                  rw [if_neg (by decide), e0]
                  dsimp only
                  rw [if_pos ⟨s1, by rw [hlr.1]; exact w2, by rw [hla.1]; exact hnl⟩, o1]
                  dsimp only
                  rw [if_pos hci]
                exact jg_call hq (y' := y') (as := .ref c :: (sc.take n).reverse) (r := rc) (by unfold jm_step; rw [hd]; dsimp only; rw [if_pos rfl, hcall]) (fw_aft hc hX w3 (fun a W' hk => fw_nx hK hp' hn hk) hl (asc := .ref c :: (sc.take n).reverse) ⟨rfl, s3⟩ hr hh)
            · exact hw.elim
          · rename_i as c r hs
            obtain ⟨wb, hw⟩ := fw_if_ok hw
            obtain ⟨wc, hw⟩ := fw_if_ok hw
            obtain ⟨w2, w3⟩ := fw_if_ok hw
            rw [Bool.and_eq_true] at w2
            have w4 := Nat.le_of_ble_eq_true w2.2
            have w2 := Nat.le_of_ble_eq_true w2.1
            intro lc sc h hl ht hh
            obtain ⟨s1, s2, s3⟩ := fw_spl_ok n (ac := []) hs ht trivial
            rw [List.append_nil] at s3
            obtain ⟨v0, rc, e0, e1, hr⟩ := fw_t_cons s2
            obtain ⟨k2, hk2, rfl⟩ := (fw_v_set wb).mp e1
            have wk := List.all_eq_true.mp wc k2 hk2
            unfold fw_isc at wk
            split at wk
            · rename_i ci ts hcell
              have w1 := Nat.eq_of_beq_eq_true wk
              obtain ⟨-, fs, o1, -, -⟩ := fw_obj hT hcell hh.1
              have hla := fw_t_len s3
              have hlr := fw_t_len hr
              have hln : as.length = n := by
                have := hla.2
                rw [List.length_reverse, List.length_take] at this
                omega
              rcases l4 with ⟨a1, -⟩ | ⟨a1, -, a3, a4⟩
              · cases a1
              · have hci : ci = q'.2.2.2.2.1 := by rw [a4, Int.toNat_natCast] at w1; omega
                have hnl : 1 + fw_ws as ≤ q'.2.2.1 := by rw [a4, Int.toNat_natCast] at w4; omega
                have hcall : jm_call q.2.2.2.2.1 idx 0 sc h = some (.inr (.inr (y', .ref k2 :: (sc.take n).reverse, rc))) := by
                  unfold jm_call
                  rw [l1]
                  dsimp only
                  rw [if_pos rfl, l2, l3]
                  dsimp only
                  rw [if_neg (by decide), e0]
                  dsimp only
                  rw [if_pos ⟨s1, by rw [hlr.1]; exact w2, by rw [hla.1]; exact hnl⟩, o1]
                  dsimp only
                  rw [if_pos hci]
                exact jg_call hq (y' := y') (as := .ref k2 :: (sc.take n).reverse) (r := rc) (by unfold jm_step; rw [hd]; dsimp only; rw [if_pos rfl, hcall]) (fw_aft hc hX w3 (fun a W' hk => fw_nx hK hp' hn hk) hl (asc := .ref k2 :: (sc.take n).reverse) ⟨e1, s3⟩ hr hh)
            · cases wk
          · exact hw.elim
        · exact hJ hw
    · exact hz (ho.trans (if_neg hlen))
  | invokestatic idx =>
    by_cases hlen : len = 3
    · have e : o = fw_st q.2.2.2.2.1 idx := ho.trans (if_pos hlen)
      subst hlen
      unfold fw_st at e
      by_cases h1 : jm_has jm_kmax q.2.2.2.2.1 idx = true
      · rw [if_pos h1] at e
        subst e
        intro lc sc h hl ht hh
        obtain ⟨x, z, r, rfl, hk⟩ := fw_i2_ok (k := fun x y r => fw_if (Nat.ble (fw_ws r) 8) (K p lv (.inl (max x y) :: r) W)) hw
        obtain ⟨w2, hk⟩ := fw_if_ok hk
        have w2 := Nat.le_of_ble_eq_true w2
        obtain ⟨j, rc1, rfl, hj, ht1⟩ := fw_t_i ht
        obtain ⟨i, rc, rfl, hi, hr⟩ := fw_t_i ht1
        have k3 : (if i < j then j else i).toInt = max x z := by
          split
          · rename_i c
            have := Int32.lt_iff_toInt_lt.mp c
            omega
          · rename_i c
            have c' : ¬ i.toInt < j.toInt := fun z => c (Int32.lt_iff_toInt_lt.mpr z)
            omega
        exact jg_step hq (S' := (pc + 3, lc, .int (if i < j then j else i) :: rc, h)) (by unfold jm_step; rw [hd]; simp only [jm_math, h1, (fw_t_len hr).1, w2, if_true]) (fw_nx hK hp' hn hk lc _ h hl ⟨⟨_, rfl, k3⟩, hr⟩ hh)
      · rw [if_neg h1] at e
        by_cases h2 : jm_has jm_kmin q.2.2.2.2.1 idx = true
        · rw [if_pos h2] at e
          subst e
          intro lc sc h hl ht hh
          obtain ⟨x, z, r, rfl, hk⟩ := fw_i2_ok (k := fun x y r => fw_if (Nat.ble (fw_ws r) 8) (K p lv (.inl (min x y) :: r) W)) hw
          obtain ⟨w2, hk⟩ := fw_if_ok hk
          have w2 := Nat.le_of_ble_eq_true w2
          obtain ⟨j, rc1, rfl, hj, ht1⟩ := fw_t_i ht
          obtain ⟨i, rc, rfl, hi, hr⟩ := fw_t_i ht1
          have k3 : (if j < i then j else i).toInt = min x z := by
            split
            · rename_i c
              have := Int32.lt_iff_toInt_lt.mp c
              omega
            · rename_i c
              have c' : ¬ j.toInt < i.toInt := fun z => c (Int32.lt_iff_toInt_lt.mpr z)
              omega
          exact jg_step hq (S' := (pc + 3, lc, .int (if j < i then j else i) :: rc, h)) (by unfold jm_step; rw [hd]; simp [jm_math, h1, h2, (fw_t_len hr).1, w2]) (fw_nx hK hp' hn hk lc _ h hl ⟨⟨_, rfl, k3⟩, hr⟩ hh)
        · rw [if_neg h2] at e
          by_cases h3 : jm_has jm_kabs q.2.2.2.2.1 idx = true
          · rw [if_pos h3] at e
            subst e
            intro lc sc h hl ht hh
            obtain ⟨x, r, rfl, hk⟩ := fw_i1_ok (k := fun _ r => fw_if (Nat.ble (fw_ws r) 8) (∀ x : Int, -2147483648 ≤ x → x ≤ 2147483647 → K p lv (.inl x :: r) W)) hw
            obtain ⟨w2, hk⟩ := fw_if_ok hk
            have w2 := Nat.le_of_ble_eq_true w2
            obtain ⟨i, rc, rfl, hi, hr⟩ := fw_t_i ht
            have hb := ai_b (if 0 ≤ i then i else 0 - i)
            unfold ai_min ai_max at hb
            exact jg_step hq (S' := (pc + 3, lc, .int (if 0 ≤ i then i else 0 - i) :: rc, h)) (by unfold jm_step; rw [hd]; simp [jm_math, h1, h2, h3, (fw_t_len hr).1, w2]) (fw_nx hK hp' hn (hk _ hb.1 hb.2) lc _ h hl ⟨⟨_, rfl, rfl⟩, hr⟩ hh)
          · rw [if_neg h3] at e
            by_cases h4 : q.2.2.2.2.1 = 9 ∧ idx = 28
            · rw [if_pos h4] at e
              subst e
              intro lc sc h hl ht hh
              have hm : ∀ sc, jm_math q.2.2.2.2.1 idx sc = none := fun sc => by
                unfold jm_math
                rw [if_neg h1, if_neg h2, if_neg h3]
              obtain ⟨w8, hw⟩ := fw_if_ok (P := fw_wcp V st W (fun s W' => K p lv s W')) hw
              obtain ⟨st', W', sc', h', g1, g2, g3, g4⟩ := fw_wcp_ok hw (Nat.le_of_ble_eq_true w8) hT ht hh
              exact jg_step hq (S' := (pc + 3, lc, sc', h')) (by unfold jm_step; rw [hd]; dsimp only; rw [if_pos rfl, hm sc]; dsimp only; rw [if_pos h4]; simp only [jm_nh, g1]) (fw_nx hK hp' hn g2 lc _ h' hl g3 g4)
            · rw [if_neg h4] at e
              have hm : ∀ sc, jm_math q.2.2.2.2.1 idx sc = none := fun sc => by
                unfold jm_math
                rw [if_neg h1, if_neg h2, if_neg h3]
              rcases fw_cl_is q.2.2.2.2.1 idx 1 with h0 | ⟨-, y', n, cj, h0⟩ | ⟨h0, -⟩
              · exact hz (e.trans h0)
              · obtain ⟨q', l1, l2, l3, l4⟩ := fw_cl_ok h0 rfl (Or.inr rfl)
                rw [h0] at e
                subst e
                have hw : fw_wcs ct y' n cj st W J (fun s W' => K p lv s W') := hw
                unfold fw_wcs at hw
                split at hw
                · rename_i X hX
                  split at hw
                  · rename_i as r hs
                    obtain ⟨w2, w3⟩ := fw_if_ok hw
                    rw [Bool.and_eq_true] at w2
                    have w4 := Nat.le_of_ble_eq_true w2.2
                    have w2 := Nat.le_of_ble_eq_true w2.1
                    intro lc sc h hl ht hh
                    obtain ⟨s1, s2, s3⟩ := fw_spl_ok n (ac := []) hs ht trivial
                    rw [List.append_nil] at s3
                    have hla := fw_t_len s3
                    have hlr := fw_t_len s2
                    have hln : as.length = n := by
                      have := hla.2
                      rw [List.length_reverse, List.length_take] at this
                      omega
                    rcases l4 with ⟨a1, -, a3⟩ | ⟨a1, -⟩
                    · have hcall : jm_call q.2.2.2.2.1 idx 1 sc h = some (.inr (.inr (y', (sc.take n).reverse, sc.drop n))) := by
                        unfold jm_call
                        rw [l1]
                        dsimp only
                        rw [if_pos rfl, l2, l3]
                        dsimp only
                        rw [if_pos rfl, if_pos ⟨s1, by rw [hlr.1]; exact w2, by rw [hla.1]; rw [a3, Int.toNat_natCast] at w4; omega⟩]
                      exact jg_call hq (y' := y') (as := (sc.take n).reverse) (r := sc.drop n) (by unfold jm_step; rw [hd]; dsimp only; rw [if_pos rfl, hm sc]; dsimp only; rw [if_neg h4, hcall]) (fw_aft hc hX w3 (fun a W' hk => fw_nx hK hp' hn hk) hl s3 s2 hh)
                    · exact absurd rfl a1
                  · exact hw.elim
                · exact hJ hw
              · exact absurd rfl h0
    · exact hz (ho.trans (if_neg hlen))
  | tableswitch dd lo hi offs =>
    by_cases hlen : hi = lo + offs.size - 1
    · have e : o = fw_swr (fw_tgs pc (dd :: offs.toList)) := ho.trans (if_pos hlen)
      cases hg : fw_tgs pc (dd :: offs.toList) with
      | none => rw [hg] at e; exact hz e
      | some an =>
        obtain ⟨a, n⟩ := an
        rw [hg] at e
        have e : o = (95, a, n, 0) := e
        subst e
        intro lc sc h hl ht hh
        obtain ⟨x, r, rfl, hw⟩ := fw_i1_ok (k := fun _ r => fw_sw a n (fun t => K (fw_seek t R) lv r W)) hw
        obtain ⟨i, rc, rfl, hi2, hr⟩ := fw_t_i ht
        by_cases hr2 : i.toInt < lo ∨ hi < i.toInt
        · obtain ⟨t, t1, t2⟩ := fw_tgs_ok hg hw dd List.mem_cons_self
          exact jg_step hq (S' := (t, lc, rc, h)) (by unfold jm_step; rw [hd]; dsimp only; simp only [jm_pure, jm_i1]; rw [if_pos hr2, t1]) (fw_jp hK hR t2 lc _ h hl hr hh)
        · have hlt : (i.toInt - lo).toNat < offs.size := by omega
          obtain ⟨t, t1, t2⟩ := fw_tgs_ok hg hw offs[(i.toInt - lo).toNat] (List.mem_cons_of_mem _ (Array.mem_toList_iff.mpr (Array.getElem_mem hlt)))
          exact jg_step hq (S' := (t, lc, rc, h)) (by unfold jm_step; rw [hd]; dsimp only; simp only [jm_pure, jm_i1]; rw [if_neg hr2, Array.getElem?_eq_getElem hlt]; dsimp only; rw [t1]) (fw_jp hK hR t2 lc _ h hl hr hh)
    · exact hz (ho.trans (if_neg hlen))
  | lookupswitch dd ps =>
    by_cases hlen : (ps.toList.zip (ps.toList.drop 1)).all (fun (a, next) => a.1 < next.1) = true
    · have e : o = fw_swr (fw_tgs pc (dd :: ps.toList.map (fun q => q.2))) := ho.trans (if_pos hlen)
      cases hg : fw_tgs pc (dd :: ps.toList.map (fun q => q.2)) with
      | none => rw [hg] at e; exact hz e
      | some an =>
        obtain ⟨a, n⟩ := an
        rw [hg] at e
        have e : o = (95, a, n, 0) := e
        subst e
        intro lc sc h hl ht hh
        obtain ⟨x, r, rfl, hw⟩ := fw_i1_ok (k := fun _ r => fw_sw a n (fun t => K (fw_seek t R) lv r W)) hw
        obtain ⟨i, rc, rfl, hi2, hr⟩ := fw_t_i ht
        obtain ⟨t, t1, t2⟩ := fw_tgs_ok hg hw _ (fw_lko (d := dd) (x := i.toInt) (l := ps.toList))
        exact jg_step hq (S' := (t, lc, rc, h)) (by unfold jm_step; rw [hd]; dsimp only; simp only [jm_pure, jm_i1]; rw [if_pos hlen, t1]) (fw_jp hK hR t2 lc _ h hl hr hh)
    · exact hz (ho.trans (if_neg hlen))
  | lconst n =>
    by_cases hlen : len = 1
    · have e : o = (80, 1001 + n.val, 0, 0) := ho.trans (if_pos hlen)
      obtain rfl := hlen
      subst e
      intro lc sc h hl ht hh
      obtain ⟨hb, hw⟩ := fw_if_ok (P := K p lv (.inr (.inr (1001 + n.val)) :: st) W) hw
      have hx : (Int64.ofNat (n.val : Nat)).toInt = (n.val : Int) := fw_o64 n
      have g : fw_v T (.inr (.inr (1001 + n.val))) (.long (Int64.ofNat (n.val : Nat))) := by
        have := n.isLt
        exact fw_sk_mk (by omega) (by omega) (by omega) (by omega)
      exact jg_step hq (S' := (pc + 1, lc, .long (Int64.ofNat (n.val : Nat)) :: sc, h)) (by unfold jm_step; rw [hd]; rfl) (fw_nx hK hp' hn hw lc _ h hl ⟨g, ht⟩ hh)
    · exact hz (ho.trans (if_neg hlen))
  | ldc2_w idx =>
    by_cases hlen : len = 3
    · have e : o = fw_conl (jm_conl q.2.2.2.2.1 idx) := ho.trans (if_pos hlen)
      subst hlen
      cases hcn : jm_conl q.2.2.2.2.1 idx with
      | none => rw [hcn] at e; exact hz e
      | some v =>
        rw [hcn] at e
        unfold fw_conl at e
        dsimp only at e
        by_cases hv1 : 0 ≤ v.toInt ∧ v.toInt ≤ 100
        · rw [if_pos hv1] at e
          subst e
          intro lc sc h hl ht hh
          obtain ⟨hb, hw⟩ := fw_if_ok (P := K p lv (.inr (.inr (1001 + v.toInt.toNat)) :: st) W) hw
          have g : fw_v T (.inr (.inr (1001 + v.toInt.toNat))) (.long v) := fw_sk_mk (by omega) (by omega) hv1.1 (by omega)
          exact jg_step hq (S' := (pc + 3, lc, .long v :: sc, h)) (by unfold jm_step; rw [hd]; dsimp only; rw [if_pos rfl, hcn]) (fw_nx hK hp' hn hw lc _ h hl ⟨g, ht⟩ hh)
        · rw [if_neg hv1] at e
          by_cases hv2 : fw_kn v = 0
          · rw [if_pos hv2] at e
            subst e
            intro lc sc h hl ht hh
            have hw : K p lv (.inr (.inr 1000) :: st) W := hw
            exact jg_step hq (S' := (pc + 3, lc, .long v :: sc, h)) (by unfold jm_step; rw [hd]; dsimp only; rw [if_pos rfl, hcn]) (fw_nx hK hp' hn hw lc _ h hl ⟨fw_v_any T v, ht⟩ hh)
          · rw [if_neg hv2] at e
            subst e
            intro lc sc h hl ht hh
            obtain ⟨hb, hw⟩ := fw_if_ok (P := K p lv (.inr (.inr (1300 + fw_kn v)) :: st) W) hw
            have g : fw_v T (.inr (.inr (1300 + fw_kn v))) (.long v) := by
              unfold fw_v
              dsimp only
              rw [hb]
              refine ⟨v, rfl, ?_⟩
              unfold fw_lk
              rw [show Nat.ble 1300 (1300 + fw_kn v) = true from Nat.ble_eq_true_of_le (by omega)]
              show fw_kn v + 1300 = 1300 + fw_kn v
              omega
            exact jg_step hq (S' := (pc + 3, lc, .long v :: sc, h)) (by unfold jm_step; rw [hd]; dsimp only; rw [if_pos rfl, hcn]) (fw_nx hK hp' hn hw lc _ h hl ⟨g, ht⟩ hh)
    · exact hz (ho.trans (if_neg hlen))
  | lload_n k =>
    by_cases hlen : len = 1
    · have e : o = (81, k.val, 0, 0) := ho.trans (if_pos hlen)
      obtain rfl := hlen
      subst e
      intro lc sc h hl ht hh
      have hw : fw_ll lv k.val (fun c => K p lv (.inr (.inr c) :: st) W) := hw
      unfold fw_ll at hw
      split at hw
      · rename_i c hg
        obtain ⟨v, g1, g2⟩ := fw_get_ok hl hg
        obtain ⟨hb, hw⟩ := fw_if_ok hw
        obtain ⟨-, l, rfl, -⟩ := fw_v_lg g2 hb
        exact jg_step hq (S' := (pc + 1, lc, .long l :: sc, h)) (by unfold jm_step; rw [hd]; simp only [jm_pure, jm_ldl, g1, if_true]) (fw_nx hK hp' hn hw lc _ h hl ⟨g2, ht⟩ hh)
      · exact hw.elim
    · exact hz (ho.trans (if_neg hlen))
  | lload k =>
    by_cases hlen : len = 2
    · have e : o = (81, k, 0, 0) := ho.trans (if_pos hlen)
      obtain rfl := hlen
      subst e
      intro lc sc h hl ht hh
      have hw : fw_ll lv k (fun c => K p lv (.inr (.inr c) :: st) W) := hw
      unfold fw_ll at hw
      split at hw
      · rename_i c hg
        obtain ⟨v, g1, g2⟩ := fw_get_ok hl hg
        obtain ⟨hb, hw⟩ := fw_if_ok hw
        obtain ⟨-, l, rfl, -⟩ := fw_v_lg g2 hb
        exact jg_step hq (S' := (pc + 2, lc, .long l :: sc, h)) (by unfold jm_step; rw [hd]; simp only [jm_pure, jm_ldl, g1, if_true]) (fw_nx hK hp' hn hw lc _ h hl ⟨g2, ht⟩ hh)
      · exact hw.elim
    · exact hz (ho.trans (if_neg hlen))
  | lstore_n k =>
    by_cases hlen : len = 1 ∧ k.val + 1 < q.2.2.1
    · have e : o = (82, k.val, 0, 0) := ho.trans (if_pos hlen)
      obtain ⟨rfl, hlen⟩ := hlen
      subst e
      intro lc sc h hl ht hh
      have hw : fw_lg st (fun c r => K p (fw_set k.val (.inr (.inr c)) lv) r W) := hw
      obtain ⟨c, r, l, rc, rfl, rfl, hb, -, hr, hk⟩ := fw_lg_ok hw ht
      exact jg_step hq (S' := (pc + 1, jm_st2 k.val (.long l) lc, rc, h)) (by unfold jm_step; rw [hd]; simp only [jm_pure, jm_stl, hlen, if_true]) (fw_nx hK hp' hn hk _ rc h (fw_l_set2 hl ht.1 (fw_v_lg ht.1 hb).1) hr hh)
    · exact hz (ho.trans (if_neg hlen))
  | lstore k =>
    by_cases hlen : len = 2 ∧ k + 1 < q.2.2.1
    · have e : o = (82, k, 0, 0) := ho.trans (if_pos hlen)
      obtain ⟨rfl, hlen⟩ := hlen
      subst e
      intro lc sc h hl ht hh
      have hw : fw_lg st (fun c r => K p (fw_set k (.inr (.inr c)) lv) r W) := hw
      obtain ⟨c, r, l, rc, rfl, rfl, hb, -, hr, hk⟩ := fw_lg_ok hw ht
      exact jg_step hq (S' := (pc + 2, jm_st2 k (.long l) lc, rc, h)) (by unfold jm_step; rw [hd]; simp only [jm_pure, jm_stl, hlen, if_true]) (fw_nx hK hp' hn hk _ rc h (fw_l_set2 hl ht.1 (fw_v_lg ht.1 hb).1) hr hh)
    · exact hz (ho.trans (if_neg hlen))
  | laload =>
    by_cases hlen : len = 1
    · have e : o = (85, 0, 0, 0) := ho.trans (if_pos hlen)
      obtain rfl := hlen
      subst e
      intro lc sc h hl ht hh
      obtain ⟨st', sc', g1, g2, g3⟩ := fw_wll_ok (K' := fun s => K p lv s W) hw hT ht hh.1
      exact jg_step hq (S' := (pc + 1, lc, sc', h)) (by unfold jm_step; rw [hd]; simp only [jm_nx, g1, if_true]) (fw_nx hK hp' hn g2 lc _ h hl g3 hh)
    · exact hz (ho.trans (if_neg hlen))
  | lastore =>
    by_cases hlen : len = 1
    · have e : o = (86, 0, 0, 0) := ho.trans (if_pos hlen)
      obtain rfl := hlen
      subst e
      intro lc sc h hl ht hh
      obtain ⟨st', sc', h', g1, g2, g3, g4⟩ := fw_wls_ok (K' := fun s => K p lv s W) hw hT ht hh
      exact jg_step hq (S' := (pc + 1, lc, sc', h')) (by unfold jm_step; rw [hd]; simp only [jm_nh, g1, if_true]) (fw_nx hK hp' hn g2 lc _ h' hl g3 g4)
    · exact hz (ho.trans (if_neg hlen))
  | lmul =>
    by_cases hlen : len = 1
    · have e : o = (87, 0, 0, 0) := ho.trans (if_pos hlen)
      obtain rfl := hlen
      subst e
      intro lc sc h hl ht hh
      have hw : fw_lg st (fun _ s => fw_lg s (fun _ r => K p lv (.inr (.inr 1000) :: r) W)) := hw
      obtain ⟨c, r1, y2, rc1, rfl, rfl, hb, -, ht1, hw⟩ := fw_lg_ok hw ht
      obtain ⟨c1, r, x2, rc, rfl, rfl, hb1, -, hr, hw⟩ := fw_lg_ok hw ht1
      exact jg_step hq (S' := (pc + 1, lc, .long (x2 * y2) :: rc, h)) (by unfold jm_step; rw [hd]; simp only [jm_pure, jm_l2, if_true]) (fw_nx hK hp' hn hw lc _ h hl ⟨fw_v_any T _, hr⟩ hh)
    · exact hz (ho.trans (if_neg hlen))
  | lor =>
    by_cases hlen : len = 1
    · have e : o = (87, 0, 0, 0) := ho.trans (if_pos hlen)
      obtain rfl := hlen
      subst e
      intro lc sc h hl ht hh
      have hw : fw_lg st (fun _ s => fw_lg s (fun _ r => K p lv (.inr (.inr 1000) :: r) W)) := hw
      obtain ⟨c, r1, y2, rc1, rfl, rfl, hb, -, ht1, hw⟩ := fw_lg_ok hw ht
      obtain ⟨c1, r, x2, rc, rfl, rfl, hb1, -, hr, hw⟩ := fw_lg_ok hw ht1
      exact jg_step hq (S' := (pc + 1, lc, .long (x2 ||| y2) :: rc, h)) (by unfold jm_step; rw [hd]; simp only [jm_pure, jm_l2, if_true]) (fw_nx hK hp' hn hw lc _ h hl ⟨fw_v_any T _, hr⟩ hh)
    · exact hz (ho.trans (if_neg hlen))
  | land =>
    by_cases hlen : len = 1
    · have e : o = (88, 0, 0, 0) := ho.trans (if_pos hlen)
      obtain rfl := hlen
      subst e
      intro lc sc h hl ht hh
      have hw : fw_lg st (fun b s => fw_lg s (fun a r => K p lv (.inr (.inr (fw_lm a b)) :: r) W)) := hw
      obtain ⟨c, r1, y2, rc1, rfl, rfl, hb, hy, ht1, hw⟩ := fw_lg_ok hw ht
      obtain ⟨c1, r, x2, rc, rfl, rfl, hb1, hx, hr, hw⟩ := fw_lg_ok hw ht1
      exact jg_step hq (S' := (pc + 1, lc, .long (x2 &&& y2) :: rc, h)) (by unfold jm_step; rw [hd]; simp only [jm_pure, jm_l2, if_true]) (fw_nx hK hp' hn hw lc _ h hl ⟨fw_land hx hy, hr⟩ hh)
    · exact hz (ho.trans (if_neg hlen))
  | lshl =>
    by_cases hlen : len = 1
    · have e : o = (89, 0, 0, 0) := ho.trans (if_pos hlen)
      obtain rfl := hlen
      subst e
      intro lc sc h hl ht hh
      obtain ⟨x, r1, rfl, hw⟩ := fw_i1_ok (k := fun _ s => fw_lg s (fun _ r => K p lv (.inr (.inr 1000) :: r) W)) hw
      obtain ⟨y2, rc1, rfl, -, ht1⟩ := fw_t_i ht
      obtain ⟨c1, r, x2, rc, rfl, rfl, hb1, -, hr, hw⟩ := fw_lg_ok hw ht1
      exact jg_step hq (S' := (pc + 1, lc, .long (x2 <<< (y2.toInt64 &&& 63)) :: rc, h)) (by unfold jm_step; rw [hd]; simp only [jm_pure, jm_il, if_true]) (fw_nx hK hp' hn hw lc _ h hl ⟨fw_v_any T _, hr⟩ hh)
    · exact hz (ho.trans (if_neg hlen))
  | lshr =>
    by_cases hlen : len = 1
    · have e : o = (89, 0, 0, 0) := ho.trans (if_pos hlen)
      obtain rfl := hlen
      subst e
      intro lc sc h hl ht hh
      obtain ⟨x, r1, rfl, hw⟩ := fw_i1_ok (k := fun _ s => fw_lg s (fun _ r => K p lv (.inr (.inr 1000) :: r) W)) hw
      obtain ⟨y2, rc1, rfl, -, ht1⟩ := fw_t_i ht
      obtain ⟨c1, r, x2, rc, rfl, rfl, hb1, -, hr, hw⟩ := fw_lg_ok hw ht1
      exact jg_step hq (S' := (pc + 1, lc, .long (x2 >>> (y2.toInt64 &&& 63)) :: rc, h)) (by unfold jm_step; rw [hd]; simp only [jm_pure, jm_il, if_true]) (fw_nx hK hp' hn hw lc _ h hl ⟨fw_v_any T _, hr⟩ hh)
    · exact hz (ho.trans (if_neg hlen))
  | lcmp =>
    by_cases hlen : len = 1
    · have e : o = (90, 0, 0, 0) := ho.trans (if_pos hlen)
      obtain rfl := hlen
      subst e
      intro lc sc h hl ht hh
      have hw : fw_lg st (fun b s => fw_lg s (fun a r => fw_lc a b (fun x => K p lv (.inl x :: r) W))) := hw
      obtain ⟨c, r1, y2, rc1, rfl, rfl, hb, hy, ht1, hw⟩ := fw_lg_ok hw ht
      obtain ⟨c1, r, x2, rc, rfl, rfl, hb1, hx, hr, hw⟩ := fw_lg_ok hw ht1
      have hc := fw_lc_ok hw hx hy
      exact jg_step hq (S' := (pc + 1, lc, .int (lg_cmp x2 y2) :: rc, h)) (by unfold jm_step; rw [hd]; simp only [jm_pure, jm_l2, if_true]) (fw_nx hK hp' hn hc lc _ h hl ⟨⟨_, rfl, rfl⟩, hr⟩ hh)
    · exact hz (ho.trans (if_neg hlen))
  | i2l =>
    by_cases hlen : len = 1
    · have e : o = (91, 0, 0, 0) := ho.trans (if_pos hlen)
      obtain rfl := hlen
      subst e
      intro lc sc h hl ht hh
      obtain ⟨x, r, rfl, hw⟩ := fw_i1_ok (k := fun _ r => K p lv (.inr (.inr 1000) :: r) W) hw
      obtain ⟨y2, rc, rfl, -, hr⟩ := fw_t_i ht
      exact jg_step hq (S' := (pc + 1, lc, .long y2.toInt64 :: rc, h)) (by unfold jm_step; rw [hd]; simp only [jm_pure, jm_i1, if_true]) (fw_nx hK hp' hn hw lc _ h hl ⟨fw_v_any T _, hr⟩ hh)
    · exact hz (ho.trans (if_neg hlen))
  | l2i =>
    by_cases hlen : len = 1
    · have e : o = (92, 0, 0, 0) := ho.trans (if_pos hlen)
      obtain rfl := hlen
      subst e
      intro lc sc h hl ht hh
      have hw : fw_lg st (fun c r => fw_wli c (fun x => K p lv (.inl x :: r) W)) := hw
      obtain ⟨c, r, l, rc, rfl, rfl, hb, hx, hr, hw⟩ := fw_lg_ok hw ht
      have hw := fw_l2i hw hx
      exact jg_step hq (S' := (pc + 1, lc, .int l.toInt32 :: rc, h)) (by unfold jm_step; rw [hd]; simp only [jm_pure, if_true]) (fw_nx hK hp' hn hw lc _ h hl ⟨⟨_, rfl, rfl⟩, hr⟩ hh)
    · exact hz (ho.trans (if_neg hlen))
  | lreturn =>
    by_cases hlen : len = 1 ∧ q.2.2.2.1 = some .long
    · have e : o = (93, 0, 0, 0) := ho.trans (if_pos hlen)
      obtain ⟨rfl, hret⟩ := hlen
      subst e
      intro lc sc h hl ht hh
      have hw : fw_lg st (fun c r => fw_rn r (Post (some (.inr (.inr c))) W)) := hw
      obtain ⟨c, r, l, rc, rfl, rfl, hb, hx, hr, hw⟩ := fw_lg_ok hw ht
      unfold fw_rn at hw
      split at hw
      · cases rc with
        | cons _ _ => exact hr.elim
        | nil => exact jg_ret hq (v := some (.long l)) (by unfold jm_step; rw [hd]; dsimp only; rw [hret]; simp) ⟨some (.inr (.inr c)), W, ht.1, hh, hw⟩
      · exact hw.elim
    · exact hz (ho.trans (if_neg hlen))
  | areturn =>
    by_cases hlen : len = 1
    · have e : o = fw_ra q.2.2.2.1 := ho.trans (if_pos hlen)
      subst hlen
      unfold fw_ra at e
      split at e
      · rename_i cn hret
        subst e
        intro lc sc h hl ht hh
        have hw : fw_ret st (fun k => Post (some (.inr (.inl k))) W) := hw
        unfold fw_ret at hw
        split at hw
        · rename_i k _
          obtain ⟨v0, rc, rfl, e0, hr⟩ := fw_t_cons ht
          have e0 : v0 = .ref k := e0
          subst e0
          cases rc with
          | cons _ _ => exact hr.elim
          | nil => exact jg_ret hq (v := some (.ref k)) (by unfold jm_step; rw [hd]; dsimp only; rw [hret]; simp) ⟨some (.inr (.inl k)), W, rfl, hh, hw⟩
        · exact hw.elim
      · exact hz e
    · exact hz (ho.trans (if_neg hlen))
  | ireturn =>
    by_cases hlen : len = 1
    · have e : o = fw_rt q.2.2.2.1 := ho.trans (if_pos hlen)
      subst hlen
      unfold fw_rt at e
      split at e
      · rename_i hret
        subst e
        have hw : fw_re st (fun z => -2147483648 ≤ z → z ≤ 2147483647 → Post (some (.inl z)) W) := hw
        unfold fw_re at hw
        split at hw
        · intro lc sc h hl ht hh
          obtain ⟨i, rc, rfl, hi, hr⟩ := fw_t_i ht
          cases rc with
          | cons _ _ => exact hr.elim
          | nil => exact jg_ret hq (v := some (.int i)) (by unfold jm_step; rw [hd]; dsimp only; rw [hret]; simp [narrow]) ⟨some (.inl i.toInt), W, ⟨i, rfl, rfl⟩, hh, by have hb := ai_b i; unfold ai_min ai_max at hb; rw [hi] at hb ⊢; exact hw hb.1 hb.2⟩
        · exact hw.elim
      · rename_i hret
        subst e
        have hw : fw_re st (fun z => 0 ≤ z ∧ z ≤ 1 ∧ Post (some (.inl z)) W) := hw
        unfold fw_re at hw
        split at hw
        · intro lc sc h hl ht hh
          obtain ⟨i, rc, rfl, hi, hr⟩ := fw_t_i ht
          obtain ⟨w1, w2, w3⟩ := hw
          have hnr : narrow .boolean (.int i) = .int i := by
            have h5 : i.toInt = 0 ∨ i.toInt = 1 := by omega
            rcases h5 with h5 | h5
            · have e : i = 0 := Int32.toInt_inj.mp (by rw [h5]; rfl)
              subst e; rfl
            · have e : i = 1 := Int32.toInt_inj.mp (by rw [h5]; rfl)
              subst e; rfl
          cases rc with
          | cons _ _ => exact hr.elim
          | nil => exact jg_ret hq (v := some (.int i)) (by unfold jm_step; rw [hd]; dsimp only; rw [hret]; simp [hnr]) ⟨some (.inl i.toInt), W, ⟨i, rfl, rfl⟩, hh, by rw [hi]; exact w3⟩
        · exact hw.elim
      · exact hz e
    · exact hz (ho.trans (if_neg hlen))
  | return_ =>
    by_cases hlen : len = 1 ∧ q.2.2.2.1 = none
    · have e : o = (72, 0, 0, 0) := ho.trans (if_pos hlen)
      obtain ⟨rfl, hret⟩ := hlen
      subst e
      have hw : fw_rn st (Post none W) := hw
      unfold fw_rn at hw
      split at hw
      · intro lc sc h hl ht hh
        cases sc with
        | cons _ _ => exact ht.elim
        | nil => exact jg_ret hq (v := none) (by unfold jm_step; rw [hd]; dsimp only; rw [hret]; simp) ⟨none, W, trivial, hh, hw⟩
      · exact hw.elim
    · exact hz (ho.trans (if_neg hlen))
  | _ => exact hz ho
theorem fw_go_ok (hq : jm_ms[y]? = some q) (hT : fw_view T V G) (hc : fw_cok T d ct) (hR : fw_fit q R) {ss : List (Nat × List Nat)} : ∀ n, fw_kok T (d + 1) y q Post (fw_go V G R ct hv ss T (d + 1) y Post n)
  | 0, [], lv, st, W, hp, hw => hw.elim
  | 0, e :: p, lv, st, W, hp, hw => ⟨e, p, rfl, hw⟩
  | n + 1, [], lv, st, W, hp, hw => hw.elim
  | n + 1, e :: p, lv, st, W, hp, hw => by
    refine ⟨e, p, rfl, ?_⟩
    obtain ⟨pc, o⟩ := e
    unfold fw_go at hw
    split at hw
    · exact jf_keep _ hw
    · exact fws_ok hq hT hc (fw_go_ok hq hT hc hR n) hR hp (fun z => z) hw
/-- WHAT MUST HOLD AHEAD IS ENOUGH -/
theorem fw_ok {nL oc n : Nat} {ret : Option FieldType} {ss : List (Nat × List Nat)} (hm : fw_mk y nL oc ret R = true) (hT : fw_view T V G) (hc : fw_cok T d ct) (hw : fw_run V G R ct hv ss T (d + 1) y Post n pc lv st W) : jf T (d + 1) y pc lv st W Post := by
  obtain ⟨q, hq, hR⟩ := fw_mk_ok hm
  unfold fw_run at hw
  have h1 := fw_seek_ok (t := pc) hR
  split at hw
  · exact hw.elim
  · rename_i pc2 o p e
    rw [e] at h1
    have h2 : pc2 = pc := h1.2 _ _ rfl
    subst h2
    exact fws_ok hq hT hc (fw_go_ok hq hT hc hR n) hR h1.1 (fun z => z) hw
end FT
