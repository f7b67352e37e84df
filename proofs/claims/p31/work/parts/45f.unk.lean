/-! unlike: the answers of both sides -/
def un_tab : List Int32 := [1, 1, 1, 2, 3, 6, 11, 23, 47, 106, 235, 551, 1301, 3159]
def un (b : Int) : Int := if 1 ≤ b ∧ b ≤ 14 then (un_tab.getD (b.toNat - 1) 0).toInt else -1
def un_ck (o : Option (Option Value × um_H)) (x : Int32) : Bool := match o with
  | some (some (.int v), _) => decide (v = x)
  | _ => false
theorem un_ck_ok {o : Option (Option Value × um_H)} {x : Int32} (e : un_ck o x = true) : ∃ G, o = some (some (.int x), G) := by
  unfold un_ck at e
  split at e
  · rename_i v G
    exact ⟨G, by rw [of_decide_eq_true e]⟩
  · cases e
def un_G : um_H := [(0, .inr (.inr (11, [(8, .ref 266)]))), (266, .inr (.inr (3, [(3, .ref 267)]))), (267, .inl (15, []))]
theorem un_Gok {W : fw_W} {h : jm_H} (hg : fw_gh W fw_T h) : um_g un_G h := by
  obtain ⟨c0, a0, b0⟩ := um_tk_ok (c := 0) (ci := 11) (k := 8) (r := 266) hg (by decide +kernel)
  obtain ⟨c1, a1, b1⟩ := um_tk_ok (c := 266) (ci := 3) (k := 3) (r := 267) hg (by decide +kernel)
  obtain ⟨c2, a2, b2⟩ := um_ti_ok (c := 267) (n := 15) hg (by decide +kernel)
  exact um_g_cons a0 b0 (um_g_cons a1 b1 (um_g_cons a2 b2 (um_g_nil h)))
set_option maxRecDepth 100000 in
theorem un_k1 : ∀ n, n < 9 → un_ck (um_run none 40000 4 175 (0, lv_args 0 [.ref 0, .int (Int32.ofNat (n + 1))], [], un_G)) (un_tab.getD n 0) = true := by decide +kernel
set_option maxRecDepth 100000 in
theorem un_k2 : ∀ n, n < 3 → un_ck (um_run none 40000 4 175 (0, lv_args 0 [.ref 0, .int (Int32.ofNat (n + 10))], [], un_G)) (un_tab.getD (n + 9) 0) = true := by decide +kernel
set_option maxRecDepth 100000 in
theorem un_k3 : ∀ n, n < 2 → un_ck (um_run none 40000 4 175 (0, lv_args 0 [.ref 0, .int (Int32.ofNat (n + 13))], [], un_G)) (un_tab.getD (n + 12) 0) = true := by decide +kernel
theorem un_k {n : Nat} (h : n < 14) : ∃ G, um_run none 40000 4 175 (0, lv_args 0 [.ref 0, .int (Int32.ofNat (n + 1))], [], un_G) = some (some (.int (un_tab.getD n 0)), G) := by
  by_cases h1 : n < 9
  · exact un_ck_ok (un_k1 n h1)
  by_cases h2 : n < 12
  · have := un_k2 (n - 9) (by omega)
    rw [show n - 9 + 10 = n + 1 by omega, show n - 9 + 9 = n by omega] at this
    exact un_ck_ok this
  · have := un_k3 (n - 12) (by omega)
    rw [show n - 12 + 13 = n + 1 by omega, show n - 12 + 12 = n by omega] at this
    exact un_ck_ok this
/-- the reference -/
def un_H : um_H := [(352, .inr (.inr (12, [(54, .ref 386)]))), (386, .inr (.inl (16, [])))]
def un_H1 : um_H := [(352, .inr (.inr (12, [(54, .ref 386)]))), (386, .inr (.inl (16, [(1, 1), (2, 1), (3, 2), (4, 4), (5, 9), (6, 20), (7, 48), (8, 115), (9, 286), (10, 719), (11, 1842), (12, 4766), (13, 12486), (14, 32973)])))]
theorem un_Hok {W : fw_W} {h : jm_H} (hg : fw_gh W fw_T h) : um_g un_H h := by
  obtain ⟨c0, a0, b0⟩ := um_tk_ok (c := 352) (ci := 12) (k := 54) (r := 386) hg (by decide +kernel)
  obtain ⟨c1, a1, b1⟩ := um_tl_ok (c := 386) (n := 16) hg (by decide +kernel)
  exact um_g_cons a0 b0 (um_g_cons a1 b1 (um_g_nil h))
def un_lk (o : Option (Option Value × um_H)) : Bool := match o with
  | some (none, G) => um_leb un_H1 G
  | _ => false
set_option maxRecDepth 100000 in
theorem un_l : un_lk (um_run none 40000 0 285 (0, lv_args 0 [.ref 352], [], un_H)) = true := by decide +kernel
theorem un_lay {h : jm_H} (hg : um_g un_H h) : jg 0 285 (0, lv_args 0 [.ref 352], [], h) (fun v h' => v = none ∧ um_g un_H1 h') := by
  have e := un_l
  generalize hO : um_run none 40000 0 285 (0, lv_args 0 [.ref 352], [], un_H) = o at e
  unfold un_lk at e
  split at e
  · rename_i G
    exact jg_mono (um_run_ok um_Kno _ _ _ _ _ _ _ _ _ hO h hg) (fun v h' hv => ⟨hv.1, um_leb_ok e hv.2⟩)
  · cases e
def un_O : um_K := some (285, [.ref 352], un_H, none, un_H1)
theorem jg_deepn {d y : Nat} {S : jm_S} {P : Option Value → jm_H → Prop} (h : jg 0 y S P) : jg d y S P := by
  induction d with
  | zero => exact h
  | succ d ih => exact jg_deep ih
theorem un_Ook : um_Kok un_O := by
  intro y0 as0 G0 v0 G1 e d h hg
  have e := Option.some.inj e
  cases e
  exact jg_deepn (un_lay hg)
set_option maxRecDepth 100000 in
theorem un_m1 : ∀ n, n < 14 → un_ck (um_run un_O 3000 4 284 (0, lv_args 0 [.ref 352, .int (Int32.ofNat (n + 1))], [], un_H)) (un_tab.getD n 0) = true := by decide +kernel
