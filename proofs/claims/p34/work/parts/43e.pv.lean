/-! a tree of at most six houses is one of them -/
def zd (q : List Nat) (x : Int) : Int := ((qd q 6 x.toNat : Nat) : Int)
def zD (q : List Nat) (x y : Int) : Int := ((qD q x.toNat y.toNat : Nat) : Int)
theorem q_reach {n : Int} {p δ : Int → Int} (t : tr n p) (dd : tr_dep n p δ) {q : List Nat} (hq : ∀ x, 1 ≤ x → x < n → p x = ((qp q x.toNat : Nat) : Int)) : ∀ (f : Nat) (x : Nat), (x : Int) < n → δ (x : Int) ≤ f → qr q f x = true
  | 0, x, h1, h2 => by
    unfold qr
    by_cases e : x = 0
    · subst e; rfl
    · have a := dd.2.1 (x : Int) (by omega) h1
      have b := tr_p t (by omega : (1 : Int) ≤ x) h1
      have c := dd.2.2 _ b.1 b.2
      omega
  | f + 1, 0, _, _ => rfl
  | f + 1, k + 1, h1, h2 => by
    have x1 : (1 : Int) ≤ ((k + 1 : Nat) : Int) := by omega
    have a := dd.2.1 _ x1 h1
    have b := tr_p t x1 h1
    have e := hq _ x1 h1
    have e2 : ((k + 1 : Nat) : Int).toNat = k + 1 := by omega
    rw [e2] at e
    show qr q f (q.getD k 0) = true
    have e3 : p ((k + 1 : Nat) : Int) = ((q.getD k 0 : Nat) : Int) := e
    rw [e3] at a b
    exact q_reach t dd hq f (q.getD k 0) b.2 (by omega)
theorem q_of {n : Int} {p : Int → Int} (t : tr n p) (h2 : 2 ≤ n) (h6 : n ≤ 6) : ∃ q : List Nat, q ∈ qls n.toNat (n.toNat - 1) ∧ qtr n.toNat q = true ∧ ∀ x, 1 ≤ x → x < n → p x = ((qp q x.toNat : Nat) : Int) := by
  obtain ⟨δ, dd⟩ := tr_has t
  have hv : ∀ k : Nat, k < n.toNat - 1 → ((List.range (n.toNat - 1)).map (fun i : Nat => (p ((i : Int) + 1)).toNat)).getD k 0 = (p ((k : Int) + 1)).toNat := fun k hk => by
    rw [List.getD_eq_getElem?_getD, List.getElem?_map, List.getElem?_range hk]
    rfl
  have hq : ∀ x, 1 ≤ x → x < n → p x = ((qp ((List.range (n.toNat - 1)).map (fun i : Nat => (p ((i : Int) + 1)).toNat)) x.toNat : Nat) : Int) := fun x x1 x2 => by
    have b := tr_p t x1 x2
    obtain ⟨k, hk⟩ : ∃ k : Nat, x = (k : Int) + 1 := ⟨x.toNat - 1, by omega⟩
    subst hk
    have e : ((k : Int) + 1).toNat = k + 1 := by omega
    rw [e]
    show _ = ((((List.range (n.toNat - 1)).map (fun i : Nat => (p ((i : Int) + 1)).toNat)).getD k 0 : Nat) : Int)
    rw [hv k (by omega)]
    omega
  refine ⟨(List.range (n.toNat - 1)).map (fun i : Nat => (p ((i : Int) + 1)).toNat), ?_, ?_, hq⟩
  · refine qls_in _ _ _ (by rw [List.length_map, List.length_range]) (fun x hx => ?_)
    obtain ⟨i, hi, rfl⟩ := List.mem_map.mp hx
    have hi := List.mem_range.mp hi
    have b := tr_p t (by omega : (1 : Int) ≤ (i : Int) + 1) (by omega)
    omega
  · unfold qtr
    refine qal_mk (fun x hx => ?_)
    have hx2 : (x : Int) < n := by omega
    rw [Bool.and_eq_true]
    refine ⟨q_reach t dd hq 6 x hx2 ?_, ?_⟩
    · have := dd.2.2 (x : Int) (by omega) hx2
      omega
    · by_cases e : x = 0
      · subst e
        show Nat.blt 0 n.toNat = true
        exact Nat.ble_eq_true_of_le (by omega)
      · have x1 : (1 : Int) ≤ (x : Int) := by omega
        have e1 := hq _ x1 hx2
        have b := tr_p t x1 hx2
        rw [Int.toNat_natCast] at e1
        exact Nat.ble_eq_true_of_le (by omega)
theorem q_ok {n : Int} {q : List Nat} (h2 : 2 ≤ n) (h6 : n ≤ 6) (hm : q ∈ qls n.toNat (n.toNat - 1)) (ht : qtr n.toNat q = true) : qok n.toNat q = true := by
  have key : qall n.toNat = true := by
    have : n = 2 ∨ n = 3 ∨ n = 4 ∨ n = 5 ∨ n = 6 := by omega
    rcases this with rfl | rfl | rfl | rfl | rfl
    · exact qall_2
    · exact qall_3
    · exact qall_4
    · exact qall_5
    · exact qall_6
  have h := List.all_eq_true.mp key q hm
  rw [ht] at h
  simpa using h
theorem q_dep {n : Int} {q : List Nat} {p : Int → Int} (h2 : 2 ≤ n) (hk : qck n.toNat q = true) (hp : ∀ x, 1 ≤ x → x < n → p x = ((qp q x.toNat : Nat) : Int)) : tr_dep n p (zd q) := by
  refine ⟨rfl, fun x x1 x2 => ?_, fun x x1 x2 => ?_⟩
  · have h := qal_ok hk x.toNat (by omega)
    rw [Bool.and_eq_true, Bool.or_eq_true] at h
    rcases h.1 with z | z
    · have := Nat.eq_of_beq_eq_true z
      omega
    · have e := Nat.eq_of_beq_eq_true z
      unfold zd
      rw [hp x x1 x2, Int.toNat_natCast, e]
      omega
  · have h := qal_ok hk x.toNat (by omega)
    rw [Bool.and_eq_true, Bool.and_eq_true] at h
    have z := Nat.le_of_ble_eq_true h.2.1
    unfold zd
    omega
theorem q_met {n : Int} {q : List Nat} {p w : Int → Int} (h2 : 2 ≤ n) (hk : qck n.toNat q = true) (hp : ∀ x, 1 ≤ x → x < n → p x = ((qp q x.toNat : Nat) : Int)) (hw : ∀ x, 1 ≤ x → x < n → w x = 1) : tr_met n p w (zd q) (zD q) := by
  intro x y x1 x2 y1 y2
  have h := qal_ok hk x.toNat (by omega)
  rw [Bool.and_eq_true, Bool.and_eq_true] at h
  have g := qal_ok h.2.2 y.toNat (by omega)
  refine ⟨fun e => ?_, fun e d => ?_, fun e d => ?_⟩
  · subst e
    rw [Nat.beq_refl] at g
    have := Nat.eq_of_beq_eq_true g
    unfold zD
    omega
  · have eb : Nat.beq x.toNat y.toNat = false := nbq (by omega)
    rw [eb] at g
    dsimp only at g
    have x0 : 1 ≤ x := by
      refine Classical.byContradiction (fun z => ?_)
      have e0 : x = 0 := by omega
      subst e0
      have := (q_dep (p := p) h2 hk hp).2.1 y (by omega) y2
      have q3 := (q_dep (p := p) h2 hk hp).1
      have hb : 0 ≤ zd q (p y) := by unfold zd; omega
      omega
    have ed : Nat.ble (qd q 6 y.toNat) (qd q 6 x.toNat) = true := Nat.ble_eq_true_of_le (by unfold zd at d; omega)
    rw [ed] at g
    have g := Nat.eq_of_beq_eq_true g
    unfold zD
    rw [hw x x0 x2, hp x x0 x2, Int.toNat_natCast, g]
    omega
  · have eb : Nat.beq x.toNat y.toNat = false := nbq (by omega)
    rw [eb] at g
    dsimp only at g
    have y0 : 1 ≤ y := by
      refine Classical.byContradiction (fun z => ?_)
      have e0 : y = 0 := by omega
      subst e0
      have q3 := (q_dep (p := p) h2 hk hp).1
      have hb : 0 ≤ zd q x := by unfold zd; omega
      omega
    have ed : Nat.ble (qd q 6 y.toNat) (qd q 6 x.toNat) = false := by
      cases hc : Nat.ble (qd q 6 y.toNat) (qd q 6 x.toNat) with
      | false => rfl
      | true =>
        have := Nat.le_of_ble_eq_true hc
        unfold zd at d
        omega
    rw [ed] at g
    have g := Nat.eq_of_beq_eq_true g
    unfold zD
    rw [hw y y0 y2, hp y y0 y2, Int.toNat_natCast, g]
    omega
theorem qm_le (q : List Nat) : ∀ (f x y : Nat), qm q f x y ≤ f
  | 0, _, _ => Nat.le_refl 0
  | f + 1, x, y => by
    unfold qm
    split
    · omega
    · split
      · have := qm_le q f (qp q x) y
        omega
      · have := qm_le q f x (qp q y)
        omega
theorem q_D0 (q : List Nat) (u t : Int) : 0 ≤ zD q u t ∧ zD q u t ≤ 100 := by
  have := qm_le q 12 u.toNat t.toNat
  unfold zD qD
  omega
theorem qok_k {n : Nat} {q : List Nat} (h : qok n q = true) : qck n q = true := by
  unfold qok at h
  rw [Bool.and_eq_true] at h
  exact h.1
