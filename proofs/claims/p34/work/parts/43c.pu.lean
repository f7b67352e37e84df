/-! all trees of at most six houses, told by the list of what each house but the first hangs at; their distances; three laws of them, by the kernel -/
def qp (q : List Nat) (x : Nat) : Nat := match x with
  | 0 => 0
  | k + 1 => q.getD k 0
def qd (q : List Nat) : Nat → Nat → Nat
  | 0, _ => 0
  | f + 1, x => match x with
    | 0 => 0
    | k + 1 => qd q f (q.getD k 0) + 1
def qm (q : List Nat) : Nat → Nat → Nat → Nat
  | 0, _, _ => 0
  | f + 1, x, y => match Nat.beq x y with
    | true => 0
    | false => (match Nat.ble (qd q 6 y) (qd q 6 x) with
      | true => qm q f (qp q x) y + 1
      | false => qm q f x (qp q y) + 1)
def qD (q : List Nat) (x y : Nat) : Nat := qm q 12 x y
def qr (q : List Nat) : Nat → Nat → Bool
  | 0, x => Nat.beq x 0
  | f + 1, x => match x with
    | 0 => true
    | k + 1 => qr q f (q.getD k 0)
/-- for all numbers below, some number below -/
def qal (f : Nat → Bool) : Nat → Bool
  | 0 => true
  | k + 1 => f k && qal f k
def qan (f : Nat → Bool) : Nat → Bool
  | 0 => false
  | k + 1 => f k || qan f k
theorem qal_ok {f : Nat → Bool} : ∀ {n : Nat}, qal f n = true → ∀ k, k < n → f k = true
  | 0, _, k, hk => absurd hk (Nat.not_lt_zero _)
  | n + 1, h, k, hk => by
    unfold qal at h
    rw [Bool.and_eq_true] at h
    by_cases e : k = n
    · rw [e]; exact h.1
    · exact qal_ok h.2 k (by omega)
theorem qal_mk {f : Nat → Bool} : ∀ {n : Nat}, (∀ k, k < n → f k = true) → qal f n = true
  | 0, _ => rfl
  | n + 1, h => by
    unfold qal
    rw [Bool.and_eq_true]
    exact ⟨h n (by omega), qal_mk (fun k hk => h k (by omega))⟩
theorem qan_ok {f : Nat → Bool} : ∀ {n : Nat}, qan f n = true → ∃ k, k < n ∧ f k = true
  | 0, h => by cases h
  | n + 1, h => by
    unfold qan at h
    rw [Bool.or_eq_true] at h
    rcases h with h | h
    · exact ⟨n, by omega, h⟩
    · obtain ⟨k, k1, k2⟩ := qan_ok h
      exact ⟨k, by omega, k2⟩
/-- the greatest, the least of the first k -/
def qmx (f : Nat → Nat) : Nat → Nat
  | 0 => 0
  | k + 1 => match Nat.ble (f k) (qmx f k) with
    | true => qmx f k
    | false => f k
def qmn (f : Nat → Nat) : Nat → Nat
  | 0 => f 0
  | k + 1 => match Nat.ble (qmn f k) (f k) with
    | true => qmn f k
    | false => f k
theorem qmx_i (f : Nat → Nat) {k : Int} (h : 0 ≤ k) : (((f k.toNat : Nat) : Int) > ((qmx f k.toNat : Nat) : Int) → ((qmx f (k + 1).toNat : Nat) : Int) = ((f k.toNat : Nat) : Int)) ∧ (((f k.toNat : Nat) : Int) ≤ ((qmx f k.toNat : Nat) : Int) → ((qmx f (k + 1).toNat : Nat) : Int) = ((qmx f k.toNat : Nat) : Int)) := by
  have e : (k + 1).toNat = k.toNat + 1 := by omega
  rw [e]
  refine ⟨fun z => ?_, fun z => ?_⟩
  · unfold qmx
    split
    · rename_i q
      have := Nat.le_of_ble_eq_true q
      omega
    · rfl
  · show (((match Nat.ble (f k.toNat) (qmx f k.toNat) with
      | true => qmx f k.toNat
      | false => f k.toNat : Nat)) : Int) = _
    rw [Nat.ble_eq_true_of_le (by omega)]
theorem qmn_i (f : Nat → Nat) {k : Int} (h : 0 ≤ k) : (((f k.toNat : Nat) : Int) < ((qmn f k.toNat : Nat) : Int) → ((qmn f (k + 1).toNat : Nat) : Int) = ((f k.toNat : Nat) : Int)) ∧ (((qmn f k.toNat : Nat) : Int) ≤ ((f k.toNat : Nat) : Int) → ((qmn f (k + 1).toNat : Nat) : Int) = ((qmn f k.toNat : Nat) : Int)) := by
  have e : (k + 1).toNat = k.toNat + 1 := by omega
  rw [e]
  refine ⟨fun z => ?_, fun z => ?_⟩
  · show (((match Nat.ble (qmn f k.toNat) (f k.toNat) with
      | true => qmn f k.toNat
      | false => f k.toNat : Nat)) : Int) = _
    cases hc : Nat.ble (qmn f k.toNat) (f k.toNat) with
    | true =>
      have := Nat.le_of_ble_eq_true hc
      omega
    | false => rfl
  · show (((match Nat.ble (qmn f k.toNat) (f k.toNat) with
      | true => qmn f k.toNat
      | false => f k.toNat : Nat)) : Int) = _
    rw [Nat.ble_eq_true_of_le (by omega)]
theorem qmn_1 (f : Nat → Nat) : qmn f (1 : Int).toNat = f 0 := by
  show (match Nat.ble (f 0) (f 0) with
    | true => f 0
    | false => f 0) = f 0
  split <;> rfl
/-- how far the farthest is; the least of these -/
def qE (q : List Nat) (n x : Nat) : Nat := qmx (qD q x) n
def qL (q : List Nat) (n : Nat) : Nat := qmn (qE q n) n
def qadj (q : List Nat) (x y : Nat) : Bool := (Nat.blt 0 x && Nat.beq (qp q x) y) || (Nat.blt 0 y && Nat.beq (qp q y) x)
/-- it is a tree, its depths and distances are such -/
def qtr (n : Nat) (q : List Nat) : Bool := qal (fun x => qr q 6 x && Nat.blt (qp q x) n) n
def qck (n : Nat) (q : List Nat) : Bool := qal (fun x => (Nat.beq x 0 || Nat.beq (qd q 6 x) (qd q 6 (qp q x) + 1)) && (Nat.blt (qd q 6 x) n && qal (fun y => (match Nat.beq x y with
  | true => Nat.beq (qD q x y) 0
  | false => (match Nat.ble (qd q 6 y) (qd q 6 x) with
    | true => Nat.beq (qD q x y) (qD q (qp q x) y + 1)
    | false => Nat.beq (qD q x y) (qD q x (qp q y) + 1)))) n)) n
/-- law 0: the middle is one house or two that are next to each other -/
def q0 (n : Nat) (q : List Nat) : Bool := qan (fun c2 => qan (fun c1 => qal (fun h => (Nat.ble (qE q n h) (qL q n) == (Nat.beq h c1 || Nat.beq h c2))) n && (Nat.beq c1 c2 || qadj q c1 c2)) (c2 + 1)) n
/-- law 1: of the three sums of four the two greatest are alike -/
def q4 (x y z : Nat) : Bool := (Nat.beq x y && Nat.ble z x) || ((Nat.beq x z && Nat.ble y x) || (Nat.beq y z && Nat.ble x y))
def q1 (n : Nat) (q : List Nat) : Bool := qal (fun e => qal (fun c => qal (fun b => qal (fun a => q4 (qD q a b + qD q c e) (qD q a c + qD q b e) (qD q a e + qD q b c)) b) c) e) n
/-- law 2: the fewest that are near all, and how many the farthest ones ask for -/
def qnr (q : List Nat) (h : Nat) : Nat → Nat
  | 0 => 0
  | k + 1 => match Nat.ble (qD q h k) 1 with
    | true => Nat.lor (qnr q h k) (Nat.shiftLeft 1 k)
    | false => qnr q h k
def qdm (q : List Nat) (n s : Nat) : Bool := qal (fun h => !(Nat.beq (Nat.land (qnr q h n) s) 0)) n
/-- among the first k: the farthest from house 0 that has none near (the first such one); 99 for none -/
def qsl (q : List Nat) (n s : Nat) : Nat → Nat
  | 0 => 99
  | k + 1 => match Nat.beq (Nat.land (qnr q k n) s) 0 with
    | true => (match Nat.beq (qsl q n s k) 99 || Nat.blt (qD q 0 (qsl q n s k)) (qD q 0 k) with
      | true => k
      | false => qsl q n s k)
    | false => qsl q n s k
def qgr (q : List Nat) (n u : Nat) : Nat → Nat → Bool
  | 0, _ => false
  | f + 1, s => match Nat.beq (qsl q n s n) 99 with
    | true => Nat.beq (pcn s s) u
    | false => qgr q n u f (Nat.lor s (Nat.shiftLeft 1 (qp q (qsl q n s n))))
def q2 (n u : Nat) (q : List Nat) : Bool := qal (fun s => !(qdm q n s) || Nat.ble u (pcn s s)) (2 ^ n) && (qan (fun s => qdm q n s && Nat.beq (pcn s s) u) (2 ^ n) && qgr q n u 7 0)
def qok (n : Nat) (q : List Nat) : Bool := qck n q && (q0 n q && (q1 n q && qan (fun u => q2 n u q) (n + 1)))
/-- all lists of so many numbers below n -/
def qls (n : Nat) : Nat → List (List Nat)
  | 0 => [[]]
  | k + 1 => (qls n k).flatMap (fun l => (List.range n).map (fun a => a :: l))
theorem qls_in (n : Nat) : ∀ (k : Nat) (l : List Nat), l.length = k → (∀ x ∈ l, x < n) → l ∈ qls n k
  | 0, l, h, _ => by
    have : l = [] := List.length_eq_zero_iff.mp h
    rw [this]
    exact List.mem_singleton.mpr rfl
  | k + 1, [], h, _ => by cases h
  | k + 1, a :: l, h, hl => by
    unfold qls
    refine List.mem_flatMap.mpr ⟨l, qls_in n k l (by rw [List.length_cons] at h; omega) (fun x hx => hl x (List.mem_cons_of_mem _ hx)), ?_⟩
    exact List.mem_map.mpr ⟨a, List.mem_range.mpr (hl a List.mem_cons_self), rfl⟩
def qall (n : Nat) : Bool := (qls n (n - 1)).all (fun q => !(qtr n q) || qok n q)
set_option maxRecDepth 100000 in
theorem qall_2 : qall 2 = true := by decide +kernel
set_option maxRecDepth 100000 in
theorem qall_3 : qall 3 = true := by decide +kernel
set_option maxRecDepth 100000 in
theorem qall_4 : qall 4 = true := by decide +kernel
set_option maxRecDepth 100000 in
theorem qall_5 : qall 5 = true := by decide +kernel
