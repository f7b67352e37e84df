/-! the class's own ways over such a tree: the order, the table of wardens, the farthest ones; by the kernel -/
def bin (q : List Nat) (i : Nat) (l : List Nat) : Nat → List Nat
  | 0 => l
  | h + 1 => match Nat.blt 0 h && Nat.beq (qp q h) ((bin q i l h).getD i 0) with
    | true => bin q i l h ++ [h]
    | false => bin q i l h
def bo (q : List Nat) (n : Nat) : Nat → List Nat
  | 0 => [0]
  | i + 1 => bin q i (bo q n i) n
def qfm (f : Nat → Nat) : Nat → Nat
  | 0 => 999999
  | k + 1 => match Nat.ble (qfm f k) (f k) with
    | true => qfm f k
    | false => f k
def tsv (q : List Nat) (x : Nat) (l : List Nat) (w : Nat) : Nat := match Nat.ble (qD q x w) 1 with
  | true => l.getD (6 * x + w) 0
  | false => 999999
def tmi (a b : Nat) : Nat := match Nat.ble a b with
  | true => a
  | false => b
def tst (q : List Nat) (n x : Nat) (l : List Nat) (h w : Nat) : Nat := match Nat.beq h x with
  | true => tsv q x l w
  | false => (match Nat.blt 0 x && Nat.beq h (qp q x) with
    | true => l.getD (6 * h + w) 0 + tmi (Nat.succ (qfm (tsv q x l) n)) (tsv q x l w)
    | false => l.getD (6 * h + w) 0)
def tab (f : Nat → Nat) : Nat → List Nat → List Nat
  | 0, acc => acc
  | k + 1, acc => match f k with
    | 0 => tab f k (0 :: acc)
    | m + 1 => tab f k ((m + 1) :: acc)
def tb (q : List Nat) (n : Nat) (o : List Nat) : Nat → List Nat
  | 0 => tab (fun _ => 0) 36 []
  | k + 1 => match tb q n o k with
    | [] => []
    | a :: r => tab (fun j => tst q n (o.getD (n - 1 - k) 0) (a :: r) (j / 6) (j % 6)) 36 []
def wfo (q : List Nat) (m : Nat) : Nat → Nat
  | 0 => 99
  | k + 1 => match Nat.testBit m k with
    | true => (match Nat.beq (wfo q m k) 99 || Nat.blt (qD q 0 (wfo q m k)) (qD q 0 k) with
      | true => k
      | false => wfo q m k)
    | false => wfo q m k
def wcl (q : List Nat) (a m : Nat) : Nat → Nat
  | 0 => m
  | k + 1 => match Nat.ble (qD q a k) 1 with
    | true => Nat.land (wcl q a m k) (63 - 2 ^ k)
    | false => wcl q a m k
def wwe (q : List Nat) (n : Nat) : Nat → Nat → Nat
  | 0, m => (match m with
    | 0 => 0
    | _ + 1 => 99)
  | f + 1, m => (match m with
    | 0 => 0
    | r + 1 => wwe q n f (wcl q (qp q (wfo q (r + 1) n)) (r + 1) n) + 1)
def qk3 (n : Nat) (q o : List Nat) : Bool := Nat.beq o.length n && (qal (fun i => Nat.blt (o.getD i 0) n && ((Nat.beq i 0 && Nat.beq (o.getD i 0) 0 || Nat.blt 0 i && (Nat.blt 0 (o.getD i 0) && qan (fun a => Nat.beq (o.getD a 0) (qp q (o.getD i 0))) i)) && qal (fun j => Nat.beq (qD q (o.getD i 0) (o.getD j 0)) (qD q (qp q (o.getD i 0)) (o.getD j 0) + 1) && (Nat.beq (qD q (o.getD j 0) (o.getD i 0)) (qD q (o.getD i 0) (o.getD j 0)) && !(Nat.beq (o.getD j 0) (o.getD i 0)))) i)) n && (qal (fun h => qan (fun i => Nat.beq (o.getD i 0) h) n) n && (Nat.beq (wwe q n n (2 ^ n - 1)) (qfm (tsv q 0 (tb q n o (n - 1))) n + 1) && Nat.ble (wwe q n n (2 ^ n - 1)) 6)))
def qk2 (n : Nat) (q : List Nat) : Bool := qal (fun i => Nat.blt i (bo q n i).length && qal (fun h => Nat.ble (bin q i (bo q n i) h).length 6) (n + 1)) n && (match bo q n n with
  | [] => false
  | a :: r => qk3 n q (a :: r))
def qbl (n : Nat) : Bool := (qls n (n - 1)).all (fun q => !(qtr n q) || qk2 n q)
set_option maxRecDepth 100000 in
theorem qbl_2 : qbl 2 = true := by decide +kernel
set_option maxRecDepth 100000 in
theorem qbl_3 : qbl 3 = true := by decide +kernel
set_option maxRecDepth 100000 in
theorem qbl_4 : qbl 4 = true := by decide +kernel
set_option maxRecDepth 100000 in
theorem qbl_5 : qbl 5 = true := by decide +kernel
