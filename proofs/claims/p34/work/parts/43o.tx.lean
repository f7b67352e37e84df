/-! the class's ways over such a tree, in ints -/
theorem tab_ge : ∀ (f : Nat → Nat) (k : Nat) (acc : List Nat) (j : Nat), k ≤ j → (tab f k acc).getD j 0 = acc.getD (j - k) 0
  | f, 0, acc, j, _ => rfl
  | f, k + 1, acc, j, h => by
    have e : tab f (k + 1) acc = tab f k (f k :: acc) := by
      show (match f k with
        | 0 => tab f k (0 :: acc)
        | m + 1 => tab f k ((m + 1) :: acc)) = _
      split
      · rename_i z; rw [z]
      · rename_i z; rw [z]
    rw [e, tab_ge f k (f k :: acc) j (by omega), show j - k = (j - (k + 1)) + 1 by omega]
    rfl
theorem tab_lt : ∀ (f : Nat → Nat) (k : Nat) (acc : List Nat) (j : Nat), j < k → (tab f k acc).getD j 0 = f j
  | f, 0, acc, j, h => absurd h (Nat.not_lt_zero _)
  | f, k + 1, acc, j, h => by
    have e : tab f (k + 1) acc = tab f k (f k :: acc) := by
      show (match f k with
        | 0 => tab f k (0 :: acc)
        | m + 1 => tab f k ((m + 1) :: acc)) = _
      split
      · rename_i z; rw [z]
      · rename_i z; rw [z]
    rw [e]
    by_cases q : j = k
    · subst q
      rw [tab_ge f j (f j :: acc) j (Nat.le_refl _), Nat.sub_self]
      rfl
    · exact tab_lt f k (f k :: acc) j (by omega)
theorem tab_len : ∀ (f : Nat → Nat) (k : Nat) (acc : List Nat), (tab f k acc).length = k + acc.length
  | f, 0, acc => by
    show acc.length = 0 + acc.length
    omega
  | f, k + 1, acc => by
    have e : tab f (k + 1) acc = tab f k (f k :: acc) := by
      show (match f k with
        | 0 => tab f k (0 :: acc)
        | m + 1 => tab f k ((m + 1) :: acc)) = _
      split
      · rename_i z; rw [z]
      · rename_i z; rw [z]
    rw [e, tab_len f k (f k :: acc), List.length_cons]
    omega
theorem tb_len (q : List Nat) (n : Nat) (o : List Nat) : ∀ k, (tb q n o k).length = 36
  | 0 => tab_len _ 36 []
  | k + 1 => by
    have ih := tb_len q n o k
    unfold tb
    split
    · rename_i e
      rw [e] at ih
      cases ih
    · exact tab_len _ 36 []
theorem tb_s (q : List Nat) (n : Nat) (o : List Nat) (k h w : Nat) (h1 : h < 6) (w1 : w < 6) : (tb q n o (k + 1)).getD (6 * h + w) 0 = tst q n (o.getD (n - 1 - k) 0) (tb q n o k) h w := by
  have ih := tb_len q n o k
  show (match tb q n o k with
    | [] => []
    | a :: r => tab (fun j => tst q n (o.getD (n - 1 - k) 0) (a :: r) (j / 6) (j % 6)) 36 []).getD (6 * h + w) 0 = _
  split
  · rename_i e
    rw [e] at ih
    cases ih
  · rename_i a r e
    rw [tab_lt _ _ _ _ (by omega), e]
    rw [show (6 * h + w) / 6 = h by omega, show (6 * h + w) % 6 = w by omega]
theorem tb_0 (q : List Nat) (n : Nat) (o : List Nat) (j : Nat) (h : j < 36) : (tb q n o 0).getD j 0 = 0 := tab_lt _ _ _ _ h
theorem qfm_le (f : Nat → Nat) : ∀ k, qfm f k ≤ 999999
  | 0 => Nat.le_refl _
  | k + 1 => by
    unfold qfm
    split
    · exact qfm_le f k
    · rename_i z
      have := qfm_le f k
      have : ¬ qfm f k ≤ f k := fun y => by rw [Nat.ble_eq_true_of_le y] at z; cases z
      omega
theorem tmi_e (a b : Nat) : tmi a b = min a b := by
  unfold tmi
  split
  · rename_i z
    have := Nat.le_of_ble_eq_true z
    omega
  · rename_i z
    have : ¬ a ≤ b := fun y => by rw [Nat.ble_eq_true_of_le y] at z; cases z
    omega
theorem tst_x (q : List Nat) (n x : Nat) (l : List Nat) (w : Nat) : tst q n x l x w = tsv q x l w := by
  unfold tst
  rw [Nat.beq_refl]
theorem tst_p (q : List Nat) (n : Nat) {x h : Nat} (l : List Nat) (w : Nat) (h1 : h ≠ x) (h2 : 0 < x) (h3 : h = qp q x) : tst q n x l h w = l.getD (6 * h + w) 0 + min (qfm (tsv q x l) n + 1) (tsv q x l w) := by
  have e : (Nat.blt 0 x && Nat.beq h (qp q x)) = true := by
    rw [Bool.and_eq_true]
    exact ⟨Nat.ble_eq_true_of_le h2, by rw [h3]; exact Nat.beq_refl _⟩
  unfold tst
  rw [nbq h1, e, ← tmi_e]
theorem tst_o (q : List Nat) (n : Nat) {x h : Nat} (l : List Nat) (w : Nat) (h1 : h ≠ x) (h2 : x = 0 ∨ h ≠ qp q x) : tst q n x l h w = l.getD (6 * h + w) 0 := by
  have e : (Nat.blt 0 x && Nat.beq h (qp q x)) = false := by
    rcases h2 with z | z
    · rw [z]; rfl
    · rw [nbq z, Bool.and_false]
  unfold tst
  rw [nbq h1, e]
theorem tb_le (q : List Nat) (n : Nat) (o : List Nat) : ∀ (k h w : Nat), h < 6 → w < 6 → (tb q n o k).getD (6 * h + w) 0 ≤ 999999 + 1000000 * k
  | 0, h, w, h1, w1 => by
    rw [tb_0 q n o _ (by omega)]
    omega
  | k + 1, h, w, h1, w1 => by
    have ih := tb_le q n o k h w h1 w1
    have hf := qfm_le (tsv q (o.getD (n - 1 - k) 0) (tb q n o k)) n
    rw [tb_s q n o k h w h1 w1]
    by_cases e : h = o.getD (n - 1 - k) 0
    · rw [← e, tst_x]
      unfold tsv
      split <;> omega
    · by_cases e2 : o.getD (n - 1 - k) 0 = 0 ∨ h ≠ qp q (o.getD (n - 1 - k) 0)
      · rw [tst_o q n _ w e e2]
        omega
      · rw [tst_p q n _ w e (by omega) (by omega)]
        omega
/-- the order: house by its place, behind i houses; how many there are -/
def zbo (q : List Nat) (n i j : Int) : Int := (((bo q n.toNat i.toNat).getD j.toNat 0 : Nat) : Int)
def zbl (q : List Nat) (n i : Int) : Int := (((bo q n.toNat i.toNat).length : Nat) : Int)
def zbi (q : List Nat) (n i h j : Int) : Int := (((bin q i.toNat (bo q n.toNat i.toNat) h.toNat).getD j.toNat 0 : Nat) : Int)
def zbk (q : List Nat) (n i h : Int) : Int := (((bin q i.toNat (bo q n.toNat i.toNat) h.toNat).length : Nat) : Int)
theorem zb_0 (q : List Nat) (n : Int) : zbl q n 0 = 1 ∧ zbo q n 0 0 = 0 := ⟨rfl, rfl⟩
theorem zb_in (q : List Nat) (n i : Int) : zbk q n i 1 = zbl q n i ∧ ∀ j, zbi q n i 1 j = zbo q n i j := ⟨rfl, fun _ => rfl⟩
theorem zb_out (q : List Nat) (n : Int) {i : Int} (i0 : 0 ≤ i) : zbl q n (i + 1) = zbk q n i n ∧ ∀ j, zbo q n (i + 1) j = zbi q n i n j := by
  unfold zbl zbo zbk zbi
  rw [show (i + 1).toNat = i.toNat + 1 by omega]
  exact ⟨rfl, fun _ => rfl⟩
theorem zb_t {q : List Nat} {n i h : Int} (h1 : 1 ≤ h) (e : ((qp q h.toNat : Nat) : Int) = zbi q n i h i) : zbk q n i (h + 1) = zbk q n i h + 1 ∧ ∀ j, 0 ≤ j → zbi q n i (h + 1) j = if zbk q n i h = j then h else zbi q n i h j := by
  unfold zbi at e
  have e1 : (Nat.blt 0 h.toNat && Nat.beq (qp q h.toNat) ((bin q i.toNat (bo q n.toNat i.toNat) h.toNat).getD i.toNat 0)) = true := by
    rw [Bool.and_eq_true]
    refine ⟨Nat.ble_eq_true_of_le (by omega), ?_⟩
    rw [show qp q h.toNat = (bin q i.toNat (bo q n.toNat i.toNat) h.toNat).getD i.toNat 0 by omega]
    exact Nat.beq_refl _
  have e2 : bin q i.toNat (bo q n.toNat i.toNat) (h + 1).toNat = bin q i.toNat (bo q n.toNat i.toNat) h.toNat ++ [h.toNat] := by
    rw [show (h + 1).toNat = h.toNat + 1 by omega]
    show (match Nat.blt 0 h.toNat && Nat.beq (qp q h.toNat) ((bin q i.toNat (bo q n.toNat i.toNat) h.toNat).getD i.toNat 0) with
      | true => bin q i.toNat (bo q n.toNat i.toNat) h.toNat ++ [h.toNat]
      | false => bin q i.toNat (bo q n.toNat i.toNat) h.toNat) = _
    rw [e1]
  unfold zbk zbi
  rw [e2]
  refine ⟨by rw [List.length_append, List.length_singleton]; omega, fun j j0 => ?_⟩
  rw [List.getD_eq_getElem?_getD, List.getD_eq_getElem?_getD]
  by_cases c : j.toNat < (bin q i.toNat (bo q n.toNat i.toNat) h.toNat).length
  · rw [List.getElem?_append_left c, if_neg (by omega)]
  · rw [List.getElem?_append_right (by omega)]
    by_cases c2 : j.toNat = (bin q i.toNat (bo q n.toNat i.toNat) h.toNat).length
    · rw [c2, Nat.sub_self, if_pos (by omega)]
      show ((h.toNat : Nat) : Int) = h
      omega
    · rw [if_neg (by omega), List.getElem?_eq_none (by rw [List.length_singleton]; omega), List.getElem?_eq_none (by omega)]
theorem zb_f {q : List Nat} {n i h : Int} (h1 : 1 ≤ h) (e : ¬ ((qp q h.toNat : Nat) : Int) = zbi q n i h i) : zbk q n i (h + 1) = zbk q n i h ∧ ∀ j, zbi q n i (h + 1) j = zbi q n i h j := by
  unfold zbi at e
  have e1 : (Nat.blt 0 h.toNat && Nat.beq (qp q h.toNat) ((bin q i.toNat (bo q n.toNat i.toNat) h.toNat).getD i.toNat 0)) = false := by
    rw [nbq (fun z => e (by rw [z])), Bool.and_false]
  have e2 : bin q i.toNat (bo q n.toNat i.toNat) (h + 1).toNat = bin q i.toNat (bo q n.toNat i.toNat) h.toNat := by
    rw [show (h + 1).toNat = h.toNat + 1 by omega]
    show (match Nat.blt 0 h.toNat && Nat.beq (qp q h.toNat) ((bin q i.toNat (bo q n.toNat i.toNat) h.toNat).getD i.toNat 0) with
      | true => bin q i.toNat (bo q n.toNat i.toNat) h.toNat ++ [h.toNat]
      | false => bin q i.toNat (bo q n.toNat i.toNat) h.toNat) = _
    rw [e1]
  unfold zbk zbi
  rw [e2]
  exact ⟨rfl, fun _ => rfl⟩
/-- the order when all are in it -/
def zo (q : List Nat) (n j : Int) : Int := zbo q n n j
theorem qk_1 {n : Int} {q : List Nat} (h : qk2 n.toNat q = true) {i : Int} (i0 : 0 ≤ i) (i1 : i < n) : i < zbl q n i ∧ ∀ k, 0 ≤ k → k ≤ n → zbk q n i k ≤ 6 := by
  unfold qk2 at h
  rw [Bool.and_eq_true] at h
  have a := qal_ok h.1 i.toNat (by omega)
  rw [Bool.and_eq_true] at a
  refine ⟨?_, fun k k0 k1 => ?_⟩
  · have := Nat.le_of_ble_eq_true a.1
    unfold zbl
    omega
  · have := Nat.le_of_ble_eq_true (qal_ok a.2 k.toNat (by omega))
    unfold zbk
    omega
theorem qk_3 {n : Int} {q : List Nat} (h : qk2 n.toNat q = true) : qk3 n.toNat q (bo q n.toNat n.toNat) = true := by
  unfold qk2 at h
  rw [Bool.and_eq_true] at h
  have h2 := h.2
  split at h2
  · cases h2
  · rename_i a r e
    rw [e]
    exact h2
theorem zo_l {n : Int} {q : List Nat} (n0 : 0 ≤ n) (h : qk2 n.toNat q = true) : zbl q n n = n := by
  have h := qk_3 h
  unfold qk3 at h
  rw [Bool.and_eq_true] at h
  have := Nat.eq_of_beq_eq_true h.1
  unfold zbl
  omega
theorem zo_r {n : Int} {q : List Nat} (h : qk2 n.toNat q = true) {i : Int} (i0 : 0 ≤ i) (i1 : i < n) : 0 ≤ zo q n i ∧ zo q n i < n ∧ (i = 0 → zo q n i = 0) ∧ (1 ≤ i → 1 ≤ zo q n i ∧ ∃ a, 0 ≤ a ∧ a < i ∧ zo q n a = ((qp q (zo q n i).toNat : Nat) : Int)) := by
  have h := qk_3 h
  unfold qk3 at h
  rw [Bool.and_eq_true, Bool.and_eq_true] at h
  have a := qal_ok h.2.1 i.toNat (by omega)
  rw [Bool.and_eq_true, Bool.and_eq_true, Bool.or_eq_true, Bool.and_eq_true, Bool.and_eq_true, Bool.and_eq_true] at a
  have b := Nat.le_of_ble_eq_true a.1
  refine ⟨by unfold zo zbo; omega, by unfold zo zbo; omega, fun e => ?_, fun e => ?_⟩
  · rcases a.2.1 with z | z
    · have := Nat.eq_of_beq_eq_true z.2
      unfold zo zbo
      omega
    · have := Nat.le_of_ble_eq_true z.1
      omega
  · rcases a.2.1 with z | z
    · have := Nat.eq_of_beq_eq_true z.1
      omega
    · have c := Nat.le_of_ble_eq_true z.2.1
      obtain ⟨k, k1, k2⟩ := qan_ok z.2.2
      have k3 := Nat.eq_of_beq_eq_true k2
      refine ⟨by unfold zo zbo; omega, (k : Int), by omega, by omega, ?_⟩
      unfold zo zbo
      rw [Int.toNat_natCast, Int.toNat_natCast, k3]
theorem zo_b {n : Int} {q : List Nat} (h : qk2 n.toNat q = true) {i : Int} (i0 : 0 ≤ i) (i1 : i < n) : 0 ≤ zo q n i ∧ zo q n i < n ∧ (i = 0 → zo q n i = 0) ∧ (1 ≤ i → 1 ≤ zo q n i) :=
  ⟨(zo_r h i0 i1).1, (zo_r h i0 i1).2.1, (zo_r h i0 i1).2.2.1, fun e => ((zo_r h i0 i1).2.2.2 e).1⟩
theorem zo_m {n : Int} {q : List Nat} (h : qk2 n.toNat q = true) {i j : Int} (j0 : 0 ≤ j) (j1 : j < i) (i1 : i < n) : zD q (zo q n i) (zo q n j) = zD q ((qp q (zo q n i).toNat : Nat) : Int) (zo q n j) + 1 ∧ zD q (zo q n j) (zo q n i) = zD q (zo q n i) (zo q n j) ∧ zo q n j ≠ zo q n i := by
  have h := qk_3 h
  unfold qk3 at h
  rw [Bool.and_eq_true, Bool.and_eq_true] at h
  have a := qal_ok h.2.1 i.toNat (by omega)
  rw [Bool.and_eq_true, Bool.and_eq_true] at a
  have b := qal_ok a.2.2 j.toNat (by omega)
  rw [Bool.and_eq_true, Bool.and_eq_true, Bool.not_eq_true'] at b
  have b1 := Nat.eq_of_beq_eq_true b.1
  have b2 := Nat.eq_of_beq_eq_true b.2.1
  unfold zo zbo zD
  simp only [Int.toNat_natCast]
  refine ⟨by omega, by omega, fun e => ?_⟩
  have e : (bo q n.toNat n.toNat).getD j.toNat 0 = (bo q n.toNat n.toNat).getD i.toNat 0 := by omega
  have b3 := b.2.2
  rw [e, Nat.beq_refl] at b3
  cases b3
theorem zo_s {n : Int} {q : List Nat} (h : qk2 n.toNat q = true) {x : Int} (x0 : 0 ≤ x) (x1 : x < n) : ∃ i, 0 ≤ i ∧ i < n ∧ zo q n i = x := by
  have h := qk_3 h
  unfold qk3 at h
  rw [Bool.and_eq_true, Bool.and_eq_true, Bool.and_eq_true] at h
  obtain ⟨i, i1, i2⟩ := qan_ok (qal_ok h.2.2.1 x.toNat (by omega))
  have i3 := Nat.eq_of_beq_eq_true i2
  refine ⟨(i : Int), by omega, by omega, ?_⟩
  unfold zo zbo
  rw [Int.toNat_natCast, i3]
  omega
theorem qm_0 (q : List Nat) : ∀ (f a : Nat), qm q f a a = 0
  | 0, _ => rfl
  | f + 1, a => by
    unfold qm
    rw [Nat.beq_refl]
theorem zD_0 (q : List Nat) (x : Int) : zD q x x = 0 := by
  unfold zD qD
  rw [qm_0]
  rfl
/-- the table of wardens behind k houses (one less than the class's numbers), a house's own row, the least of its first -/
def ztb (q : List Nat) (n k h w : Int) : Int := (((tb q n.toNat (bo q n.toNat n.toNat) k.toNat).getD (6 * h.toNat + w.toNat) 0 : Nat) : Int)
def zsv (q : List Nat) (n k h w : Int) : Int := ((tsv q h.toNat (tb q n.toNat (bo q n.toNat n.toNat) k.toNat) w.toNat : Nat) : Int)
def zfm (q : List Nat) (n k h w : Int) : Int := ((qfm (tsv q h.toNat (tb q n.toNat (bo q n.toNat n.toNat) k.toNat)) w.toNat : Nat) : Int)
theorem zt_0 (q : List Nat) (n h w : Int) (h0 : 0 ≤ h) (h1 : h < 6) (w0 : 0 ≤ w) (w1 : w < 6) : ztb q n 0 h w = 0 := by
  unfold ztb
  rw [show (0 : Int).toNat = 0 from rfl, tb_0 _ _ _ _ (by omega)]
  rfl
theorem zt_b (q : List Nat) (n k h w : Int) (h0 : 0 ≤ h) (h1 : h < 6) (w0 : 0 ≤ w) (w1 : w < 6) (k0 : 0 ≤ k) (k1 : k ≤ 6) : 0 ≤ ztb q n k h w ∧ ztb q n k h w ≤ 6999999 := by
  have := tb_le q n.toNat (bo q n.toNat n.toNat) k.toNat h.toNat w.toNat (by omega) (by omega)
  unfold ztb
  omega
theorem zs_e (q : List Nat) (n k h w : Int) : (zD q h w ≤ 1 → zsv q n k h w = ztb q n k h w) ∧ (¬ zD q h w ≤ 1 → zsv q n k h w = 999999) := by
  unfold zD zsv ztb tsv
  refine ⟨fun e => ?_, fun e => ?_⟩
  · rw [Nat.ble_eq_true_of_le (by omega)]
  · split
    · rename_i z
      have := Nat.le_of_ble_eq_true z
      omega
    · rfl
theorem zf_0 (q : List Nat) (n k h : Int) : zfm q n k h 0 = 999999 := rfl
theorem zf_b (q : List Nat) (n k h w : Int) : 0 ≤ zfm q n k h w ∧ zfm q n k h w ≤ 999999 := by
  have := qfm_le (tsv q h.toNat (tb q n.toNat (bo q n.toNat n.toNat) k.toNat)) w.toNat
  unfold zfm
  omega
theorem zf_s (q : List Nat) (n k h : Int) {w : Int} (w0 : 0 ≤ w) : zfm q n k h (w + 1) = min (zfm q n k h w) (zsv q n k h w) := by
  unfold zfm zsv
  rw [show (w + 1).toNat = w.toNat + 1 by omega]
  show (((match Nat.ble (qfm (tsv q h.toNat (tb q n.toNat (bo q n.toNat n.toNat) k.toNat)) w.toNat) (tsv q h.toNat (tb q n.toNat (bo q n.toNat n.toNat) k.toNat) w.toNat) with
    | true => qfm (tsv q h.toNat (tb q n.toNat (bo q n.toNat n.toNat) k.toNat)) w.toNat
    | false => tsv q h.toNat (tb q n.toNat (bo q n.toNat n.toNat) k.toNat) w.toNat : Nat)) : Int) = _
  split
  · rename_i z
    have := Nat.le_of_ble_eq_true z
    omega
  · rename_i z
    have : ¬ qfm (tsv q h.toNat (tb q n.toNat (bo q n.toNat n.toNat) k.toNat)) w.toNat ≤ tsv q h.toNat (tb q n.toNat (bo q n.toNat n.toNat) k.toNat) w.toNat := fun y => by rw [Nat.ble_eq_true_of_le y] at z; cases z
    omega
/-- one house more: x is the house -/
theorem zt_s (q : List Nat) {n k x h w : Int} (k0 : 0 ≤ k) (k1 : k < n) (hx : x = zo q n (n - 1 - k)) (h0 : 0 ≤ h) (h1 : h < 6) (w0 : 0 ≤ w) (w1 : w < 6) : (h = x → ztb q n (k + 1) h w = zsv q n k x w) ∧ (h ≠ x → 1 ≤ x → h = ((qp q x.toNat : Nat) : Int) → ztb q n (k + 1) h w = ztb q n k h w + min (zfm q n k x n + 1) (zsv q n k x w)) ∧ (h ≠ x → (x = 0 ∨ h ≠ ((qp q x.toNat : Nat) : Int)) → ztb q n (k + 1) h w = ztb q n k h w) := by
  have e := tb_s q n.toNat (bo q n.toNat n.toNat) k.toNat h.toNat w.toNat (by omega) (by omega)
  have ex : (bo q n.toNat n.toNat).getD (n.toNat - 1 - k.toNat) 0 = x.toNat := by
    rw [hx]
    unfold zo zbo
    rw [Int.toNat_natCast, show (n - 1 - k).toNat = n.toNat - 1 - k.toNat by omega]
  have x0 : 0 ≤ x := by
    rw [hx]
    unfold zo zbo
    omega
  rw [ex] at e
  unfold ztb zsv zfm
  rw [show (k + 1).toNat = k.toNat + 1 by omega, e]
  refine ⟨fun z => ?_, fun z z1 z2 => ?_, fun z z1 => ?_⟩
  · rw [show h.toNat = x.toNat by omega, tst_x]
  · rw [tst_p q n.toNat _ w.toNat (show h.toNat ≠ x.toNat by omega) (by omega) (by omega)]
    omega
  · rw [tst_o q n.toNat _ w.toNat (show h.toNat ≠ x.toNat by omega) (by omega)]
/-- the farthest house of a mask; the mask without those that are near; how many the farthest ones ask for -/
def zwf (q : List Nat) (m k : Int) : Int := match Nat.beq (wfo q m.toNat k.toNat) 99 with
  | true => -1
  | false => ((wfo q m.toNat k.toNat : Nat) : Int)
def zwc (q : List Nat) (a m k : Int) : Int := ((wcl q a.toNat m.toNat k.toNat : Nat) : Int)
def zwe (q : List Nat) (n f m : Int) : Int := ((wwe q n.toNat f.toNat m.toNat : Nat) : Int)
theorem zw_b (q : List Nat) (m : Nat) : ∀ k, wfo q m k = 99 ∨ wfo q m k < k
  | 0 => Or.inl rfl
  | k + 1 => by
    have ih := zw_b q m k
    have es : wfo q m (k + 1) = (match Nat.testBit m k with
      | true => (match Nat.beq (wfo q m k) 99 || Nat.blt (qD q 0 (wfo q m k)) (qD q 0 k) with
        | true => k
        | false => wfo q m k)
      | false => wfo q m k) := rfl
    cases c : Nat.testBit m k with
    | false =>
      rw [c] at es
      have es : wfo q m (k + 1) = wfo q m k := es
      omega
    | true =>
      rw [c] at es
      cases c2 : (Nat.beq (wfo q m k) 99 || Nat.blt (qD q 0 (wfo q m k)) (qD q 0 k)) with
      | true =>
        rw [c2] at es
        have es : wfo q m (k + 1) = k := es
        omega
      | false =>
        rw [c2] at es
        have es : wfo q m (k + 1) = wfo q m k := es
        omega
theorem zwf_r (q : List Nat) (m : Int) {k : Int} (k1 : k ≤ 14) : zwf q m k = -1 ∨ (0 ≤ zwf q m k ∧ zwf q m k < k) := by
  have ih := zw_b q m.toNat k.toNat
  unfold zwf
  split
  · exact Or.inl rfl
  · rename_i e
    right
    rcases ih with z | z
    · rw [z] at e
      cases e
    · omega
theorem zwf_0 (q : List Nat) (m : Int) : zwf q m 0 = -1 := rfl
theorem wfo_f {q : List Nat} {m k : Nat} (e : Nat.testBit m k = false) : wfo q m (k + 1) = wfo q m k := by
  show (match Nat.testBit m k with
    | true => (match Nat.beq (wfo q m k) 99 || Nat.blt (qD q 0 (wfo q m k)) (qD q 0 k) with
      | true => k
      | false => wfo q m k)
    | false => wfo q m k) = _
  rw [e]
theorem wfo_t {q : List Nat} {m k : Nat} (e : Nat.testBit m k = true) (e2 : (Nat.beq (wfo q m k) 99 || Nat.blt (qD q 0 (wfo q m k)) (qD q 0 k)) = true) : wfo q m (k + 1) = k := by
  show (match Nat.testBit m k with
    | true => (match Nat.beq (wfo q m k) 99 || Nat.blt (qD q 0 (wfo q m k)) (qD q 0 k) with
      | true => k
      | false => wfo q m k)
    | false => wfo q m k) = _
  rw [e, e2]
theorem wfo_u {q : List Nat} {m k : Nat} (e : Nat.testBit m k = true) (e2 : (Nat.beq (wfo q m k) 99 || Nat.blt (qD q 0 (wfo q m k)) (qD q 0 k)) = false) : wfo q m (k + 1) = wfo q m k := by
  show (match Nat.testBit m k with
    | true => (match Nat.beq (wfo q m k) 99 || Nat.blt (qD q 0 (wfo q m k)) (qD q 0 k) with
      | true => k
      | false => wfo q m k)
    | false => wfo q m k) = _
  rw [e, e2]
theorem zwf_n {q : List Nat} {m k : Int} (h : zwf q m k = -1) : Nat.beq (wfo q m.toNat k.toNat) 99 = true := by
  cases c : Nat.beq (wfo q m.toNat k.toNat) 99 with
  | true => rfl
  | false =>
    exfalso
    unfold zwf at h
    rw [c] at h
    have h : ((wfo q m.toNat k.toNat : Nat) : Int) = -1 := h
    omega
theorem zwf_y {q : List Nat} {m k : Int} (h : 0 ≤ zwf q m k) : Nat.beq (wfo q m.toNat k.toNat) 99 = false ∧ zwf q m k = ((wfo q m.toNat k.toNat : Nat) : Int) := by
  cases c : Nat.beq (wfo q m.toNat k.toNat) 99 with
  | true =>
    exfalso
    unfold zwf at h
    rw [c] at h
    have h : (0 : Int) ≤ -1 := h
    omega
  | false =>
    refine ⟨rfl, ?_⟩
    unfold zwf
    rw [c]
theorem zwf_k {q : List Nat} {m k : Int} {w : Nat} (h : wfo q m.toNat k.toNat = w) (hw : w < 99) : zwf q m k = (w : Int) := by
  unfold zwf
  rw [h, nbq (show w ≠ 99 by omega)]
theorem zD_n (q : List Nat) (a b : Nat) : zD q 0 (a : Int) < zD q 0 (b : Int) ↔ qD q 0 a < qD q 0 b := by
  have e : ∀ c : Nat, zD q 0 (c : Int) = ((qD q 0 c : Nat) : Int) := fun c => rfl
  rw [e, e]
  omega
theorem zwf_s (q : List Nat) (m : Int) {k : Int} (k0 : 0 ≤ k) (k1 : k < 14) : (m.toNat.testBit k.toNat = false → zwf q m (k + 1) = zwf q m k) ∧ (m.toNat.testBit k.toNat = true → zwf q m k = -1 → zwf q m (k + 1) = k) ∧ (m.toNat.testBit k.toNat = true → 0 ≤ zwf q m k → zD q 0 (zwf q m k) < zD q 0 k → zwf q m (k + 1) = k) ∧ (m.toNat.testBit k.toNat = true → 0 ≤ zwf q m k → zD q 0 k ≤ zD q 0 (zwf q m k) → zwf q m (k + 1) = zwf q m k) := by
  have kk : (k + 1).toNat = k.toNat + 1 := by omega
  have ek : ((k.toNat : Nat) : Int) = k := by omega
  refine ⟨fun e => ?_, fun e e1 => ?_, fun e e1 e2 => ?_, fun e e1 e2 => ?_⟩
  · unfold zwf
    rw [kk, wfo_f e]
  · exact (zwf_k (w := k.toNat) (by rw [kk]; exact wfo_t e (by rw [zwf_n e1]; rfl)) (by omega)).trans ek
  · have y := zwf_y e1
    rw [y.2, ← ek] at e2
    have e3 := (zD_n q _ _).mp e2
    exact (zwf_k (w := k.toNat) (by rw [kk]; exact wfo_t e (by rw [show Nat.blt (qD q 0 (wfo q m.toNat k.toNat)) (qD q 0 k.toNat) = true from Nat.ble_eq_true_of_le e3, Bool.or_true])) (by omega)).trans ek
  · have y := zwf_y e1
    rw [y.2] at e2
    have e4 : Nat.blt (qD q 0 (wfo q m.toNat k.toNat)) (qD q 0 k.toNat) = false := by
      cases c : Nat.blt (qD q 0 (wfo q m.toNat k.toNat)) (qD q 0 k.toNat) with
      | false => rfl
      | true =>
        have c2 := (zD_n q (wfo q m.toNat k.toNat) k.toNat).mpr (Nat.le_of_ble_eq_true c)
        rw [ek] at c2
        omega
    unfold zwf
    rw [kk, wfo_u e (by rw [y.1, e4]; rfl)]
theorem tbit_n : ∀ m : Nat, m < 64 → ∀ k : Nat, k < 6 → fw_and (fw_shr (m : Int) (k : Int)) 1 = if m.testBit k = true then 1 else 0 := by decide +kernel
theorem tbit_i {m k : Int} (m0 : 0 ≤ m) (m1 : m < 64) (k0 : 0 ≤ k) (k1 : k < 6) : (m.toNat.testBit k.toNat = true ↔ fw_and (fw_shr m k) 1 = 1) ∧ (m.toNat.testBit k.toNat = false ↔ fw_and (fw_shr m k) 1 = 0) := by
  have e := tbit_n m.toNat (by omega) k.toNat (by omega)
  rw [Int.toNat_of_nonneg m0, Int.toNat_of_nonneg k0] at e
  rw [e]
  cases m.toNat.testBit k.toNat with
  | true => exact ⟨⟨fun _ => rfl, fun _ => rfl⟩, ⟨fun z => (by cases z), fun z => absurd z (by decide)⟩⟩
  | false => exact ⟨⟨fun z => (by cases z), fun z => absurd z (by decide)⟩, ⟨fun _ => rfl, fun _ => rfl⟩⟩
theorem wclr_n : ∀ m : Nat, m < 64 → ∀ k : Nat, k < 6 → fw_and (m : Int) (fw_xor (fw_shl 1 (k : Int)) (-1)) = ((Nat.land m (63 - 2 ^ k) : Nat) : Int) ∧ Nat.land m (63 - 2 ^ k) < 64 := by decide +kernel
theorem zwc_0 (q : List Nat) (a : Int) {m : Int} (m0 : 0 ≤ m) : zwc q a m 0 = m := by
  show ((m.toNat : Nat) : Int) = m
  omega
theorem zwc_b (q : List Nat) (a m : Nat) (hm : m < 64) : ∀ k, k ≤ 6 → wcl q a m k < 64
  | 0, _ => hm
  | k + 1, h => by
    have ih := zwc_b q a m hm k (by omega)
    unfold wcl
    split
    · exact (wclr_n _ ih k (by omega)).2
    · exact ih
theorem zwc_r (q : List Nat) (a : Int) {m k : Int} (m0 : 0 ≤ m) (m1 : m < 64) (k1 : k ≤ 6) : 0 ≤ zwc q a m k ∧ zwc q a m k < 64 := by
  have := zwc_b q a.toNat m.toNat (by omega) k.toNat (by omega)
  unfold zwc
  omega
theorem zwc_s (q : List Nat) (a : Int) {m k : Int} (m0 : 0 ≤ m) (m1 : m < 64) (k0 : 0 ≤ k) (k1 : k < 6) : (zD q a k ≤ 1 → zwc q a m (k + 1) = fw_and (zwc q a m k) (fw_xor (fw_shl 1 k) (-1))) ∧ (¬ zD q a k ≤ 1 → zwc q a m (k + 1) = zwc q a m k) := by
  have hb := zwc_b q a.toNat m.toNat (by omega) k.toNat (by omega)
  have e := (wclr_n _ hb k.toNat (by omega)).1
  rw [Int.toNat_of_nonneg k0] at e
  unfold zD zwc
  rw [show (k + 1).toNat = k.toNat + 1 by omega, e]
  refine ⟨fun z => ?_, fun z => ?_⟩
  · show (((match Nat.ble (qD q a.toNat k.toNat) 1 with
      | true => Nat.land (wcl q a.toNat m.toNat k.toNat) (63 - 2 ^ k.toNat)
      | false => wcl q a.toNat m.toNat k.toNat) : Nat) : Int) = _
    rw [Nat.ble_eq_true_of_le (by omega)]
  · show (((match Nat.ble (qD q a.toNat k.toNat) 1 with
      | true => Nat.land (wcl q a.toNat m.toNat k.toNat) (63 - 2 ^ k.toNat)
      | false => wcl q a.toNat m.toNat k.toNat) : Nat) : Int) = _
    split
    · rename_i y
      have := Nat.le_of_ble_eq_true y
      omega
    · rfl
theorem zwe_0 (q : List Nat) (n f : Int) : zwe q n f 0 = 0 := by
  unfold zwe
  cases f.toNat with
  | zero => rfl
  | succ k => rfl
theorem zwe_e (q : List Nat) (n : Int) {m : Int} (m0 : 0 < m) : zwe q n 0 m = 99 := by
  unfold zwe
  obtain ⟨k, hk⟩ : ∃ k, m.toNat = k + 1 := ⟨m.toNat - 1, by omega⟩
  rw [hk]
  rfl
theorem zwe_s (q : List Nat) {n f m : Int} (f0 : 0 < f) (n0 : 0 ≤ n) (m0 : 0 < m) (h0 : 0 ≤ zwf q m n) : zwe q n f m = zwe q n (f - 1) (zwc q ((qp q (zwf q m n).toNat : Nat) : Int) m n) + 1 := by
  have e4 : (zwf q m n).toNat = wfo q m.toNat n.toNat := by
    rw [(zwf_y h0).2, Int.toNat_natCast]
  obtain ⟨k, hk⟩ : ∃ k, m.toNat = k + 1 := ⟨m.toNat - 1, by omega⟩
  obtain ⟨g, hg⟩ : ∃ g, f.toNat = g + 1 := ⟨f.toNat - 1, by omega⟩
  rw [e4]
  unfold zwe zwc
  rw [Int.toNat_natCast, Int.toNat_natCast, hg, hk, show (f - 1).toNat = g by omega]
  rfl
/-- both counts are the same -/
theorem zw_eq {n : Int} {q : List Nat} (n1 : 1 ≤ n) (h : qk2 n.toNat q = true) : zwe q n n ((2 ^ n.toNat - 1 : Nat) : Int) = zfm q n (n - 1) 0 n + 1 ∧ zwe q n n ((2 ^ n.toNat - 1 : Nat) : Int) ≤ 6 := by
  have h := qk_3 h
  unfold qk3 at h
  rw [Bool.and_eq_true, Bool.and_eq_true, Bool.and_eq_true, Bool.and_eq_true] at h
  have a := Nat.eq_of_beq_eq_true h.2.2.2.1
  have b := Nat.le_of_ble_eq_true h.2.2.2.2
  unfold zwe zfm
  rw [Int.toNat_natCast, show (n - 1).toNat = n.toNat - 1 by omega, show (0 : Int).toNat = 0 from rfl]
  omega
theorem qmn_min (f : Nat → Nat) : ∀ (n k : Nat), k < n → qmn f n ≤ f k
  | 0, k, h => absurd h (Nat.not_lt_zero _)
  | n + 1, k, h => by
    unfold qmn
    by_cases e : k = n
    · subst e
      split
      · rename_i z
        exact Nat.le_of_ble_eq_true z
      · exact Nat.le_refl _
    · have ih := qmn_min f n k (by omega)
      split
      · exact ih
      · rename_i z
        have : ¬ qmn f n ≤ f n := fun y => by rw [Nat.ble_eq_true_of_le y] at z; cases z
        omega
theorem qL_le {q : List Nat} {n x : Int} (x0 : 0 ≤ x) (x1 : x < n) : ((qL q n.toNat : Nat) : Int) ≤ ((qE q n.toNat x.toNat : Nat) : Int) := by
  have := qmn_min (qE q n.toNat) n.toNat x.toNat (by omega)
  unfold qL
  omega
theorem wf_99 (q : List Nat) (m : Nat) : ∀ k, k ≤ 14 → wfo q m k = 99 → ∀ j, j < k → m.testBit j = false
  | 0, _, _, j, hj => absurd hj (Nat.not_lt_zero _)
  | k + 1, hk, h, j, hj => by
    unfold wfo at h
    split at h
    · split at h
      · omega
      · rename_i z
        rw [h] at z
        cases z
    · rename_i z
      by_cases e : j = k
      · subst e
        cases c : m.testBit j with
        | false => rfl
        | true =>
          rw [c] at z
          cases z
      · exact wf_99 q m k (by omega) h j (by omega)
theorem zwf_p (q : List Nat) {m n : Int} (m0 : 0 < m) (m1 : m < fw_shl 1 n) (n0 : 0 ≤ n) (n1 : n ≤ 14) : 0 ≤ zwf q m n := by
  have s := (fw_shl1 n0 n1).1
  apply Classical.byContradiction
  intro z
  have e3 : Nat.beq (wfo q m.toNat n.toNat) 99 = true := by
    cases c : Nat.beq (wfo q m.toNat n.toNat) 99 with
    | true => rfl
    | false =>
      exfalso
      apply z
      unfold zwf
      rw [c]
      dsimp only
      omega
  have e4 := Nat.eq_of_beq_eq_true e3
  have key : m.toNat = 0 := by
    apply Nat.eq_of_testBit_eq
    intro i
    rw [Nat.zero_testBit]
    by_cases c : i < n.toNat
    · exact wf_99 q m.toNat n.toNat (by omega) e4 i c
    · exact Nat.testBit_lt_two_pow (Nat.lt_of_lt_of_le (show m.toNat < 2 ^ n.toNat by omega) (Nat.pow_le_pow_right (by omega) (by omega)))
  omega
theorem wcl_le (q : List Nat) (a m : Nat) : ∀ k, wcl q a m k ≤ m
  | 0 => Nat.le_refl _
  | k + 1 => by
    have ih := wcl_le q a m k
    unfold wcl
    split
    · exact Nat.le_trans Nat.and_le_left ih
    · exact ih
theorem zwc_le (q : List Nat) (a : Int) {m : Int} (k : Int) (m0 : 0 ≤ m) : zwc q a m k ≤ m := by
  have := wcl_le q a.toNat m.toNat k.toNat
  unfold zwc
  omega
theorem zo_p {n : Int} {q : List Nat} (h : qk2 n.toNat q = true) {i : Int} (i0 : 1 ≤ i) (i1 : i < n) : ((qp q (zo q n i).toNat : Nat) : Int) < n ∧ ((qp q (zo q n i).toNat : Nat) : Int) ≠ zo q n i := by
  obtain ⟨-, -, -, h4⟩ := zo_r h (i := i) (by omega) i1
  obtain ⟨-, a, a0, a1, a2⟩ := h4 i0
  have r := zo_r h (i := a) a0 (by omega)
  have m := zo_m h (i := i) (j := a) a0 a1 i1
  rw [← a2]
  exact ⟨r.2.1, m.2.2⟩
/-- two rows written alike -/
theorem fr_dd {W : fw_W} {c : Nat} {a b v u t : Int} (a0 : 0 ≤ a) (a1 : a < 14) (b0 : 0 ≤ b) (b1 : b < 14) (u0 : 0 ≤ u) (u1 : u < 14) (t0 : 0 ≤ t) (v0 : -2147483648 ≤ v) (v1 : v ≤ 2147483647) : fw_g (fw_upr (fw_upr W c a b v) c b a v) (fw_rc c u) t = if (a = u ∧ b = t) ∨ (b = u ∧ a = t) then v else fw_g W (fw_rc c u) t := by
  rw [fr_if b0 b1 u0 u1 a0 t0 v0 v1]
  by_cases e : b = u ∧ a = t
  · rw [if_pos e, if_pos (Or.inr e)]
  · rw [if_neg e, fr_if a0 a1 u0 u1 b0 t0 v0 v1]
    by_cases e2 : a = u ∧ b = t
    · rw [if_pos e2, if_pos (Or.inl e2)]
    · rw [if_neg e2, if_neg (fun z => z.elim e2 e)]
/-- bits counted -/
def bc1 (x : Int) : Int := x - fw_and (fw_ushr x 1) 1431655765
def bc2 (x : Int) : Int := fw_and (bc1 x) 858993459 + fw_and (fw_ushr (bc1 x) 2) 858993459
def bc3 (x : Int) : Int := fw_and (bc2 x + fw_ushr (bc2 x) 4) 252645135
def bc4 (x : Int) : Int := bc3 x + fw_ushr (bc3 x) 8
def bc5 (x : Int) : Int := bc4 x + fw_ushr (bc4 x) 16
theorem bc_n : ∀ x : Nat, x < 64 → (0 ≤ bc1 (x : Int) ∧ bc1 (x : Int) ≤ 1000000000) ∧ (0 ≤ bc2 (x : Int) ∧ bc2 (x : Int) ≤ 1000000000) ∧ (0 ≤ bc2 (x : Int) + fw_ushr (bc2 (x : Int)) 4 ∧ bc2 (x : Int) + fw_ushr (bc2 (x : Int)) 4 ≤ 1000000000) ∧ (0 ≤ bc4 (x : Int) ∧ bc4 (x : Int) ≤ 1000000000) ∧ (0 ≤ bc5 (x : Int) ∧ bc5 (x : Int) ≤ 1000000000) ∧ fw_and (bc5 (x : Int)) 63 = ((pcn x x : Nat) : Int) := by decide +kernel
theorem bc_i {x : Int} (h0 : 0 ≤ x) (h1 : x < 64) : (0 ≤ bc1 x ∧ bc1 x ≤ 1000000000) ∧ (0 ≤ bc2 x ∧ bc2 x ≤ 1000000000) ∧ (0 ≤ bc2 x + fw_ushr (bc2 x) 4 ∧ bc2 x + fw_ushr (bc2 x) 4 ≤ 1000000000) ∧ (0 ≤ bc4 x ∧ bc4 x ≤ 1000000000) ∧ (0 ≤ bc5 x ∧ bc5 x ≤ 1000000000) ∧ fw_and (bc5 x) 63 = pcv x := by
  have h := bc_n x.toNat (by omega)
  rw [Int.toNat_of_nonneg h0] at h
  exact h
abbrev mk1 (m : Int) : Int := fw_and m (m - 1)
def fo_p (m n : Nat) : Prop := (0 ≤ mk1 (m : Int) ∧ mk1 (m : Int) < 64) ∧ (0 ≤ mk1 (mk1 (m : Int)) ∧ mk1 (mk1 (m : Int)) < 64) ∧ (0 ≤ mk1 (mk1 (mk1 (m : Int))) ∧ mk1 (mk1 (mk1 (m : Int))) < 64) ∧ 0 ≤ tz (m : Int) ∧ tz (m : Int) < tz (mk1 (m : Int)) ∧ tz (mk1 (m : Int)) < tz (mk1 (mk1 (m : Int))) ∧ tz (mk1 (mk1 (m : Int))) < tz (mk1 (mk1 (mk1 (m : Int)))) ∧ tz (mk1 (mk1 (mk1 (m : Int)))) < (n : Int)
def fo_b (m n : Nat) : Bool := decide (0 ≤ mk1 (m : Int) ∧ mk1 (m : Int) < 64) && (decide (0 ≤ mk1 (mk1 (m : Int)) ∧ mk1 (mk1 (m : Int)) < 64) && (decide (0 ≤ mk1 (mk1 (mk1 (m : Int))) ∧ mk1 (mk1 (mk1 (m : Int))) < 64) && (decide (0 ≤ tz (m : Int)) && (decide (tz (m : Int) < tz (mk1 (m : Int))) && (decide (tz (mk1 (m : Int)) < tz (mk1 (mk1 (m : Int)))) && (decide (tz (mk1 (mk1 (m : Int))) < tz (mk1 (mk1 (mk1 (m : Int))))) && decide (tz (mk1 (mk1 (mk1 (m : Int)))) < (n : Int))))))))
theorem fo_bp {m n : Nat} (h : fo_b m n = true) : fo_p m n := by
  unfold fo_b at h
  simp only [Bool.and_eq_true, decide_eq_true_eq] at h
  exact h
theorem fo_all : (List.range 64).all (fun m => !(Nat.beq (pcn m m) 4) || (List.range 7).all (fun n => !(Nat.blt m (2 ^ n)) || fo_b m n)) = true := by decide +kernel
theorem fo_n (m : Nat) (h : m < 64) (h2 : pcn m m = 4) (n : Nat) (h3 : n < 7) (h4 : m < 2 ^ n) : fo_p m n := by
  have a := List.all_eq_true.mp fo_all m (List.mem_range.mpr h)
  rw [h2] at a
  have a : (List.range 7).all (fun n => !(Nat.blt m (2 ^ n)) || fo_b m n) = true := a
  have b := List.all_eq_true.mp a n (List.mem_range.mpr h3)
  rw [show Nat.blt m (2 ^ n) = true from Nat.ble_eq_true_of_le h4] at b
  exact fo_bp b
theorem fo_i {m n : Int} (m0 : 0 ≤ m) (m1 : m < 64) (hp : pcv m = 4) (n0 : 0 ≤ n) (n1 : n ≤ 6) (hm : m < fw_shl 1 n) : (0 ≤ mk1 m ∧ mk1 m < 64) ∧ (0 ≤ mk1 (mk1 m) ∧ mk1 (mk1 m) < 64) ∧ (0 ≤ mk1 (mk1 (mk1 m)) ∧ mk1 (mk1 (mk1 m)) < 64) ∧ 0 ≤ tz m ∧ tz m < tz (mk1 m) ∧ tz (mk1 m) < tz (mk1 (mk1 m)) ∧ tz (mk1 (mk1 m)) < tz (mk1 (mk1 (mk1 m))) ∧ tz (mk1 (mk1 (mk1 m))) < n := by
  have s := (fw_shl1 n0 (by omega)).1
  have h := fo_n m.toNat (by omega) (by unfold pcv at hp; omega) n.toNat (by omega) (by omega)
  unfold fo_p at h
  rw [Int.toNat_of_nonneg m0, Int.toNat_of_nonneg n0] at h
  exact h
