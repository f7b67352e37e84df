/-! the heap with all its ints known (but rows of rows) -/
def fw_ff (t : ai_F) : ai_F := match t with
  | .inl (lo, hi, _) => .inl (lo, hi, true)
  | t => t
def fw_fc (c : ai_C) : ai_C := match c with
  | .inl (t, n, lo, hi, _) => .inl (t, n, lo, hi, true)
  | .inr (.inr (.inr (ci, ts))) => .inr (.inr (.inr (ci, ts.map fw_ff)))
  | c => c
def fw_rows : List Nat := [20, 21, 22, 23, 24, 25, 26, 27, 28, 29, 30, 31, 32, 33, 206, 207, 208, 209, 210, 211, 212, 213, 214, 215, 216, 217, 218, 219, 225, 226, 227, 228, 229, 230, 231, 232, 233, 234, 235, 236, 237, 238, 246, 247, 248, 249, 250, 251, 252, 253, 254, 255, 256, 257, 258, 259, 261, 262, 263, 264, 265, 318, 319, 320, 321, 322, 331, 332, 333, 334, 335, 336]
def fw_fz (rs : List Nat) : Nat → List ai_C → List ai_C
  | _, [] => []
  | k, c :: l => (if rs.any (fun r => Nat.beq r k) = true then c else fw_fc c) :: fw_fz rs (k + 1) l
def fw_T : List ai_C := fw_fz fw_rows 0 ai_T
def fw_ef (a b : ai_F) : Bool := match a, b with
  | .inl x, .inl y => decide (x = y)
  | .inr (.inl x), .inr (.inl y) => decide (x = y)
  | .inr (.inr _), .inr (.inr _) => true
  | _, _ => false
theorem fw_ef_ok {a b : ai_F} (h : fw_ef a b = true) : a = b := by
  unfold fw_ef at h
  split at h
  · rw [of_decide_eq_true h]
  · rw [of_decide_eq_true h]
  · rfl
  · cases h
def fw_el : List ai_F → List ai_F → Bool
  | [], [] => true
  | a :: l, b :: m => fw_ef a b && fw_el l m
  | _, _ => false
theorem fw_el_ok : ∀ {l m : List ai_F}, fw_el l m = true → l = m
  | [], [], _ => rfl
  | a :: l, b :: m, h => by
    unfold fw_el at h
    rw [Bool.and_eq_true] at h
    rw [fw_ef_ok h.1, fw_el_ok h.2]
  | [], _ :: _, h => by cases h
  | _ :: _, [], h => by cases h
def fw_ec (a b : ai_C) : Bool := match a, b with
  | .inl x, .inl y => decide (x = y)
  | .inr (.inl x), .inr (.inl y) => decide (x = y)
  | .inr (.inr (.inl x)), .inr (.inr (.inl y)) => decide (x = y)
  | .inr (.inr (.inr (x, l))), .inr (.inr (.inr (y, m))) => decide (x = y) && fw_el l m
  | _, _ => false
theorem fw_ec_ok {a b : ai_C} (h : fw_ec a b = true) : a = b := by
  unfold fw_ec at h
  split at h
  · rw [of_decide_eq_true h]
  · rw [of_decide_eq_true h]
  · rw [of_decide_eq_true h]
  · rw [Bool.and_eq_true] at h
    rw [of_decide_eq_true h.1, fw_el_ok h.2]
  · cases h
def fw_ce (T : List ai_C) (k : Nat) (c : ai_C) : Bool := match T[k]? with
  | some x => fw_ec x c
  | none => false
theorem fw_ce_ok {T : List ai_C} {k : Nat} {c : ai_C} (h : fw_ce T k c = true) : T[k]? = some c := by
  unfold fw_ce at h
  split at h
  · rename_i x e
    rw [e, fw_ec_ok h]
  · cases h
def fw_vb (T : List ai_C) (V : List (Nat × ai_C)) (G : fw_G) : Bool := Nat.ble T.length 900 && (V.all (fun q => fw_ce T q.1 q.2) && G.all (fun q => match T[q.1]? with
  | some (.inr (.inr (.inl (t, es)))) => jm_tin t && (jm_isref t && (decide (es.length = q.2.1) && (es.all (fun k => fw_ce T k (.inl (.int, q.2.2.1, q.2.2.2.1, q.2.2.2.2, false))) && !(Nat.ble 400 q.1))))
  | _ => false))
theorem fw_vb_ok {T : List ai_C} {V : List (Nat × ai_C)} {G : fw_G} (h : fw_vb T V G = true) : fw_view T V G := by
  unfold fw_vb at h
  rw [Bool.and_eq_true, Bool.and_eq_true] at h
  have h900 := Nat.le_of_ble_eq_true h.1
  have h := h.2
  refine ⟨fun q hq => fw_ce_ok (List.all_eq_true.mp h.1 q hq), fun q hq => ?_, h900⟩
  have h2 := List.all_eq_true.mp h.2 q hq
  split at h2
  · rename_i t es e
    rw [Bool.and_eq_true, Bool.and_eq_true, Bool.and_eq_true, Bool.and_eq_true, Bool.not_eq_true'] at h2
    exact ⟨t, es, e, h2.1, h2.2.1, of_decide_eq_true h2.2.2.1, fun k hk => fw_ce_ok (List.all_eq_true.mp h2.2.2.2.1 k hk), h2.2.2.2.2⟩
  · cases h2
theorem fw_c0 (T : List ai_C) (d : Nat) : fw_cok T d [] := fun _ hq => by cases hq
/-- the reference's cells -/
def fm_V : List (Nat × ai_C) := [(352, .inr (.inr (.inr (12, [.inr (.inl [353]), .inr (.inl [354]), .inl (0, 1200, true), .inl (0, 1200, true), .inl (-2147483648, 2147483647, true), .inl (-2147483648, 2147483647, true), .inl (0, 1200, true), .inl (0, 1201, true), .inl (0, 5, true), .inl (-2147483648, 2147483647, true), .inr (.inr ()), .inr (.inl [355]), .inr (.inl [356]), .inr (.inl [357]), .inr (.inl [358]), .inr (.inl [359]), .inr (.inl [360]), .inr (.inl [361]), .inr (.inl [362]), .inr (.inl [363]), .inr (.inl [364]), .inr (.inl [365]), .inl (0, 1, true), .inl (0, 1, true), .inr (.inl [366]), .inr (.inl [367]), .inr (.inl [368]), .inl (0, 16, true), .inr (.inl [369]), .inl (0, 40, true), .inl (0, 40, true), .inr (.inl [370]), .inr (.inl [371]), .inr (.inl [372]), .inr (.inl [373]), .inr (.inl [374]), .inr (.inl [375]), .inr (.inl [376]), .inr (.inl [377]), .inl (-2147483648, 2147483647, true), .inl (-2147483648, 2147483647, true), .inr (.inl [378]), .inr (.inl [379]), .inr (.inl [380]), .inr (.inl [381]), .inr (.inl [382]), .inr (.inl [383]), .inr (.inl [384]), .inl (0, 64, true), .inl (0, 512, true), .inl (-1, 13, true), .inl (-1, 13, true), .inr (.inr ()), .inr (.inl [385]), .inr (.inl [386]), .inr (.inl [387]), .inr (.inl [388]), .inr (.inl [389]), .inr (.inl [390]), .inr (.inl [391]), .inr (.inl [392]), .inr (.inl [393]), .inr (.inl [394]), .inr (.inl [395]), .inr (.inl [396]), .inl (0, 40, true), .inl (0, 100000, true), .inr (.inl [397]), .inr (.inl [398])])))), (366, .inl (.int, 44, -2147483648, 2147483647, true)), (353, .inl (.byte, 1220, -128, 127, true)), (354, .inl (.byte, 1200, -128, 127, true)), (355, .inl (.int, 2, 0, 14, true)), (356, .inl (.int, 2, 0, 4, true)), (357, .inl (.int, 2, 0, 999, true)), (358, .inl (.int, 28, -1, 13, true)), (359, .inl (.int, 28, 0, 99, true)), (360, .inl (.int, 28, 0, 99, true)), (361, .inl (.int, 8, 0, 13, true)), (362, .inl (.int, 8, 0, 13, true)), (363, .inl (.boolean, 2, 0, 1, true)), (364, .inr (.inl 28)), (365, .inr (.inl 8)), (367, .inl (.int, 196, -2147483648, 2147483647, true)), (368, .inl (.int, 16, -2147483648, 2147483647, true)), (369, .inl (.int, 1804, -2147483648, 2147483647, true)), (370, .inl (.int, 14, -2147483648, 2147483647, true)), (371, .inl (.int, 14, 0, 13, true)), (372, .inl (.int, 14, -2147483648, 2147483647, true)), (373, .inl (.int, 14, -1, 13, true)), (374, .inl (.int, 14, -2147483648, 2147483647, true)), (375, .inl (.int, 20000, 0, 65535, true)), (376, .inl (.int, 20000, -1, 19999, true)), (377, .inl (.boolean, 65536, 0, 1, true)), (378, .inl (.int, 64, 0, 512, true)), (379, .inl (.int, 64, -2147483648, 2147483647, true)), (380, .inl (.int, 512, -2147483648, 2147483647, true)), (381, .inl (.int, 14, 0, 63, true)), (382, .inl (.int, 14, -2147483648, 2147483647, true)), (383, .inl (.int, 14, -2147483648, 2147483647, true)), (384, .inl (.int, 14, -2147483648, 2147483647, true)), (385, .inl (.int, 44, -2147483648, 2147483647, true)), (386, .inr (.inl 16)), (387, .inl (.int, 14, 0, 15, true)), (388, .inl (.int, 14, -2147483648, 2147483647, true)), (389, .inl (.int, 196, -2147483648, 2147483647, true)), (390, .inl (.boolean, 14, 0, 1, true)), (391, .inl (.int, 40, 0, 5, true)), (392, .inl (.int, 40, 0, 5, true)), (393, .inl (.int, 40, 0, 999, true)), (394, .inl (.int, 40, -2147483648, 2147483647, true)), (395, .inl (.int, 40, -2147483648, 2147483647, true)), (396, .inl (.int, 36, -2147483648, 2147483647, true)), (397, .inl (.int, 132, -2147483648, 2147483647, true)), (398, .inl (.boolean, 3, 0, 1, true))]
theorem fm_ok : fw_view fw_T fm_V [] := fw_vb_ok (by decide +kernel)
