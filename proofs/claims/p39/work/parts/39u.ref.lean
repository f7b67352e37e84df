/-! the reference, method by method -/
theorem bg_pure {o : Nat} {W f : fw_W} : fw_put [] o [] W f = W := by
  funext c i
  unfold fw_put fw_inS fw_inF
  cases Nat.beq o 0 <;> simp
theorem jc_up {T : List ai_C} {n y : Nat} {as : List fw_V} {W : fw_W} {Q : Option fw_V → fw_W → Prop} (d : Nat) (h : jc T n y as W Q) : jc T (d + n) y as W Q := by
  induction d with
  | zero => rw [Nat.zero_add]; exact h
  | succ d ih =>
    rw [show d + 1 + n = d + n + 1 by omega]
    exact fun asc hh ht hg => jg_deep (ih asc hh ht hg)
def an_takeTurns : List ((Nat × Nat) × ai_An) := [((281, 4), ([2, 3], [], [], [(.inl (some 2), .inl (some 3), 1), (.inl none, .inl (some 3), -1)], .inl none, .inl (some 3)))]
def aa_takeTurns (y pc : Nat) : Option ai_An := (an_takeTurns.find? (fun q => q.1.1 == y && q.1.2 == pc)).map (fun q => q.2)
def sl_takeTurns (y : Nat) : Bool := ![1, 2, 4, 5, 8, 9, 10, 13, 22, 24, 30, 31, 32, 33, 37, 54, 64, 65, 67, 68, 76, 79, 93, 95, 97, 101, 103, 104, 107, 108, 111, 128, 139, 141, 142, 145, 149, 152, 157, 158, 161, 162, 163, 164, 168, 169, 170, 173, 174, 175, 176, 177, 178, 179, 180, 181, 182, 188, 192, 193, 195, 196, 199, 200, 201, 203, 205, 206, 208, 211, 213, 214, 215, 216, 217, 219, 220, 225, 226, 233, 238, 244, 246, 247, 250, 252, 264, 267, 268, 273, 283, 286, 296, 302, 303, 305, 316].contains y
set_option maxRecDepth 100000 in
theorem hc_takeTurns : bg_ck (ai_tw jd (fw_un [] 352 [] 0 fw_T) sl_takeTurns aa_takeTurns 3000 1 281 (bg_v 1 [.inr 352, .inl (0, 14)]) (bg_z [.inr 352, .inl (0, 14)])) (bg_void) = true := by decide +kernel
def x_takeTurns : fw_X := fun as W Q => match as with
  | [.inr (.inl s_), .inl n] => fw_if (Nat.beq s_ 352) ((0 ≤ n ∧ n ≤ 14) ∧ ((True) → Q none W))
  | _ => False
theorem x_takeTurns_ok (d : Nat) (as : List fw_V) (W : fw_W) (Q : Option fw_V → fw_W → Prop) (hx : x_takeTurns as W Q) : jc fw_T (d + 1) 281 as W Q := by
  unfold x_takeTurns at hx
  split at hx
  · rename_i s_ n
    obtain ⟨e_, hpre, hQ⟩ := fw_if_ok hx
    have e_ := Nat.eq_of_beq_eq_true e_
    subst e_
    exact jc_up d (bg_u hc_takeTurns (⟨rfl, (by show (0 : Int) ≤ n; omega), (by show n ≤ (14 : Int); omega), trivial⟩) (fun f => by rw [bg_pure]; exact hQ trivial))
  · exact hx.elim

