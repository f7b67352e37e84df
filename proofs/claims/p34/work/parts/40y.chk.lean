/-! public methods by the checker -/
def an_fault : List ((Nat × Nat) × ai_An) := []
def aa_fault (y pc : Nat) : Option ai_An := (an_fault.find? (fun q => q.1.1 == y && q.1.2 == pc)).map (fun q => q.2)
def sl_fault (y : Nat) : Bool := ![1, 2, 4, 5, 8, 9, 10, 13, 22, 24, 30, 31, 32, 33, 37, 54, 64, 65, 67, 68, 76, 79, 93, 95, 97, 101, 103, 104, 107, 108, 111, 128, 139, 141, 142, 145, 149, 152, 157, 158, 161, 162, 163, 164, 168, 169, 170, 173, 174, 175, 176, 177, 178, 179, 180, 181, 182, 188, 192, 193, 195, 196, 199, 200, 201, 203, 205, 206, 208, 211, 213, 214, 215, 216, 217, 219, 220, 225, 226, 233, 238, 244, 246, 247, 250, 252, 264, 267, 268, 273, 283, 286, 296, 302, 303, 305, 316].contains y
set_option maxRecDepth 100000 in
theorem hc_fault : bg_ck (ai_tw jd (fw_un [999] 352 [] 0 fw_T) sl_fault aa_fault 3000 8 211 (bg_v 1 [.inr 352, .inl (-2147483648, 2147483647)]) (bg_z [.inr 352, .inl (-2147483648, 2147483647)])) (bg_int (-2147483648) (2147483647)) = true := by decide +kernel
def x_fault : fw_X := fun as W Q => match as with
  | [.inr (.inl s_), .inl p] => fw_if (Nat.beq s_ 352) ((-2147483648 ≤ p ∧ p ≤ 2147483647) ∧ (∀ (v : Int) (f : fw_W), (-2147483648 ≤ v ∧ v ≤ 2147483647) → Q (some (.inl v)) (fw_put [999] 352 [] W f)))
  | _ => False
theorem x_fault_ok (d : Nat) (as : List fw_V) (W : fw_W) (Q : Option fw_V → fw_W → Prop) (hx : x_fault as W Q) : jc fw_T (d + 8) 211 as W Q := by
  unfold x_fault at hx
  split at hx
  · rename_i s_ p
    obtain ⟨e_, hpre, hQ⟩ := fw_if_ok hx
    have e_ := Nat.eq_of_beq_eq_true e_
    subst e_
    exact jc_up d (bg_i hc_fault rfl (⟨rfl, (by show (-2147483648 : Int) ≤ p; omega), (by show p ≤ (2147483647 : Int); omega), trivial⟩) (fun v f h1 h2 => hQ v f ⟨h1, h2⟩))
  · exact hx.elim

def an_lies : List ((Nat × Nat) × ai_An) := []
def aa_lies (y pc : Nat) : Option ai_An := (an_lies.find? (fun q => q.1.1 == y && q.1.2 == pc)).map (fun q => q.2)
def sl_lies (y : Nat) : Bool := ![1, 2, 4, 5, 8, 9, 10, 13, 22, 24, 30, 31, 32, 33, 37, 54, 64, 65, 67, 68, 76, 79, 93, 95, 97, 101, 103, 104, 107, 108, 111, 128, 139, 141, 142, 145, 149, 152, 157, 158, 161, 162, 163, 164, 168, 169, 170, 173, 174, 175, 176, 177, 178, 179, 180, 181, 182, 188, 192, 193, 195, 196, 199, 200, 201, 203, 205, 206, 208, 211, 213, 214, 215, 216, 217, 219, 220, 225, 226, 233, 238, 244, 246, 247, 250, 252, 264, 267, 268, 273, 283, 286, 296, 302, 303, 305, 316].contains y
set_option maxRecDepth 100000 in
theorem hc_lies : bg_ck (ai_tw jd (fw_un [999] 352 [] 0 fw_T) sl_lies aa_lies 3000 8 220 (bg_v 1 [.inr 352, .inl (-2147483648, 2147483647)]) (bg_z [.inr 352, .inl (-2147483648, 2147483647)])) (bg_int (-2147483648) (2147483647)) = true := by decide +kernel
def x_lies : fw_X := fun as W Q => match as with
  | [.inr (.inl s_), .inl p] => fw_if (Nat.beq s_ 352) ((-2147483648 ≤ p ∧ p ≤ 2147483647) ∧ (∀ (v : Int) (f : fw_W), (-2147483648 ≤ v ∧ v ≤ 2147483647) → Q (some (.inl v)) (fw_put [999] 352 [] W f)))
  | _ => False
theorem x_lies_ok (d : Nat) (as : List fw_V) (W : fw_W) (Q : Option fw_V → fw_W → Prop) (hx : x_lies as W Q) : jc fw_T (d + 8) 220 as W Q := by
  unfold x_lies at hx
  split at hx
  · rename_i s_ p
    obtain ⟨e_, hpre, hQ⟩ := fw_if_ok hx
    have e_ := Nat.eq_of_beq_eq_true e_
    subst e_
    exact jc_up d (bg_i hc_lies rfl (⟨rfl, (by show (-2147483648 : Int) ≤ p; omega), (by show p ≤ (2147483647 : Int); omega), trivial⟩) (fun v f h1 h2 => hQ v f ⟨h1, h2⟩))
  · exact hx.elim

def an_unlike : List ((Nat × Nat) × ai_An) := [((285, 9), ([1], [], [], [(.inl none, .inl (some 1), -1)], .inl none, .inl (some 1))), ((285, 20), ([2, 4], [], [], [(.inl none, .inl (some 4), -1)], .inl none, .inl (some 4))), ((285, 32), ([5, 7], [], [], [(.inl none, .inl (some 7), -1)], .inl none, .inl (some 7))), ((284, 21), ([2, 4], [], [], [(.inl none, .inl (some 4), -1)], .inl none, .inl (some 4)))]
def aa_unlike (y pc : Nat) : Option ai_An := (an_unlike.find? (fun q => q.1.1 == y && q.1.2 == pc)).map (fun q => q.2)
def sl_unlike (y : Nat) : Bool := ![1, 2, 4, 5, 8, 9, 10, 13, 22, 24, 30, 31, 32, 33, 37, 54, 64, 65, 67, 68, 76, 79, 93, 95, 97, 101, 103, 104, 107, 108, 111, 128, 139, 141, 142, 145, 149, 152, 157, 158, 161, 162, 163, 164, 168, 169, 170, 173, 174, 175, 176, 177, 178, 179, 180, 181, 182, 188, 192, 193, 195, 196, 199, 200, 201, 203, 205, 206, 208, 211, 213, 214, 215, 216, 217, 219, 220, 225, 226, 233, 238, 244, 246, 247, 250, 252, 264, 267, 268, 273, 283, 286, 296, 302, 303, 305, 316].contains y
set_option maxRecDepth 100000 in
theorem hc_unlike : bg_ck (ai_tw jd (fw_un [999, 386] 352 [] 0 fw_T) sl_unlike aa_unlike 3000 8 284 (bg_v 1 [.inr 352, .inl (-2147483648, 2147483647)]) (bg_z [.inr 352, .inl (-2147483648, 2147483647)])) (bg_int (-2147483648) (2147483647)) = true := by decide +kernel
def x_unlike : fw_X := fun as W Q => match as with
  | [.inr (.inl s_), .inl p] => fw_if (Nat.beq s_ 352) ((-2147483648 ≤ p ∧ p ≤ 2147483647) ∧ (∀ (v : Int) (f : fw_W), (-2147483648 ≤ v ∧ v ≤ 2147483647) → Q (some (.inl v)) (fw_put [999, 386] 352 [] W f)))
  | _ => False
theorem x_unlike_ok (d : Nat) (as : List fw_V) (W : fw_W) (Q : Option fw_V → fw_W → Prop) (hx : x_unlike as W Q) : jc fw_T (d + 8) 284 as W Q := by
  unfold x_unlike at hx
  split at hx
  · rename_i s_ p
    obtain ⟨e_, hpre, hQ⟩ := fw_if_ok hx
    have e_ := Nat.eq_of_beq_eq_true e_
    subst e_
    exact jc_up d (bg_i hc_unlike rfl (⟨rfl, (by show (-2147483648 : Int) ≤ p; omega), (by show p ≤ (2147483647 : Int); omega), trivial⟩) (fun v f h1 h2 => hQ v f ⟨h1, h2⟩))
  · exact hx.elim

def an_distance : List ((Nat × Nat) × ai_An) := []
def aa_distance (y pc : Nat) : Option ai_An := (an_distance.find? (fun q => q.1.1 == y && q.1.2 == pc)).map (fun q => q.2)
def sl_distance (y : Nat) : Bool := ![1, 2, 4, 5, 8, 9, 10, 13, 22, 24, 30, 31, 32, 33, 37, 54, 64, 65, 67, 68, 76, 79, 93, 95, 97, 101, 103, 104, 107, 108, 111, 128, 139, 141, 142, 145, 149, 152, 157, 158, 161, 162, 163, 164, 168, 169, 170, 173, 174, 175, 176, 177, 178, 179, 180, 181, 182, 188, 192, 193, 195, 196, 199, 200, 201, 203, 205, 206, 208, 211, 213, 214, 215, 216, 217, 219, 220, 225, 226, 233, 238, 244, 246, 247, 250, 252, 264, 267, 268, 273, 283, 286, 296, 302, 303, 305, 316].contains y
set_option maxRecDepth 100000 in
theorem hc_distance : bg_ck (ai_tw jd (fw_un [999, 391, 392, 393, 394, 395] 352 [65] 0 fw_T) sl_distance aa_distance 3000 8 300 (bg_v 1 [.inr 352, .inl (-2147483648, 2147483647), .inl (-2147483648, 2147483647), .inl (-2147483648, 2147483647)]) (bg_z [.inr 352, .inl (-2147483648, 2147483647), .inl (-2147483648, 2147483647), .inl (-2147483648, 2147483647)])) (bg_int (-2147483648) (2147483647)) = true := by decide +kernel
def x_distance : fw_X := fun as W Q => match as with
  | [.inr (.inl s_), .inl p, .inl q, .inl r] => fw_if (Nat.beq s_ 352) ((-2147483648 ≤ p ∧ p ≤ 2147483647 ∧ -2147483648 ≤ q ∧ q ≤ 2147483647 ∧ -2147483648 ≤ r ∧ r ≤ 2147483647) ∧ (∀ (v : Int) (f : fw_W), (-2147483648 ≤ v ∧ v ≤ 2147483647) → Q (some (.inl v)) (fw_put [999, 391, 392, 393, 394, 395] 352 [65] W f)))
  | _ => False
theorem x_distance_ok (d : Nat) (as : List fw_V) (W : fw_W) (Q : Option fw_V → fw_W → Prop) (hx : x_distance as W Q) : jc fw_T (d + 8) 300 as W Q := by
  unfold x_distance at hx
  split at hx
  · rename_i s_ p q r
    obtain ⟨e_, hpre, hQ⟩ := fw_if_ok hx
    have e_ := Nat.eq_of_beq_eq_true e_
    subst e_
    exact jc_up d (bg_i hc_distance rfl (⟨rfl, (by show (-2147483648 : Int) ≤ p; omega), (by show p ≤ (2147483647 : Int); omega), (by show (-2147483648 : Int) ≤ q; omega), (by show q ≤ (2147483647 : Int); omega), (by show (-2147483648 : Int) ≤ r; omega), (by show r ≤ (2147483647 : Int); omega), trivial⟩) (fun v f h1 h2 => hQ v f ⟨h1, h2⟩))
  · exact hx.elim

def an_untell : List ((Nat × Nat) × ai_An) := []
def aa_untell (y pc : Nat) : Option ai_An := (an_untell.find? (fun q => q.1.1 == y && q.1.2 == pc)).map (fun q => q.2)
def sl_untell (y : Nat) : Bool := ![1, 2, 4, 5, 8, 9, 10, 13, 22, 24, 30, 31, 32, 33, 37, 54, 64, 65, 67, 68, 76, 79, 93, 95, 97, 101, 103, 104, 107, 108, 111, 128, 139, 141, 142, 145, 149, 152, 157, 158, 161, 162, 163, 164, 168, 169, 170, 173, 174, 175, 176, 177, 178, 179, 180, 181, 182, 188, 192, 193, 195, 196, 199, 200, 201, 203, 205, 206, 208, 211, 213, 214, 215, 216, 217, 219, 220, 225, 226, 233, 238, 244, 246, 247, 250, 252, 264, 267, 268, 273, 283, 286, 296, 302, 303, 305, 316].contains y
set_option maxRecDepth 100000 in
theorem hc_untell : bg_ck (ai_tw jd (fw_un [999, 395] 352 [] 0 fw_T) sl_untell aa_untell 3000 8 301 (bg_v 1 [.inr 352, .inl (-2147483648, 2147483647)]) (bg_z [.inr 352, .inl (-2147483648, 2147483647)])) (bg_int (0) (1)) = true := by decide +kernel
def x_untell : fw_X := fun as W Q => match as with
  | [.inr (.inl s_), .inl p] => fw_if (Nat.beq s_ 352) ((-2147483648 ≤ p ∧ p ≤ 2147483647) ∧ (∀ (v : Int) (f : fw_W), (0 ≤ v ∧ v ≤ 1) → Q (some (.inl v)) (fw_put [999, 395] 352 [] W f)))
  | _ => False
theorem x_untell_ok (d : Nat) (as : List fw_V) (W : fw_W) (Q : Option fw_V → fw_W → Prop) (hx : x_untell as W Q) : jc fw_T (d + 8) 301 as W Q := by
  unfold x_untell at hx
  split at hx
  · rename_i s_ p
    obtain ⟨e_, hpre, hQ⟩ := fw_if_ok hx
    have e_ := Nat.eq_of_beq_eq_true e_
    subst e_
    exact jc_up d (bg_i hc_untell rfl (⟨rfl, (by show (-2147483648 : Int) ≤ p; omega), (by show p ≤ (2147483647 : Int); omega), trivial⟩) (fun v f h1 h2 => hQ v f ⟨h1, h2⟩))
  · exact hx.elim

def an_feed : List ((Nat × Nat) × ai_An) := [((315, 18), ([6], [], [], [(.inl none, .inl (some 6), 0)], .inl none, .inl (some 6)))]
def aa_feed (y pc : Nat) : Option ai_An := (an_feed.find? (fun q => q.1.1 == y && q.1.2 == pc)).map (fun q => q.2)
def sl_feed (y : Nat) : Bool := ![1, 2, 4, 5, 8, 9, 10, 13, 22, 24, 30, 31, 32, 33, 37, 54, 64, 65, 67, 68, 76, 79, 93, 95, 97, 101, 103, 104, 107, 108, 111, 128, 139, 141, 142, 145, 149, 152, 157, 158, 161, 162, 163, 164, 168, 169, 170, 173, 174, 175, 176, 177, 178, 179, 180, 181, 182, 188, 192, 193, 195, 196, 199, 200, 201, 203, 205, 206, 208, 211, 213, 214, 215, 216, 217, 219, 220, 225, 226, 233, 238, 244, 246, 247, 250, 252, 264, 267, 268, 273, 283, 286, 296, 302, 303, 305, 316].contains y
set_option maxRecDepth 100000 in
theorem hc_feed : bg_ck (ai_tw jd (fw_un [999, 353] 352 [2] 0 fw_T) sl_feed aa_feed 3000 8 315 (bg_v 1 [.inr 352, .inl (-2147483648, 2147483647), .inl (-2147483648, 2147483647), .inl (-2147483648, 2147483647), .inl (-2147483648, 2147483647), .inl (-2147483648, 2147483647)]) (bg_z [.inr 352, .inl (-2147483648, 2147483647), .inl (-2147483648, 2147483647), .inl (-2147483648, 2147483647), .inl (-2147483648, 2147483647), .inl (-2147483648, 2147483647)])) (bg_int (-2147483648) (2147483647)) = true := by decide +kernel
def x_feed : fw_X := fun as W Q => match as with
  | [.inr (.inl s_), .inl p, .inl q, .inl r, .inl s, .inl t] => fw_if (Nat.beq s_ 352) ((-2147483648 ≤ p ∧ p ≤ 2147483647 ∧ -2147483648 ≤ q ∧ q ≤ 2147483647 ∧ -2147483648 ≤ r ∧ r ≤ 2147483647 ∧ -2147483648 ≤ s ∧ s ≤ 2147483647 ∧ -2147483648 ≤ t ∧ t ≤ 2147483647) ∧ (∀ (v : Int) (f : fw_W), (-2147483648 ≤ v ∧ v ≤ 2147483647) → Q (some (.inl v)) (fw_put [999, 353] 352 [2] W f)))
  | _ => False
theorem x_feed_ok (d : Nat) (as : List fw_V) (W : fw_W) (Q : Option fw_V → fw_W → Prop) (hx : x_feed as W Q) : jc fw_T (d + 8) 315 as W Q := by
  unfold x_feed at hx
  split at hx
  · rename_i s_ p q r s t
    obtain ⟨e_, hpre, hQ⟩ := fw_if_ok hx
    have e_ := Nat.eq_of_beq_eq_true e_
    subst e_
    exact jc_up d (bg_i hc_feed rfl (⟨rfl, (by show (-2147483648 : Int) ≤ p; omega), (by show p ≤ (2147483647 : Int); omega), (by show (-2147483648 : Int) ≤ q; omega), (by show q ≤ (2147483647 : Int); omega), (by show (-2147483648 : Int) ≤ r; omega), (by show r ≤ (2147483647 : Int); omega), (by show (-2147483648 : Int) ≤ s; omega), (by show s ≤ (2147483647 : Int); omega), (by show (-2147483648 : Int) ≤ t; omega), (by show t ≤ (2147483647 : Int); omega), trivial⟩) (fun v f h1 h2 => hQ v f ⟨h1, h2⟩))
  · exact hx.elim

def an_end : List ((Nat × Nat) × ai_An) := []
def aa_end (y pc : Nat) : Option ai_An := (an_end.find? (fun q => q.1.1 == y && q.1.2 == pc)).map (fun q => q.2)
def sl_end (y : Nat) : Bool := ![1, 2, 4, 5, 8, 9, 10, 13, 22, 24, 30, 31, 32, 33, 37, 54, 64, 65, 67, 68, 76, 79, 93, 95, 97, 101, 103, 104, 107, 108, 111, 128, 139, 141, 142, 145, 149, 152, 157, 158, 161, 162, 163, 164, 168, 169, 170, 173, 174, 175, 176, 177, 178, 179, 180, 181, 182, 188, 192, 193, 195, 196, 199, 200, 201, 203, 205, 206, 208, 211, 213, 214, 215, 216, 217, 219, 220, 225, 226, 233, 238, 244, 246, 247, 250, 252, 264, 267, 268, 273, 283, 286, 296, 302, 303, 305, 316].contains y
set_option maxRecDepth 100000 in
theorem hc_end : bg_ck (ai_tw jd (fw_un [999] 352 [2] 0 fw_T) sl_end aa_end 3000 8 316 (bg_v 1 [.inr 352, .inl (-2147483648, 2147483647)]) (bg_z [.inr 352, .inl (-2147483648, 2147483647)])) (bg_int (-2147483648) (2147483647)) = true := by decide +kernel
def x_end : fw_X := fun as W Q => match as with
  | [.inr (.inl s_), .inl p] => fw_if (Nat.beq s_ 352) ((-2147483648 ≤ p ∧ p ≤ 2147483647) ∧ (∀ (v : Int) (f : fw_W), (-2147483648 ≤ v ∧ v ≤ 2147483647) → Q (some (.inl v)) (fw_put [999] 352 [2] W f)))
  | _ => False
theorem x_end_ok (d : Nat) (as : List fw_V) (W : fw_W) (Q : Option fw_V → fw_W → Prop) (hx : x_end as W Q) : jc fw_T (d + 8) 316 as W Q := by
  unfold x_end at hx
  split at hx
  · rename_i s_ p
    obtain ⟨e_, hpre, hQ⟩ := fw_if_ok hx
    have e_ := Nat.eq_of_beq_eq_true e_
    subst e_
    exact jc_up d (bg_i hc_end rfl (⟨rfl, (by show (-2147483648 : Int) ≤ p; omega), (by show p ≤ (2147483647 : Int); omega), trivial⟩) (fun v f h1 h2 => hQ v f ⟨h1, h2⟩))
  · exact hx.elim

