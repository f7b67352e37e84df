/-! public methods by the checker -/
def an_k_end : List ((Nat × Nat) × ai_An) := []
def aa_k_end (y pc : Nat) : Option ai_An := (an_k_end.find? (fun q => q.1.1 == y && q.1.2 == pc)).map (fun q => q.2)
def sl_k_end (y : Nat) : Bool := ![1, 2, 4, 5, 8, 9, 10, 13, 22, 24, 30, 31, 32, 33, 37, 54, 64, 65, 67, 68, 76, 79, 93, 95, 97, 101, 103, 104, 107, 108, 111, 128, 139, 141, 142, 145, 149, 152, 157, 158, 161, 162, 163, 164, 168, 169, 170, 173, 174, 175, 176, 177, 178, 179, 180, 181, 182, 188, 192, 193, 195, 196, 199, 200, 201, 203, 205, 206, 208, 211, 213, 214, 215, 216, 217, 219, 220, 225, 226, 233, 238, 244, 246, 247, 250, 252, 264, 267, 268, 273, 283, 286, 296, 302, 303, 305, 316].contains y
set_option maxRecDepth 100000 in
theorem hc_k_end : bg_ck (ai_tw jd (fw_un [999] 0 [1000] 0 fw_T) sl_k_end aa_k_end 3000 8 139 (bg_v 1 [.inr 0, .inl (-2147483648, 2147483647)]) (bg_z [.inr 0, .inl (-2147483648, 2147483647)])) (bg_int (-2147483648) (2147483647)) = true := by decide +kernel
def x_k_end : fw_X := fun as W Q => match as with
  | [.inr (.inl s_), .inl p] => fw_if (Nat.beq s_ 0) ((-2147483648 ≤ p ∧ p ≤ 2147483647) ∧ (∀ (v : Int) (f : fw_W), (-2147483648 ≤ v ∧ v ≤ 2147483647) → Q (some (.inl v)) (fw_put [999] 0 [1000] W f)))
  | _ => False
theorem x_k_end_ok (d : Nat) (as : List fw_V) (W : fw_W) (Q : Option fw_V → fw_W → Prop) (hx : x_k_end as W Q) : jc fw_T (d + 8) 139 as W Q := by
  unfold x_k_end at hx
  split at hx
  · rename_i s_ p
    obtain ⟨e_, hpre, hQ⟩ := fw_if_ok hx
    have e_ := Nat.eq_of_beq_eq_true e_
    subst e_
    exact jc_up d (bg_i hc_k_end rfl (⟨rfl, (by show (-2147483648 : Int) ≤ p; omega), (by show p ≤ (2147483647 : Int); omega), trivial⟩) (fun v f h1 h2 => hQ v f ⟨h1, h2⟩))
  · exact hx.elim

def an_k_fault : List ((Nat × Nat) × ai_An) := []
def aa_k_fault (y pc : Nat) : Option ai_An := (an_k_fault.find? (fun q => q.1.1 == y && q.1.2 == pc)).map (fun q => q.2)
def sl_k_fault (y : Nat) : Bool := ![1, 2, 4, 5, 8, 9, 10, 13, 22, 24, 30, 31, 32, 33, 37, 54, 64, 65, 67, 68, 76, 79, 93, 95, 97, 101, 103, 104, 107, 108, 111, 128, 139, 141, 142, 145, 149, 152, 157, 158, 161, 162, 163, 164, 168, 169, 170, 173, 174, 175, 176, 177, 178, 179, 180, 181, 182, 188, 192, 193, 195, 196, 199, 200, 201, 203, 205, 206, 208, 211, 213, 214, 215, 216, 217, 219, 220, 225, 226, 233, 238, 244, 246, 247, 250, 252, 264, 267, 268, 273, 283, 286, 296, 302, 303, 305, 316].contains y
set_option maxRecDepth 100000 in
theorem hc_k_fault : bg_ck (ai_tw jd (fw_un [999] 0 [] 0 fw_T) sl_k_fault aa_k_fault 3000 8 142 (bg_v 1 [.inr 0, .inl (-2147483648, 2147483647)]) (bg_z [.inr 0, .inl (-2147483648, 2147483647)])) (bg_int (-2147483648) (2147483647)) = true := by decide +kernel
def x_k_fault : fw_X := fun as W Q => match as with
  | [.inr (.inl s_), .inl p] => fw_if (Nat.beq s_ 0) ((-2147483648 ≤ p ∧ p ≤ 2147483647) ∧ (∀ (v : Int) (f : fw_W), (-2147483648 ≤ v ∧ v ≤ 2147483647) → Q (some (.inl v)) (fw_put [999] 0 [] W f)))
  | _ => False
theorem x_k_fault_ok (d : Nat) (as : List fw_V) (W : fw_W) (Q : Option fw_V → fw_W → Prop) (hx : x_k_fault as W Q) : jc fw_T (d + 8) 142 as W Q := by
  unfold x_k_fault at hx
  split at hx
  · rename_i s_ p
    obtain ⟨e_, hpre, hQ⟩ := fw_if_ok hx
    have e_ := Nat.eq_of_beq_eq_true e_
    subst e_
    exact jc_up d (bg_i hc_k_fault rfl (⟨rfl, (by show (-2147483648 : Int) ≤ p; omega), (by show p ≤ (2147483647 : Int); omega), trivial⟩) (fun v f h1 h2 => hQ v f ⟨h1, h2⟩))
  · exact hx.elim

def an_k_house : List ((Nat × Nat) × ai_An) := [((112, 12), ([2, 3], [], [], [(.inl (some 2), .inl (some 3), 0), (.inl none, .inl (some 3), -1)], .inl none, .inl (some 3)))]
def aa_k_house (y pc : Nat) : Option ai_An := (an_k_house.find? (fun q => q.1.1 == y && q.1.2 == pc)).map (fun q => q.2)
def sl_k_house (y : Nat) : Bool := ![1, 2, 4, 5, 8, 9, 10, 13, 22, 24, 30, 31, 32, 33, 37, 54, 64, 65, 67, 68, 76, 79, 93, 95, 97, 101, 103, 104, 107, 108, 111, 128, 139, 141, 142, 145, 149, 152, 157, 158, 161, 162, 163, 164, 168, 169, 170, 173, 174, 175, 176, 177, 178, 179, 180, 181, 182, 188, 192, 193, 195, 196, 199, 200, 201, 203, 205, 206, 208, 211, 213, 214, 215, 216, 217, 219, 220, 225, 226, 233, 238, 244, 246, 247, 250, 252, 264, 267, 268, 273, 283, 286, 296, 302, 303, 305, 316].contains y
set_option maxRecDepth 100000 in
theorem hc_k_house : bg_ck (ai_tw jd (fw_un [999] 0 [] 0 fw_T) sl_k_house aa_k_house 3000 8 143 (bg_v 1 [.inr 0, .inl (-2147483648, 2147483647), .inl (-2147483648, 2147483647)]) (bg_z [.inr 0, .inl (-2147483648, 2147483647), .inl (-2147483648, 2147483647)])) (bg_int (-2147483648) (2147483647)) = true := by decide +kernel
def x_k_house : fw_X := fun as W Q => match as with
  | [.inr (.inl s_), .inl p, .inl q] => fw_if (Nat.beq s_ 0) ((-2147483648 ≤ p ∧ p ≤ 2147483647 ∧ -2147483648 ≤ q ∧ q ≤ 2147483647) ∧ (∀ (v : Int) (f : fw_W), (-2147483648 ≤ v ∧ v ≤ 2147483647) → Q (some (.inl v)) (fw_put [999] 0 [] W f)))
  | _ => False
theorem x_k_house_ok (d : Nat) (as : List fw_V) (W : fw_W) (Q : Option fw_V → fw_W → Prop) (hx : x_k_house as W Q) : jc fw_T (d + 8) 143 as W Q := by
  unfold x_k_house at hx
  split at hx
  · rename_i s_ p q
    obtain ⟨e_, hpre, hQ⟩ := fw_if_ok hx
    have e_ := Nat.eq_of_beq_eq_true e_
    subst e_
    exact jc_up d (bg_i hc_k_house rfl (⟨rfl, (by show (-2147483648 : Int) ≤ p; omega), (by show p ≤ (2147483647 : Int); omega), (by show (-2147483648 : Int) ≤ q; omega), (by show q ≤ (2147483647 : Int); omega), trivial⟩) (fun v f h1 h2 => hQ v f ⟨h1, h2⟩))
  · exact hx.elim

def an_k_way : List ((Nat × Nat) × ai_An) := [((122, 11), ([4, 5], [], [], [(.inl (some 4), .inr (0, 14), 13), (.inr (0, 14), .inl (some 4), 0), (.inl (some 5), .inl none, 14), (.inr (0, 14), .inl (some 5), 0)], .inl none, .inl (some 5))), ((123, 2), ([3], [], [], [(.inr (0, 14), .inl (some 3), 0)], .inl none, .inl (some 3)))]
def aa_k_way (y pc : Nat) : Option ai_An := (an_k_way.find? (fun q => q.1.1 == y && q.1.2 == pc)).map (fun q => q.2)
def sl_k_way (y : Nat) : Bool := ![1, 2, 4, 5, 8, 9, 10, 13, 22, 24, 30, 31, 32, 33, 37, 54, 64, 65, 67, 68, 76, 79, 93, 95, 97, 101, 103, 104, 107, 108, 111, 128, 139, 141, 142, 145, 149, 152, 157, 158, 161, 162, 163, 164, 168, 169, 170, 173, 174, 175, 176, 177, 178, 179, 180, 181, 182, 188, 192, 193, 195, 196, 199, 200, 201, 203, 205, 206, 208, 211, 213, 214, 215, 216, 217, 219, 220, 225, 226, 233, 238, 244, 246, 247, 250, 252, 264, 267, 268, 273, 283, 286, 296, 302, 303, 305, 316].contains y
set_option maxRecDepth 100000 in
theorem hc_k_way : bg_ck (ai_tw jd (fw_un [999, 339] 0 [14] 0 fw_T) sl_k_way aa_k_way 3000 8 144 (bg_v 1 [.inr 0, .inl (-2147483648, 2147483647), .inl (-2147483648, 2147483647)]) (bg_z [.inr 0, .inl (-2147483648, 2147483647), .inl (-2147483648, 2147483647)])) (bg_int (-2147483648) (2147483647)) = true := by decide +kernel
def x_k_way : fw_X := fun as W Q => match as with
  | [.inr (.inl s_), .inl p, .inl q] => fw_if (Nat.beq s_ 0) ((-2147483648 ≤ p ∧ p ≤ 2147483647 ∧ -2147483648 ≤ q ∧ q ≤ 2147483647) ∧ (∀ (v : Int) (f : fw_W), (-2147483648 ≤ v ∧ v ≤ 2147483647) → Q (some (.inl v)) (fw_put [999, 339] 0 [14] W f)))
  | _ => False
theorem x_k_way_ok (d : Nat) (as : List fw_V) (W : fw_W) (Q : Option fw_V → fw_W → Prop) (hx : x_k_way as W Q) : jc fw_T (d + 8) 144 as W Q := by
  unfold x_k_way at hx
  split at hx
  · rename_i s_ p q
    obtain ⟨e_, hpre, hQ⟩ := fw_if_ok hx
    have e_ := Nat.eq_of_beq_eq_true e_
    subst e_
    exact jc_up d (bg_i hc_k_way rfl (⟨rfl, (by show (-2147483648 : Int) ≤ p; omega), (by show p ≤ (2147483647 : Int); omega), (by show (-2147483648 : Int) ≤ q; omega), (by show q ≤ (2147483647 : Int); omega), trivial⟩) (fun v f h1 h2 => hQ v f ⟨h1, h2⟩))
  · exact hx.elim

def an_k_far : List ((Nat × Nat) × ai_An) := [((124, 4), ([2, 3], [], [], [(.inl none, .inl (some 2), 0), (.inl none, .inl (some 3), 0)], .inl none, .inl (some 3)))]
def aa_k_far (y pc : Nat) : Option ai_An := (an_k_far.find? (fun q => q.1.1 == y && q.1.2 == pc)).map (fun q => q.2)
def sl_k_far (y : Nat) : Bool := ![1, 2, 4, 5, 8, 9, 10, 13, 22, 24, 30, 31, 32, 33, 37, 54, 64, 65, 67, 68, 76, 79, 93, 95, 97, 101, 103, 104, 107, 108, 111, 128, 139, 141, 142, 145, 149, 152, 157, 158, 161, 162, 163, 164, 168, 169, 170, 173, 174, 175, 176, 177, 178, 179, 180, 181, 182, 188, 192, 193, 195, 196, 199, 200, 201, 203, 205, 206, 208, 211, 213, 214, 215, 216, 217, 219, 220, 225, 226, 233, 238, 244, 246, 247, 250, 252, 264, 267, 268, 273, 283, 286, 296, 302, 303, 305, 316].contains y
set_option maxRecDepth 100000 in
theorem hc_k_far : bg_ck (ai_tw jd (fw_un [999] 0 [] 0 fw_T) sl_k_far aa_k_far 3000 8 145 (bg_v 1 [.inr 0, .inl (-2147483648, 2147483647)]) (bg_z [.inr 0, .inl (-2147483648, 2147483647)])) (bg_int (-2147483648) (2147483647)) = true := by decide +kernel
def x_k_far : fw_X := fun as W Q => match as with
  | [.inr (.inl s_), .inl p] => fw_if (Nat.beq s_ 0) ((-2147483648 ≤ p ∧ p ≤ 2147483647) ∧ (∀ (v : Int) (f : fw_W), (-2147483648 ≤ v ∧ v ≤ 2147483647) → Q (some (.inl v)) (fw_put [999] 0 [] W f)))
  | _ => False
theorem x_k_far_ok (d : Nat) (as : List fw_V) (W : fw_W) (Q : Option fw_V → fw_W → Prop) (hx : x_k_far as W Q) : jc fw_T (d + 8) 145 as W Q := by
  unfold x_k_far at hx
  split at hx
  · rename_i s_ p
    obtain ⟨e_, hpre, hQ⟩ := fw_if_ok hx
    have e_ := Nat.eq_of_beq_eq_true e_
    subst e_
    exact jc_up d (bg_i hc_k_far rfl (⟨rfl, (by show (-2147483648 : Int) ≤ p; omega), (by show p ≤ (2147483647 : Int); omega), trivial⟩) (fun v f h1 h2 => hQ v f ⟨h1, h2⟩))
  · exact hx.elim

def an_k_farthest : List ((Nat × Nat) × ai_An) := [((126, 4), ([1, 2], [], [], [(.inl none, .inl (some 2), 0)], .inl none, .inl (some 2))), ((124, 4), ([2, 3], [], [], [(.inl none, .inl (some 2), 0), (.inl none, .inl (some 3), 0)], .inl none, .inl (some 3))), ((125, 7), ([2], [], [], [(.inl none, .inl (some 2), 0)], .inl none, .inl (some 2))), ((127, 8), ([3], [], [], [(.inl none, .inl (some 3), 0)], .inl none, .inl (some 3)))]
def aa_k_farthest (y pc : Nat) : Option ai_An := (an_k_farthest.find? (fun q => q.1.1 == y && q.1.2 == pc)).map (fun q => q.2)
def sl_k_farthest (y : Nat) : Bool := ![1, 2, 4, 5, 8, 9, 10, 13, 22, 24, 30, 31, 32, 33, 37, 54, 64, 65, 67, 68, 76, 79, 93, 95, 97, 101, 103, 104, 107, 108, 111, 128, 139, 141, 142, 145, 149, 152, 157, 158, 161, 162, 163, 164, 168, 169, 170, 173, 174, 175, 176, 177, 178, 179, 180, 181, 182, 188, 192, 193, 195, 196, 199, 200, 201, 203, 205, 206, 208, 211, 213, 214, 215, 216, 217, 219, 220, 225, 226, 233, 238, 244, 246, 247, 250, 252, 264, 267, 268, 273, 283, 286, 296, 302, 303, 305, 316].contains y
set_option maxRecDepth 100000 in
theorem hc_k_farthest : bg_ck (ai_tw jd (fw_un [999] 0 [] 0 fw_T) sl_k_farthest aa_k_farthest 3000 8 146 (bg_v 1 [.inr 0, .inl (-2147483648, 2147483647)]) (bg_z [.inr 0, .inl (-2147483648, 2147483647)])) (bg_int (-2147483648) (2147483647)) = true := by decide +kernel
def x_k_farthest : fw_X := fun as W Q => match as with
  | [.inr (.inl s_), .inl p] => fw_if (Nat.beq s_ 0) ((-2147483648 ≤ p ∧ p ≤ 2147483647) ∧ (∀ (v : Int) (f : fw_W), (-2147483648 ≤ v ∧ v ≤ 2147483647) → Q (some (.inl v)) (fw_put [999] 0 [] W f)))
  | _ => False
theorem x_k_farthest_ok (d : Nat) (as : List fw_V) (W : fw_W) (Q : Option fw_V → fw_W → Prop) (hx : x_k_farthest as W Q) : jc fw_T (d + 8) 146 as W Q := by
  unfold x_k_farthest at hx
  split at hx
  · rename_i s_ p
    obtain ⟨e_, hpre, hQ⟩ := fw_if_ok hx
    have e_ := Nat.eq_of_beq_eq_true e_
    subst e_
    exact jc_up d (bg_i hc_k_farthest rfl (⟨rfl, (by show (-2147483648 : Int) ≤ p; omega), (by show p ≤ (2147483647 : Int); omega), trivial⟩) (fun v f h1 h2 => hQ v f ⟨h1, h2⟩))
  · exact hx.elim

def an_k_post : List ((Nat × Nat) × ai_An) := [((114, 4), ([1, 2], [], [], [(.inl none, .inl (some 2), -1)], .inl none, .inl (some 2))), ((124, 4), ([2, 3], [], [], [(.inl none, .inl (some 2), 0), (.inl none, .inl (some 3), 0)], .inl none, .inl (some 3)))]
def aa_k_post (y pc : Nat) : Option ai_An := (an_k_post.find? (fun q => q.1.1 == y && q.1.2 == pc)).map (fun q => q.2)
def sl_k_post (y : Nat) : Bool := ![1, 2, 4, 5, 8, 9, 10, 13, 22, 24, 30, 31, 32, 33, 37, 54, 64, 65, 67, 68, 76, 79, 93, 95, 97, 101, 103, 104, 107, 108, 111, 128, 139, 141, 142, 145, 149, 152, 157, 158, 161, 162, 163, 164, 168, 169, 170, 173, 174, 175, 176, 177, 178, 179, 180, 181, 182, 188, 192, 193, 195, 196, 199, 200, 201, 203, 205, 206, 208, 211, 213, 214, 215, 216, 217, 219, 220, 225, 226, 233, 238, 244, 246, 247, 250, 252, 264, 267, 268, 273, 283, 286, 296, 302, 303, 305, 316].contains y
set_option maxRecDepth 100000 in
theorem hc_k_post : bg_ck (ai_tw jd (fw_un [999] 0 [] 0 fw_T) sl_k_post aa_k_post 3000 8 148 (bg_v 1 [.inr 0, .inl (-2147483648, 2147483647), .inl (0, 1)]) (bg_z [.inr 0, .inl (-2147483648, 2147483647), .inl (0, 1)])) (bg_int (-2147483648) (2147483647)) = true := by decide +kernel
def x_k_post : fw_X := fun as W Q => match as with
  | [.inr (.inl s_), .inl p, .inl q] => fw_if (Nat.beq s_ 0) ((-2147483648 ≤ p ∧ p ≤ 2147483647 ∧ 0 ≤ q ∧ q ≤ 1) ∧ (∀ (v : Int) (f : fw_W), (-2147483648 ≤ v ∧ v ≤ 2147483647) → Q (some (.inl v)) (fw_put [999] 0 [] W f)))
  | _ => False
theorem x_k_post_ok (d : Nat) (as : List fw_V) (W : fw_W) (Q : Option fw_V → fw_W → Prop) (hx : x_k_post as W Q) : jc fw_T (d + 8) 148 as W Q := by
  unfold x_k_post at hx
  split at hx
  · rename_i s_ p q
    obtain ⟨e_, hpre, hQ⟩ := fw_if_ok hx
    have e_ := Nat.eq_of_beq_eq_true e_
    subst e_
    exact jc_up d (bg_i hc_k_post rfl (⟨rfl, (by show (-2147483648 : Int) ≤ p; omega), (by show p ≤ (2147483647 : Int); omega), (by show (0 : Int) ≤ q; omega), (by show q ≤ (1 : Int); omega), trivial⟩) (fun v f h1 h2 => hQ v f ⟨h1, h2⟩))
  · exact hx.elim

def an_k_unlike : List ((Nat × Nat) × ai_An) := [((41, 9), ([2], [], [], [(.inl none, .inl (some 2), -1)], .inl none, .inl (some 2))), ((41, 25), ([3, 4], [], [], [(.inl none, .inl (some 4), -1)], .inl none, .inl (some 4))), ((42, 4), ([2, 3], [], [], [(.inl none, .inl (some 3), -1)], .inl none, .inl (some 3))), ((40, 9), ([2, 3], [], [], [(.inl none, .inl (some 3), -1)], .inl none, .inl (some 3)))]
def aa_k_unlike (y pc : Nat) : Option ai_An := (an_k_unlike.find? (fun q => q.1.1 == y && q.1.2 == pc)).map (fun q => q.2)
def sl_k_unlike (y : Nat) : Bool := ![1, 2, 4, 5, 8, 9, 10, 13, 22, 24, 30, 31, 32, 33, 37, 54, 64, 65, 67, 68, 76, 79, 93, 95, 97, 101, 103, 104, 107, 108, 111, 128, 139, 141, 142, 145, 149, 152, 157, 158, 161, 162, 163, 164, 168, 169, 170, 173, 174, 175, 176, 177, 178, 179, 180, 181, 182, 188, 192, 193, 195, 196, 199, 200, 201, 203, 205, 206, 208, 211, 213, 214, 215, 216, 217, 219, 220, 225, 226, 233, 238, 244, 246, 247, 250, 252, 264, 267, 268, 273, 283, 286, 296, 302, 303, 305, 316].contains y
set_option maxRecDepth 100000 in
theorem hc_k_unlike : bg_ck (ai_tw jd (fw_un [999, 267] 0 [] 0 fw_T) sl_k_unlike aa_k_unlike 3000 8 175 (bg_v 1 [.inr 0, .inl (-2147483648, 2147483647)]) (bg_z [.inr 0, .inl (-2147483648, 2147483647)])) (bg_int (-2147483648) (2147483647)) = true := by decide +kernel
def x_k_unlike : fw_X := fun as W Q => match as with
  | [.inr (.inl s_), .inl p] => fw_if (Nat.beq s_ 0) ((-2147483648 ≤ p ∧ p ≤ 2147483647) ∧ (∀ (v : Int) (f : fw_W), (-2147483648 ≤ v ∧ v ≤ 2147483647) → Q (some (.inl v)) (fw_put [999, 267] 0 [] W f)))
  | _ => False
theorem x_k_unlike_ok (d : Nat) (as : List fw_V) (W : fw_W) (Q : Option fw_V → fw_W → Prop) (hx : x_k_unlike as W Q) : jc fw_T (d + 8) 175 as W Q := by
  unfold x_k_unlike at hx
  split at hx
  · rename_i s_ p
    obtain ⟨e_, hpre, hQ⟩ := fw_if_ok hx
    have e_ := Nat.eq_of_beq_eq_true e_
    subst e_
    exact jc_up d (bg_i hc_k_unlike rfl (⟨rfl, (by show (-2147483648 : Int) ≤ p; omega), (by show p ≤ (2147483647 : Int); omega), trivial⟩) (fun v f h1 h2 => hQ v f ⟨h1, h2⟩))
  · exact hx.elim

def an_k_lies : List ((Nat × Nat) × ai_An) := []
def aa_k_lies (y pc : Nat) : Option ai_An := (an_k_lies.find? (fun q => q.1.1 == y && q.1.2 == pc)).map (fun q => q.2)
def sl_k_lies (y : Nat) : Bool := ![1, 2, 4, 5, 8, 9, 10, 13, 22, 24, 30, 31, 32, 33, 37, 54, 64, 65, 67, 68, 76, 79, 93, 95, 97, 101, 103, 104, 107, 108, 111, 128, 139, 141, 142, 145, 149, 152, 157, 158, 161, 162, 163, 164, 168, 169, 170, 173, 174, 175, 176, 177, 178, 179, 180, 181, 182, 188, 192, 193, 195, 196, 199, 200, 201, 203, 205, 206, 208, 211, 213, 214, 215, 216, 217, 219, 220, 225, 226, 233, 238, 244, 246, 247, 250, 252, 264, 267, 268, 273, 283, 286, 296, 302, 303, 305, 316].contains y
set_option maxRecDepth 100000 in
theorem hc_k_lies : bg_ck (ai_tw jd (fw_un [999] 0 [] 0 fw_T) sl_k_lies aa_k_lies 3000 8 178 (bg_v 1 [.inr 0, .inl (-2147483648, 2147483647)]) (bg_z [.inr 0, .inl (-2147483648, 2147483647)])) (bg_int (-2147483648) (2147483647)) = true := by decide +kernel
def x_k_lies : fw_X := fun as W Q => match as with
  | [.inr (.inl s_), .inl p] => fw_if (Nat.beq s_ 0) ((-2147483648 ≤ p ∧ p ≤ 2147483647) ∧ (∀ (v : Int) (f : fw_W), (-2147483648 ≤ v ∧ v ≤ 2147483647) → Q (some (.inl v)) (fw_put [999] 0 [] W f)))
  | _ => False
theorem x_k_lies_ok (d : Nat) (as : List fw_V) (W : fw_W) (Q : Option fw_V → fw_W → Prop) (hx : x_k_lies as W Q) : jc fw_T (d + 8) 178 as W Q := by
  unfold x_k_lies at hx
  split at hx
  · rename_i s_ p
    obtain ⟨e_, hpre, hQ⟩ := fw_if_ok hx
    have e_ := Nat.eq_of_beq_eq_true e_
    subst e_
    exact jc_up d (bg_i hc_k_lies rfl (⟨rfl, (by show (-2147483648 : Int) ≤ p; omega), (by show p ≤ (2147483647 : Int); omega), trivial⟩) (fun v f h1 h2 => hQ v f ⟨h1, h2⟩))
  · exact hx.elim

def an_k_distance : List ((Nat × Nat) × ai_An) := []
def aa_k_distance (y pc : Nat) : Option ai_An := (an_k_distance.find? (fun q => q.1.1 == y && q.1.2 == pc)).map (fun q => q.2)
def sl_k_distance (y : Nat) : Bool := ![1, 2, 4, 5, 8, 9, 10, 13, 22, 24, 30, 31, 32, 33, 37, 54, 64, 65, 67, 68, 76, 79, 93, 95, 97, 101, 103, 104, 107, 108, 111, 128, 139, 141, 142, 145, 149, 152, 157, 158, 161, 162, 163, 164, 168, 169, 170, 173, 174, 175, 176, 177, 178, 179, 180, 181, 182, 188, 192, 193, 195, 196, 199, 200, 201, 203, 205, 206, 208, 211, 213, 214, 215, 216, 217, 219, 220, 225, 226, 233, 238, 244, 246, 247, 250, 252, 264, 267, 268, 273, 283, 286, 296, 302, 303, 305, 316].contains y
set_option maxRecDepth 100000 in
theorem hc_k_distance : bg_ck (ai_tw jd (fw_un [999, 325, 326, 327, 328, 329] 0 [324000] 0 fw_T) sl_k_distance aa_k_distance 3000 8 179 (bg_v 1 [.inr 0, .inl (-2147483648, 2147483647), .inl (-2147483648, 2147483647), .inl (-2147483648, 2147483647)]) (bg_z [.inr 0, .inl (-2147483648, 2147483647), .inl (-2147483648, 2147483647), .inl (-2147483648, 2147483647)])) (bg_int (-2147483648) (2147483647)) = true := by decide +kernel
def x_k_distance : fw_X := fun as W Q => match as with
  | [.inr (.inl s_), .inl p, .inl q, .inl r] => fw_if (Nat.beq s_ 0) ((-2147483648 ≤ p ∧ p ≤ 2147483647 ∧ -2147483648 ≤ q ∧ q ≤ 2147483647 ∧ -2147483648 ≤ r ∧ r ≤ 2147483647) ∧ (∀ (v : Int) (f : fw_W), (-2147483648 ≤ v ∧ v ≤ 2147483647) → Q (some (.inl v)) (fw_put [999, 325, 326, 327, 328, 329] 0 [324000] W f)))
  | _ => False
theorem x_k_distance_ok (d : Nat) (as : List fw_V) (W : fw_W) (Q : Option fw_V → fw_W → Prop) (hx : x_k_distance as W Q) : jc fw_T (d + 8) 179 as W Q := by
  unfold x_k_distance at hx
  split at hx
  · rename_i s_ p q r
    obtain ⟨e_, hpre, hQ⟩ := fw_if_ok hx
    have e_ := Nat.eq_of_beq_eq_true e_
    subst e_
    exact jc_up d (bg_i hc_k_distance rfl (⟨rfl, (by show (-2147483648 : Int) ≤ p; omega), (by show p ≤ (2147483647 : Int); omega), (by show (-2147483648 : Int) ≤ q; omega), (by show q ≤ (2147483647 : Int); omega), (by show (-2147483648 : Int) ≤ r; omega), (by show r ≤ (2147483647 : Int); omega), trivial⟩) (fun v f h1 h2 => hQ v f ⟨h1, h2⟩))
  · exact hx.elim

def an_k_untell : List ((Nat × Nat) × ai_An) := []
def aa_k_untell (y pc : Nat) : Option ai_An := (an_k_untell.find? (fun q => q.1.1 == y && q.1.2 == pc)).map (fun q => q.2)
def sl_k_untell (y : Nat) : Bool := ![1, 2, 4, 5, 8, 9, 10, 13, 22, 24, 30, 31, 32, 33, 37, 54, 64, 65, 67, 68, 76, 79, 93, 95, 97, 101, 103, 104, 107, 108, 111, 128, 139, 141, 142, 145, 149, 152, 157, 158, 161, 162, 163, 164, 168, 169, 170, 173, 174, 175, 176, 177, 178, 179, 180, 181, 182, 188, 192, 193, 195, 196, 199, 200, 201, 203, 205, 206, 208, 211, 213, 214, 215, 216, 217, 219, 220, 225, 226, 233, 238, 244, 246, 247, 250, 252, 264, 267, 268, 273, 283, 286, 296, 302, 303, 305, 316].contains y
set_option maxRecDepth 100000 in
theorem hc_k_untell : bg_ck (ai_tw jd (fw_un [999, 329] 0 [] 0 fw_T) sl_k_untell aa_k_untell 3000 8 180 (bg_v 1 [.inr 0, .inl (-2147483648, 2147483647)]) (bg_z [.inr 0, .inl (-2147483648, 2147483647)])) (bg_int (0) (1)) = true := by decide +kernel
def x_k_untell : fw_X := fun as W Q => match as with
  | [.inr (.inl s_), .inl p] => fw_if (Nat.beq s_ 0) ((-2147483648 ≤ p ∧ p ≤ 2147483647) ∧ (∀ (v : Int) (f : fw_W), (0 ≤ v ∧ v ≤ 1) → Q (some (.inl v)) (fw_put [999, 329] 0 [] W f)))
  | _ => False
theorem x_k_untell_ok (d : Nat) (as : List fw_V) (W : fw_W) (Q : Option fw_V → fw_W → Prop) (hx : x_k_untell as W Q) : jc fw_T (d + 8) 180 as W Q := by
  unfold x_k_untell at hx
  split at hx
  · rename_i s_ p
    obtain ⟨e_, hpre, hQ⟩ := fw_if_ok hx
    have e_ := Nat.eq_of_beq_eq_true e_
    subst e_
    exact jc_up d (bg_i hc_k_untell rfl (⟨rfl, (by show (-2147483648 : Int) ≤ p; omega), (by show p ≤ (2147483647 : Int); omega), trivial⟩) (fun v f h1 h2 => hQ v f ⟨h1, h2⟩))
  · exact hx.elim

def an_k_about : List ((Nat × Nat) × ai_An) := [((114, 4), ([1, 2], [], [], [(.inl none, .inl (some 2), -1)], .inl none, .inl (some 2))), ((118, 4), ([1, 2], [], [], [(.inl none, .inl (some 2), 0)], .inl none, .inl (some 2)))]
def aa_k_about (y pc : Nat) : Option ai_An := (an_k_about.find? (fun q => q.1.1 == y && q.1.2 == pc)).map (fun q => q.2)
def sl_k_about (y : Nat) : Bool := ![1, 2, 4, 5, 8, 9, 10, 13, 22, 24, 30, 31, 32, 33, 37, 54, 64, 65, 67, 68, 76, 79, 93, 95, 97, 101, 103, 104, 107, 108, 111, 128, 139, 141, 142, 145, 149, 152, 157, 158, 161, 162, 163, 164, 168, 169, 170, 173, 174, 175, 176, 177, 178, 179, 180, 181, 182, 188, 192, 193, 195, 196, 199, 200, 201, 203, 205, 206, 208, 211, 213, 214, 215, 216, 217, 219, 220, 225, 226, 233, 238, 244, 246, 247, 250, 252, 264, 267, 268, 273, 283, 286, 296, 302, 303, 305, 316].contains y
set_option maxRecDepth 100000 in
theorem hc_k_about : bg_ck (ai_tw jd (fw_un [999] 0 [] 0 fw_T) sl_k_about aa_k_about 3000 8 184 (bg_v 1 [.inr 0, .inl (-2147483648, 2147483647)]) (bg_z [.inr 0, .inl (-2147483648, 2147483647)])) (bg_int (-2147483648) (2147483647)) = true := by decide +kernel
def x_k_about : fw_X := fun as W Q => match as with
  | [.inr (.inl s_), .inl p] => fw_if (Nat.beq s_ 0) ((-2147483648 ≤ p ∧ p ≤ 2147483647) ∧ (∀ (v : Int) (f : fw_W), (-2147483648 ≤ v ∧ v ≤ 2147483647) → Q (some (.inl v)) (fw_put [999] 0 [] W f)))
  | _ => False
theorem x_k_about_ok (d : Nat) (as : List fw_V) (W : fw_W) (Q : Option fw_V → fw_W → Prop) (hx : x_k_about as W Q) : jc fw_T (d + 8) 184 as W Q := by
  unfold x_k_about at hx
  split at hx
  · rename_i s_ p
    obtain ⟨e_, hpre, hQ⟩ := fw_if_ok hx
    have e_ := Nat.eq_of_beq_eq_true e_
    subst e_
    exact jc_up d (bg_i hc_k_about rfl (⟨rfl, (by show (-2147483648 : Int) ≤ p; omega), (by show p ≤ (2147483647 : Int); omega), trivial⟩) (fun v f h1 h2 => hQ v f ⟨h1, h2⟩))
  · exact hx.elim

