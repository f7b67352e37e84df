def tt_ann (y pc : Nat) : Option ai_An := if y = 112 ∧ pc = 12 then some ([2, 3], [], [], [(.inl none, .inl (some 3), 0)], .inl none, .inl (some 3)) else none
def tt_Z : ai_S := (2, [(1, 0, 2147483647), (0, 1, 2147483648)], [])
set_option maxRecDepth 100000 in
theorem tt_1 : (ai_methc ai_T (fun _ _ _ => none) tt_ann 100 10 [.inr (.inl [324]), .inl (1, 0)] tt_Z).isSome = true := by decide +kernel
set_option maxRecDepth 100000 in
theorem tt_2 : (ai_methc ai_T (fun _ _ _ => none) tt_ann 100 111 [.inr (.inl [12]), .inl (1, 0)] tt_Z).isSome = true := by decide +kernel
set_option maxRecDepth 100000 in
theorem tt_3 : (ai_methc ai_T (fun _ _ _ => none) tt_ann 100 112 [.inr (.inl [12]), .inl (1, 0)] tt_Z).isSome = true := by decide +kernel
