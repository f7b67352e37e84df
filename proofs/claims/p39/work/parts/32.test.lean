def tt_al : List ((Nat × Nat) × ai_An) := [((126, 4), ([1, 2], [], [], [(.inl none, .inl (some 2), 0)], .inl none, .inl (some 2))), ((124, 4), ([2, 3], [], [], [(.inl none, .inl (some 2), 0), (.inl none, .inl (some 3), 0)], .inl none, .inl (some 3))), ((125, 7), ([2], [], [], [(.inl none, .inl (some 2), 0)], .inl none, .inl (some 2))), ((127, 8), ([3], [], [], [(.inl none, .inl (some 3), 0)], .inl none, .inl (some 3)))]
def tt_ann (y pc : Nat) : Option ai_An := (tt_al.find? (fun q => q.1.1 == y && q.1.2 == pc)).map (fun q => q.2)
def tt_Z : ai_S := (2, [(1, 0, 2147483647), (0, 1, 2147483648)], [])
def tt_cx : Nat → ai_Cx
  | 0 => fun _ _ _ => none
  | n + 1 => ai_methc ai_T (tt_cx n) tt_ann 400
set_option maxRecDepth 100000 in
theorem tt_1 : (tt_cx 5 146 [.inr (.inl [0]), .inl (1, 0)] tt_Z).isSome = true := by decide +kernel
