/-! public methods that the checker passes as they are (written by wip/p39/emit40.py) -/
def pa_l : List ((Nat × Nat) × ai_An) := [((112, 12), ([2, 3], [], [], [(.inl (some 2), .inl (some 3), 1), (.inl none, .inl (some 3), -1)], .inl none, .inl (some 3))), ((122, 11), ([4, 5], [], [], [(.inl (some 4), .inr (0, 14), 13), (.inr (0, 14), .inl (some 4), 0), (.inl (some 5), .inl none, 14), (.inr (0, 14), .inl (some 5), 0)], .inl none, .inl (some 5))), ((123, 2), ([3], [], [], [(.inr (0, 14), .inl (some 3), 0)], .inl none, .inl (some 3))), ((124, 4), ([2, 3], [], [], [(.inl none, .inl (some 2), 0), (.inl none, .inl (some 3), 0)], .inl none, .inl (some 3))), ((126, 4), ([1, 2], [], [], [(.inl none, .inl (some 2), 0)], .inl none, .inl (some 2))), ((125, 7), ([2], [], [], [(.inl none, .inl (some 2), 0)], .inl none, .inl (some 2))), ((127, 8), ([3], [], [], [(.inl none, .inl (some 3), 0)], .inl none, .inl (some 3))), ((114, 4), ([1, 2], [], [], [(.inl none, .inl (some 2), -1)], .inl none, .inl (some 2))), ((134, 4), ([2, 3], [], [], [(.inl (some 2), .inl none, 16383), (.inl none, .inl (some 2), 0), (.inl none, .inl (some 3), 0)], .inl none, .inl (some 3))), ((115, 5), ([3, 4], [], [], [], .inl none, .inl (some 4))), ((135, 4), ([2, 3], [], [], [(.inl none, .inl (some 2), 0), (.inl none, .inl (some 3), 0)], .inl none, .inl (some 3))), ((135, 25), ([4], [], [], [(.inl none, .inl (some 4), 0)], .inl none, .inl (some 4))), ((133, 18), ([4, 5], [], [], [(.inl (some 4), .inl none, 1), (.inl none, .inl (some 4), 0), (.inl none, .inl (some 5), 0)], .inl none, .inl (some 5))), ((133, 33), ([4, 6], [], [], [(.inl (some 4), .inl none, 1), (.inl none, .inl (some 4), 0), (.inl none, .inl (some 6), 0)], .inl none, .inl (some 6))), ((77, 2), ([1], [], [], [(.inl none, .inl (some 1), 0)], .inl none, .inl (some 1))), ((78, 16), ([2, 3], [], [], [(.inl (some 2), .inl (some 3), 0), (.inr (12, 0), .inl (some 2), 14), (.inl none, .inl (some 3), 0)], .inl none, .inl (some 3))), ((78, 43), ([4], [], [], [(.inl none, .inl (some 4), 0)], .inl none, .inl (some 4))), ((78, 92), ([3], [], [], [(.inl (some 3), .inr (12, 0), -1)], .inl (some 3), .inl none)), ((80, 10), ([3], [], [], [(.inl none, .inl (some 3), 0)], .inl none, .inl (some 3))), ((80, 110), ([4], [], [], [(.inl none, .inl (some 4), 0)], .inl none, .inl (some 4))), ((75, 11), ([3, 4], [], [], [(.inl (some 3), .inl none, 16383), (.inl none, .inl (some 3), 0), (.inl none, .inl (some 4), 0)], .inl none, .inl (some 4))), ((85, 9), ([2, 3, 4], [], [], [(.inr (0, 14), .inl (some 2), 0), (.inl (some 3), .inr (0, 14), 999)], .inl none, .inl (some 4))), ((166, 7), ([2], [(0, 14, 0, 14)], [], [(.inr (0, 14), .inl (some 2), 0)], .inl none, .inl (some 2))), ((86, 13), ([2], [], [], [(.inr (0, 14), .inl (some 2), 0)], .inl none, .inl (some 2))), ((87, 23), ([6], [], [(239, 0), (239, 1)], [(.inr (0, 14), .inl (some 6), 0)], .inl none, .inl (some 6))), ((88, 23), ([5, 6], [], [], [(.inr (0, 14), .inl (some 6), 0)], .inl none, .inl (some 6))), ((41, 9), ([2], [], [], [(.inl none, .inl (some 2), -1)], .inl none, .inl (some 2))), ((41, 25), ([3, 4], [], [], [(.inl none, .inl (some 4), -1)], .inl none, .inl (some 4))), ((42, 4), ([2, 3], [], [], [(.inl none, .inl (some 3), -1)], .inl none, .inl (some 3))), ((40, 9), ([2, 3], [], [], [(.inl none, .inl (some 3), -1)], .inl none, .inl (some 3))), ((118, 4), ([1, 2], [], [], [(.inl none, .inl (some 2), 0)], .inl none, .inl (some 2))), ((285, 9), ([1], [], [], [(.inl none, .inl (some 1), -1)], .inl none, .inl (some 1))), ((285, 20), ([2, 4], [], [], [(.inl none, .inl (some 4), -1)], .inl none, .inl (some 4))), ((285, 32), ([5, 7], [], [], [(.inl none, .inl (some 7), -1)], .inl none, .inl (some 7))), ((284, 21), ([2, 4], [], [], [(.inl none, .inl (some 4), -1)], .inl none, .inl (some 4))), ((315, 18), ([6], [], [], [(.inl none, .inl (some 6), 0)], .inl none, .inl (some 6)))]
def pa_ann (y pc : Nat) : Option ai_An := (pa_l.find? (fun q => q.1.1 == y && q.1.2 == pc)).map (fun q => q.2)
def pa_small : List Nat := [1, 2, 4, 5, 8, 9, 10, 13, 22, 24, 30, 31, 32, 33, 37, 54, 64, 65, 67, 68, 76, 79, 93, 95, 97, 101, 103, 104, 107, 108, 111, 128, 139, 141, 142, 145, 149, 152, 157, 158, 161, 162, 163, 164, 168, 169, 170, 173, 174, 175, 176, 177, 178, 179, 180, 181, 182, 188, 192, 193, 195, 196, 199, 200, 201, 203, 205, 206, 208, 211, 213, 214, 215, 216, 217, 219, 220, 225, 226, 233, 238, 244, 246, 247, 250, 252, 264, 267, 268, 273, 283, 286, 296, 302, 303, 305, 316]
def pa_sel (y : Nat) : Bool := !pa_small.contains y
set_option maxRecDepth 100000 in
theorem pa_x_end : (ai_tw ai_T pa_sel pa_ann 3000 8 139 [.inr (.inl [0]), .inl (1, 0)] (2, [(1, 0, 2147483647), (0, 1, 2147483648)], [])).isSome = true := by decide +kernel
set_option maxRecDepth 100000 in
theorem pa_x_fault : (ai_tw ai_T pa_sel pa_ann 3000 8 142 [.inr (.inl [0]), .inl (1, 0)] (2, [(1, 0, 2147483647), (0, 1, 2147483648)], [])).isSome = true := by decide +kernel
set_option maxRecDepth 100000 in
theorem pa_x_house : (ai_tw ai_T pa_sel pa_ann 3000 8 143 [.inr (.inl [0]), .inl (1, 0), .inl (2, 0)] (3, [(2, 0, 2147483647), (0, 2, 2147483648), (1, 0, 2147483647), (0, 1, 2147483648)], [])).isSome = true := by decide +kernel
set_option maxRecDepth 100000 in
theorem pa_x_way : (ai_tw ai_T pa_sel pa_ann 3000 8 144 [.inr (.inl [0]), .inl (1, 0), .inl (2, 0)] (3, [(2, 0, 2147483647), (0, 2, 2147483648), (1, 0, 2147483647), (0, 1, 2147483648)], [])).isSome = true := by decide +kernel
set_option maxRecDepth 100000 in
theorem pa_x_far : (ai_tw ai_T pa_sel pa_ann 3000 8 145 [.inr (.inl [0]), .inl (1, 0)] (2, [(1, 0, 2147483647), (0, 1, 2147483648)], [])).isSome = true := by decide +kernel
set_option maxRecDepth 100000 in
theorem pa_x_farthest : (ai_tw ai_T pa_sel pa_ann 3000 8 146 [.inr (.inl [0]), .inl (1, 0)] (2, [(1, 0, 2147483647), (0, 1, 2147483648)], [])).isSome = true := by decide +kernel
set_option maxRecDepth 100000 in
theorem pa_x_post : (ai_tw ai_T pa_sel pa_ann 3000 8 148 [.inr (.inl [0]), .inl (1, 0), .inl (2, 0)] (3, [(2, 0, 1), (0, 2, 0), (1, 0, 2147483647), (0, 1, 2147483648)], [])).isSome = true := by decide +kernel
set_option maxRecDepth 100000 in
theorem pa_x_joined : (ai_tw ai_T pa_sel pa_ann 3000 8 150 [.inr (.inl [0]), .inl (1, 0), .inl (2, 0)] (3, [(2, 0, 2147483647), (0, 2, 2147483648), (1, 0, 2147483647), (0, 1, 2147483648)], [])).isSome = true := by decide +kernel
set_option maxRecDepth 100000 in
theorem pa_x_wardens : (ai_tw ai_T pa_sel pa_ann 3000 8 162 [.inr (.inl [0]), .inl (1, 0)] (2, [(1, 0, 2147483647), (0, 1, 2147483648)], [])).isSome = true := by decide +kernel
set_option maxRecDepth 100000 in
theorem pa_x_wells : (ai_tw ai_T pa_sel pa_ann 3000 8 165 [.inr (.inl [0]), .inl (1, 0)] (2, [(1, 0, 2147483647), (0, 1, 2147483648)], [])).isSome = true := by decide +kernel
set_option maxRecDepth 100000 in
theorem pa_x_shops : (ai_tw ai_T pa_sel pa_ann 3000 8 167 [.inr (.inl [0]), .inl (1, 0)] (2, [(1, 0, 2147483647), (0, 1, 2147483648)], [])).isSome = true := by decide +kernel
set_option maxRecDepth 100000 in
theorem pa_x_unlike : (ai_tw ai_T pa_sel pa_ann 3000 8 175 [.inr (.inl [0]), .inl (1, 0)] (2, [(1, 0, 2147483647), (0, 1, 2147483648)], [])).isSome = true := by decide +kernel
set_option maxRecDepth 100000 in
theorem pa_x_lies : (ai_tw ai_T pa_sel pa_ann 3000 8 178 [.inr (.inl [0]), .inl (1, 0)] (2, [(1, 0, 2147483647), (0, 1, 2147483648)], [])).isSome = true := by decide +kernel
set_option maxRecDepth 100000 in
theorem pa_x_distance : (ai_tw ai_T pa_sel pa_ann 3000 8 179 [.inr (.inl [0]), .inl (1, 0), .inl (2, 0), .inl (3, 0)] (4, [(3, 0, 2147483647), (0, 3, 2147483648), (2, 0, 2147483647), (0, 2, 2147483648), (1, 0, 2147483647), (0, 1, 2147483648)], [])).isSome = true := by decide +kernel
set_option maxRecDepth 100000 in
theorem pa_x_untell : (ai_tw ai_T pa_sel pa_ann 3000 8 180 [.inr (.inl [0]), .inl (1, 0)] (2, [(1, 0, 2147483647), (0, 1, 2147483648)], [])).isSome = true := by decide +kernel
set_option maxRecDepth 100000 in
theorem pa_x_about : (ai_tw ai_T pa_sel pa_ann 3000 8 184 [.inr (.inl [0]), .inl (1, 0)] (2, [(1, 0, 2147483647), (0, 1, 2147483648)], [])).isSome = true := by decide +kernel
set_option maxRecDepth 100000 in
theorem pa_m_fault : (ai_tw ai_T pa_sel pa_ann 3000 8 211 [.inr (.inl [352]), .inl (1, 0)] (2, [(1, 0, 2147483647), (0, 1, 2147483648)], [])).isSome = true := by decide +kernel
set_option maxRecDepth 100000 in
theorem pa_m_lies : (ai_tw ai_T pa_sel pa_ann 3000 8 220 [.inr (.inl [352]), .inl (1, 0)] (2, [(1, 0, 2147483647), (0, 1, 2147483648)], [])).isSome = true := by decide +kernel
set_option maxRecDepth 100000 in
theorem pa_m_unlike : (ai_tw ai_T pa_sel pa_ann 3000 8 284 [.inr (.inl [352]), .inl (1, 0)] (2, [(1, 0, 2147483647), (0, 1, 2147483648)], [])).isSome = true := by decide +kernel
set_option maxRecDepth 100000 in
theorem pa_m_distance : (ai_tw ai_T pa_sel pa_ann 3000 8 300 [.inr (.inl [352]), .inl (1, 0), .inl (2, 0), .inl (3, 0)] (4, [(3, 0, 2147483647), (0, 3, 2147483648), (2, 0, 2147483647), (0, 2, 2147483648), (1, 0, 2147483647), (0, 1, 2147483648)], [])).isSome = true := by decide +kernel
set_option maxRecDepth 100000 in
theorem pa_m_untell : (ai_tw ai_T pa_sel pa_ann 3000 8 301 [.inr (.inl [352]), .inl (1, 0)] (2, [(1, 0, 2147483647), (0, 1, 2147483648)], [])).isSome = true := by decide +kernel
set_option maxRecDepth 100000 in
theorem pa_m_feed : (ai_tw ai_T pa_sel pa_ann 3000 8 315 [.inr (.inl [352]), .inl (1, 0), .inl (2, 0), .inl (3, 0), .inl (4, 0), .inl (5, 0)] (6, [(5, 0, 2147483647), (0, 5, 2147483648), (4, 0, 2147483647), (0, 4, 2147483648), (3, 0, 2147483647), (0, 3, 2147483648), (2, 0, 2147483647), (0, 2, 2147483648), (1, 0, 2147483647), (0, 1, 2147483648)], [])).isSome = true := by decide +kernel
set_option maxRecDepth 100000 in
theorem pa_m_end : (ai_tw ai_T pa_sel pa_ann 3000 8 316 [.inr (.inl [352]), .inl (1, 0)] (2, [(1, 0, 2147483647), (0, 1, 2147483648)], [])).isSome = true := by decide +kernel
