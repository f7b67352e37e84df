/-! all trees of six houses, by the kernel -/
def qah (n a : Nat) : Bool := (qls n (n - 2)).all (fun l => !(qtr n (a :: l)) || qok n (a :: l))
set_option maxRecDepth 100000 in
theorem qah_0 : qah 6 0 = true := by decide +kernel
set_option maxRecDepth 100000 in
theorem qah_1 : qah 6 1 = true := by decide +kernel
set_option maxRecDepth 100000 in
theorem qah_2 : qah 6 2 = true := by decide +kernel
set_option maxRecDepth 100000 in
theorem qah_3 : qah 6 3 = true := by decide +kernel
set_option maxRecDepth 100000 in
theorem qah_4 : qah 6 4 = true := by decide +kernel
set_option maxRecDepth 100000 in
theorem qah_5 : qah 6 5 = true := by decide +kernel
theorem qall_6 : qall 6 = true := by
  unfold qall
  refine List.all_eq_true.mpr (fun q hq => ?_)
  have hq : q ∈ (qls 6 4).flatMap (fun l => (List.range 6).map (fun a => a :: l)) := hq
  obtain ⟨l, h1, h2⟩ := List.mem_flatMap.mp hq
  obtain ⟨a, h3, rfl⟩ := List.mem_map.mp h2
  have h3 := List.mem_range.mp h3
  have key : qah 6 a = true := by
    have : a = 0 ∨ a = 1 ∨ a = 2 ∨ a = 3 ∨ a = 4 ∨ a = 5 := by omega
    rcases this with rfl | rfl | rfl | rfl | rfl | rfl
    · exact qah_0
    · exact qah_1
    · exact qah_2
    · exact qah_3
    · exact qah_4
    · exact qah_5
  exact List.all_eq_true.mp key l h1
