/-! all trees of six houses, the second time, by the kernel -/
set_option maxRecDepth 100000 in
theorem qbi_30 : qbi 6 3 0 = true := by decide +kernel
set_option maxRecDepth 100000 in
theorem qbi_31 : qbi 6 3 1 = true := by decide +kernel
set_option maxRecDepth 100000 in
theorem qbi_32 : qbi 6 3 2 = true := by decide +kernel
set_option maxRecDepth 100000 in
theorem qbi_33 : qbi 6 3 3 = true := by decide +kernel
set_option maxRecDepth 100000 in
theorem qbi_34 : qbi 6 3 4 = true := by decide +kernel
set_option maxRecDepth 100000 in
theorem qbi_35 : qbi 6 3 5 = true := by decide +kernel
set_option maxRecDepth 100000 in
theorem qbi_40 : qbi 6 4 0 = true := by decide +kernel
set_option maxRecDepth 100000 in
theorem qbi_41 : qbi 6 4 1 = true := by decide +kernel
set_option maxRecDepth 100000 in
theorem qbi_42 : qbi 6 4 2 = true := by decide +kernel
set_option maxRecDepth 100000 in
theorem qbi_43 : qbi 6 4 3 = true := by decide +kernel
set_option maxRecDepth 100000 in
theorem qbi_44 : qbi 6 4 4 = true := by decide +kernel
set_option maxRecDepth 100000 in
theorem qbi_45 : qbi 6 4 5 = true := by decide +kernel
set_option maxRecDepth 100000 in
theorem qbi_50 : qbi 6 5 0 = true := by decide +kernel
set_option maxRecDepth 100000 in
theorem qbi_51 : qbi 6 5 1 = true := by decide +kernel
set_option maxRecDepth 100000 in
theorem qbi_52 : qbi 6 5 2 = true := by decide +kernel
set_option maxRecDepth 100000 in
theorem qbi_53 : qbi 6 5 3 = true := by decide +kernel
set_option maxRecDepth 100000 in
theorem qbi_54 : qbi 6 5 4 = true := by decide +kernel
set_option maxRecDepth 100000 in
theorem qbi_55 : qbi 6 5 5 = true := by decide +kernel
theorem qbl_6 : qbl 6 = true := by
  unfold qbl
  refine List.all_eq_true.mpr (fun q hq => ?_)
  have hq : q ∈ (qls 6 4).flatMap (fun l => (List.range 6).map (fun a => a :: l)) := hq
  obtain ⟨l, h1, h2⟩ := List.mem_flatMap.mp hq
  obtain ⟨a, h3, rfl⟩ := List.mem_map.mp h2
  have h3 := List.mem_range.mp h3
  have h1 : l ∈ (qls 6 3).flatMap (fun l => (List.range 6).map (fun a => a :: l)) := h1
  obtain ⟨l2, h4, h5⟩ := List.mem_flatMap.mp h1
  obtain ⟨b, h6, rfl⟩ := List.mem_map.mp h5
  have h6 := List.mem_range.mp h6
  have key : qbi 6 a b = true := by
    have ha : a = 0 ∨ a = 1 ∨ a = 2 ∨ a = 3 ∨ a = 4 ∨ a = 5 := by omega
    have hb : b = 0 ∨ b = 1 ∨ b = 2 ∨ b = 3 ∨ b = 4 ∨ b = 5 := by omega
    rcases ha with rfl | rfl | rfl | rfl | rfl | rfl
    · rcases hb with rfl | rfl | rfl | rfl | rfl | rfl
      · exact qbi_00
      · exact qbi_01
      · exact qbi_02
      · exact qbi_03
      · exact qbi_04
      · exact qbi_05
    · rcases hb with rfl | rfl | rfl | rfl | rfl | rfl
      · exact qbi_10
      · exact qbi_11
      · exact qbi_12
      · exact qbi_13
      · exact qbi_14
      · exact qbi_15
    · rcases hb with rfl | rfl | rfl | rfl | rfl | rfl
      · exact qbi_20
      · exact qbi_21
      · exact qbi_22
      · exact qbi_23
      · exact qbi_24
      · exact qbi_25
    · rcases hb with rfl | rfl | rfl | rfl | rfl | rfl
      · exact qbi_30
      · exact qbi_31
      · exact qbi_32
      · exact qbi_33
      · exact qbi_34
      · exact qbi_35
    · rcases hb with rfl | rfl | rfl | rfl | rfl | rfl
      · exact qbi_40
      · exact qbi_41
      · exact qbi_42
      · exact qbi_43
      · exact qbi_44
      · exact qbi_45
    · rcases hb with rfl | rfl | rfl | rfl | rfl | rfl
      · exact qbi_50
      · exact qbi_51
      · exact qbi_52
      · exact qbi_53
      · exact qbi_54
      · exact qbi_55
  exact List.all_eq_true.mp key l2 h4
theorem qk_ok {n : Int} {q : List Nat} (h2 : 2 ≤ n) (h6 : n ≤ 6) (hm : q ∈ qls n.toNat (n.toNat - 1)) (ht : qtr n.toNat q = true) : qk2 n.toNat q = true := by
  have key : qbl n.toNat = true := by
    have : n = 2 ∨ n = 3 ∨ n = 4 ∨ n = 5 ∨ n = 6 := by omega
    rcases this with rfl | rfl | rfl | rfl | rfl
    · exact qbl_2
    · exact qbl_3
    · exact qbl_4
    · exact qbl_5
    · exact qbl_6
  have h := List.all_eq_true.mp key q hm
  rw [ht] at h
  simpa using h
