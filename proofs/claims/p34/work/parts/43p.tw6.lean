/-! all trees of six houses, the second time, by the kernel -/
def qbh (n a : Nat) : Bool := (qls n (n - 2)).all (fun l => !(qtr n (a :: l)) || qk2 n (a :: l))
set_option maxRecDepth 100000 in
theorem qbh_0 : qbh 6 0 = true := by decide +kernel
set_option maxRecDepth 100000 in
theorem qbh_1 : qbh 6 1 = true := by decide +kernel
set_option maxRecDepth 100000 in
theorem qbh_2 : qbh 6 2 = true := by decide +kernel
set_option maxRecDepth 100000 in
theorem qbh_3 : qbh 6 3 = true := by decide +kernel
set_option maxRecDepth 100000 in
theorem qbh_4 : qbh 6 4 = true := by decide +kernel
set_option maxRecDepth 100000 in
theorem qbh_5 : qbh 6 5 = true := by decide +kernel
theorem qbl_6 : qbl 6 = true := by
  unfold qbl
  refine List.all_eq_true.mpr (fun q hq => ?_)
  have hq : q ∈ (qls 6 4).flatMap (fun l => (List.range 6).map (fun a => a :: l)) := hq
  obtain ⟨l, h1, h2⟩ := List.mem_flatMap.mp hq
  obtain ⟨a, h3, rfl⟩ := List.mem_map.mp h2
  have h3 := List.mem_range.mp h3
  have key : qbh 6 a = true := by
    have : a = 0 ∨ a = 1 ∨ a = 2 ∨ a = 3 ∨ a = 4 ∨ a = 5 := by omega
    rcases this with rfl | rfl | rfl | rfl | rfl | rfl
    · exact qbh_0
    · exact qbh_1
    · exact qbh_2
    · exact qbh_3
    · exact qbh_4
    · exact qbh_5
  exact List.all_eq_true.mp key l h1
theorem qk_ok {n : Int} {q : List Nat} (h2 : 2 ≤ n) (h6 : n ≤ 6) (hm : q ∈ qls n.toNat (n.toNat - 1)) (ht : qtr n.toNat q = true) : qk2 n.toNat q = true := by
  have key : qbl n.toNat = true := by
    have : n = 2 ∨ n = 3 ∨ n = 4 ∨ n = 5 ∨ n = 6 := by omega
    rcases this with rfl | rfl | rfl | rfl | rfl
    · exact qbl_2
    · exact qbl_3
    · exact qbl_4
    · exact qbl_5
    · exact qbl_6
  have h := List.all_eq_true.mp key q hm
  rw [ht] at h
  simpa using h
