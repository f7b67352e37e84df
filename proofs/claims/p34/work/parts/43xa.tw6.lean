/-! all trees of six houses, the second time, by the kernel -/
def qbi (n a b : Nat) : Bool := (qls n (n - 3)).all (fun l => !(qtr n (a :: b :: l)) || qk2 n (a :: b :: l))
set_option maxRecDepth 100000 in
theorem qbi_00 : qbi 6 0 0 = true := by decide +kernel
set_option maxRecDepth 100000 in
theorem qbi_01 : qbi 6 0 1 = true := by decide +kernel
set_option maxRecDepth 100000 in
theorem qbi_02 : qbi 6 0 2 = true := by decide +kernel
set_option maxRecDepth 100000 in
theorem qbi_03 : qbi 6 0 3 = true := by decide +kernel
set_option maxRecDepth 100000 in
theorem qbi_04 : qbi 6 0 4 = true := by decide +kernel
set_option maxRecDepth 100000 in
theorem qbi_05 : qbi 6 0 5 = true := by decide +kernel
set_option maxRecDepth 100000 in
theorem qbi_10 : qbi 6 1 0 = true := by decide +kernel
set_option maxRecDepth 100000 in
theorem qbi_11 : qbi 6 1 1 = true := by decide +kernel
set_option maxRecDepth 100000 in
theorem qbi_12 : qbi 6 1 2 = true := by decide +kernel
set_option maxRecDepth 100000 in
theorem qbi_13 : qbi 6 1 3 = true := by decide +kernel
set_option maxRecDepth 100000 in
theorem qbi_14 : qbi 6 1 4 = true := by decide +kernel
set_option maxRecDepth 100000 in
theorem qbi_15 : qbi 6 1 5 = true := by decide +kernel
set_option maxRecDepth 100000 in
theorem qbi_20 : qbi 6 2 0 = true := by decide +kernel
set_option maxRecDepth 100000 in
theorem qbi_21 : qbi 6 2 1 = true := by decide +kernel
set_option maxRecDepth 100000 in
theorem qbi_22 : qbi 6 2 2 = true := by decide +kernel
set_option maxRecDepth 100000 in
theorem qbi_23 : qbi 6 2 3 = true := by decide +kernel
set_option maxRecDepth 100000 in
theorem qbi_24 : qbi 6 2 4 = true := by decide +kernel
set_option maxRecDepth 100000 in
theorem qbi_25 : qbi 6 2 5 = true := by decide +kernel
