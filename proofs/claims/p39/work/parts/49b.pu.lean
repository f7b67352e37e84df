/-! six, later -/
theorem qall_6 : qall 6 = true := sorry
