/-! the heap that new int[n][k] leaves (its names stand in the library's farther rest) -/
theorem jm_far (s : State) (c comp : ClassId) (N M : Nat) (dv : Value) (i : Nat) : (Jvm.Free.Multi.fill s c comp N M dv i).heap.size = s.heap.size + 1 + i := (Jvm.Free.Multi.fill_facts s c comp N M dv i).1
