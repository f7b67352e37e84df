/-! how long the kernel takes -/
def st_o11 : jm_C := .inr (.inr (.inr (11, (List.range 15).map (fun j => defaultValue (jm_ty 11 j)))))
def tt_k1 (o : Option (Option Value × jm_H × Nat × Nat)) : Bool := match o with
  | some (none, h1, c1, s1) => Nat.beq h1.length 352 && (Nat.ble c1 1000 && Nat.ble s1 300000)
  | _ => false
set_option maxRecDepth 100000 in
theorem tt_all : tt_k1 (zr_run 3000 8 137 (0, lv_args 0 [.ref 0], [], [st_o11]) 0 0) = true := by decide +kernel
