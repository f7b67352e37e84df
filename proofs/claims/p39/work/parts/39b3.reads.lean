/-! reads of stores that were written -/
section FR
variable {W f : fw_W} {S F : List Nat} {o c c' : Nat} {i j z : Int}
theorem fg_in (h : S.any (fun k => Nat.beq k c) = true) : fw_g (fw_put S o F W f) c i = fw_g f c i := by
  unfold fw_g fw_put fw_inS
  rw [h]
  rfl
theorem fg_fin (h : F.any (fun k => Nat.beq k i.toNat) = true) : fw_g (fw_put S o F W f) o i = fw_g f o i := by
  unfold fw_g fw_put fw_inS
  rw [h, Nat.beq_refl, Bool.true_and, Bool.or_true]
theorem fg_out (h : S.any (fun k => Nat.beq k c) = false) (h2 : Nat.beq o c = false) : fw_g (fw_put S o F W f) c i = fw_g W c i := by
  unfold fw_g fw_put fw_inS
  rw [h, h2]
  rfl
theorem fg_fout (h : S.any (fun k => Nat.beq k o) = false) (h2 : F.any (fun k => Nat.beq k i.toNat) = false) : fw_g (fw_put S o F W f) o i = fw_g W o i := by
  unfold fw_g fw_put fw_inS
  rw [h, h2, Bool.and_false]
  rfl
theorem fg_up (h : Nat.beq c' c = false) : fw_g (fw_up W c i z) c' j = fw_g W c' j := by
  unfold fw_g
  rw [fw_up_ne (fun e => by rw [e, Nat.beq_refl] at h; cases h)]
theorem fg_same (h1 : -2147483648 ≤ z) (h2 : z ≤ 2147483647) : fw_g (fw_up W c i z) c i = z := fw_g_up h1 h2
theorem fg_if (h0 : 0 ≤ i) (h3 : 0 ≤ j) (h1 : -2147483648 ≤ z) (h2 : z ≤ 2147483647) : fw_g (fw_up W c i z) c j = if i = j then z else fw_g W c j := by
  by_cases e : i = j
  · subst e
    rw [if_pos rfl, fw_g_up h1 h2]
  · rw [if_neg e, fw_g_un e h0 h3]
end FR
