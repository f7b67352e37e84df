/-! reads of stores that were written -/
section FR
variable {W f : fw_W} {S F : List Nat} {o c c' : Nat} {i j z : Int}
theorem fg_in (h : S.any (fun k => Nat.beq k c) = true) : fw_g (fw_put S o F W f) c i = fw_g f c i := by
  unfold fw_g fw_put fw_inS
  rw [h]
  rfl
theorem fg_fin (h : fw_inF o F c i.toNat = true) : fw_g (fw_put S o F W f) c i = fw_g f c i := by
  unfold fw_g fw_put fw_inS
  rw [h, Bool.or_true]
theorem fg_out (h : S.any (fun k => Nat.beq k c) = false) (h2 : fw_oF o F c = false) : fw_g (fw_put S o F W f) c i = fw_g W c i := by
  unfold fw_g fw_put fw_inS
  rw [h, fw_inF_no h2]
  rfl
theorem fg_fout (h : S.any (fun k => Nat.beq k c) = false) (h2 : fw_inF o F c i.toNat = false) : fw_g (fw_put S o F W f) c i = fw_g W c i := by
  unfold fw_g fw_put fw_inS
  rw [h, h2]
  rfl
theorem fg_cp (h0 : 0 ≤ i) : fw_g (fw_cp W c c' j) c i = if i < j then fw_g W c' i else fw_g W c i := by
  unfold fw_g fw_cp
  by_cases e : i < j
  · rw [if_pos ⟨rfl, by omega⟩, if_pos e]
  · rw [if_neg (fun z => e (by have := z.2; omega)), if_neg e]
theorem fg_cpo {k : Nat} (h : Nat.beq k c = false) : fw_g (fw_cp W c c' j) k i = fw_g W k i := by
  unfold fw_g fw_cp
  rw [if_neg (fun z => by rw [z.1, Nat.beq_refl] at h; cases h)]
theorem fg_up (h : Nat.beq c' c = false) : fw_g (fw_up W c i z) c' j = fw_g W c' j := by
  unfold fw_g
  rw [fw_up_ne (fun e => by rw [e, Nat.beq_refl] at h; cases h)]
theorem fg_same (h1 : -2147483648 ≤ z) (h2 : z ≤ 2147483647) : fw_g (fw_up W c i z) c i = z := fw_g_up h1 h2
theorem fg_if (h0 : 0 ≤ i) (h3 : 0 ≤ j) (h1 : -2147483648 ≤ z) (h2 : z ≤ 2147483647) : fw_g (fw_up W c i z) c j = if i = j then z else fw_g W c j := by
  by_cases e : i = j
  · subst e
    rw [if_pos rfl, fw_g_up h1 h2]
  · rw [if_neg e, fw_g_un e h0 h3]
end FR
