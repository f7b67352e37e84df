/-! tried: both sides alike -/
def tn (a b : Int) : Int := if 0 ≤ a ∧ a ≤ 2 ∧ 2 ≤ b ∧ b ≤ 6 then 0 else -1
theorem tn_e {a b v : Int} (h : ((0 ≤ a ∧ a ≤ 2 ∧ 2 ≤ b ∧ b ≤ 6) ∧ v = 0) ∨ (¬ (0 ≤ a ∧ a ≤ 2 ∧ 2 ≤ b ∧ b ≤ 6) ∧ v = -1)) : v = tn a b := by
  unfold tn
  rcases h with ⟨h1, h2⟩ | ⟨h1, h2⟩
  · rw [if_pos h1]; exact h2
  · rw [if_neg h1]; exact h2
theorem uk_trx {W : fw_W} {a1 a2 : Int} (ha1 : -2147483648 ≤ a1 ∧ a1 ≤ 2147483647) (ha2 : -2147483648 ≤ a2 ∧ a2 ≤ 2147483647) (h : li W) : jc fw_T (0 + 8) 177 [.inr (.inl 0), .inl a1, .inl a2] W (fun a W2 => a = some (.inl (tn a1 a2)) ∧ li W2) := jc_of (x_k_tried_ok 0 [.inr (.inl 0), .inl a1, .inl a2] W _ (show fw_if _ _ from fw_if_mk rfl ⟨trivial, fun v f hv => ⟨congrArg (fun z => some (Sum.inl z)) (tn_e hv.2.2), li_kput h rfl rfl rfl rfl rfl⟩⟩))
theorem um_trx {W : fw_W} {a1 a2 : Int} (ha1 : -2147483648 ≤ a1 ∧ a1 ≤ 2147483647) (ha2 : -2147483648 ≤ a2 ∧ a2 ≤ 2147483647) (h : li W) : jc fw_T (0 + 8) 292 [.inr (.inl 352), .inl a1, .inl a2] W (fun a W2 => a = some (.inl (tn a1 a2)) ∧ li W2) := jc_of (x_tried3_ok 0 [.inr (.inl 352), .inl a1, .inl a2] W _ (show fw_if _ _ from fw_if_mk rfl ⟨li_mi h, fun v f hv => ⟨congrArg (fun z => some (Sum.inl z)) (tn_e hv.2.2.2), li_m h rfl rfl hv.2.2.1⟩⟩))
