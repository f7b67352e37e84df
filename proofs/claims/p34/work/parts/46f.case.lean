/-! the law's cases -/
theorem lcb_22 {p : Program} {l : Launch} {e : Env} {s : State} {m : MethodId} {args : Array Value} {below : List Frame} {meth : Method} {c : Code} {D : va_G} {B : jm_E} {cells slots : Nat} {Q : State → Prop} {L : Nat} {xs : Nat → Int32} {i : Int32} {h : jm_H} {W : fw_W} (C : lw_C p s m args meth c D B L xs) (hi : lw_at L i) (hc : cells ≤ room_1.cells ∧ slots ≤ room_1.slots) (hg : fw_gh W fw_T h) (hl : li W) (next : ∀ (h2 : jm_H) (W2 : fw_W), fw_gh W2 fw_T h2 → li W2 → jm_W p l e room_1 s m args below meth c 4 D B cells slots Q 822 (lw_lv i) [] h2) : jm_W p l e room_1 s m args below meth c 4 D B cells slots Q 812 (lw_lv i) [] h := by
  refine lw_p C ld_812 rfl ?_
  refine lw_p C ld_813 rfl ?_
  refine lw_p C ld_814 rfl ?_
  refine lw_p C ld_815 rfl ?_
  refine lw_p C ld_816 rfl ?_
  refine lw_ld C ld_817 (lw_ix hi _ (by decide) (by decide)) ?_
  obtain ⟨fs, hca⟩ := lw_o1 hg
  refine lw_cv C (a := 352) (as := [.inl (xs (i + Int32.ofInt 1).toNatClampNeg).toInt]) (asc := [.int (xs (i + Int32.ofInt 1).toNatClampNeg)]) (r := []) lq_259 ln_259 lk_259 lz_259 rfl ld_818 (um_shops (lw_r _) hl) (by decide) (⟨⟨_, rfl, rfl⟩, trivial⟩) hg rfl (by decide) (Nat.le_of_ble_eq_true rfl) hca hc (fun v h2 a2 W2 o2 g2 p2 => ?_)
  obtain ⟨n2, rfl, -⟩ := lw_an p2.1 o2
  refine lw_p C ld_821 rfl ?_
  exact next h2 W2 g2 p2.2
theorem lca_22 {p : Program} {l : Launch} {e : Env} {s : State} {m : MethodId} {args : Array Value} {below : List Frame} {meth : Method} {c : Code} {D : va_G} {B : jm_E} {cells slots : Nat} {Q : State → Prop} {L : Nat} {xs : Nat → Int32} {i : Int32} {h : jm_H} {W : fw_W} (C : lw_C p s m args meth c D B L xs) (hi : lw_at L i) (hc : cells ≤ room_1.cells ∧ slots ≤ room_1.slots) (hg : fw_gh W fw_T h) (hl : li W) (next : ∀ (h2 : jm_H) (W2 : fw_W), fw_gh W2 fw_T h2 → li W2 → jm_W p l e room_1 s m args below meth c 4 D B cells slots Q 812 (lw_lv i) [] h2) : jm_W p l e room_1 s m args below meth c 4 D B cells slots Q 802 (lw_lv i) [] h := by
  refine lw_p C ld_802 rfl ?_
  refine lw_p C ld_803 rfl ?_
  refine lw_p C ld_804 rfl ?_
  refine lw_p C ld_805 rfl ?_
  refine lw_p C ld_806 rfl ?_
  refine lw_ld C ld_807 (lw_ix hi _ (by decide) (by decide)) ?_
  obtain ⟨fs, hca⟩ := lw_o0 hg
  refine lw_cv C (a := 0) (as := [.inl (xs (i + Int32.ofInt 1).toNatClampNeg).toInt]) (asc := [.int (xs (i + Int32.ofInt 1).toNatClampNeg)]) (r := []) lq_167 ln_167 lk_167 lz_167 rfl ld_808 (uk_shops (lw_r _) hl) (by decide) (⟨⟨_, rfl, rfl⟩, trivial⟩) hg rfl (by decide) (Nat.le_of_ble_eq_true rfl) hca hc (fun v h2 a2 W2 o2 g2 p2 => ?_)
  obtain ⟨n2, rfl, -⟩ := lw_an p2.1 o2
  refine lw_p C ld_811 rfl ?_
  exact next h2 W2 g2 p2.2
theorem lc_22 {p : Program} {l : Launch} {e : Env} {s : State} {m : MethodId} {args : Array Value} {below : List Frame} {meth : Method} {c : Code} {D : va_G} {B : jm_E} {cells slots : Nat} {Q : State → Prop} {L : Nat} {xs : Nat → Int32} {i : Int32} {h : jm_H} {W : fw_W} (C : lw_C p s m args meth c D B L xs) (hi : lw_at L i) (hc : cells ≤ room_1.cells ∧ slots ≤ room_1.slots) (hg : fw_gh W fw_T h) (hl : li W) (next : ∀ (h2 : jm_H) (W2 : fw_W), fw_gh W2 fw_T h2 → li W2 → jm_W p l e room_1 s m args below meth c 4 D B cells slots Q 1417 (lw_lv i) [] h2) : jm_W p l e room_1 s m args below meth c 4 D B cells slots Q 802 (lw_lv i) [] h := lca_22 C hi hc hg hl (fun h2 W2 g2 l2 => lcb_22 C hi hc g2 l2 (fun h3 W3 g3 l3 => lw_p C ld_822 rfl (next h3 W3 g3 l3)))
theorem lcb_23 {p : Program} {l : Launch} {e : Env} {s : State} {m : MethodId} {args : Array Value} {below : List Frame} {meth : Method} {c : Code} {D : va_G} {B : jm_E} {cells slots : Nat} {Q : State → Prop} {L : Nat} {xs : Nat → Int32} {i : Int32} {h : jm_H} {W : fw_W} (C : lw_C p s m args meth c D B L xs) (hi : lw_at L i) (hc : cells ≤ room_1.cells ∧ slots ≤ room_1.slots) (hg : fw_gh W fw_T h) (hl : li W) (next : ∀ (h2 : jm_H) (W2 : fw_W), fw_gh W2 fw_T h2 → li W2 → jm_W p l e room_1 s m args below meth c 4 D B cells slots Q 845 (lw_lv i) [] h2) : jm_W p l e room_1 s m args below meth c 4 D B cells slots Q 835 (lw_lv i) [] h := by
  refine lw_p C ld_835 rfl ?_
  refine lw_p C ld_836 rfl ?_
  refine lw_p C ld_837 rfl ?_
  refine lw_p C ld_838 rfl ?_
  refine lw_p C ld_839 rfl ?_
  refine lw_ld C ld_840 (lw_ix hi _ (by decide) (by decide)) ?_
  obtain ⟨fs, hca⟩ := lw_o1 hg
  refine lw_cv C (a := 352) (as := [.inl (xs (i + Int32.ofInt 1).toNatClampNeg).toInt]) (asc := [.int (xs (i + Int32.ofInt 1).toNatClampNeg)]) (r := []) lq_261 ln_261 lk_261 lz_261 rfl ld_841 (um_counted (lw_r _) hl) (by decide) (⟨⟨_, rfl, rfl⟩, trivial⟩) hg rfl (by decide) (Nat.le_of_ble_eq_true rfl) hca hc (fun v h2 a2 W2 o2 g2 p2 => ?_)
  obtain ⟨n2, rfl, -⟩ := lw_an p2.1 o2
  refine lw_p C ld_844 rfl ?_
  exact next h2 W2 g2 p2.2
theorem lca_23 {p : Program} {l : Launch} {e : Env} {s : State} {m : MethodId} {args : Array Value} {below : List Frame} {meth : Method} {c : Code} {D : va_G} {B : jm_E} {cells slots : Nat} {Q : State → Prop} {L : Nat} {xs : Nat → Int32} {i : Int32} {h : jm_H} {W : fw_W} (C : lw_C p s m args meth c D B L xs) (hi : lw_at L i) (hc : cells ≤ room_1.cells ∧ slots ≤ room_1.slots) (hg : fw_gh W fw_T h) (hl : li W) (next : ∀ (h2 : jm_H) (W2 : fw_W), fw_gh W2 fw_T h2 → li W2 → jm_W p l e room_1 s m args below meth c 4 D B cells slots Q 835 (lw_lv i) [] h2) : jm_W p l e room_1 s m args below meth c 4 D B cells slots Q 825 (lw_lv i) [] h := by
  refine lw_p C ld_825 rfl ?_
  refine lw_p C ld_826 rfl ?_
  refine lw_p C ld_827 rfl ?_
  refine lw_p C ld_828 rfl ?_
  refine lw_p C ld_829 rfl ?_
  refine lw_ld C ld_830 (lw_ix hi _ (by decide) (by decide)) ?_
  obtain ⟨fs, hca⟩ := lw_o0 hg
  refine lw_cv C (a := 0) (as := [.inl (xs (i + Int32.ofInt 1).toNatClampNeg).toInt]) (asc := [.int (xs (i + Int32.ofInt 1).toNatClampNeg)]) (r := []) lq_168 ln_168 lk_168 lz_168 rfl ld_831 (uk_counted (lw_r _) hl) (by decide) (⟨⟨_, rfl, rfl⟩, trivial⟩) hg rfl (by decide) (Nat.le_of_ble_eq_true rfl) hca hc (fun v h2 a2 W2 o2 g2 p2 => ?_)
  obtain ⟨n2, rfl, -⟩ := lw_an p2.1 o2
  refine lw_p C ld_834 rfl ?_
  exact next h2 W2 g2 p2.2
theorem lc_23 {p : Program} {l : Launch} {e : Env} {s : State} {m : MethodId} {args : Array Value} {below : List Frame} {meth : Method} {c : Code} {D : va_G} {B : jm_E} {cells slots : Nat} {Q : State → Prop} {L : Nat} {xs : Nat → Int32} {i : Int32} {h : jm_H} {W : fw_W} (C : lw_C p s m args meth c D B L xs) (hi : lw_at L i) (hc : cells ≤ room_1.cells ∧ slots ≤ room_1.slots) (hg : fw_gh W fw_T h) (hl : li W) (next : ∀ (h2 : jm_H) (W2 : fw_W), fw_gh W2 fw_T h2 → li W2 → jm_W p l e room_1 s m args below meth c 4 D B cells slots Q 1417 (lw_lv i) [] h2) : jm_W p l e room_1 s m args below meth c 4 D B cells slots Q 825 (lw_lv i) [] h := lca_23 C hi hc hg hl (fun h2 W2 g2 l2 => lcb_23 C hi hc g2 l2 (fun h3 W3 g3 l3 => lw_p C ld_845 rfl (next h3 W3 g3 l3)))
theorem lcb_24 {p : Program} {l : Launch} {e : Env} {s : State} {m : MethodId} {args : Array Value} {below : List Frame} {meth : Method} {c : Code} {D : va_G} {B : jm_E} {cells slots : Nat} {Q : State → Prop} {L : Nat} {xs : Nat → Int32} {i : Int32} {h : jm_H} {W : fw_W} (C : lw_C p s m args meth c D B L xs) (hi : lw_at L i) (hc : cells ≤ room_1.cells ∧ slots ≤ room_1.slots) (hg : fw_gh W fw_T h) (hl : li W) (next : ∀ (h2 : jm_H) (W2 : fw_W), fw_gh W2 fw_T h2 → li W2 → jm_W p l e room_1 s m args below meth c 4 D B cells slots Q 868 (lw_lv i) [] h2) : jm_W p l e room_1 s m args below meth c 4 D B cells slots Q 858 (lw_lv i) [] h := by
  refine lw_p C ld_858 rfl ?_
  refine lw_p C ld_859 rfl ?_
  refine lw_p C ld_860 rfl ?_
  refine lw_p C ld_861 rfl ?_
  refine lw_p C ld_862 rfl ?_
  refine lw_ld C ld_863 (lw_ix hi _ (by decide) (by decide)) ?_
  obtain ⟨fs, hca⟩ := lw_o1 hg
  refine lw_cv C (a := 352) (as := [.inl (xs (i + Int32.ofInt 1).toNatClampNeg).toInt]) (asc := [.int (xs (i + Int32.ofInt 1).toNatClampNeg)]) (r := []) lq_235 ln_235 lk_235 lz_235 rfl ld_864 (um_quarters (lw_r _) hl) (by decide) (⟨⟨_, rfl, rfl⟩, trivial⟩) hg rfl (by decide) (Nat.le_of_ble_eq_true rfl) hca hc (fun v h2 a2 W2 o2 g2 p2 => ?_)
  obtain ⟨n2, rfl, -⟩ := lw_an p2.1 o2
  refine lw_p C ld_867 rfl ?_
  exact next h2 W2 g2 p2.2
theorem lca_24 {p : Program} {l : Launch} {e : Env} {s : State} {m : MethodId} {args : Array Value} {below : List Frame} {meth : Method} {c : Code} {D : va_G} {B : jm_E} {cells slots : Nat} {Q : State → Prop} {L : Nat} {xs : Nat → Int32} {i : Int32} {h : jm_H} {W : fw_W} (C : lw_C p s m args meth c D B L xs) (hi : lw_at L i) (hc : cells ≤ room_1.cells ∧ slots ≤ room_1.slots) (hg : fw_gh W fw_T h) (hl : li W) (next : ∀ (h2 : jm_H) (W2 : fw_W), fw_gh W2 fw_T h2 → li W2 → jm_W p l e room_1 s m args below meth c 4 D B cells slots Q 858 (lw_lv i) [] h2) : jm_W p l e room_1 s m args below meth c 4 D B cells slots Q 848 (lw_lv i) [] h := by
  refine lw_p C ld_848 rfl ?_
  refine lw_p C ld_849 rfl ?_
  refine lw_p C ld_850 rfl ?_
  refine lw_p C ld_851 rfl ?_
  refine lw_p C ld_852 rfl ?_
  refine lw_ld C ld_853 (lw_ix hi _ (by decide) (by decide)) ?_
  obtain ⟨fs, hca⟩ := lw_o0 hg
  refine lw_cv C (a := 0) (as := [.inl (xs (i + Int32.ofInt 1).toNatClampNeg).toInt]) (asc := [.int (xs (i + Int32.ofInt 1).toNatClampNeg)]) (r := []) lq_149 ln_149 lk_149 lz_149 rfl ld_854 (uk_quarters (lw_r _) hl) (by decide) (⟨⟨_, rfl, rfl⟩, trivial⟩) hg rfl (by decide) (Nat.le_of_ble_eq_true rfl) hca hc (fun v h2 a2 W2 o2 g2 p2 => ?_)
  obtain ⟨n2, rfl, -⟩ := lw_an p2.1 o2
  refine lw_p C ld_857 rfl ?_
  exact next h2 W2 g2 p2.2
theorem lc_24 {p : Program} {l : Launch} {e : Env} {s : State} {m : MethodId} {args : Array Value} {below : List Frame} {meth : Method} {c : Code} {D : va_G} {B : jm_E} {cells slots : Nat} {Q : State → Prop} {L : Nat} {xs : Nat → Int32} {i : Int32} {h : jm_H} {W : fw_W} (C : lw_C p s m args meth c D B L xs) (hi : lw_at L i) (hc : cells ≤ room_1.cells ∧ slots ≤ room_1.slots) (hg : fw_gh W fw_T h) (hl : li W) (next : ∀ (h2 : jm_H) (W2 : fw_W), fw_gh W2 fw_T h2 → li W2 → jm_W p l e room_1 s m args below meth c 4 D B cells slots Q 1417 (lw_lv i) [] h2) : jm_W p l e room_1 s m args below meth c 4 D B cells slots Q 848 (lw_lv i) [] h := lca_24 C hi hc hg hl (fun h2 W2 g2 l2 => lcb_24 C hi hc g2 l2 (fun h3 W3 g3 l3 => lw_p C ld_868 rfl (next h3 W3 g3 l3)))
theorem lcb_25 {p : Program} {l : Launch} {e : Env} {s : State} {m : MethodId} {args : Array Value} {below : List Frame} {meth : Method} {c : Code} {D : va_G} {B : jm_E} {cells slots : Nat} {Q : State → Prop} {L : Nat} {xs : Nat → Int32} {i : Int32} {h : jm_H} {W : fw_W} (C : lw_C p s m args meth c D B L xs) (hi : lw_at L i) (hc : cells ≤ room_1.cells ∧ slots ≤ room_1.slots) (hg : fw_gh W fw_T h) (hl : li W) (next : ∀ (h2 : jm_H) (W2 : fw_W), fw_gh W2 fw_T h2 → li W2 → jm_W p l e room_1 s m args below meth c 4 D B cells slots Q 881 (lw_lv i) [] h2) : jm_W p l e room_1 s m args below meth c 4 D B cells slots Q 876 (lw_lv i) [] h := by
  refine lw_p C ld_876 rfl ?_
  obtain ⟨fs, hca⟩ := lw_o1 hg
  refine lw_cv C (a := 352) (as := []) (asc := []) (r := []) lq_269 ln_269 lk_269 lz_269 rfl ld_877 (um_bestNews  hl) (by decide) (trivial) hg rfl (by decide) (Nat.le_of_ble_eq_true rfl) hca hc (fun v h2 a2 W2 o2 g2 p2 => ?_)
  obtain ⟨n2, rfl, -⟩ := lw_an p2.1 o2
  refine lw_p C ld_880 rfl ?_
  exact next h2 W2 g2 p2.2
theorem lca_25 {p : Program} {l : Launch} {e : Env} {s : State} {m : MethodId} {args : Array Value} {below : List Frame} {meth : Method} {c : Code} {D : va_G} {B : jm_E} {cells slots : Nat} {Q : State → Prop} {L : Nat} {xs : Nat → Int32} {i : Int32} {h : jm_H} {W : fw_W} (C : lw_C p s m args meth c D B L xs) (hi : lw_at L i) (hc : cells ≤ room_1.cells ∧ slots ≤ room_1.slots) (hg : fw_gh W fw_T h) (hl : li W) (next : ∀ (h2 : jm_H) (W2 : fw_W), fw_gh W2 fw_T h2 → li W2 → jm_W p l e room_1 s m args below meth c 4 D B cells slots Q 876 (lw_lv i) [] h2) : jm_W p l e room_1 s m args below meth c 4 D B cells slots Q 871 (lw_lv i) [] h := by
  refine lw_p C ld_871 rfl ?_
  obtain ⟨fs, hca⟩ := lw_o0 hg
  refine lw_cv C (a := 0) (as := []) (asc := []) (r := []) lq_171 ln_171 lk_171 lz_171 rfl ld_872 (uk_bestNews  hl) (by decide) (trivial) hg rfl (by decide) (Nat.le_of_ble_eq_true rfl) hca hc (fun v h2 a2 W2 o2 g2 p2 => ?_)
  obtain ⟨n2, rfl, -⟩ := lw_an p2.1 o2
  refine lw_p C ld_875 rfl ?_
  exact next h2 W2 g2 p2.2
theorem lc_25 {p : Program} {l : Launch} {e : Env} {s : State} {m : MethodId} {args : Array Value} {below : List Frame} {meth : Method} {c : Code} {D : va_G} {B : jm_E} {cells slots : Nat} {Q : State → Prop} {L : Nat} {xs : Nat → Int32} {i : Int32} {h : jm_H} {W : fw_W} (C : lw_C p s m args meth c D B L xs) (hi : lw_at L i) (hc : cells ≤ room_1.cells ∧ slots ≤ room_1.slots) (hg : fw_gh W fw_T h) (hl : li W) (next : ∀ (h2 : jm_H) (W2 : fw_W), fw_gh W2 fw_T h2 → li W2 → jm_W p l e room_1 s m args below meth c 4 D B cells slots Q 1417 (lw_lv i) [] h2) : jm_W p l e room_1 s m args below meth c 4 D B cells slots Q 871 (lw_lv i) [] h := lca_25 C hi hc hg hl (fun h2 W2 g2 l2 => lcb_25 C hi hc g2 l2 (fun h3 W3 g3 l3 => lw_p C ld_881 rfl (next h3 W3 g3 l3)))
theorem lcb_26 {p : Program} {l : Launch} {e : Env} {s : State} {m : MethodId} {args : Array Value} {below : List Frame} {meth : Method} {c : Code} {D : va_G} {B : jm_E} {cells slots : Nat} {Q : State → Prop} {L : Nat} {xs : Nat → Int32} {i : Int32} {h : jm_H} {W : fw_W} (C : lw_C p s m args meth c D B L xs) (hi : lw_at L i) (hc : cells ≤ room_1.cells ∧ slots ≤ room_1.slots) (hg : fw_gh W fw_T h) (hl : li W) (next : ∀ (h2 : jm_H) (W2 : fw_W), fw_gh W2 fw_T h2 → li W2 → jm_W p l e room_1 s m args below meth c 4 D B cells slots Q 904 (lw_lv i) [] h2) : jm_W p l e room_1 s m args below meth c 4 D B cells slots Q 894 (lw_lv i) [] h := by
  refine lw_p C ld_894 rfl ?_
  refine lw_p C ld_895 rfl ?_
  refine lw_p C ld_896 rfl ?_
  refine lw_p C ld_897 rfl ?_
  refine lw_p C ld_898 rfl ?_
  refine lw_ld C ld_899 (lw_ix hi _ (by decide) (by decide)) ?_
  obtain ⟨fs, hca⟩ := lw_o1 hg
  refine lw_cv C (a := 352) (as := [.inl (xs (i + Int32.ofInt 1).toNatClampNeg).toInt]) (asc := [.int (xs (i + Int32.ofInt 1).toNatClampNeg)]) (r := []) lq_270 ln_270 lk_270 lz_270 rfl ld_900 (um_carts (lw_r _) hl) (by decide) (⟨⟨_, rfl, rfl⟩, trivial⟩) hg rfl (by decide) (Nat.le_of_ble_eq_true rfl) hca hc (fun v h2 a2 W2 o2 g2 p2 => ?_)
  obtain ⟨n2, rfl, -⟩ := lw_an p2.1 o2
  refine lw_p C ld_903 rfl ?_
  exact next h2 W2 g2 p2.2
theorem lca_26 {p : Program} {l : Launch} {e : Env} {s : State} {m : MethodId} {args : Array Value} {below : List Frame} {meth : Method} {c : Code} {D : va_G} {B : jm_E} {cells slots : Nat} {Q : State → Prop} {L : Nat} {xs : Nat → Int32} {i : Int32} {h : jm_H} {W : fw_W} (C : lw_C p s m args meth c D B L xs) (hi : lw_at L i) (hc : cells ≤ room_1.cells ∧ slots ≤ room_1.slots) (hg : fw_gh W fw_T h) (hl : li W) (next : ∀ (h2 : jm_H) (W2 : fw_W), fw_gh W2 fw_T h2 → li W2 → jm_W p l e room_1 s m args below meth c 4 D B cells slots Q 894 (lw_lv i) [] h2) : jm_W p l e room_1 s m args below meth c 4 D B cells slots Q 884 (lw_lv i) [] h := by
  refine lw_p C ld_884 rfl ?_
  refine lw_p C ld_885 rfl ?_
  refine lw_p C ld_886 rfl ?_
  refine lw_p C ld_887 rfl ?_
  refine lw_p C ld_888 rfl ?_
  refine lw_ld C ld_889 (lw_ix hi _ (by decide) (by decide)) ?_
  obtain ⟨fs, hca⟩ := lw_o0 hg
  refine lw_cv C (a := 0) (as := [.inl (xs (i + Int32.ofInt 1).toNatClampNeg).toInt]) (asc := [.int (xs (i + Int32.ofInt 1).toNatClampNeg)]) (r := []) lq_172 ln_172 lk_172 lz_172 rfl ld_890 (uk_carts (lw_r _) hl) (by decide) (⟨⟨_, rfl, rfl⟩, trivial⟩) hg rfl (by decide) (Nat.le_of_ble_eq_true rfl) hca hc (fun v h2 a2 W2 o2 g2 p2 => ?_)
  obtain ⟨n2, rfl, -⟩ := lw_an p2.1 o2
  refine lw_p C ld_893 rfl ?_
  exact next h2 W2 g2 p2.2
theorem lc_26 {p : Program} {l : Launch} {e : Env} {s : State} {m : MethodId} {args : Array Value} {below : List Frame} {meth : Method} {c : Code} {D : va_G} {B : jm_E} {cells slots : Nat} {Q : State → Prop} {L : Nat} {xs : Nat → Int32} {i : Int32} {h : jm_H} {W : fw_W} (C : lw_C p s m args meth c D B L xs) (hi : lw_at L i) (hc : cells ≤ room_1.cells ∧ slots ≤ room_1.slots) (hg : fw_gh W fw_T h) (hl : li W) (next : ∀ (h2 : jm_H) (W2 : fw_W), fw_gh W2 fw_T h2 → li W2 → jm_W p l e room_1 s m args below meth c 4 D B cells slots Q 1417 (lw_lv i) [] h2) : jm_W p l e room_1 s m args below meth c 4 D B cells slots Q 884 (lw_lv i) [] h := lca_26 C hi hc hg hl (fun h2 W2 g2 l2 => lcb_26 C hi hc g2 l2 (fun h3 W3 g3 l3 => lw_p C ld_904 rfl (next h3 W3 g3 l3)))
theorem lcb_27 {p : Program} {l : Launch} {e : Env} {s : State} {m : MethodId} {args : Array Value} {below : List Frame} {meth : Method} {c : Code} {D : va_G} {B : jm_E} {cells slots : Nat} {Q : State → Prop} {L : Nat} {xs : Nat → Int32} {i : Int32} {h : jm_H} {W : fw_W} (C : lw_C p s m args meth c D B L xs) (hi : lw_at L i) (hc : cells ≤ room_1.cells ∧ slots ≤ room_1.slots) (hg : fw_gh W fw_T h) (hl : li W) (next : ∀ (h2 : jm_H) (W2 : fw_W), fw_gh W2 fw_T h2 → li W2 → jm_W p l e room_1 s m args below meth c 4 D B cells slots Q 953 (lw_lv i) [] h2) : jm_W p l e room_1 s m args below meth c 4 D B cells slots Q 930 (lw_lv i) [] h := by
  refine lw_p C ld_930 rfl ?_
  refine lw_p C ld_931 rfl ?_
  refine lw_p C ld_932 rfl ?_
  refine lw_p C ld_933 rfl ?_
  refine lw_p C ld_934 rfl ?_
  refine lw_ld C ld_935 (lw_ix hi _ (by decide) (by decide)) ?_
  refine lw_p C ld_936 rfl ?_
  refine lw_p C ld_937 rfl ?_
  refine lw_p C ld_938 rfl ?_
  refine lw_p C ld_939 rfl ?_
  refine lw_ld C ld_940 (lw_ix hi _ (by decide) (by decide)) ?_
  refine lw_if C ld_941 rfl ?_ ?_
  · refine lw_p C ld_948 rfl ?_
    obtain ⟨fs, hca⟩ := lw_o1 hg
    refine lw_cv C (a := 352) (as := [.inl (xs (i + Int32.ofInt 1).toNatClampNeg).toInt, .inl 0]) (asc := [.int (xs (i + Int32.ofInt 1).toNatClampNeg), .int 0]) (r := []) lq_276 ln_276 lk_276 lz_276 rfl ld_949 (um_alike (lw_r _) ⟨by decide, by decide⟩ hl) (by decide) (⟨⟨_, rfl, rfl⟩, ⟨⟨_, rfl, rfl⟩, trivial⟩⟩) hg rfl (by decide) (Nat.le_of_ble_eq_true rfl) hca hc (fun v h2 a2 W2 o2 g2 p2 => ?_)
    obtain ⟨n2, rfl, -⟩ := lw_an p2.1 o2
    refine lw_p C ld_952 rfl ?_
    exact next h2 W2 g2 p2.2
  · refine lw_p C ld_944 rfl ?_
    refine lw_p C ld_945 rfl ?_
    obtain ⟨fs, hca⟩ := lw_o1 hg
    refine lw_cv C (a := 352) (as := [.inl (xs (i + Int32.ofInt 1).toNatClampNeg).toInt, .inl 1]) (asc := [.int (xs (i + Int32.ofInt 1).toNatClampNeg), .int 1]) (r := []) lq_276 ln_276 lk_276 lz_276 rfl ld_949 (um_alike (lw_r _) ⟨by decide, by decide⟩ hl) (by decide) (⟨⟨_, rfl, rfl⟩, ⟨⟨_, rfl, rfl⟩, trivial⟩⟩) hg rfl (by decide) (Nat.le_of_ble_eq_true rfl) hca hc (fun v h2 a2 W2 o2 g2 p2 => ?_)
    obtain ⟨n2, rfl, -⟩ := lw_an p2.1 o2
    refine lw_p C ld_952 rfl ?_
    exact next h2 W2 g2 p2.2
theorem lca_27 {p : Program} {l : Launch} {e : Env} {s : State} {m : MethodId} {args : Array Value} {below : List Frame} {meth : Method} {c : Code} {D : va_G} {B : jm_E} {cells slots : Nat} {Q : State → Prop} {L : Nat} {xs : Nat → Int32} {i : Int32} {h : jm_H} {W : fw_W} (C : lw_C p s m args meth c D B L xs) (hi : lw_at L i) (hc : cells ≤ room_1.cells ∧ slots ≤ room_1.slots) (hg : fw_gh W fw_T h) (hl : li W) (next : ∀ (h2 : jm_H) (W2 : fw_W), fw_gh W2 fw_T h2 → li W2 → jm_W p l e room_1 s m args below meth c 4 D B cells slots Q 930 (lw_lv i) [] h2) : jm_W p l e room_1 s m args below meth c 4 D B cells slots Q 907 (lw_lv i) [] h := by
  refine lw_p C ld_907 rfl ?_
  refine lw_p C ld_908 rfl ?_
  refine lw_p C ld_909 rfl ?_
  refine lw_p C ld_910 rfl ?_
  refine lw_p C ld_911 rfl ?_
  refine lw_ld C ld_912 (lw_ix hi _ (by decide) (by decide)) ?_
  refine lw_p C ld_913 rfl ?_
  refine lw_p C ld_914 rfl ?_
  refine lw_p C ld_915 rfl ?_
  refine lw_p C ld_916 rfl ?_
  refine lw_ld C ld_917 (lw_ix hi _ (by decide) (by decide)) ?_
  refine lw_if C ld_918 rfl ?_ ?_
  · refine lw_p C ld_925 rfl ?_
    obtain ⟨fs, hca⟩ := lw_o0 hg
    refine lw_cv C (a := 0) (as := [.inl (xs (i + Int32.ofInt 1).toNatClampNeg).toInt, .inl 0]) (asc := [.int (xs (i + Int32.ofInt 1).toNatClampNeg), .int 0]) (r := []) lq_173 ln_173 lk_173 lz_173 rfl ld_926 (uk_alike (lw_r _) ⟨by decide, by decide⟩ hl) (by decide) (⟨⟨_, rfl, rfl⟩, ⟨⟨_, rfl, rfl⟩, trivial⟩⟩) hg rfl (by decide) (Nat.le_of_ble_eq_true rfl) hca hc (fun v h2 a2 W2 o2 g2 p2 => ?_)
    obtain ⟨n2, rfl, -⟩ := lw_an p2.1 o2
    refine lw_p C ld_929 rfl ?_
    exact next h2 W2 g2 p2.2
  · refine lw_p C ld_921 rfl ?_
    refine lw_p C ld_922 rfl ?_
    obtain ⟨fs, hca⟩ := lw_o0 hg
    refine lw_cv C (a := 0) (as := [.inl (xs (i + Int32.ofInt 1).toNatClampNeg).toInt, .inl 1]) (asc := [.int (xs (i + Int32.ofInt 1).toNatClampNeg), .int 1]) (r := []) lq_173 ln_173 lk_173 lz_173 rfl ld_926 (uk_alike (lw_r _) ⟨by decide, by decide⟩ hl) (by decide) (⟨⟨_, rfl, rfl⟩, ⟨⟨_, rfl, rfl⟩, trivial⟩⟩) hg rfl (by decide) (Nat.le_of_ble_eq_true rfl) hca hc (fun v h2 a2 W2 o2 g2 p2 => ?_)
    obtain ⟨n2, rfl, -⟩ := lw_an p2.1 o2
    refine lw_p C ld_929 rfl ?_
    exact next h2 W2 g2 p2.2
theorem lc_27 {p : Program} {l : Launch} {e : Env} {s : State} {m : MethodId} {args : Array Value} {below : List Frame} {meth : Method} {c : Code} {D : va_G} {B : jm_E} {cells slots : Nat} {Q : State → Prop} {L : Nat} {xs : Nat → Int32} {i : Int32} {h : jm_H} {W : fw_W} (C : lw_C p s m args meth c D B L xs) (hi : lw_at L i) (hc : cells ≤ room_1.cells ∧ slots ≤ room_1.slots) (hg : fw_gh W fw_T h) (hl : li W) (next : ∀ (h2 : jm_H) (W2 : fw_W), fw_gh W2 fw_T h2 → li W2 → jm_W p l e room_1 s m args below meth c 4 D B cells slots Q 1417 (lw_lv i) [] h2) : jm_W p l e room_1 s m args below meth c 4 D B cells slots Q 907 (lw_lv i) [] h := lca_27 C hi hc hg hl (fun h2 W2 g2 l2 => lcb_27 C hi hc g2 l2 (fun h3 W3 g3 l3 => lw_p C ld_953 rfl (next h3 W3 g3 l3)))
theorem lcb_28 {p : Program} {l : Launch} {e : Env} {s : State} {m : MethodId} {args : Array Value} {below : List Frame} {meth : Method} {c : Code} {D : va_G} {B : jm_E} {cells slots : Nat} {Q : State → Prop} {L : Nat} {xs : Nat → Int32} {i : Int32} {h : jm_H} {W : fw_W} (C : lw_C p s m args meth c D B L xs) (hi : lw_at L i) (hc : cells ≤ room_1.cells ∧ slots ≤ room_1.slots) (hg : fw_gh W fw_T h) (hl : li W) (next : ∀ (h2 : jm_H) (W2 : fw_W), fw_gh W2 fw_T h2 → li W2 → jm_W p l e room_1 s m args below meth c 4 D B cells slots Q 992 (lw_lv i) [] h2) : jm_W p l e room_1 s m args below meth c 4 D B cells slots Q 974 (lw_lv i) [] h := by
  refine lw_p C ld_974 rfl ?_
  refine lw_p C ld_975 rfl ?_
  refine lw_p C ld_976 rfl ?_
  refine lw_p C ld_977 rfl ?_
  refine lw_p C ld_978 rfl ?_
  refine lw_ld C ld_979 (lw_ix hi _ (by decide) (by decide)) ?_
  refine lw_if C ld_980 rfl ?_ ?_
  · refine lw_p C ld_987 rfl ?_
    obtain ⟨fs, hca⟩ := lw_o1 hg
    refine lw_cv C (a := 352) (as := [.inl 0]) (asc := [.int 0]) (r := []) lq_283 ln_283 lk_283 lz_283 rfl ld_988 (um_selves ⟨by decide, by decide⟩ hl) (by decide) (⟨⟨_, rfl, rfl⟩, trivial⟩) hg rfl (by decide) (Nat.le_of_ble_eq_true rfl) hca hc (fun v h2 a2 W2 o2 g2 p2 => ?_)
    obtain ⟨n2, rfl⟩ := lw_al p2.1 o2
    refine lw_p C ld_991 rfl ?_
    exact next h2 W2 g2 p2.2
  · refine lw_p C ld_983 rfl ?_
    refine lw_p C ld_984 rfl ?_
    obtain ⟨fs, hca⟩ := lw_o1 hg
    refine lw_cv C (a := 352) (as := [.inl 1]) (asc := [.int 1]) (r := []) lq_283 ln_283 lk_283 lz_283 rfl ld_988 (um_selves ⟨by decide, by decide⟩ hl) (by decide) (⟨⟨_, rfl, rfl⟩, trivial⟩) hg rfl (by decide) (Nat.le_of_ble_eq_true rfl) hca hc (fun v h2 a2 W2 o2 g2 p2 => ?_)
    obtain ⟨n2, rfl⟩ := lw_al p2.1 o2
    refine lw_p C ld_991 rfl ?_
    exact next h2 W2 g2 p2.2
theorem lca_28 {p : Program} {l : Launch} {e : Env} {s : State} {m : MethodId} {args : Array Value} {below : List Frame} {meth : Method} {c : Code} {D : va_G} {B : jm_E} {cells slots : Nat} {Q : State → Prop} {L : Nat} {xs : Nat → Int32} {i : Int32} {h : jm_H} {W : fw_W} (C : lw_C p s m args meth c D B L xs) (hi : lw_at L i) (hc : cells ≤ room_1.cells ∧ slots ≤ room_1.slots) (hg : fw_gh W fw_T h) (hl : li W) (next : ∀ (h2 : jm_H) (W2 : fw_W), fw_gh W2 fw_T h2 → li W2 → jm_W p l e room_1 s m args below meth c 4 D B cells slots Q 974 (lw_lv i) [] h2) : jm_W p l e room_1 s m args below meth c 4 D B cells slots Q 956 (lw_lv i) [] h := by
  refine lw_p C ld_956 rfl ?_
  refine lw_p C ld_957 rfl ?_
  refine lw_p C ld_958 rfl ?_
  refine lw_p C ld_959 rfl ?_
  refine lw_p C ld_960 rfl ?_
  refine lw_ld C ld_961 (lw_ix hi _ (by decide) (by decide)) ?_
  refine lw_if C ld_962 rfl ?_ ?_
  · refine lw_p C ld_969 rfl ?_
    obtain ⟨fs, hca⟩ := lw_o0 hg
    refine lw_cv C (a := 0) (as := [.inl 0]) (asc := [.int 0]) (r := []) lq_174 ln_174 lk_174 lz_174 rfl ld_970 (uk_selves ⟨by decide, by decide⟩ hl) (by decide) (⟨⟨_, rfl, rfl⟩, trivial⟩) hg rfl (by decide) (Nat.le_of_ble_eq_true rfl) hca hc (fun v h2 a2 W2 o2 g2 p2 => ?_)
    obtain ⟨n2, rfl⟩ := lw_al p2.1 o2
    refine lw_p C ld_973 rfl ?_
    exact next h2 W2 g2 p2.2
  · refine lw_p C ld_965 rfl ?_
    refine lw_p C ld_966 rfl ?_
    obtain ⟨fs, hca⟩ := lw_o0 hg
    refine lw_cv C (a := 0) (as := [.inl 1]) (asc := [.int 1]) (r := []) lq_174 ln_174 lk_174 lz_174 rfl ld_970 (uk_selves ⟨by decide, by decide⟩ hl) (by decide) (⟨⟨_, rfl, rfl⟩, trivial⟩) hg rfl (by decide) (Nat.le_of_ble_eq_true rfl) hca hc (fun v h2 a2 W2 o2 g2 p2 => ?_)
    obtain ⟨n2, rfl⟩ := lw_al p2.1 o2
    refine lw_p C ld_973 rfl ?_
    exact next h2 W2 g2 p2.2
theorem lc_28 {p : Program} {l : Launch} {e : Env} {s : State} {m : MethodId} {args : Array Value} {below : List Frame} {meth : Method} {c : Code} {D : va_G} {B : jm_E} {cells slots : Nat} {Q : State → Prop} {L : Nat} {xs : Nat → Int32} {i : Int32} {h : jm_H} {W : fw_W} (C : lw_C p s m args meth c D B L xs) (hi : lw_at L i) (hc : cells ≤ room_1.cells ∧ slots ≤ room_1.slots) (hg : fw_gh W fw_T h) (hl : li W) (next : ∀ (h2 : jm_H) (W2 : fw_W), fw_gh W2 fw_T h2 → li W2 → jm_W p l e room_1 s m args below meth c 4 D B cells slots Q 1417 (lw_lv i) [] h2) : jm_W p l e room_1 s m args below meth c 4 D B cells slots Q 956 (lw_lv i) [] h := lca_28 C hi hc hg hl (fun h2 W2 g2 l2 => lcb_28 C hi hc g2 l2 (fun h3 W3 g3 l3 => lw_p C ld_992 rfl (next h3 W3 g3 l3)))
theorem lcb_29 {p : Program} {l : Launch} {e : Env} {s : State} {m : MethodId} {args : Array Value} {below : List Frame} {meth : Method} {c : Code} {D : va_G} {B : jm_E} {cells slots : Nat} {Q : State → Prop} {L : Nat} {xs : Nat → Int32} {i : Int32} {h : jm_H} {W : fw_W} (C : lw_C p s m args meth c D B L xs) (hi : lw_at L i) (hc : cells ≤ room_1.cells ∧ slots ≤ room_1.slots) (hg : fw_gh W fw_T h) (hl : li W) (next : ∀ (h2 : jm_H) (W2 : fw_W), fw_gh W2 fw_T h2 → li W2 → jm_W p l e room_1 s m args below meth c 4 D B cells slots Q 1015 (lw_lv i) [] h2) : jm_W p l e room_1 s m args below meth c 4 D B cells slots Q 1005 (lw_lv i) [] h := by
  refine lw_p C ld_1005 rfl ?_
  refine lw_p C ld_1006 rfl ?_
  refine lw_p C ld_1007 rfl ?_
  refine lw_p C ld_1008 rfl ?_
  refine lw_p C ld_1009 rfl ?_
  refine lw_ld C ld_1010 (lw_ix hi _ (by decide) (by decide)) ?_
  obtain ⟨fs, hca⟩ := lw_o1 hg
  refine lw_cv C (a := 352) (as := [.inl (xs (i + Int32.ofInt 1).toNatClampNeg).toInt]) (asc := [.int (xs (i + Int32.ofInt 1).toNatClampNeg)]) (r := []) lq_284 ln_284 lk_284 lz_284 rfl ld_1011 (um_unlike (lw_r _) hl) (by decide) (⟨⟨_, rfl, rfl⟩, trivial⟩) hg rfl (by decide) (Nat.le_of_ble_eq_true rfl) hca hc (fun v h2 a2 W2 o2 g2 p2 => ?_)
  obtain ⟨n2, rfl, -⟩ := lw_an p2.1 o2
  refine lw_p C ld_1014 rfl ?_
  exact next h2 W2 g2 p2.2
theorem lca_29 {p : Program} {l : Launch} {e : Env} {s : State} {m : MethodId} {args : Array Value} {below : List Frame} {meth : Method} {c : Code} {D : va_G} {B : jm_E} {cells slots : Nat} {Q : State → Prop} {L : Nat} {xs : Nat → Int32} {i : Int32} {h : jm_H} {W : fw_W} (C : lw_C p s m args meth c D B L xs) (hi : lw_at L i) (hc : cells ≤ room_1.cells ∧ slots ≤ room_1.slots) (hg : fw_gh W fw_T h) (hl : li W) (next : ∀ (h2 : jm_H) (W2 : fw_W), fw_gh W2 fw_T h2 → li W2 → jm_W p l e room_1 s m args below meth c 4 D B cells slots Q 1005 (lw_lv i) [] h2) : jm_W p l e room_1 s m args below meth c 4 D B cells slots Q 995 (lw_lv i) [] h := by
  refine lw_p C ld_995 rfl ?_
  refine lw_p C ld_996 rfl ?_
  refine lw_p C ld_997 rfl ?_
  refine lw_p C ld_998 rfl ?_
  refine lw_p C ld_999 rfl ?_
  refine lw_ld C ld_1000 (lw_ix hi _ (by decide) (by decide)) ?_
  obtain ⟨fs, hca⟩ := lw_o0 hg
  refine lw_cv C (a := 0) (as := [.inl (xs (i + Int32.ofInt 1).toNatClampNeg).toInt]) (asc := [.int (xs (i + Int32.ofInt 1).toNatClampNeg)]) (r := []) lq_175 ln_175 lk_175 lz_175 rfl ld_1001 (uk_unlike (lw_r _) hl) (by decide) (⟨⟨_, rfl, rfl⟩, trivial⟩) hg rfl (by decide) (Nat.le_of_ble_eq_true rfl) hca hc (fun v h2 a2 W2 o2 g2 p2 => ?_)
  obtain ⟨n2, rfl, -⟩ := lw_an p2.1 o2
  refine lw_p C ld_1004 rfl ?_
  exact next h2 W2 g2 p2.2
theorem lc_29 {p : Program} {l : Launch} {e : Env} {s : State} {m : MethodId} {args : Array Value} {below : List Frame} {meth : Method} {c : Code} {D : va_G} {B : jm_E} {cells slots : Nat} {Q : State → Prop} {L : Nat} {xs : Nat → Int32} {i : Int32} {h : jm_H} {W : fw_W} (C : lw_C p s m args meth c D B L xs) (hi : lw_at L i) (hc : cells ≤ room_1.cells ∧ slots ≤ room_1.slots) (hg : fw_gh W fw_T h) (hl : li W) (next : ∀ (h2 : jm_H) (W2 : fw_W), fw_gh W2 fw_T h2 → li W2 → jm_W p l e room_1 s m args below meth c 4 D B cells slots Q 1417 (lw_lv i) [] h2) : jm_W p l e room_1 s m args below meth c 4 D B cells slots Q 995 (lw_lv i) [] h := lca_29 C hi hc hg hl (fun h2 W2 g2 l2 => lcb_29 C hi hc g2 l2 (fun h3 W3 g3 l3 => lw_p C ld_1015 rfl (next h3 W3 g3 l3)))
theorem lcb_30 {p : Program} {l : Launch} {e : Env} {s : State} {m : MethodId} {args : Array Value} {below : List Frame} {meth : Method} {c : Code} {D : va_G} {B : jm_E} {cells slots : Nat} {Q : State → Prop} {L : Nat} {xs : Nat → Int32} {i : Int32} {h : jm_H} {W : fw_W} (C : lw_C p s m args meth c D B L xs) (hi : lw_at L i) (hc : cells ≤ room_1.cells ∧ slots ≤ room_1.slots) (hg : fw_gh W fw_T h) (hl : li W) (next : ∀ (h2 : jm_H) (W2 : fw_W), fw_gh W2 fw_T h2 → li W2 → jm_W p l e room_1 s m args below meth c 4 D B cells slots Q 1028 (lw_lv i) [] h2) : jm_W p l e room_1 s m args below meth c 4 D B cells slots Q 1023 (lw_lv i) [] h := by
  refine lw_p C ld_1023 rfl ?_
  obtain ⟨fs, hca⟩ := lw_o1 hg
  refine lw_cv C (a := 352) (as := []) (asc := []) (r := []) lq_286 ln_286 lk_286 lz_286 rfl ld_1024 (um_marks  hl) (by decide) (trivial) hg rfl (by decide) (Nat.le_of_ble_eq_true rfl) hca hc (fun v h2 a2 W2 o2 g2 p2 => ?_)
  obtain ⟨n2, rfl, -⟩ := lw_an p2.1 o2
  refine lw_p C ld_1027 rfl ?_
  exact next h2 W2 g2 p2.2
theorem lca_30 {p : Program} {l : Launch} {e : Env} {s : State} {m : MethodId} {args : Array Value} {below : List Frame} {meth : Method} {c : Code} {D : va_G} {B : jm_E} {cells slots : Nat} {Q : State → Prop} {L : Nat} {xs : Nat → Int32} {i : Int32} {h : jm_H} {W : fw_W} (C : lw_C p s m args meth c D B L xs) (hi : lw_at L i) (hc : cells ≤ room_1.cells ∧ slots ≤ room_1.slots) (hg : fw_gh W fw_T h) (hl : li W) (next : ∀ (h2 : jm_H) (W2 : fw_W), fw_gh W2 fw_T h2 → li W2 → jm_W p l e room_1 s m args below meth c 4 D B cells slots Q 1023 (lw_lv i) [] h2) : jm_W p l e room_1 s m args below meth c 4 D B cells slots Q 1018 (lw_lv i) [] h := by
  refine lw_p C ld_1018 rfl ?_
  obtain ⟨fs, hca⟩ := lw_o0 hg
  refine lw_cv C (a := 0) (as := []) (asc := []) (r := []) lq_176 ln_176 lk_176 lz_176 rfl ld_1019 (uk_marks  hl) (by decide) (trivial) hg rfl (by decide) (Nat.le_of_ble_eq_true rfl) hca hc (fun v h2 a2 W2 o2 g2 p2 => ?_)
  obtain ⟨n2, rfl, -⟩ := lw_an p2.1 o2
  refine lw_p C ld_1022 rfl ?_
  exact next h2 W2 g2 p2.2
theorem lc_30 {p : Program} {l : Launch} {e : Env} {s : State} {m : MethodId} {args : Array Value} {below : List Frame} {meth : Method} {c : Code} {D : va_G} {B : jm_E} {cells slots : Nat} {Q : State → Prop} {L : Nat} {xs : Nat → Int32} {i : Int32} {h : jm_H} {W : fw_W} (C : lw_C p s m args meth c D B L xs) (hi : lw_at L i) (hc : cells ≤ room_1.cells ∧ slots ≤ room_1.slots) (hg : fw_gh W fw_T h) (hl : li W) (next : ∀ (h2 : jm_H) (W2 : fw_W), fw_gh W2 fw_T h2 → li W2 → jm_W p l e room_1 s m args below meth c 4 D B cells slots Q 1417 (lw_lv i) [] h2) : jm_W p l e room_1 s m args below meth c 4 D B cells slots Q 1018 (lw_lv i) [] h := lca_30 C hi hc hg hl (fun h2 W2 g2 l2 => lcb_30 C hi hc g2 l2 (fun h3 W3 g3 l3 => lw_p C ld_1028 rfl (next h3 W3 g3 l3)))
theorem lcb_31 {p : Program} {l : Launch} {e : Env} {s : State} {m : MethodId} {args : Array Value} {below : List Frame} {meth : Method} {c : Code} {D : va_G} {B : jm_E} {cells slots : Nat} {Q : State → Prop} {L : Nat} {xs : Nat → Int32} {i : Int32} {h : jm_H} {W : fw_W} (C : lw_C p s m args meth c D B L xs) (hi : lw_at L i) (hc : cells ≤ room_1.cells ∧ slots ≤ room_1.slots) (hg : fw_gh W fw_T h) (hl : li W) (next : ∀ (h2 : jm_H) (W2 : fw_W), fw_gh W2 fw_T h2 → li W2 → jm_W p l e room_1 s m args below meth c 4 D B cells slots Q 1091 (lw_lv i) [] h2) : jm_W p l e room_1 s m args below meth c 4 D B cells slots Q 1061 (lw_lv i) [] h := by
  refine lw_p C ld_1061 rfl ?_
  refine lw_p C ld_1062 rfl ?_
  refine lw_p C ld_1063 rfl ?_
  refine lw_p C ld_1064 rfl ?_
  refine lw_p C ld_1065 rfl ?_
  refine lw_ld C ld_1066 (lw_ix hi _ (by decide) (by decide)) ?_
  refine lw_p C ld_1067 rfl ?_
  refine lw_p C ld_1068 rfl ?_
  refine lw_p C ld_1069 rfl ?_
  refine lw_p C ld_1070 rfl ?_
  refine lw_ld C ld_1071 (lw_ix hi _ (by decide) (by decide)) ?_
  refine lw_p C ld_1072 rfl ?_
  refine lw_p C ld_1073 rfl ?_
  refine lw_p C ld_1075 rfl ?_
  refine lw_p C ld_1076 rfl ?_
  refine lw_p C ld_1077 rfl ?_
  refine lw_p C ld_1078 rfl ?_
  refine lw_p C ld_1079 rfl ?_
  refine lw_ld C ld_1080 (lw_ix hi _ (by decide) (by decide)) ?_
  refine lw_p C ld_1081 rfl ?_
  refine lw_l2 C lw_c146 ld_1082 ?_
  refine lw_p C ld_1085 rfl ?_
  refine lw_p C ld_1086 rfl ?_
  obtain ⟨fs, hca⟩ := lw_o1 hg
  refine lw_cv C (a := 352) (as := [.inl (xs (i + Int32.ofInt 1).toNatClampNeg).toInt, .inr (.inr 1000)]) (asc := [.int (xs (i + Int32.ofInt 1).toNatClampNeg), .long _]) (r := []) lq_288 ln_288 lk_288 lz_288 rfl ld_1087 (um_grown (lw_r _) hl) (by decide) (⟨⟨_, rfl, rfl⟩, ⟨fw_v_any _ _, trivial⟩⟩) hg rfl (by decide) (Nat.le_of_ble_eq_true rfl) hca hc (fun v h2 a2 W2 o2 g2 p2 => ?_)
  obtain ⟨n2, rfl, -⟩ := lw_an p2.1 o2
  refine lw_p C ld_1090 rfl ?_
  exact next h2 W2 g2 p2.2
theorem lca_31 {p : Program} {l : Launch} {e : Env} {s : State} {m : MethodId} {args : Array Value} {below : List Frame} {meth : Method} {c : Code} {D : va_G} {B : jm_E} {cells slots : Nat} {Q : State → Prop} {L : Nat} {xs : Nat → Int32} {i : Int32} {h : jm_H} {W : fw_W} (C : lw_C p s m args meth c D B L xs) (hi : lw_at L i) (hc : cells ≤ room_1.cells ∧ slots ≤ room_1.slots) (hg : fw_gh W fw_T h) (hl : li W) (next : ∀ (h2 : jm_H) (W2 : fw_W), fw_gh W2 fw_T h2 → li W2 → jm_W p l e room_1 s m args below meth c 4 D B cells slots Q 1061 (lw_lv i) [] h2) : jm_W p l e room_1 s m args below meth c 4 D B cells slots Q 1031 (lw_lv i) [] h := by
  refine lw_p C ld_1031 rfl ?_
  refine lw_p C ld_1032 rfl ?_
  refine lw_p C ld_1033 rfl ?_
  refine lw_p C ld_1034 rfl ?_
  refine lw_p C ld_1035 rfl ?_
  refine lw_ld C ld_1036 (lw_ix hi _ (by decide) (by decide)) ?_
  refine lw_p C ld_1037 rfl ?_
  refine lw_p C ld_1038 rfl ?_
  refine lw_p C ld_1039 rfl ?_
  refine lw_p C ld_1040 rfl ?_
  refine lw_ld C ld_1041 (lw_ix hi _ (by decide) (by decide)) ?_
  refine lw_p C ld_1042 rfl ?_
  refine lw_p C ld_1043 rfl ?_
  refine lw_p C ld_1045 rfl ?_
  refine lw_p C ld_1046 rfl ?_
  refine lw_p C ld_1047 rfl ?_
  refine lw_p C ld_1048 rfl ?_
  refine lw_p C ld_1049 rfl ?_
  refine lw_ld C ld_1050 (lw_ix hi _ (by decide) (by decide)) ?_
  refine lw_p C ld_1051 rfl ?_
  refine lw_l2 C lw_c146 ld_1052 ?_
  refine lw_p C ld_1055 rfl ?_
  refine lw_p C ld_1056 rfl ?_
  obtain ⟨fs, hca⟩ := lw_o0 hg
  refine lw_cv C (a := 0) (as := [.inl (xs (i + Int32.ofInt 1).toNatClampNeg).toInt, .inr (.inr 1000)]) (asc := [.int (xs (i + Int32.ofInt 1).toNatClampNeg), .long _]) (r := []) lq_156 ln_156 lk_156 lz_156 rfl ld_1057 (uk_grown (lw_r _) hl) (by decide) (⟨⟨_, rfl, rfl⟩, ⟨fw_v_any _ _, trivial⟩⟩) hg rfl (by decide) (Nat.le_of_ble_eq_true rfl) hca hc (fun v h2 a2 W2 o2 g2 p2 => ?_)
  obtain ⟨n2, rfl, -⟩ := lw_an p2.1 o2
  refine lw_p C ld_1060 rfl ?_
  exact next h2 W2 g2 p2.2
theorem lc_31 {p : Program} {l : Launch} {e : Env} {s : State} {m : MethodId} {args : Array Value} {below : List Frame} {meth : Method} {c : Code} {D : va_G} {B : jm_E} {cells slots : Nat} {Q : State → Prop} {L : Nat} {xs : Nat → Int32} {i : Int32} {h : jm_H} {W : fw_W} (C : lw_C p s m args meth c D B L xs) (hi : lw_at L i) (hc : cells ≤ room_1.cells ∧ slots ≤ room_1.slots) (hg : fw_gh W fw_T h) (hl : li W) (next : ∀ (h2 : jm_H) (W2 : fw_W), fw_gh W2 fw_T h2 → li W2 → jm_W p l e room_1 s m args below meth c 4 D B cells slots Q 1417 (lw_lv i) [] h2) : jm_W p l e room_1 s m args below meth c 4 D B cells slots Q 1031 (lw_lv i) [] h := lca_31 C hi hc hg hl (fun h2 W2 g2 l2 => lcb_31 C hi hc g2 l2 (fun h3 W3 g3 l3 => lw_p C ld_1091 rfl (next h3 W3 g3 l3)))
theorem lcb_33 {p : Program} {l : Launch} {e : Env} {s : State} {m : MethodId} {args : Array Value} {below : List Frame} {meth : Method} {c : Code} {D : va_G} {B : jm_E} {cells slots : Nat} {Q : State → Prop} {L : Nat} {xs : Nat → Int32} {i : Int32} {h : jm_H} {W : fw_W} (C : lw_C p s m args meth c D B L xs) (hi : lw_at L i) (hc : cells ≤ room_1.cells ∧ slots ≤ room_1.slots) (hg : fw_gh W fw_T h) (hl : li W) (next : ∀ (h2 : jm_H) (W2 : fw_W), fw_gh W2 fw_T h2 → li W2 → jm_W p l e room_1 s m args below meth c 4 D B cells slots Q 1157 (lw_lv i) [] h2) : jm_W p l e room_1 s m args below meth c 4 D B cells slots Q 1142 (lw_lv i) [] h := by
  refine lw_p C ld_1142 rfl ?_
  refine lw_p C ld_1143 rfl ?_
  refine lw_p C ld_1144 rfl ?_
  refine lw_p C ld_1145 rfl ?_
  refine lw_p C ld_1146 rfl ?_
  refine lw_ld C ld_1147 (lw_ix hi _ (by decide) (by decide)) ?_
  refine lw_p C ld_1148 rfl ?_
  refine lw_p C ld_1149 rfl ?_
  refine lw_p C ld_1150 rfl ?_
  refine lw_p C ld_1151 rfl ?_
  refine lw_ld C ld_1152 (lw_ix hi _ (by decide) (by decide)) ?_
  obtain ⟨fs, hca⟩ := lw_o1 hg
  refine lw_cv C (a := 352) (as := [.inl (xs (i + Int32.ofInt 1).toNatClampNeg).toInt, .inl (xs (i + Int32.ofInt 2).toNatClampNeg).toInt]) (asc := [.int (xs (i + Int32.ofInt 1).toNatClampNeg), .int (xs (i + Int32.ofInt 2).toNatClampNeg)]) (r := []) lq_298 ln_298 lk_298 lz_298 rfl ld_1153 (um_joined (lw_r _) (lw_r _) hl) (by decide) (⟨⟨_, rfl, rfl⟩, ⟨⟨_, rfl, rfl⟩, trivial⟩⟩) hg rfl (by decide) (Nat.le_of_ble_eq_true rfl) hca hc (fun v h2 a2 W2 o2 g2 p2 => ?_)
  obtain ⟨n2, rfl, -⟩ := lw_an p2.1 o2
  refine lw_p C ld_1156 rfl ?_
  exact next h2 W2 g2 p2.2
theorem lca_33 {p : Program} {l : Launch} {e : Env} {s : State} {m : MethodId} {args : Array Value} {below : List Frame} {meth : Method} {c : Code} {D : va_G} {B : jm_E} {cells slots : Nat} {Q : State → Prop} {L : Nat} {xs : Nat → Int32} {i : Int32} {h : jm_H} {W : fw_W} (C : lw_C p s m args meth c D B L xs) (hi : lw_at L i) (hc : cells ≤ room_1.cells ∧ slots ≤ room_1.slots) (hg : fw_gh W fw_T h) (hl : li W) (next : ∀ (h2 : jm_H) (W2 : fw_W), fw_gh W2 fw_T h2 → li W2 → jm_W p l e room_1 s m args below meth c 4 D B cells slots Q 1142 (lw_lv i) [] h2) : jm_W p l e room_1 s m args below meth c 4 D B cells slots Q 1127 (lw_lv i) [] h := by
  refine lw_p C ld_1127 rfl ?_
  refine lw_p C ld_1128 rfl ?_
  refine lw_p C ld_1129 rfl ?_
  refine lw_p C ld_1130 rfl ?_
  refine lw_p C ld_1131 rfl ?_
  refine lw_ld C ld_1132 (lw_ix hi _ (by decide) (by decide)) ?_
  refine lw_p C ld_1133 rfl ?_
  refine lw_p C ld_1134 rfl ?_
  refine lw_p C ld_1135 rfl ?_
  refine lw_p C ld_1136 rfl ?_
  refine lw_ld C ld_1137 (lw_ix hi _ (by decide) (by decide)) ?_
  obtain ⟨fs, hca⟩ := lw_o0 hg
  refine lw_cv C (a := 0) (as := [.inl (xs (i + Int32.ofInt 1).toNatClampNeg).toInt, .inl (xs (i + Int32.ofInt 2).toNatClampNeg).toInt]) (asc := [.int (xs (i + Int32.ofInt 1).toNatClampNeg), .int (xs (i + Int32.ofInt 2).toNatClampNeg)]) (r := []) lq_150 ln_150 lk_150 lz_150 rfl ld_1138 (uk_joined (lw_r _) (lw_r _) hl) (by decide) (⟨⟨_, rfl, rfl⟩, ⟨⟨_, rfl, rfl⟩, trivial⟩⟩) hg rfl (by decide) (Nat.le_of_ble_eq_true rfl) hca hc (fun v h2 a2 W2 o2 g2 p2 => ?_)
  obtain ⟨n2, rfl, -⟩ := lw_an p2.1 o2
  refine lw_p C ld_1141 rfl ?_
  exact next h2 W2 g2 p2.2
theorem lc_33 {p : Program} {l : Launch} {e : Env} {s : State} {m : MethodId} {args : Array Value} {below : List Frame} {meth : Method} {c : Code} {D : va_G} {B : jm_E} {cells slots : Nat} {Q : State → Prop} {L : Nat} {xs : Nat → Int32} {i : Int32} {h : jm_H} {W : fw_W} (C : lw_C p s m args meth c D B L xs) (hi : lw_at L i) (hc : cells ≤ room_1.cells ∧ slots ≤ room_1.slots) (hg : fw_gh W fw_T h) (hl : li W) (next : ∀ (h2 : jm_H) (W2 : fw_W), fw_gh W2 fw_T h2 → li W2 → jm_W p l e room_1 s m args below meth c 4 D B cells slots Q 1417 (lw_lv i) [] h2) : jm_W p l e room_1 s m args below meth c 4 D B cells slots Q 1127 (lw_lv i) [] h := lca_33 C hi hc hg hl (fun h2 W2 g2 l2 => lcb_33 C hi hc g2 l2 (fun h3 W3 g3 l3 => lw_p C ld_1157 rfl (next h3 W3 g3 l3)))
