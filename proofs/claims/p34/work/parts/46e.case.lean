/-! the law's cases -/
theorem lcb_11 {p : Program} {l : Launch} {e : Env} {s : State} {m : MethodId} {args : Array Value} {below : List Frame} {meth : Method} {c : Code} {D : va_G} {B : jm_E} {cells slots : Nat} {Q : State → Prop} {L : Nat} {xs : Nat → Int32} {i : Int32} {h : jm_H} {W : fw_W} (C : lw_C p s m args meth c D B L xs) (hi : lw_at L i) (hc : cells ≤ room_1.cells ∧ slots ≤ room_1.slots) (hg : fw_gh W fw_T h) (hl : li W) (next : ∀ (h2 : jm_H) (W2 : fw_W), fw_gh W2 fw_T h2 → li W2 → jm_W p l e room_1 s m args below meth c 4 D B cells slots Q 599 (lw_lv i) [] h2) : jm_W p l e room_1 s m args below meth c 4 D B cells slots Q 584 (lw_lv i) [] h := by
  refine lw_p C ld_584 rfl ?_
  refine lw_p C ld_585 rfl ?_
  refine lw_p C ld_586 rfl ?_
  refine lw_p C ld_587 rfl ?_
  refine lw_p C ld_588 rfl ?_
  refine lw_ld C ld_589 (lw_ix hi _ (by decide) (by decide)) ?_
  refine lw_p C ld_590 rfl ?_
  refine lw_p C ld_591 rfl ?_
  refine lw_p C ld_592 rfl ?_
  refine lw_p C ld_593 rfl ?_
  refine lw_ld C ld_594 (lw_ix hi _ (by decide) (by decide)) ?_
  obtain ⟨fs, hca⟩ := lw_o1 hg
  refine lw_cv C (a := 352) (as := [.inl (xs (i + Int32.ofInt 1).toNatClampNeg).toInt, .inl (xs (i + Int32.ofInt 2).toNatClampNeg).toInt]) (asc := [.int (xs (i + Int32.ofInt 1).toNatClampNeg), .int (xs (i + Int32.ofInt 2).toNatClampNeg)]) (r := []) lq_239 ln_239 lk_239 lz_239 rfl ld_595 (um_move (lw_r _) (lw_r _) hl) (by decide) (⟨⟨_, rfl, rfl⟩, ⟨⟨_, rfl, rfl⟩, trivial⟩⟩) hg rfl (by decide) (Nat.le_of_ble_eq_true rfl) hca hc (fun v h2 a2 W2 o2 g2 p2 => ?_)
  obtain ⟨n2, rfl, -⟩ := lw_an p2.1 o2
  refine lw_p C ld_598 rfl ?_
  exact next h2 W2 g2 p2.2
theorem lca_11 {p : Program} {l : Launch} {e : Env} {s : State} {m : MethodId} {args : Array Value} {below : List Frame} {meth : Method} {c : Code} {D : va_G} {B : jm_E} {cells slots : Nat} {Q : State → Prop} {L : Nat} {xs : Nat → Int32} {i : Int32} {h : jm_H} {W : fw_W} (C : lw_C p s m args meth c D B L xs) (hi : lw_at L i) (hc : cells ≤ room_1.cells ∧ slots ≤ room_1.slots) (hg : fw_gh W fw_T h) (hl : li W) (next : ∀ (h2 : jm_H) (W2 : fw_W), fw_gh W2 fw_T h2 → li W2 → jm_W p l e room_1 s m args below meth c 4 D B cells slots Q 584 (lw_lv i) [] h2) : jm_W p l e room_1 s m args below meth c 4 D B cells slots Q 569 (lw_lv i) [] h := by
  refine lw_p C ld_569 rfl ?_
  refine lw_p C ld_570 rfl ?_
  refine lw_p C ld_571 rfl ?_
  refine lw_p C ld_572 rfl ?_
  refine lw_p C ld_573 rfl ?_
  refine lw_ld C ld_574 (lw_ix hi _ (by decide) (by decide)) ?_
  refine lw_p C ld_575 rfl ?_
  refine lw_p C ld_576 rfl ?_
  refine lw_p C ld_577 rfl ?_
  refine lw_p C ld_578 rfl ?_
  refine lw_ld C ld_579 (lw_ix hi _ (by decide) (by decide)) ?_
  obtain ⟨fs, hca⟩ := lw_o0 hg
  refine lw_cv C (a := 0) (as := [.inl (xs (i + Int32.ofInt 1).toNatClampNeg).toInt, .inl (xs (i + Int32.ofInt 2).toNatClampNeg).toInt]) (asc := [.int (xs (i + Int32.ofInt 1).toNatClampNeg), .int (xs (i + Int32.ofInt 2).toNatClampNeg)]) (r := []) lq_153 ln_153 lk_153 lz_153 rfl ld_580 (uk_move (lw_r _) (lw_r _) hl) (by decide) (⟨⟨_, rfl, rfl⟩, ⟨⟨_, rfl, rfl⟩, trivial⟩⟩) hg rfl (by decide) (Nat.le_of_ble_eq_true rfl) hca hc (fun v h2 a2 W2 o2 g2 p2 => ?_)
  obtain ⟨n2, rfl, -⟩ := lw_an p2.1 o2
  refine lw_p C ld_583 rfl ?_
  exact next h2 W2 g2 p2.2
theorem lc_11 {p : Program} {l : Launch} {e : Env} {s : State} {m : MethodId} {args : Array Value} {below : List Frame} {meth : Method} {c : Code} {D : va_G} {B : jm_E} {cells slots : Nat} {Q : State → Prop} {L : Nat} {xs : Nat → Int32} {i : Int32} {h : jm_H} {W : fw_W} (C : lw_C p s m args meth c D B L xs) (hi : lw_at L i) (hc : cells ≤ room_1.cells ∧ slots ≤ room_1.slots) (hg : fw_gh W fw_T h) (hl : li W) (next : ∀ (h2 : jm_H) (W2 : fw_W), fw_gh W2 fw_T h2 → li W2 → jm_W p l e room_1 s m args below meth c 4 D B cells slots Q 1417 (lw_lv i) [] h2) : jm_W p l e room_1 s m args below meth c 4 D B cells slots Q 569 (lw_lv i) [] h := lca_11 C hi hc hg hl (fun h2 W2 g2 l2 => lcb_11 C hi hc g2 l2 (fun h3 W3 g3 l3 => lw_p C ld_599 rfl (next h3 W3 g3 l3)))
theorem lcb_12 {p : Program} {l : Launch} {e : Env} {s : State} {m : MethodId} {args : Array Value} {below : List Frame} {meth : Method} {c : Code} {D : va_G} {B : jm_E} {cells slots : Nat} {Q : State → Prop} {L : Nat} {xs : Nat → Int32} {i : Int32} {h : jm_H} {W : fw_W} (C : lw_C p s m args meth c D B L xs) (hi : lw_at L i) (hc : cells ≤ room_1.cells ∧ slots ≤ room_1.slots) (hg : fw_gh W fw_T h) (hl : li W) (next : ∀ (h2 : jm_H) (W2 : fw_W), fw_gh W2 fw_T h2 → li W2 → jm_W p l e room_1 s m args below meth c 4 D B cells slots Q 632 (lw_lv i) [] h2) : jm_W p l e room_1 s m args below meth c 4 D B cells slots Q 617 (lw_lv i) [] h := by
  refine lw_p C ld_617 rfl ?_
  refine lw_p C ld_618 rfl ?_
  refine lw_p C ld_619 rfl ?_
  refine lw_p C ld_620 rfl ?_
  refine lw_p C ld_621 rfl ?_
  refine lw_ld C ld_622 (lw_ix hi _ (by decide) (by decide)) ?_
  refine lw_p C ld_623 rfl ?_
  refine lw_p C ld_624 rfl ?_
  refine lw_p C ld_625 rfl ?_
  refine lw_p C ld_626 rfl ?_
  refine lw_ld C ld_627 (lw_ix hi _ (by decide) (by decide)) ?_
  obtain ⟨fs, hca⟩ := lw_o1 hg
  refine lw_cv C (a := 352) (as := [.inl (xs (i + Int32.ofInt 1).toNatClampNeg).toInt, .inl (xs (i + Int32.ofInt 2).toNatClampNeg).toInt]) (asc := [.int (xs (i + Int32.ofInt 1).toNatClampNeg), .int (xs (i + Int32.ofInt 2).toNatClampNeg)]) (r := []) lq_241 ln_241 lk_241 lz_241 rfl ld_628 (um_live (lw_r _) (lw_r _) hl) (by decide) (⟨⟨_, rfl, rfl⟩, ⟨⟨_, rfl, rfl⟩, trivial⟩⟩) hg rfl (by decide) (Nat.le_of_ble_eq_true rfl) hca hc (fun v h2 a2 W2 o2 g2 p2 => ?_)
  obtain ⟨n2, rfl, -⟩ := lw_an p2.1 o2
  refine lw_p C ld_631 rfl ?_
  exact next h2 W2 g2 p2.2
theorem lca_12 {p : Program} {l : Launch} {e : Env} {s : State} {m : MethodId} {args : Array Value} {below : List Frame} {meth : Method} {c : Code} {D : va_G} {B : jm_E} {cells slots : Nat} {Q : State → Prop} {L : Nat} {xs : Nat → Int32} {i : Int32} {h : jm_H} {W : fw_W} (C : lw_C p s m args meth c D B L xs) (hi : lw_at L i) (hc : cells ≤ room_1.cells ∧ slots ≤ room_1.slots) (hg : fw_gh W fw_T h) (hl : li W) (next : ∀ (h2 : jm_H) (W2 : fw_W), fw_gh W2 fw_T h2 → li W2 → jm_W p l e room_1 s m args below meth c 4 D B cells slots Q 617 (lw_lv i) [] h2) : jm_W p l e room_1 s m args below meth c 4 D B cells slots Q 602 (lw_lv i) [] h := by
  refine lw_p C ld_602 rfl ?_
  refine lw_p C ld_603 rfl ?_
  refine lw_p C ld_604 rfl ?_
  refine lw_p C ld_605 rfl ?_
  refine lw_p C ld_606 rfl ?_
  refine lw_ld C ld_607 (lw_ix hi _ (by decide) (by decide)) ?_
  refine lw_p C ld_608 rfl ?_
  refine lw_p C ld_609 rfl ?_
  refine lw_p C ld_610 rfl ?_
  refine lw_p C ld_611 rfl ?_
  refine lw_ld C ld_612 (lw_ix hi _ (by decide) (by decide)) ?_
  obtain ⟨fs, hca⟩ := lw_o0 hg
  refine lw_cv C (a := 0) (as := [.inl (xs (i + Int32.ofInt 1).toNatClampNeg).toInt, .inl (xs (i + Int32.ofInt 2).toNatClampNeg).toInt]) (asc := [.int (xs (i + Int32.ofInt 1).toNatClampNeg), .int (xs (i + Int32.ofInt 2).toNatClampNeg)]) (r := []) lq_154 ln_154 lk_154 lz_154 rfl ld_613 (uk_live (lw_r _) (lw_r _) hl) (by decide) (⟨⟨_, rfl, rfl⟩, ⟨⟨_, rfl, rfl⟩, trivial⟩⟩) hg rfl (by decide) (Nat.le_of_ble_eq_true rfl) hca hc (fun v h2 a2 W2 o2 g2 p2 => ?_)
  obtain ⟨n2, rfl, -⟩ := lw_an p2.1 o2
  refine lw_p C ld_616 rfl ?_
  exact next h2 W2 g2 p2.2
theorem lc_12 {p : Program} {l : Launch} {e : Env} {s : State} {m : MethodId} {args : Array Value} {below : List Frame} {meth : Method} {c : Code} {D : va_G} {B : jm_E} {cells slots : Nat} {Q : State → Prop} {L : Nat} {xs : Nat → Int32} {i : Int32} {h : jm_H} {W : fw_W} (C : lw_C p s m args meth c D B L xs) (hi : lw_at L i) (hc : cells ≤ room_1.cells ∧ slots ≤ room_1.slots) (hg : fw_gh W fw_T h) (hl : li W) (next : ∀ (h2 : jm_H) (W2 : fw_W), fw_gh W2 fw_T h2 → li W2 → jm_W p l e room_1 s m args below meth c 4 D B cells slots Q 1417 (lw_lv i) [] h2) : jm_W p l e room_1 s m args below meth c 4 D B cells slots Q 602 (lw_lv i) [] h := lca_12 C hi hc hg hl (fun h2 W2 g2 l2 => lcb_12 C hi hc g2 l2 (fun h3 W3 g3 l3 => lw_p C ld_632 rfl (next h3 W3 g3 l3)))
theorem lcb_13 {p : Program} {l : Launch} {e : Env} {s : State} {m : MethodId} {args : Array Value} {below : List Frame} {meth : Method} {c : Code} {D : va_G} {B : jm_E} {cells slots : Nat} {Q : State → Prop} {L : Nat} {xs : Nat → Int32} {i : Int32} {h : jm_H} {W : fw_W} (C : lw_C p s m args meth c D B L xs) (hi : lw_at L i) (hc : cells ≤ room_1.cells ∧ slots ≤ room_1.slots) (hg : fw_gh W fw_T h) (hl : li W) (next : ∀ (h2 : jm_H) (W2 : fw_W), fw_gh W2 fw_T h2 → li W2 → jm_W p l e room_1 s m args below meth c 4 D B cells slots Q 655 (lw_lv i) [] h2) : jm_W p l e room_1 s m args below meth c 4 D B cells slots Q 645 (lw_lv i) [] h := by
  refine lw_p C ld_645 rfl ?_
  refine lw_p C ld_646 rfl ?_
  refine lw_p C ld_647 rfl ?_
  refine lw_p C ld_648 rfl ?_
  refine lw_p C ld_649 rfl ?_
  refine lw_ld C ld_650 (lw_ix hi _ (by decide) (by decide)) ?_
  obtain ⟨fs, hca⟩ := lw_o1 hg
  refine lw_cv C (a := 352) (as := [.inl (xs (i + Int32.ofInt 1).toNatClampNeg).toInt]) (asc := [.int (xs (i + Int32.ofInt 1).toNatClampNeg)]) (r := []) lq_242 ln_242 lk_242 lz_242 rfl ld_651 (um_years (lw_r _) hl) (by decide) (⟨⟨_, rfl, rfl⟩, trivial⟩) hg rfl (by decide) (Nat.le_of_ble_eq_true rfl) hca hc (fun v h2 a2 W2 o2 g2 p2 => ?_)
  obtain ⟨n2, rfl, -⟩ := lw_an p2.1 o2
  refine lw_p C ld_654 rfl ?_
  exact next h2 W2 g2 p2.2
theorem lca_13 {p : Program} {l : Launch} {e : Env} {s : State} {m : MethodId} {args : Array Value} {below : List Frame} {meth : Method} {c : Code} {D : va_G} {B : jm_E} {cells slots : Nat} {Q : State → Prop} {L : Nat} {xs : Nat → Int32} {i : Int32} {h : jm_H} {W : fw_W} (C : lw_C p s m args meth c D B L xs) (hi : lw_at L i) (hc : cells ≤ room_1.cells ∧ slots ≤ room_1.slots) (hg : fw_gh W fw_T h) (hl : li W) (next : ∀ (h2 : jm_H) (W2 : fw_W), fw_gh W2 fw_T h2 → li W2 → jm_W p l e room_1 s m args below meth c 4 D B cells slots Q 645 (lw_lv i) [] h2) : jm_W p l e room_1 s m args below meth c 4 D B cells slots Q 635 (lw_lv i) [] h := by
  refine lw_p C ld_635 rfl ?_
  refine lw_p C ld_636 rfl ?_
  refine lw_p C ld_637 rfl ?_
  refine lw_p C ld_638 rfl ?_
  refine lw_p C ld_639 rfl ?_
  refine lw_ld C ld_640 (lw_ix hi _ (by decide) (by decide)) ?_
  obtain ⟨fs, hca⟩ := lw_o0 hg
  refine lw_cv C (a := 0) (as := [.inl (xs (i + Int32.ofInt 1).toNatClampNeg).toInt]) (asc := [.int (xs (i + Int32.ofInt 1).toNatClampNeg)]) (r := []) lq_155 ln_155 lk_155 lz_155 rfl ld_641 (uk_years (lw_r _) hl) (by decide) (⟨⟨_, rfl, rfl⟩, trivial⟩) hg rfl (by decide) (Nat.le_of_ble_eq_true rfl) hca hc (fun v h2 a2 W2 o2 g2 p2 => ?_)
  obtain ⟨n2, rfl, -⟩ := lw_an p2.1 o2
  refine lw_p C ld_644 rfl ?_
  exact next h2 W2 g2 p2.2
theorem lc_13 {p : Program} {l : Launch} {e : Env} {s : State} {m : MethodId} {args : Array Value} {below : List Frame} {meth : Method} {c : Code} {D : va_G} {B : jm_E} {cells slots : Nat} {Q : State → Prop} {L : Nat} {xs : Nat → Int32} {i : Int32} {h : jm_H} {W : fw_W} (C : lw_C p s m args meth c D B L xs) (hi : lw_at L i) (hc : cells ≤ room_1.cells ∧ slots ≤ room_1.slots) (hg : fw_gh W fw_T h) (hl : li W) (next : ∀ (h2 : jm_H) (W2 : fw_W), fw_gh W2 fw_T h2 → li W2 → jm_W p l e room_1 s m args below meth c 4 D B cells slots Q 1417 (lw_lv i) [] h2) : jm_W p l e room_1 s m args below meth c 4 D B cells slots Q 635 (lw_lv i) [] h := lca_13 C hi hc hg hl (fun h2 W2 g2 l2 => lcb_13 C hi hc g2 l2 (fun h3 W3 g3 l3 => lw_p C ld_655 rfl (next h3 W3 g3 l3)))
theorem lcb_14 {p : Program} {l : Launch} {e : Env} {s : State} {m : MethodId} {args : Array Value} {below : List Frame} {meth : Method} {c : Code} {D : va_G} {B : jm_E} {cells slots : Nat} {Q : State → Prop} {L : Nat} {xs : Nat → Int32} {i : Int32} {h : jm_H} {W : fw_W} (C : lw_C p s m args meth c D B L xs) (hi : lw_at L i) (hc : cells ≤ room_1.cells ∧ slots ≤ room_1.slots) (hg : fw_gh W fw_T h) (hl : li W) (next : ∀ (h2 : jm_H) (W2 : fw_W), fw_gh W2 fw_T h2 → li W2 → jm_W p l e room_1 s m args below meth c 4 D B cells slots Q 668 (lw_lv i) [] h2) : jm_W p l e room_1 s m args below meth c 4 D B cells slots Q 663 (lw_lv i) [] h := by
  refine lw_p C ld_663 rfl ?_
  obtain ⟨fs, hca⟩ := lw_o1 hg
  refine lw_cv C (a := 352) (as := []) (asc := []) (r := []) lq_244 ln_244 lk_244 lz_244 rfl ld_664 (um_undo  hl) (by decide) (trivial) hg rfl (by decide) (Nat.le_of_ble_eq_true rfl) hca hc (fun v h2 a2 W2 o2 g2 p2 => ?_)
  obtain ⟨n2, rfl, -⟩ := lw_an p2.1 o2
  refine lw_p C ld_667 rfl ?_
  exact next h2 W2 g2 p2.2
theorem lca_14 {p : Program} {l : Launch} {e : Env} {s : State} {m : MethodId} {args : Array Value} {below : List Frame} {meth : Method} {c : Code} {D : va_G} {B : jm_E} {cells slots : Nat} {Q : State → Prop} {L : Nat} {xs : Nat → Int32} {i : Int32} {h : jm_H} {W : fw_W} (C : lw_C p s m args meth c D B L xs) (hi : lw_at L i) (hc : cells ≤ room_1.cells ∧ slots ≤ room_1.slots) (hg : fw_gh W fw_T h) (hl : li W) (next : ∀ (h2 : jm_H) (W2 : fw_W), fw_gh W2 fw_T h2 → li W2 → jm_W p l e room_1 s m args below meth c 4 D B cells slots Q 663 (lw_lv i) [] h2) : jm_W p l e room_1 s m args below meth c 4 D B cells slots Q 658 (lw_lv i) [] h := by
  refine lw_p C ld_658 rfl ?_
  obtain ⟨fs, hca⟩ := lw_o0 hg
  refine lw_cv C (a := 0) (as := []) (asc := []) (r := []) lq_157 ln_157 lk_157 lz_157 rfl ld_659 (uk_undo  hl) (by decide) (trivial) hg rfl (by decide) (Nat.le_of_ble_eq_true rfl) hca hc (fun v h2 a2 W2 o2 g2 p2 => ?_)
  obtain ⟨n2, rfl, -⟩ := lw_an p2.1 o2
  refine lw_p C ld_662 rfl ?_
  exact next h2 W2 g2 p2.2
theorem lc_14 {p : Program} {l : Launch} {e : Env} {s : State} {m : MethodId} {args : Array Value} {below : List Frame} {meth : Method} {c : Code} {D : va_G} {B : jm_E} {cells slots : Nat} {Q : State → Prop} {L : Nat} {xs : Nat → Int32} {i : Int32} {h : jm_H} {W : fw_W} (C : lw_C p s m args meth c D B L xs) (hi : lw_at L i) (hc : cells ≤ room_1.cells ∧ slots ≤ room_1.slots) (hg : fw_gh W fw_T h) (hl : li W) (next : ∀ (h2 : jm_H) (W2 : fw_W), fw_gh W2 fw_T h2 → li W2 → jm_W p l e room_1 s m args below meth c 4 D B cells slots Q 1417 (lw_lv i) [] h2) : jm_W p l e room_1 s m args below meth c 4 D B cells slots Q 658 (lw_lv i) [] h := lca_14 C hi hc hg hl (fun h2 W2 g2 l2 => lcb_14 C hi hc g2 l2 (fun h3 W3 g3 l3 => lw_p C ld_668 rfl (next h3 W3 g3 l3)))
theorem lcb_15 {p : Program} {l : Launch} {e : Env} {s : State} {m : MethodId} {args : Array Value} {below : List Frame} {meth : Method} {c : Code} {D : va_G} {B : jm_E} {cells slots : Nat} {Q : State → Prop} {L : Nat} {xs : Nat → Int32} {i : Int32} {h : jm_H} {W : fw_W} (C : lw_C p s m args meth c D B L xs) (hi : lw_at L i) (hc : cells ≤ room_1.cells ∧ slots ≤ room_1.slots) (hg : fw_gh W fw_T h) (hl : li W) (next : ∀ (h2 : jm_H) (W2 : fw_W), fw_gh W2 fw_T h2 → li W2 → jm_W p l e room_1 s m args below meth c 4 D B cells slots Q 681 (lw_lv i) [] h2) : jm_W p l e room_1 s m args below meth c 4 D B cells slots Q 676 (lw_lv i) [] h := by
  refine lw_p C ld_676 rfl ?_
  obtain ⟨fs, hca⟩ := lw_o1 hg
  refine lw_cv C (a := 352) (as := []) (asc := []) (r := []) lq_246 ln_246 lk_246 lz_246 rfl ld_677 (um_redo  hl) (by decide) (trivial) hg rfl (by decide) (Nat.le_of_ble_eq_true rfl) hca hc (fun v h2 a2 W2 o2 g2 p2 => ?_)
  obtain ⟨n2, rfl, -⟩ := lw_an p2.1 o2
  refine lw_p C ld_680 rfl ?_
  exact next h2 W2 g2 p2.2
theorem lca_15 {p : Program} {l : Launch} {e : Env} {s : State} {m : MethodId} {args : Array Value} {below : List Frame} {meth : Method} {c : Code} {D : va_G} {B : jm_E} {cells slots : Nat} {Q : State → Prop} {L : Nat} {xs : Nat → Int32} {i : Int32} {h : jm_H} {W : fw_W} (C : lw_C p s m args meth c D B L xs) (hi : lw_at L i) (hc : cells ≤ room_1.cells ∧ slots ≤ room_1.slots) (hg : fw_gh W fw_T h) (hl : li W) (next : ∀ (h2 : jm_H) (W2 : fw_W), fw_gh W2 fw_T h2 → li W2 → jm_W p l e room_1 s m args below meth c 4 D B cells slots Q 676 (lw_lv i) [] h2) : jm_W p l e room_1 s m args below meth c 4 D B cells slots Q 671 (lw_lv i) [] h := by
  refine lw_p C ld_671 rfl ?_
  obtain ⟨fs, hca⟩ := lw_o0 hg
  refine lw_cv C (a := 0) (as := []) (asc := []) (r := []) lq_158 ln_158 lk_158 lz_158 rfl ld_672 (uk_redo  hl) (by decide) (trivial) hg rfl (by decide) (Nat.le_of_ble_eq_true rfl) hca hc (fun v h2 a2 W2 o2 g2 p2 => ?_)
  obtain ⟨n2, rfl, -⟩ := lw_an p2.1 o2
  refine lw_p C ld_675 rfl ?_
  exact next h2 W2 g2 p2.2
theorem lc_15 {p : Program} {l : Launch} {e : Env} {s : State} {m : MethodId} {args : Array Value} {below : List Frame} {meth : Method} {c : Code} {D : va_G} {B : jm_E} {cells slots : Nat} {Q : State → Prop} {L : Nat} {xs : Nat → Int32} {i : Int32} {h : jm_H} {W : fw_W} (C : lw_C p s m args meth c D B L xs) (hi : lw_at L i) (hc : cells ≤ room_1.cells ∧ slots ≤ room_1.slots) (hg : fw_gh W fw_T h) (hl : li W) (next : ∀ (h2 : jm_H) (W2 : fw_W), fw_gh W2 fw_T h2 → li W2 → jm_W p l e room_1 s m args below meth c 4 D B cells slots Q 1417 (lw_lv i) [] h2) : jm_W p l e room_1 s m args below meth c 4 D B cells slots Q 671 (lw_lv i) [] h := lca_15 C hi hc hg hl (fun h2 W2 g2 l2 => lcb_15 C hi hc g2 l2 (fun h3 W3 g3 l3 => lw_p C ld_681 rfl (next h3 W3 g3 l3)))
theorem lcb_16 {p : Program} {l : Launch} {e : Env} {s : State} {m : MethodId} {args : Array Value} {below : List Frame} {meth : Method} {c : Code} {D : va_G} {B : jm_E} {cells slots : Nat} {Q : State → Prop} {L : Nat} {xs : Nat → Int32} {i : Int32} {h : jm_H} {W : fw_W} (C : lw_C p s m args meth c D B L xs) (hi : lw_at L i) (hc : cells ≤ room_1.cells ∧ slots ≤ room_1.slots) (hg : fw_gh W fw_T h) (hl : li W) (next : ∀ (h2 : jm_H) (W2 : fw_W), fw_gh W2 fw_T h2 → li W2 → jm_W p l e room_1 s m args below meth c 4 D B cells slots Q 704 (lw_lv i) [] h2) : jm_W p l e room_1 s m args below meth c 4 D B cells slots Q 694 (lw_lv i) [] h := by
  refine lw_p C ld_694 rfl ?_
  refine lw_p C ld_695 rfl ?_
  refine lw_p C ld_696 rfl ?_
  refine lw_p C ld_697 rfl ?_
  refine lw_p C ld_698 rfl ?_
  refine lw_ld C ld_699 (lw_ix hi _ (by decide) (by decide)) ?_
  obtain ⟨fs, hca⟩ := lw_o1 hg
  refine lw_cv C (a := 352) (as := [.inl (xs (i + Int32.ofInt 1).toNatClampNeg).toInt]) (asc := [.int (xs (i + Int32.ofInt 1).toNatClampNeg)]) (r := []) lq_247 ln_247 lk_247 lz_247 rfl ld_700 (um_wardens (lw_r _) hl) (by decide) (⟨⟨_, rfl, rfl⟩, trivial⟩) hg rfl (by decide) (Nat.le_of_ble_eq_true rfl) hca hc (fun v h2 a2 W2 o2 g2 p2 => ?_)
  obtain ⟨n2, rfl, -⟩ := lw_an p2.1 o2
  refine lw_p C ld_703 rfl ?_
  exact next h2 W2 g2 p2.2
theorem lca_16 {p : Program} {l : Launch} {e : Env} {s : State} {m : MethodId} {args : Array Value} {below : List Frame} {meth : Method} {c : Code} {D : va_G} {B : jm_E} {cells slots : Nat} {Q : State → Prop} {L : Nat} {xs : Nat → Int32} {i : Int32} {h : jm_H} {W : fw_W} (C : lw_C p s m args meth c D B L xs) (hi : lw_at L i) (hc : cells ≤ room_1.cells ∧ slots ≤ room_1.slots) (hg : fw_gh W fw_T h) (hl : li W) (next : ∀ (h2 : jm_H) (W2 : fw_W), fw_gh W2 fw_T h2 → li W2 → jm_W p l e room_1 s m args below meth c 4 D B cells slots Q 694 (lw_lv i) [] h2) : jm_W p l e room_1 s m args below meth c 4 D B cells slots Q 684 (lw_lv i) [] h := by
  refine lw_p C ld_684 rfl ?_
  refine lw_p C ld_685 rfl ?_
  refine lw_p C ld_686 rfl ?_
  refine lw_p C ld_687 rfl ?_
  refine lw_p C ld_688 rfl ?_
  refine lw_ld C ld_689 (lw_ix hi _ (by decide) (by decide)) ?_
  obtain ⟨fs, hca⟩ := lw_o0 hg
  refine lw_cv C (a := 0) (as := [.inl (xs (i + Int32.ofInt 1).toNatClampNeg).toInt]) (asc := [.int (xs (i + Int32.ofInt 1).toNatClampNeg)]) (r := []) lq_162 ln_162 lk_162 lz_162 rfl ld_690 (uk_wardens (lw_r _) hl) (by decide) (⟨⟨_, rfl, rfl⟩, trivial⟩) hg rfl (by decide) (Nat.le_of_ble_eq_true rfl) hca hc (fun v h2 a2 W2 o2 g2 p2 => ?_)
  obtain ⟨n2, rfl, -⟩ := lw_an p2.1 o2
  refine lw_p C ld_693 rfl ?_
  exact next h2 W2 g2 p2.2
theorem lc_16 {p : Program} {l : Launch} {e : Env} {s : State} {m : MethodId} {args : Array Value} {below : List Frame} {meth : Method} {c : Code} {D : va_G} {B : jm_E} {cells slots : Nat} {Q : State → Prop} {L : Nat} {xs : Nat → Int32} {i : Int32} {h : jm_H} {W : fw_W} (C : lw_C p s m args meth c D B L xs) (hi : lw_at L i) (hc : cells ≤ room_1.cells ∧ slots ≤ room_1.slots) (hg : fw_gh W fw_T h) (hl : li W) (next : ∀ (h2 : jm_H) (W2 : fw_W), fw_gh W2 fw_T h2 → li W2 → jm_W p l e room_1 s m args below meth c 4 D B cells slots Q 1417 (lw_lv i) [] h2) : jm_W p l e room_1 s m args below meth c 4 D B cells slots Q 684 (lw_lv i) [] h := lca_16 C hi hc hg hl (fun h2 W2 g2 l2 => lcb_16 C hi hc g2 l2 (fun h3 W3 g3 l3 => lw_p C ld_704 rfl (next h3 W3 g3 l3)))
theorem lcb_17 {p : Program} {l : Launch} {e : Env} {s : State} {m : MethodId} {args : Array Value} {below : List Frame} {meth : Method} {c : Code} {D : va_G} {B : jm_E} {cells slots : Nat} {Q : State → Prop} {L : Nat} {xs : Nat → Int32} {i : Int32} {h : jm_H} {W : fw_W} (C : lw_C p s m args meth c D B L xs) (hi : lw_at L i) (hc : cells ≤ room_1.cells ∧ slots ≤ room_1.slots) (hg : fw_gh W fw_T h) (hl : li W) (next : ∀ (h2 : jm_H) (W2 : fw_W), fw_gh W2 fw_T h2 → li W2 → jm_W p l e room_1 s m args below meth c 4 D B cells slots Q 717 (lw_lv i) [] h2) : jm_W p l e room_1 s m args below meth c 4 D B cells slots Q 712 (lw_lv i) [] h := by
  refine lw_p C ld_712 rfl ?_
  obtain ⟨fs, hca⟩ := lw_o1 hg
  refine lw_cv C (a := 352) (as := []) (asc := []) (r := []) lq_253 ln_253 lk_253 lz_253 rfl ld_713 (um_quiet  hl) (by decide) (trivial) hg rfl (by decide) (Nat.le_of_ble_eq_true rfl) hca hc (fun v h2 a2 W2 o2 g2 p2 => ?_)
  obtain ⟨n2, rfl, -⟩ := lw_an p2.1 o2
  refine lw_p C ld_716 rfl ?_
  exact next h2 W2 g2 p2.2
theorem lca_17 {p : Program} {l : Launch} {e : Env} {s : State} {m : MethodId} {args : Array Value} {below : List Frame} {meth : Method} {c : Code} {D : va_G} {B : jm_E} {cells slots : Nat} {Q : State → Prop} {L : Nat} {xs : Nat → Int32} {i : Int32} {h : jm_H} {W : fw_W} (C : lw_C p s m args meth c D B L xs) (hi : lw_at L i) (hc : cells ≤ room_1.cells ∧ slots ≤ room_1.slots) (hg : fw_gh W fw_T h) (hl : li W) (next : ∀ (h2 : jm_H) (W2 : fw_W), fw_gh W2 fw_T h2 → li W2 → jm_W p l e room_1 s m args below meth c 4 D B cells slots Q 712 (lw_lv i) [] h2) : jm_W p l e room_1 s m args below meth c 4 D B cells slots Q 707 (lw_lv i) [] h := by
  refine lw_p C ld_707 rfl ?_
  obtain ⟨fs, hca⟩ := lw_o0 hg
  refine lw_cv C (a := 0) (as := []) (asc := []) (r := []) lq_163 ln_163 lk_163 lz_163 rfl ld_708 (uk_quiet  hl) (by decide) (trivial) hg rfl (by decide) (Nat.le_of_ble_eq_true rfl) hca hc (fun v h2 a2 W2 o2 g2 p2 => ?_)
  obtain ⟨n2, rfl, -⟩ := lw_an p2.1 o2
  refine lw_p C ld_711 rfl ?_
  exact next h2 W2 g2 p2.2
theorem lc_17 {p : Program} {l : Launch} {e : Env} {s : State} {m : MethodId} {args : Array Value} {below : List Frame} {meth : Method} {c : Code} {D : va_G} {B : jm_E} {cells slots : Nat} {Q : State → Prop} {L : Nat} {xs : Nat → Int32} {i : Int32} {h : jm_H} {W : fw_W} (C : lw_C p s m args meth c D B L xs) (hi : lw_at L i) (hc : cells ≤ room_1.cells ∧ slots ≤ room_1.slots) (hg : fw_gh W fw_T h) (hl : li W) (next : ∀ (h2 : jm_H) (W2 : fw_W), fw_gh W2 fw_T h2 → li W2 → jm_W p l e room_1 s m args below meth c 4 D B cells slots Q 1417 (lw_lv i) [] h2) : jm_W p l e room_1 s m args below meth c 4 D B cells slots Q 707 (lw_lv i) [] h := lca_17 C hi hc hg hl (fun h2 W2 g2 l2 => lcb_17 C hi hc g2 l2 (fun h3 W3 g3 l3 => lw_p C ld_717 rfl (next h3 W3 g3 l3)))
theorem lcb_18 {p : Program} {l : Launch} {e : Env} {s : State} {m : MethodId} {args : Array Value} {below : List Frame} {meth : Method} {c : Code} {D : va_G} {B : jm_E} {cells slots : Nat} {Q : State → Prop} {L : Nat} {xs : Nat → Int32} {i : Int32} {h : jm_H} {W : fw_W} (C : lw_C p s m args meth c D B L xs) (hi : lw_at L i) (hc : cells ≤ room_1.cells ∧ slots ≤ room_1.slots) (hg : fw_gh W fw_T h) (hl : li W) (next : ∀ (h2 : jm_H) (W2 : fw_W), fw_gh W2 fw_T h2 → li W2 → jm_W p l e room_1 s m args below meth c 4 D B cells slots Q 730 (lw_lv i) [] h2) : jm_W p l e room_1 s m args below meth c 4 D B cells slots Q 725 (lw_lv i) [] h := by
  refine lw_p C ld_725 rfl ?_
  obtain ⟨fs, hca⟩ := lw_o1 hg
  refine lw_cv C (a := 352) (as := []) (asc := []) (r := []) lq_256 ln_256 lk_256 lz_256 rfl ld_726 (um_guards  hl) (by decide) (trivial) hg rfl (by decide) (Nat.le_of_ble_eq_true rfl) hca hc (fun v h2 a2 W2 o2 g2 p2 => ?_)
  obtain ⟨n2, rfl, -⟩ := lw_an p2.1 o2
  refine lw_p C ld_729 rfl ?_
  exact next h2 W2 g2 p2.2
theorem lca_18 {p : Program} {l : Launch} {e : Env} {s : State} {m : MethodId} {args : Array Value} {below : List Frame} {meth : Method} {c : Code} {D : va_G} {B : jm_E} {cells slots : Nat} {Q : State → Prop} {L : Nat} {xs : Nat → Int32} {i : Int32} {h : jm_H} {W : fw_W} (C : lw_C p s m args meth c D B L xs) (hi : lw_at L i) (hc : cells ≤ room_1.cells ∧ slots ≤ room_1.slots) (hg : fw_gh W fw_T h) (hl : li W) (next : ∀ (h2 : jm_H) (W2 : fw_W), fw_gh W2 fw_T h2 → li W2 → jm_W p l e room_1 s m args below meth c 4 D B cells slots Q 725 (lw_lv i) [] h2) : jm_W p l e room_1 s m args below meth c 4 D B cells slots Q 720 (lw_lv i) [] h := by
  refine lw_p C ld_720 rfl ?_
  obtain ⟨fs, hca⟩ := lw_o0 hg
  refine lw_cv C (a := 0) (as := []) (asc := []) (r := []) lq_164 ln_164 lk_164 lz_164 rfl ld_721 (uk_guards  hl) (by decide) (trivial) hg rfl (by decide) (Nat.le_of_ble_eq_true rfl) hca hc (fun v h2 a2 W2 o2 g2 p2 => ?_)
  obtain ⟨n2, rfl, -⟩ := lw_an p2.1 o2
  refine lw_p C ld_724 rfl ?_
  exact next h2 W2 g2 p2.2
theorem lc_18 {p : Program} {l : Launch} {e : Env} {s : State} {m : MethodId} {args : Array Value} {below : List Frame} {meth : Method} {c : Code} {D : va_G} {B : jm_E} {cells slots : Nat} {Q : State → Prop} {L : Nat} {xs : Nat → Int32} {i : Int32} {h : jm_H} {W : fw_W} (C : lw_C p s m args meth c D B L xs) (hi : lw_at L i) (hc : cells ≤ room_1.cells ∧ slots ≤ room_1.slots) (hg : fw_gh W fw_T h) (hl : li W) (next : ∀ (h2 : jm_H) (W2 : fw_W), fw_gh W2 fw_T h2 → li W2 → jm_W p l e room_1 s m args below meth c 4 D B cells slots Q 1417 (lw_lv i) [] h2) : jm_W p l e room_1 s m args below meth c 4 D B cells slots Q 720 (lw_lv i) [] h := lca_18 C hi hc hg hl (fun h2 W2 g2 l2 => lcb_18 C hi hc g2 l2 (fun h3 W3 g3 l3 => lw_p C ld_730 rfl (next h3 W3 g3 l3)))
theorem lcb_19 {p : Program} {l : Launch} {e : Env} {s : State} {m : MethodId} {args : Array Value} {below : List Frame} {meth : Method} {c : Code} {D : va_G} {B : jm_E} {cells slots : Nat} {Q : State → Prop} {L : Nat} {xs : Nat → Int32} {i : Int32} {h : jm_H} {W : fw_W} (C : lw_C p s m args meth c D B L xs) (hi : lw_at L i) (hc : cells ≤ room_1.cells ∧ slots ≤ room_1.slots) (hg : fw_gh W fw_T h) (hl : li W) (next : ∀ (h2 : jm_H) (W2 : fw_W), fw_gh W2 fw_T h2 → li W2 → jm_W p l e room_1 s m args below meth c 4 D B cells slots Q 753 (lw_lv i) [] h2) : jm_W p l e room_1 s m args below meth c 4 D B cells slots Q 743 (lw_lv i) [] h := by
  refine lw_p C ld_743 rfl ?_
  refine lw_p C ld_744 rfl ?_
  refine lw_p C ld_745 rfl ?_
  refine lw_p C ld_746 rfl ?_
  refine lw_p C ld_747 rfl ?_
  refine lw_ld C ld_748 (lw_ix hi _ (by decide) (by decide)) ?_
  obtain ⟨fs, hca⟩ := lw_o1 hg
  refine lw_cv C (a := 352) (as := [.inl (xs (i + Int32.ofInt 1).toNatClampNeg).toInt]) (asc := [.int (xs (i + Int32.ofInt 1).toNatClampNeg)]) (r := []) lq_264 ln_264 lk_264 lz_264 rfl ld_749 (um_news (lw_r _) hl) (by decide) (⟨⟨_, rfl, rfl⟩, trivial⟩) hg rfl (by decide) (Nat.le_of_ble_eq_true rfl) hca hc (fun v h2 a2 W2 o2 g2 p2 => ?_)
  obtain ⟨n2, rfl, -⟩ := lw_an p2.1 o2
  refine lw_p C ld_752 rfl ?_
  exact next h2 W2 g2 p2.2
theorem lca_19 {p : Program} {l : Launch} {e : Env} {s : State} {m : MethodId} {args : Array Value} {below : List Frame} {meth : Method} {c : Code} {D : va_G} {B : jm_E} {cells slots : Nat} {Q : State → Prop} {L : Nat} {xs : Nat → Int32} {i : Int32} {h : jm_H} {W : fw_W} (C : lw_C p s m args meth c D B L xs) (hi : lw_at L i) (hc : cells ≤ room_1.cells ∧ slots ≤ room_1.slots) (hg : fw_gh W fw_T h) (hl : li W) (next : ∀ (h2 : jm_H) (W2 : fw_W), fw_gh W2 fw_T h2 → li W2 → jm_W p l e room_1 s m args below meth c 4 D B cells slots Q 743 (lw_lv i) [] h2) : jm_W p l e room_1 s m args below meth c 4 D B cells slots Q 733 (lw_lv i) [] h := by
  refine lw_p C ld_733 rfl ?_
  refine lw_p C ld_734 rfl ?_
  refine lw_p C ld_735 rfl ?_
  refine lw_p C ld_736 rfl ?_
  refine lw_p C ld_737 rfl ?_
  refine lw_ld C ld_738 (lw_ix hi _ (by decide) (by decide)) ?_
  obtain ⟨fs, hca⟩ := lw_o0 hg
  refine lw_cv C (a := 0) (as := [.inl (xs (i + Int32.ofInt 1).toNatClampNeg).toInt]) (asc := [.int (xs (i + Int32.ofInt 1).toNatClampNeg)]) (r := []) lq_169 ln_169 lk_169 lz_169 rfl ld_739 (uk_news (lw_r _) hl) (by decide) (⟨⟨_, rfl, rfl⟩, trivial⟩) hg rfl (by decide) (Nat.le_of_ble_eq_true rfl) hca hc (fun v h2 a2 W2 o2 g2 p2 => ?_)
  obtain ⟨n2, rfl, -⟩ := lw_an p2.1 o2
  refine lw_p C ld_742 rfl ?_
  exact next h2 W2 g2 p2.2
theorem lc_19 {p : Program} {l : Launch} {e : Env} {s : State} {m : MethodId} {args : Array Value} {below : List Frame} {meth : Method} {c : Code} {D : va_G} {B : jm_E} {cells slots : Nat} {Q : State → Prop} {L : Nat} {xs : Nat → Int32} {i : Int32} {h : jm_H} {W : fw_W} (C : lw_C p s m args meth c D B L xs) (hi : lw_at L i) (hc : cells ≤ room_1.cells ∧ slots ≤ room_1.slots) (hg : fw_gh W fw_T h) (hl : li W) (next : ∀ (h2 : jm_H) (W2 : fw_W), fw_gh W2 fw_T h2 → li W2 → jm_W p l e room_1 s m args below meth c 4 D B cells slots Q 1417 (lw_lv i) [] h2) : jm_W p l e room_1 s m args below meth c 4 D B cells slots Q 733 (lw_lv i) [] h := lca_19 C hi hc hg hl (fun h2 W2 g2 l2 => lcb_19 C hi hc g2 l2 (fun h3 W3 g3 l3 => lw_p C ld_753 rfl (next h3 W3 g3 l3)))
theorem lcb_20 {p : Program} {l : Launch} {e : Env} {s : State} {m : MethodId} {args : Array Value} {below : List Frame} {meth : Method} {c : Code} {D : va_G} {B : jm_E} {cells slots : Nat} {Q : State → Prop} {L : Nat} {xs : Nat → Int32} {i : Int32} {h : jm_H} {W : fw_W} (C : lw_C p s m args meth c D B L xs) (hi : lw_at L i) (hc : cells ≤ room_1.cells ∧ slots ≤ room_1.slots) (hg : fw_gh W fw_T h) (hl : li W) (next : ∀ (h2 : jm_H) (W2 : fw_W), fw_gh W2 fw_T h2 → li W2 → jm_W p l e room_1 s m args below meth c 4 D B cells slots Q 776 (lw_lv i) [] h2) : jm_W p l e room_1 s m args below meth c 4 D B cells slots Q 766 (lw_lv i) [] h := by
  refine lw_p C ld_766 rfl ?_
  refine lw_p C ld_767 rfl ?_
  refine lw_p C ld_768 rfl ?_
  refine lw_p C ld_769 rfl ?_
  refine lw_p C ld_770 rfl ?_
  refine lw_ld C ld_771 (lw_ix hi _ (by decide) (by decide)) ?_
  obtain ⟨fs, hca⟩ := lw_o1 hg
  refine lw_cv C (a := 352) (as := [.inl (xs (i + Int32.ofInt 1).toNatClampNeg).toInt]) (asc := [.int (xs (i + Int32.ofInt 1).toNatClampNeg)]) (r := []) lq_268 ln_268 lk_268 lz_268 rfl ld_772 (um_tidings (lw_r _) hl) (by decide) (⟨⟨_, rfl, rfl⟩, trivial⟩) hg rfl (by decide) (Nat.le_of_ble_eq_true rfl) hca hc (fun v h2 a2 W2 o2 g2 p2 => ?_)
  obtain ⟨n2, rfl, -⟩ := lw_an p2.1 o2
  refine lw_p C ld_775 rfl ?_
  exact next h2 W2 g2 p2.2
theorem lca_20 {p : Program} {l : Launch} {e : Env} {s : State} {m : MethodId} {args : Array Value} {below : List Frame} {meth : Method} {c : Code} {D : va_G} {B : jm_E} {cells slots : Nat} {Q : State → Prop} {L : Nat} {xs : Nat → Int32} {i : Int32} {h : jm_H} {W : fw_W} (C : lw_C p s m args meth c D B L xs) (hi : lw_at L i) (hc : cells ≤ room_1.cells ∧ slots ≤ room_1.slots) (hg : fw_gh W fw_T h) (hl : li W) (next : ∀ (h2 : jm_H) (W2 : fw_W), fw_gh W2 fw_T h2 → li W2 → jm_W p l e room_1 s m args below meth c 4 D B cells slots Q 766 (lw_lv i) [] h2) : jm_W p l e room_1 s m args below meth c 4 D B cells slots Q 756 (lw_lv i) [] h := by
  refine lw_p C ld_756 rfl ?_
  refine lw_p C ld_757 rfl ?_
  refine lw_p C ld_758 rfl ?_
  refine lw_p C ld_759 rfl ?_
  refine lw_p C ld_760 rfl ?_
  refine lw_ld C ld_761 (lw_ix hi _ (by decide) (by decide)) ?_
  obtain ⟨fs, hca⟩ := lw_o0 hg
  refine lw_cv C (a := 0) (as := [.inl (xs (i + Int32.ofInt 1).toNatClampNeg).toInt]) (asc := [.int (xs (i + Int32.ofInt 1).toNatClampNeg)]) (r := []) lq_170 ln_170 lk_170 lz_170 rfl ld_762 (uk_tidings (lw_r _) hl) (by decide) (⟨⟨_, rfl, rfl⟩, trivial⟩) hg rfl (by decide) (Nat.le_of_ble_eq_true rfl) hca hc (fun v h2 a2 W2 o2 g2 p2 => ?_)
  obtain ⟨n2, rfl, -⟩ := lw_an p2.1 o2
  refine lw_p C ld_765 rfl ?_
  exact next h2 W2 g2 p2.2
theorem lc_20 {p : Program} {l : Launch} {e : Env} {s : State} {m : MethodId} {args : Array Value} {below : List Frame} {meth : Method} {c : Code} {D : va_G} {B : jm_E} {cells slots : Nat} {Q : State → Prop} {L : Nat} {xs : Nat → Int32} {i : Int32} {h : jm_H} {W : fw_W} (C : lw_C p s m args meth c D B L xs) (hi : lw_at L i) (hc : cells ≤ room_1.cells ∧ slots ≤ room_1.slots) (hg : fw_gh W fw_T h) (hl : li W) (next : ∀ (h2 : jm_H) (W2 : fw_W), fw_gh W2 fw_T h2 → li W2 → jm_W p l e room_1 s m args below meth c 4 D B cells slots Q 1417 (lw_lv i) [] h2) : jm_W p l e room_1 s m args below meth c 4 D B cells slots Q 756 (lw_lv i) [] h := lca_20 C hi hc hg hl (fun h2 W2 g2 l2 => lcb_20 C hi hc g2 l2 (fun h3 W3 g3 l3 => lw_p C ld_776 rfl (next h3 W3 g3 l3)))
theorem lcb_21 {p : Program} {l : Launch} {e : Env} {s : State} {m : MethodId} {args : Array Value} {below : List Frame} {meth : Method} {c : Code} {D : va_G} {B : jm_E} {cells slots : Nat} {Q : State → Prop} {L : Nat} {xs : Nat → Int32} {i : Int32} {h : jm_H} {W : fw_W} (C : lw_C p s m args meth c D B L xs) (hi : lw_at L i) (hc : cells ≤ room_1.cells ∧ slots ≤ room_1.slots) (hg : fw_gh W fw_T h) (hl : li W) (next : ∀ (h2 : jm_H) (W2 : fw_W), fw_gh W2 fw_T h2 → li W2 → jm_W p l e room_1 s m args below meth c 4 D B cells slots Q 799 (lw_lv i) [] h2) : jm_W p l e room_1 s m args below meth c 4 D B cells slots Q 789 (lw_lv i) [] h := by
  refine lw_p C ld_789 rfl ?_
  refine lw_p C ld_790 rfl ?_
  refine lw_p C ld_791 rfl ?_
  refine lw_p C ld_792 rfl ?_
  refine lw_p C ld_793 rfl ?_
  refine lw_ld C ld_794 (lw_ix hi _ (by decide) (by decide)) ?_
  obtain ⟨fs, hca⟩ := lw_o1 hg
  refine lw_cv C (a := 352) (as := [.inl (xs (i + Int32.ofInt 1).toNatClampNeg).toInt]) (asc := [.int (xs (i + Int32.ofInt 1).toNatClampNeg)]) (r := []) lq_257 ln_257 lk_257 lz_257 rfl ld_795 (um_wells (lw_r _) hl) (by decide) (⟨⟨_, rfl, rfl⟩, trivial⟩) hg rfl (by decide) (Nat.le_of_ble_eq_true rfl) hca hc (fun v h2 a2 W2 o2 g2 p2 => ?_)
  obtain ⟨n2, rfl, -⟩ := lw_an p2.1 o2
  refine lw_p C ld_798 rfl ?_
  exact next h2 W2 g2 p2.2
theorem lca_21 {p : Program} {l : Launch} {e : Env} {s : State} {m : MethodId} {args : Array Value} {below : List Frame} {meth : Method} {c : Code} {D : va_G} {B : jm_E} {cells slots : Nat} {Q : State → Prop} {L : Nat} {xs : Nat → Int32} {i : Int32} {h : jm_H} {W : fw_W} (C : lw_C p s m args meth c D B L xs) (hi : lw_at L i) (hc : cells ≤ room_1.cells ∧ slots ≤ room_1.slots) (hg : fw_gh W fw_T h) (hl : li W) (next : ∀ (h2 : jm_H) (W2 : fw_W), fw_gh W2 fw_T h2 → li W2 → jm_W p l e room_1 s m args below meth c 4 D B cells slots Q 789 (lw_lv i) [] h2) : jm_W p l e room_1 s m args below meth c 4 D B cells slots Q 779 (lw_lv i) [] h := by
  refine lw_p C ld_779 rfl ?_
  refine lw_p C ld_780 rfl ?_
  refine lw_p C ld_781 rfl ?_
  refine lw_p C ld_782 rfl ?_
  refine lw_p C ld_783 rfl ?_
  refine lw_ld C ld_784 (lw_ix hi _ (by decide) (by decide)) ?_
  obtain ⟨fs, hca⟩ := lw_o0 hg
  refine lw_cv C (a := 0) (as := [.inl (xs (i + Int32.ofInt 1).toNatClampNeg).toInt]) (asc := [.int (xs (i + Int32.ofInt 1).toNatClampNeg)]) (r := []) lq_165 ln_165 lk_165 lz_165 rfl ld_785 (uk_wells (lw_r _) hl) (by decide) (⟨⟨_, rfl, rfl⟩, trivial⟩) hg rfl (by decide) (Nat.le_of_ble_eq_true rfl) hca hc (fun v h2 a2 W2 o2 g2 p2 => ?_)
  obtain ⟨n2, rfl, -⟩ := lw_an p2.1 o2
  refine lw_p C ld_788 rfl ?_
  exact next h2 W2 g2 p2.2
theorem lc_21 {p : Program} {l : Launch} {e : Env} {s : State} {m : MethodId} {args : Array Value} {below : List Frame} {meth : Method} {c : Code} {D : va_G} {B : jm_E} {cells slots : Nat} {Q : State → Prop} {L : Nat} {xs : Nat → Int32} {i : Int32} {h : jm_H} {W : fw_W} (C : lw_C p s m args meth c D B L xs) (hi : lw_at L i) (hc : cells ≤ room_1.cells ∧ slots ≤ room_1.slots) (hg : fw_gh W fw_T h) (hl : li W) (next : ∀ (h2 : jm_H) (W2 : fw_W), fw_gh W2 fw_T h2 → li W2 → jm_W p l e room_1 s m args below meth c 4 D B cells slots Q 1417 (lw_lv i) [] h2) : jm_W p l e room_1 s m args below meth c 4 D B cells slots Q 779 (lw_lv i) [] h := lca_21 C hi hc hg hl (fun h2 W2 g2 l2 => lcb_21 C hi hc g2 l2 (fun h3 W3 g3 l3 => lw_p C ld_799 rfl (next h3 W3 g3 l3)))
