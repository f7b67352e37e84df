/-! the reference, method by method -/
theorem wd_up1 {s x v : Int} (hf : 0 ≤ x) (h : wd_n s (x + 1) v) : (List.range 6).all (fun e => decide (e ≤ x.toNat) || (decide (v.toNat ≤ e) || !s.toNat.testBit e)) = true := by
  rw [List.all_eq_true]
  intro e _
  by_cases c1 : e ≤ x.toNat
  · simp [c1]
  · by_cases c2 : v.toNat ≤ e
    · simp [c2]
    · have := h.2.2.2 (e : Int) (by omega) (by omega)
      rw [Int.toNat_natCast] at this
      simp [this]
theorem wd_up0 {s v : Int} (h : wd_n s 0 v) : (List.range 6).all (fun e => decide (v.toNat ≤ e) || !s.toNat.testBit e) = true := by
  rw [List.all_eq_true]
  intro e _
  by_cases c2 : v.toNat ≤ e
  · simp [c2]
  · have := h.2.2.2 (e : Int) (by omega) (by omega)
    rw [Int.toNat_natCast] at this
    simp [this]
theorem wd_e3 {s x y : Int} (h0 : 0 ≤ s) (h1 : s < 64) (h3 : pcv s = 3 ∨ pcv s = 4) (hx : wd_n s 0 x) (hy : wd_n s (x + 1) y) : ∃ e : Int, y + 1 ≤ e ∧ e < 6 ∧ s.toNat.testBit e.toNat = true := by
  have x0 := hx.1
  have x1 := hx.2.1
  have y0 := hy.1
  have y1 := hy.2.1
  have h := (((wd_at (s := s.toNat) (by omega)).2 x.toNat (by omega)).2 y.toNat (by omega)).1
  have lt : decide (x.toNat < y.toNat) = true := decide_eq_true (by omega)
  unfold wd_3 at h
  rw [wd_pc h3, hx.2.2.1, wd_up0 hx, hy.2.2.1, lt, wd_up1 x0 hy] at h
  obtain ⟨e, e1, e2⟩ := List.any_eq_true.mp (by simpa using h : (List.range 6).any (fun e => decide (y.toNat < e) && s.toNat.testBit e) = true)
  have := List.mem_range.mp e1
  rw [Bool.and_eq_true] at e2
  have e3 := of_decide_eq_true e2.1
  exact ⟨e, by omega, by omega, by rw [Int.toNat_natCast]; exact e2.2⟩
theorem wd_e4 {s x y z : Int} (h0 : 0 ≤ s) (h1 : s < 64) (h3 : pcv s = 4) (hx : wd_n s 0 x) (hy : wd_n s (x + 1) y) (hz : wd_n s (y + 1) z) : ∃ e : Int, z + 1 ≤ e ∧ e < 6 ∧ s.toNat.testBit e.toNat = true := by
  have x0 := hx.1
  have x1 := hx.2.1
  have y0 := hy.1
  have y1 := hy.2.1
  have z0 := hz.1
  have z1 := hz.2.1
  have h := (((wd_at (s := s.toNat) (by omega)).2 x.toNat (by omega)).2 y.toNat (by omega)).2 z.toNat (by omega)
  have lt : decide (x.toNat < y.toNat) = true := decide_eq_true (by omega)
  have lt2 : decide (y.toNat < z.toNat) = true := decide_eq_true (by omega)
  have p4 : decide (pcn s.toNat s.toNat = 4) = true := decide_eq_true (by unfold pcv at h3; omega)
  unfold wd_4 wd_b at h
  rw [p4, Bool.or_true, hx.2.2.1, wd_up0 hx, hy.2.2.1, lt, wd_up1 x0 hy, hz.2.2.1, lt2, wd_up1 (by omega) hz] at h
  obtain ⟨e, e1, e2⟩ := List.any_eq_true.mp (by simpa using h : (List.range 6).any (fun e => decide (z.toNat < e) && s.toNat.testBit e) = true)
  have := List.mem_range.mp e1
  rw [Bool.and_eq_true] at e2
  have e3 := of_decide_eq_true e2.1
  exact ⟨e, by omega, by omega, by rw [Int.toNat_natCast]; exact e2.2⟩
theorem s_bitsOf2_0 {Post : Option fw_V → fw_W → Prop} {d : Nat} {W : fw_W} {s : Int}
    (hw_ : jf fw_T (d + 1) 251 4 [(1, .inl (0 : Int)), (2, .inl s)] [] W Post) :
    jf fw_T (d + 1) 251 0 [(0, .inl s)] [] W Post := fw_ok (n := 5) (ss := [(4, [1, 2])]) (hv := []) fr_251_ok fm_ok (fw_c0 _ _) hw_

theorem s_bitsOf2_4 {Post : Option fw_V → fw_W → Prop} {d : Nat} {W : fw_W} {n k : Int}
    (hw_ : ((k = 0 → (-2147483648 ≤ n → n ≤ 2147483647 → Post (some (.inl n)) W)) ∧ (¬ k = 0 → -2147483648 ≤ n + (1 : Int) ∧ n + (1 : Int) ≤ 2147483647 ∧ (-2147483648 ≤ k - (1 : Int) ∧ k - (1 : Int) ≤ 2147483647 ∧ ((-2147483648 ≤ (fw_and k (k - (1 : Int))) → (fw_and k (k - (1 : Int))) ≤ 2147483647 → jf fw_T (d + 1) 251 4 [(1, .inl (n + (1 : Int))), (2, .inl (fw_and k (k - (1 : Int))))] [] W Post)))))) :
    jf fw_T (d + 1) 251 4 [(1, .inl n), (2, .inl k)] [] W Post := fw_ok (n := 11) (ss := [(4, [1, 2])]) (hv := []) fr_251_ok fm_ok (fw_c0 _ _) hw_

theorem lm_bitsOf2_4 {Post : Option fw_V → fw_W → Prop} {d : Nat} {W : fw_W} {s : Int} (hpre : 0 ≤ s ∧ s ≤ 2147483647) (hP : ∀ (v : Int) , (-2147483648 ≤ v ∧ v ≤ 2147483647 ∧ (v = pcv s)) → Post (some (.inl v)) W)  : ∀ (m : Nat) (n k : Int), (k).toNat = m → 0 ≤ k ∧ k ≤ 2147483647 ∧ 0 ≤ n ∧ n + k ≤ 2147483647 ∧ n + pcv k = pcv s → jf fw_T (d + 1) 251 4 [(1, .inl n), (2, .inl k)] [] W Post := by
  intro m
  induction m using Nat.strongRecOn with
  | ind m ih =>
    intro n k hm hi
    refine jf_rng (fun hrg => ?_)
    have hrg : -2147483648 ≤ n ∧ n ≤ 2147483647 ∧ -2147483648 ≤ k ∧ k ≤ 2147483647 ∧ True := hrg
    refine s_bitsOf2_4 ?_
    have a1 := fun h : 0 < k => fw_and_b k (y := k - 1) (by omega) (by omega)
    have a2 := fun h : 0 < k => pcv_s h hi.2.1
    have a3 : k = 0 → pcv k = 0 := fun h => by rw [h]; exact pcv_0
    repeat' (first
      | (exact True.intro)
      | (exact hpre.1)
      | (refine And.intro ?_ ?_)
      | (refine (ih _ (by omega) _ _ rfl ?_); (first | omega | trivial))
      | (refine hP _ ?_; (refine ⟨by omega, by omega, ?_⟩; (first | trivial | omega)))
      | omega
      | (intro _))
def x_bitsOf2 : fw_X := fun as W Q => match as with
  | [.inl s] => (0 ≤ s ∧ s ≤ 2147483647) ∧ (∀ (v : Int), (-2147483648 ≤ v ∧ v ≤ 2147483647 ∧ (v = pcv s)) → Q (some (.inl v)) W)
  | _ => False
theorem x_bitsOf2_ok (d : Nat) (as : List fw_V) (W : fw_W) (Q : Option fw_V → fw_W → Prop) (hx : x_bitsOf2 as W Q) : jf fw_T (d + 1) 251 0 (fw_args 0 as) [] W Q := by
  unfold x_bitsOf2 at hx
  split at hx
  · rename_i s
    obtain ⟨hpre, hQ⟩ := hx
    have hP := hQ
    refine s_bitsOf2_0 ?_
    repeat' (first
      | (exact True.intro)
      | (exact hpre.1)
      | (refine And.intro ?_ ?_)
      | (refine (lm_bitsOf2_4 (s := s) hpre hP _ _ _ rfl ?_); (first | omega | trivial))
      | (refine hP _ ?_; (refine ⟨by omega, by omega, ?_⟩; (first | trivial | omega)))
      | omega
      | (intro _))
  · exact hx.elim

def fr_306 : fw_P := [(0, 0, 0, 0, 3), (1, 3, 2, 0, 0), (2, 1, 2, 0, 0), (3, 0, 0, 0, 5), (4, 13, 111, 0, 0), (7, 0, 0, 0, 7), (9, 3, 3, 0, 0), (10, 1, 3, 0, 0), (11, 0, 0, 0, 1), (12, 1, 1, 0, 0), (13, 39, 0, 0, 0), (14, 13, 105, 0, 0), (17, 1, 3, 0, 0), (18, 65, 251, 1, 300), (21, 1, 2, 0, 0), (22, 10, 28, 0, 0), (25, 6, 99, 0, 0), (28, 1, 3, 0, 0), (29, 0, 0, 0, 0), (30, 65, 307, 2, 300), (33, 3, 4, 0, 0), (35, 1, 3, 0, 0), (36, 1, 4, 0, 0), (38, 0, 0, 0, 1), (39, 30, 0, 0, 0), (40, 65, 307, 2, 300), (43, 3, 5, 0, 0), (45, 1, 3, 0, 0), (46, 1, 5, 0, 0), (48, 0, 0, 0, 1), (49, 30, 0, 0, 0), (50, 65, 307, 2, 300), (53, 3, 6, 0, 0), (55, 1, 2, 0, 0), (56, 0, 0, 0, 3), (57, 11, 76, 0, 0), (60, 2, 0, 0, 0), (61, 1, 4, 0, 0), (63, 1, 5, 0, 0), (65, 1, 6, 0, 0), (67, 64, 308, 3, 712), (70, 21, 99, 0, 0), (73, 6, 97, 0, 0), (76, 2, 0, 0, 0), (77, 1, 4, 0, 0), (79, 1, 5, 0, 0), (81, 1, 6, 0, 0), (83, 1, 3, 0, 0), (84, 1, 6, 0, 0), (86, 0, 0, 0, 1), (87, 30, 0, 0, 0), (88, 65, 307, 2, 300), (91, 64, 309, 4, 512), (94, 21, 99, 0, 0), (97, 1, 3, 0, 0), (98, 70, 0, 0, 0), (99, 5, 3, 0, 1), (102, 6, 10, 0, 0), (105, 5, 2, 0, 1), (108, 6, 2, 0, 0), (111, 0, 0, 0, 0), (112, 70, 0, 0, 0)]
theorem fr_306_ok : fw_mk 306 7 12 (some .int) fr_306 = true := by decide +kernel
def ct_wrongOf : List (Nat × fw_X) := [(309, x_areDoorsSo), (251, x_bitsOf2), (308, x_isThreeSo), (307, x_nextDoor)]
theorem ct_wrongOf_ok (d : Nat) : fw_cok fw_T (d + 2) ct_wrongOf := by
  intro q hq as W Q h
  simp only [ct_wrongOf, List.mem_cons, List.not_mem_nil, or_false] at hq
  rcases hq with rfl | rfl | rfl | rfl
  · exact jc_of (x_areDoorsSo_ok (d + 0) as W Q h)
  · exact jc_of (x_bitsOf2_ok (d + 1) as W Q h)
  · exact jc_of (x_isThreeSo_ok (d + 1) as W Q h)
  · exact jc_of (x_nextDoor_ok (d + 1) as W Q h)
theorem s_wrongOf_0 {Post : Option fw_V → fw_W → Prop} {d : Nat} {W : fw_W} {n : Int}
    (hw_ : jf fw_T (d + 3) 306 2 [(0, .inr (.inl 352)), (1, .inl n), (2, .inl (3 : Int))] [] W Post) :
    jf fw_T (d + 3) 306 0 [(0, .inr (.inl 352)), (1, .inl n)] [] W Post := fw_ok (n := 3) (ss := [(2, [0, 1, 2]), (10, [0, 1, 2, 3])]) (hv := []) fr_306_ok fm_ok (ct_wrongOf_ok d) hw_

theorem s_wrongOf_10 {Post : Option fw_V → fw_W → Prop} {d : Nat} {W : fw_W} {n mny st : Int}
    (hw_ : (-2147483648 ≤ (fw_shl (1 : Int) n) → (fw_shl (1 : Int) n) ≤ 2147483647 → (((fw_shl (1 : Int) n) ≤ st → -2147483648 ≤ mny + (1 : Int) ∧ mny + (1 : Int) ≤ 2147483647 ∧ (jf fw_T (d + 3) 306 2 [(0, .inr (.inl 352)), (1, .inl n), (2, .inl (mny + (1 : Int)))] [] W Post)) ∧ (st < (fw_shl (1 : Int) n) → (0 ≤ st ∧ st ≤ 2147483647) ∧ (∀ (r1 : Int), ((-2147483648 ≤ r1 ∧ r1 ≤ 2147483647 ∧ (r1 = pcv st))) → ((r1 = mny → (0 ≤ st ∧ st < 64 ∧ 0 ≤ (0 : Int) ∧ ∃ e : Int, (0 : Int) ≤ e ∧ e < 6 ∧ st.toNat.testBit e.toNat = true) ∧ (∀ (r2 : Int), ((-2147483648 ≤ r2 ∧ r2 ≤ 2147483647 ∧ ((0 : Int) ≤ r2 ∧ r2 < 6 ∧ st.toNat.testBit r2.toNat = true ∧ ∀ e : Int, (0 : Int) ≤ e → e < r2 → st.toNat.testBit e.toNat = false))) → -2147483648 ≤ r2 + (1 : Int) ∧ r2 + (1 : Int) ≤ 2147483647 ∧ ((0 ≤ st ∧ st < 64 ∧ 0 ≤ (r2 + (1 : Int)) ∧ ∃ e : Int, (r2 + (1 : Int)) ≤ e ∧ e < 6 ∧ st.toNat.testBit e.toNat = true) ∧ (∀ (r3 : Int), ((-2147483648 ≤ r3 ∧ r3 ≤ 2147483647 ∧ ((r2 + (1 : Int)) ≤ r3 ∧ r3 < 6 ∧ st.toNat.testBit r3.toNat = true ∧ ∀ e : Int, (r2 + (1 : Int)) ≤ e → e < r3 → st.toNat.testBit e.toNat = false))) → -2147483648 ≤ r3 + (1 : Int) ∧ r3 + (1 : Int) ≤ 2147483647 ∧ ((0 ≤ st ∧ st < 64 ∧ 0 ≤ (r3 + (1 : Int)) ∧ ∃ e : Int, (r3 + (1 : Int)) ≤ e ∧ e < 6 ∧ st.toNat.testBit e.toNat = true) ∧ (∀ (r4 : Int), ((-2147483648 ≤ r4 ∧ r4 ≤ 2147483647 ∧ ((r3 + (1 : Int)) ≤ r4 ∧ r4 < 6 ∧ st.toNat.testBit r4.toNat = true ∧ ∀ e : Int, (r3 + (1 : Int)) ≤ e → e < r4 → st.toNat.testBit e.toNat = false))) → ((¬ mny = (3 : Int) → -2147483648 ≤ r4 + (1 : Int) ∧ r4 + (1 : Int) ≤ 2147483647 ∧ ((0 ≤ st ∧ st < 64 ∧ 0 ≤ (r4 + (1 : Int)) ∧ ∃ e : Int, (r4 + (1 : Int)) ≤ e ∧ e < 6 ∧ st.toNat.testBit e.toNat = true) ∧ (∀ (r5 : Int), ((-2147483648 ≤ r5 ∧ r5 ≤ 2147483647 ∧ ((r4 + (1 : Int)) ≤ r5 ∧ r5 < 6 ∧ st.toNat.testBit r5.toNat = true ∧ ∀ e : Int, (r4 + (1 : Int)) ≤ e → e < r5 → st.toNat.testBit e.toNat = false))) → (0 ≤ r2 ∧ r2 < 6 ∧ 0 ≤ r3 ∧ r3 < 6 ∧ 0 ≤ r4 ∧ r4 < 6 ∧ 0 ≤ r5 ∧ r5 < 6) ∧ (∀ (r6 : Int), ((0 ≤ r6 ∧ r6 ≤ 1 ∧ (True))) → ((¬ r6 = 0 → -2147483648 ≤ st + (1 : Int) ∧ st + (1 : Int) ≤ 2147483647 ∧ (jf fw_T (d + 3) 306 10 [(0, .inr (.inl 352)), (1, .inl n), (2, .inl mny), (3, .inl (st + (1 : Int)))] [] W Post)) ∧ (r6 = 0 → (-2147483648 ≤ st → st ≤ 2147483647 → Post (some (.inl st)) W))))))) ∧ (mny = (3 : Int) → (0 ≤ r2 ∧ r2 < 6 ∧ 0 ≤ r3 ∧ r3 < 6 ∧ 0 ≤ r4 ∧ r4 < 6) ∧ (∀ (r7 : Int), ((0 ≤ r7 ∧ r7 ≤ 1 ∧ (True))) → ((¬ r7 = 0 → -2147483648 ≤ st + (1 : Int) ∧ st + (1 : Int) ≤ 2147483647 ∧ (jf fw_T (d + 3) 306 10 [(0, .inr (.inl 352)), (1, .inl n), (2, .inl mny), (3, .inl (st + (1 : Int)))] [] W Post)) ∧ (r7 = 0 → (-2147483648 ≤ st → st ≤ 2147483647 → Post (some (.inl st)) W)))))))))))) ∧ (¬ r1 = mny → -2147483648 ≤ st + (1 : Int) ∧ st + (1 : Int) ≤ 2147483647 ∧ (jf fw_T (d + 3) 306 10 [(0, .inr (.inl 352)), (1, .inl n), (2, .inl mny), (3, .inl (st + (1 : Int)))] [] W Post)))))))) :
    jf fw_T (d + 3) 306 10 [(0, .inr (.inl 352)), (1, .inl n), (2, .inl mny), (3, .inl st)] [] W Post := fw_ok (n := 42) (ss := [(2, [0, 1, 2]), (10, [0, 1, 2, 3])]) (hv := []) fr_306_ok fm_ok (ct_wrongOf_ok d) hw_

theorem s_wrongOf_2 {Post : Option fw_V → fw_W → Prop} {d : Nat} {W : fw_W} {n mny : Int}
    (hw_ : (((5 : Int) ≤ mny → (-2147483648 ≤ (0 : Int) → (0 : Int) ≤ 2147483647 → Post (some (.inl (0 : Int))) W)) ∧ (mny < (5 : Int) → jf fw_T (d + 3) 306 10 [(0, .inr (.inl 352)), (1, .inl n), (2, .inl mny), (3, .inl (7 : Int))] [] W Post))) :
    jf fw_T (d + 3) 306 2 [(0, .inr (.inl 352)), (1, .inl n), (2, .inl mny)] [] W Post := fw_ok (n := 6) (ss := [(2, [0, 1, 2]), (10, [0, 1, 2, 3])]) (hv := []) fr_306_ok fm_ok (ct_wrongOf_ok d) hw_

theorem lm_wrongOf_10 {Post : Option fw_V → fw_W → Prop} {d : Nat} {W : fw_W} {n : Int} (hpre : 2 ≤ n ∧ n ≤ 6) (hP : ∀ (v : Int) , (-2147483648 ≤ v ∧ v ≤ 2147483647 ∧ (True)) → Post (some (.inl v)) W) (M2 : Int) (h2 : ∀ (mny : Int), 3 ≤ mny ∧ mny ≤ 5 → ((5 : Int) - mny) < M2 → jf fw_T (d + 3) 306 2 [(0, .inr (.inl 352)), (1, .inl n), (2, .inl mny)] [] W Post) : ∀ (m : Nat) (mny st : Int), ((fw_shl (1 : Int) n) - st).toNat = m → 7 ≤ st ∧ 3 ≤ mny ∧ mny ≤ 4 → ((5 : Int) - mny) ≤ M2 → jf fw_T (d + 3) 306 10 [(0, .inr (.inl 352)), (1, .inl n), (2, .inl mny), (3, .inl st)] [] W Post := by
  intro m
  induction m using Nat.strongRecOn with
  | ind m ih =>
    intro mny st hm hi e2
    refine jf_rng (fun hrg => ?_)
    have hrg : -2147483648 ≤ n ∧ n ≤ 2147483647 ∧ -2147483648 ≤ mny ∧ mny ≤ 2147483647 ∧ -2147483648 ≤ st ∧ st ≤ 2147483647 ∧ True := hrg
    refine s_wrongOf_10 ?_
    have s6 := fw_shl6 (n := n) (by omega) (by omega)
    repeat' (first
      | (rename_i r1 h1 hc; exact wd_e1 (by omega) (by omega) (by omega))
      | (rename_i r1 h1 hc r2 h2; exact wd_e2 (by omega) (by omega) (by omega) h2.2.2)
      | (rename_i r1 h1 hc r2 h2 r3 h3; exact wd_e3 (by omega) (by omega) (by omega) h2.2.2 h3.2.2)
      | (rename_i r1 h1 hc r2 h2 r3 h3 r4 h4 hd; exact wd_e4 (by omega) (by omega) (by omega) h2.2.2 h3.2.2 h4.2.2)
      | (exact True.intro)
      | (exact hpre.1)
      | (refine And.intro ?_ ?_)
      | (refine (h2 _ ?_ (by omega)); (first | omega | trivial))
      | (refine (ih _ (by omega) _ _ rfl ?_ (by omega)); (first | omega | trivial))
      | (refine hP _ ?_; (refine ⟨by omega, by omega, ?_⟩; (first | trivial | omega)))
      | omega
      | (intro _))
theorem lm_wrongOf_2 {Post : Option fw_V → fw_W → Prop} {d : Nat} {W : fw_W} {n : Int} (hpre : 2 ≤ n ∧ n ≤ 6) (hP : ∀ (v : Int) , (-2147483648 ≤ v ∧ v ≤ 2147483647 ∧ (True)) → Post (some (.inl v)) W)  : ∀ (m : Nat) (mny : Int), ((5 : Int) - mny).toNat = m → 3 ≤ mny ∧ mny ≤ 5 → jf fw_T (d + 3) 306 2 [(0, .inr (.inl 352)), (1, .inl n), (2, .inl mny)] [] W Post := by
  intro m
  induction m using Nat.strongRecOn with
  | ind m ih =>
    intro mny hm hi
    refine jf_rng (fun hrg => ?_)
    have hrg : -2147483648 ≤ n ∧ n ≤ 2147483647 ∧ -2147483648 ≤ mny ∧ mny ≤ 2147483647 ∧ True := hrg
    refine s_wrongOf_2 ?_
    have s6 := fw_shl6 (n := n) (by omega) (by omega)
    repeat' (first
      | (exact True.intro)
      | (exact hpre.1)
      | (refine And.intro ?_ ?_)
      | (refine (ih _ (by omega) _ rfl ?_); (first | omega | trivial))
      | (refine (lm_wrongOf_10 (n := n) hpre hP ((5 : Int) - mny) (fun a0 hi hl => ih _ (by omega) a0 rfl hi) _ _ _ rfl ?_ (by omega)); (first | omega | trivial))
      | (refine hP _ ?_; (refine ⟨by omega, by omega, ?_⟩; (first | trivial | omega)))
      | omega
      | (intro _))
def x_wrongOf : fw_X := fun as W Q => match as with
  | [.inr (.inl s_), .inl n] => fw_if (Nat.beq s_ 352) ((2 ≤ n ∧ n ≤ 6) ∧ (∀ (v : Int), (-2147483648 ≤ v ∧ v ≤ 2147483647 ∧ (True)) → Q (some (.inl v)) W))
  | _ => False
theorem x_wrongOf_ok (d : Nat) (as : List fw_V) (W : fw_W) (Q : Option fw_V → fw_W → Prop) (hx : x_wrongOf as W Q) : jf fw_T (d + 3) 306 0 (fw_args 0 as) [] W Q := by
  unfold x_wrongOf at hx
  split at hx
  · rename_i s_ n
    obtain ⟨e_, hpre, hQ⟩ := fw_if_ok hx
    have e_ := Nat.eq_of_beq_eq_true e_
    subst e_
    have hP := hQ
    refine s_wrongOf_0 ?_
    have s6 := fw_shl6 (n := n) (by omega) (by omega)
    repeat' (first
      | (exact True.intro)
      | (exact hpre.1)
      | (refine And.intro ?_ ?_)
      | (refine (lm_wrongOf_2 (n := n) hpre hP _ _ rfl ?_); (first | omega | trivial))
      | (refine (lm_wrongOf_10 (n := n) hpre hP M2 h2 _ _ _ rfl ?_ (by omega)); (first | omega | trivial))
      | (refine hP _ ?_; (refine ⟨by omega, by omega, ?_⟩; (first | trivial | omega)))
      | omega
      | (intro _))
  · exact hx.elim

