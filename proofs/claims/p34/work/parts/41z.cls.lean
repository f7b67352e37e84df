/-! two houses linked -/
def kb (n : Int) (W : fw_W) : Prop := ∀ x, 0 ≤ x → x < n → 0 ≤ fw_g W 271 x ∧ fw_g W 271 x < 16384
def nxb (W : fw_W) : Int → Int → Int := fun x y => bt (fw_g W 271 x) y
def lk_ok (n to : Int) (W f : fw_W) : Prop := ∃ e, (0 ≤ e ∧ e < n ∧ fw_g W 270 e = 1 ∧ ∀ x, 0 ≤ x → x < e → fw_g W 270 x ≠ 1) ∧ (∀ x, 0 ≤ x → fw_g f 270 x = if e = x then 0 else fw_g W 270 x) ∧ (∀ x y, 0 ≤ x → x < n → 0 ≤ y → nxb f x y = if (x = e ∧ y = to) ∨ (x = to ∧ y = e) then 1 else nxb W x y) ∧ kb n f
theorem lk_mk {W : fw_W} {e to n v1 v2 : Int} (n1 : n ≤ 14) (e0 : 0 ≤ e) (e1 : e < n) (t0 : 0 ≤ to) (t1 : to < n) (k : kb n W) (he : fw_g W 270 e = 1 ∧ ∀ x, 0 ≤ x → x < e → fw_g W 270 x ≠ 1) (hv1 : v1 = fw_or (fw_g W 271 e) (fw_shl 1 to)) (hv2 : v2 = fw_or (fw_g (fw_up (fw_up W 270 e 0) 271 e v1) 271 to) (fw_shl 1 e)) : lk_ok n to W (fw_up (fw_up (fw_up W 270 e 0) 271 e v1) 271 to v2) := by
  have k1 := k e e0 e1
  obtain ⟨o1, o2, o3⟩ := bt_or (m := fw_g W 271 e) (y := to) k1.1 k1.2 t0 (by omega)
  rw [← hv1] at o1 o2 o3
  have hm : fw_g (fw_up (fw_up W 270 e 0) 271 e v1) 271 to = if e = to then v1 else fw_g W 271 to := by
    rw [fg_if e0 t0 (by omega) (by omega), fg_up rfl]
  have k2 := k to t0 t1
  have m1 : 0 ≤ (if e = to then v1 else fw_g W 271 to) ∧ (if e = to then v1 else fw_g W 271 to) < 16384 := by
    split
    · exact ⟨o1, o2⟩
    · exact k2
  rw [hm] at hv2
  obtain ⟨p1, p2, p3⟩ := bt_or (m := if e = to then v1 else fw_g W 271 to) (y := e) m1.1 m1.2 e0 (by omega)
  rw [← hv2] at p1 p2 p3
  have rd : ∀ x, 0 ≤ x → fw_g (fw_up (fw_up (fw_up W 270 e 0) 271 e v1) 271 to v2) 271 x = if to = x then v2 else if e = x then v1 else fw_g W 271 x := fun x x1 => by
    rw [fg_if t0 x1 (by omega) (by omega), fg_if e0 x1 (by omega) (by omega), fg_up rfl]
  refine ⟨e, ⟨e0, e1, he⟩, fun x x1 => ?_, fun x y x1 x2 y1 => ?_, fun x x1 x2 => ?_⟩
  · rw [fg_up rfl, fg_up rfl, fg_if e0 x1 (by omega) (by omega)]
  · unfold nxb
    rw [rd x x1]
    by_cases c1 : to = x
    · rw [if_pos c1, p3 y y1]
      by_cases c2 : e = y
      · rw [if_pos c2, if_pos (Or.inr ⟨c1.symm, c2.symm⟩)]
      · rw [if_neg c2]
        by_cases c3 : e = to
        · rw [if_pos c3, o3 y y1]
          by_cases c4 : to = y
          · omega
          · rw [if_neg c4, if_neg (by omega), ← c1, c3]
        · rw [if_neg c3, if_neg (by omega), c1]
    · rw [if_neg c1]
      by_cases c2 : e = x
      · rw [if_pos c2, o3 y y1]
        by_cases c4 : to = y
        · rw [if_pos c4, if_pos (Or.inl ⟨c2.symm, c4.symm⟩)]
        · rw [if_neg c4, if_neg (by omega), c2]
      · rw [if_neg c2, if_neg (by omega)]
  · rw [rd x x1]
    split
    · exact ⟨p1, p2⟩
    · split
      · exact ⟨o1, o2⟩
      · exact k x x1 x2
theorem nxb_01 (W : fw_W) (x y : Int) : nxb W x y = 0 ∨ nxb W x y = 1 := bt_01 _ _
theorem lk_mono {n to : Int} {W f : fw_W} {e : Int} (h : ∀ x y, 0 ≤ x → x < n → 0 ≤ y → nxb f x y = if (x = e ∧ y = to) ∨ (x = to ∧ y = e) then 1 else nxb W x y) {x y : Int} (x1 : 0 ≤ x) (x2 : x < n) (y1 : 0 ≤ y) (z : nxb W x y = 1) : nxb f x y = 1 := by
  rw [h x y x1 x2 y1]
  split
  · rfl
  · exact z
/-- what a town hung gives -/
theorem hu_go {n r h hu k : Int} {W : fw_W} {hg hg' : Int → Int} {nxt : Int} (o : hu_ok n (nxb W) (fun x => bt hu x) hg r h) (n1 : n ≤ 14) (h1 : 0 ≤ h) (h2 : h < n) (u1 : 0 ≤ hu) (u2 : hu < 16384) (hb : bt hu h = 1) (hk : k = fw_g W 271 h) (k1 : 0 ≤ k) (k2 : k < 16384) (hn : nxt = fw_and k (fw_xor hu (-1))) (eg : ∀ x, 0 ≤ x → x < n → hg' x = if bt nxt x = 1 then h else hg x) : hu_ok n (nxb W) (fun x => bt (fw_or hu nxt) x) hg' r (h + 1) ∧ 0 ≤ fw_or hu nxt ∧ fw_or hu nxt < 16384 := by
  obtain ⟨a1, a2, a3⟩ := nxt_bt k1 k2 u1 (by omega : hu ≤ 2147483647)
  rw [← hn] at a1 a2 a3
  obtain ⟨b1, b2, b3⟩ := or_bt u1 u2 a1 a2
  refine ⟨hu_step o h1 h2 hb (fun x x1 x2 => ?_) (fun x x1 x2 => ?_), b1, b2⟩
  · rw [b3, a3 x x1 (by omega), show nxb W h x = bt k x by rw [hk]; rfl]
    rcases bt_01 hu x with c | c <;> rcases bt_01 k x with c2 | c2 <;> simp [c, c2]
  · rw [eg x x1 x2, a3 x x1 (by omega), show nxb W h x = bt k x by rw [hk]; rfl]
    rcases bt_01 hu x with c | c <;> rcases bt_01 k x with c2 | c2 <;> simp [c, c2]

def fv_marksl : List (Nat × ai_C) := [(268, .inr (.inr (.inr (4, [.inr (.inl [269]), .inr (.inl [270]), .inr (.inl [271]), .inr (.inl [272]), .inr (.inl [276]), .inr (.inl [296]), .inr (.inl [323])])))), (269, .inl (.int, 14, 0, 15, true)), (270, .inl (.int, 14, -2147483648, 2147483647, true)), (271, .inl (.int, 14, -2147483648, 2147483647, true))]
def fg_marksl_G : fw_G := []
theorem fv_marksl_ok : fw_view fw_T fv_marksl fg_marksl_G := fw_vb_ok (by decide +kernel)
theorem s_k_firstEnd2_0 {Post : Option fw_V → fw_W → Prop} {d : Nat} {W : fw_W} {co : Int}
    (hw_ : jf fw_T (d + 1) 47 2 [(0, .inr (.inl 268)), (1, .inl co), (2, .inl (0 : Int))] [] W Post) :
    jf fw_T (d + 1) 47 0 [(0, .inr (.inl 268)), (1, .inl co)] [] W Post := fw_ok (n := 3) (ss := [(2, [0, 1, 2])]) (hv := []) fr_47_ok fv_marksl_ok (fw_c0 _ _) hw_

theorem s_k_firstEnd2_2 {Post : Option fw_V → fw_W → Prop} {d : Nat} {W : fw_W} {co h : Int}
    (hw_ : ((co ≤ h → (-2147483648 ≤ (0 : Int) → (0 : Int) ≤ 2147483647 → Post (some (.inl (0 : Int))) W)) ∧ (h < co → 0 ≤ h ∧ h < 14 ∧ (-2147483648 ≤ (fw_g W 270 h) → (fw_g W 270 h) ≤ 2147483647 → ((¬ (fw_g W 270 h) = (1 : Int) → -2147483648 ≤ h + (1 : Int) ∧ h + (1 : Int) ≤ 2147483647 ∧ (jf fw_T (d + 1) 47 2 [(0, .inr (.inl 268)), (1, .inl co), (2, .inl (h + (1 : Int)))] [] W Post)) ∧ ((fw_g W 270 h) = (1 : Int) → (-2147483648 ≤ h → h ≤ 2147483647 → Post (some (.inl h)) W))))))) :
    jf fw_T (d + 1) 47 2 [(0, .inr (.inl 268)), (1, .inl co), (2, .inl h)] [] W Post := fw_ok (n := 12) (ss := [(2, [0, 1, 2])]) (hv := []) fr_47_ok fv_marksl_ok (fw_c0 _ _) hw_

theorem lm_k_firstEnd2_2 {Post : Option fw_V → fw_W → Prop} {d : Nat} {W : fw_W} {co : Int} (hpre : 0 ≤ co ∧ co ≤ 14) (hP : ∀ (v : Int) , (-2147483648 ≤ v ∧ v ≤ 2147483647 ∧ ((0 ≤ v ∧ v < co ∧ (fw_g W 270 v) = 1 ∧ ∀ x_, 0 ≤ x_ → x_ < v → (fw_g W 270 x_) ≠ 1) ∨ (v = 0 ∧ ∀ x_, 0 ≤ x_ → x_ < co → (fw_g W 270 x_) ≠ 1))) → Post (some (.inl v)) W)  : ∀ (m : Nat) (h : Int), (co - h).toNat = m → (0 ≤ h ∧ ∀ x_, 0 ≤ x_ → x_ < h → (fw_g W 270 x_) ≠ 1) → jf fw_T (d + 1) 47 2 [(0, .inr (.inl 268)), (1, .inl co), (2, .inl h)] [] W Post := by
  intro m
  induction m using Nat.strongRecOn with
  | ind m ih =>
    intro h hm hi
    refine jf_rng (fun hrg => ?_)
    have hrg : -2147483648 ≤ co ∧ co ≤ 2147483647 ∧ -2147483648 ≤ h ∧ h ≤ 2147483647 ∧ True := hrg
    refine s_k_firstEnd2_2 ?_
    have hi1 := hi.1
    repeat' (first
      | (exact True.intro)
      | (exact hpre.1)
      | (refine And.intro ?_ ?_)
      | (refine (ih _ (by omega) _ rfl ?_); (
        refine ⟨by omega, fun x x1 x2 => ?_⟩
        by_cases e : x = h
        · rw [e]; assumption
        · exact hi.2 x x1 (by omega)))
      | (refine hP _ ?_; (refine ⟨by omega, by omega, ?_⟩; (first | exact Or.inl ⟨by omega, by omega, by omega, hi.2⟩ | exact Or.inr ⟨rfl, fun x x1 x2 => hi.2 x x1 (by omega)⟩)))
      | omega
      | (intro _))
def x_k_firstEnd2 : fw_X := fun as W Q => match as with
  | [.inr (.inl s_), .inl co] => fw_if (Nat.beq s_ 268) ((0 ≤ co ∧ co ≤ 14) ∧ (∀ (v : Int), (-2147483648 ≤ v ∧ v ≤ 2147483647 ∧ ((0 ≤ v ∧ v < co ∧ (fw_g W 270 v) = 1 ∧ ∀ x_, 0 ≤ x_ → x_ < v → (fw_g W 270 x_) ≠ 1) ∨ (v = 0 ∧ ∀ x_, 0 ≤ x_ → x_ < co → (fw_g W 270 x_) ≠ 1))) → Q (some (.inl v)) W))
  | _ => False
theorem x_k_firstEnd2_ok (d : Nat) (as : List fw_V) (W : fw_W) (Q : Option fw_V → fw_W → Prop) (hx : x_k_firstEnd2 as W Q) : jf fw_T (d + 1) 47 0 (fw_args 0 as) [] W Q := by
  unfold x_k_firstEnd2 at hx
  split at hx
  · rename_i s_ co
    obtain ⟨e_, hpre, hQ⟩ := fw_if_ok hx
    have e_ := Nat.eq_of_beq_eq_true e_
    subst e_
    have hP := hQ
    refine s_k_firstEnd2_0 ?_
    repeat' (first
      | (exact True.intro)
      | (exact hpre.1)
      | (refine And.intro ?_ ?_)
      | (refine (lm_k_firstEnd2_2 (co := co) hpre hP _ _ rfl ?_); (exact ⟨by omega, fun x x1 x2 => by omega⟩))
      | (refine hP _ ?_; (refine ⟨by omega, by omega, ?_⟩; (first | exact Or.inl ⟨by omega, by omega, by omega, hi.2⟩ | exact Or.inr ⟨rfl, fun x x1 x2 => hi.2 x x1 (by omega)⟩)))
      | omega
      | (intro _))
  · exact hx.elim

def fr_46 : fw_P := [(0, 2, 0, 0, 0), (1, 1, 1, 0, 0), (2, 64, 47, 1, 304), (5, 3, 3, 0, 0), (6, 2, 0, 0, 0), (7, 50, 4, 1, 0), (10, 1, 3, 0, 0), (11, 0, 0, 0, 0), (12, 53, 0, 0, 0), (13, 2, 0, 0, 0), (14, 50, 4, 2, 0), (17, 1, 3, 0, 0), (18, 44, 0, 0, 0), (19, 52, 0, 0, 0), (20, 0, 0, 0, 1), (21, 1, 2, 0, 0), (22, 39, 0, 0, 0), (23, 37, 0, 0, 0), (24, 53, 0, 0, 0), (25, 2, 0, 0, 0), (26, 50, 4, 2, 0), (29, 1, 2, 0, 0), (30, 44, 0, 0, 0), (31, 52, 0, 0, 0), (32, 0, 0, 0, 1), (33, 1, 3, 0, 0), (34, 39, 0, 0, 0), (35, 37, 0, 0, 0), (36, 53, 0, 0, 0), (37, 72, 0, 0, 0)]
theorem fr_46_ok : fw_mk 46 4 4 none fr_46 = true := by decide +kernel
def ct_k_linkFirstEnd : List (Nat × fw_X) := [(47, x_k_firstEnd2)]
theorem ct_k_linkFirstEnd_ok (d : Nat) : fw_cok fw_T (d + 1) ct_k_linkFirstEnd := by
  intro q hq as W Q h
  simp only [ct_k_linkFirstEnd, List.mem_cons, List.not_mem_nil, or_false] at hq
  rcases hq with rfl
  · exact jc_of (x_k_firstEnd2_ok (d + 0) as W Q h)
theorem s_k_linkFirstEnd_0 {Post : Option fw_V → fw_W → Prop} {d : Nat} {W : fw_W} {nn to : Int}
    (hw_ : (0 ≤ nn ∧ nn ≤ 14) ∧ (∀ (r1 : Int), ((-2147483648 ≤ r1 ∧ r1 ≤ 2147483647 ∧ ((0 ≤ r1 ∧ r1 < nn ∧ (fw_g W 270 r1) = 1 ∧ ∀ x_, 0 ≤ x_ → x_ < r1 → (fw_g W 270 x_) ≠ 1) ∨ (r1 = 0 ∧ ∀ x_, 0 ≤ x_ → x_ < nn → (fw_g W 270 x_) ≠ 1)))) → 0 ≤ r1 ∧ r1 < 14 ∧ -2147483648 ≤ (0 : Int) ∧ (0 : Int) ≤ 2147483647 ∧ (0 ≤ r1 ∧ r1 < 14 ∧ (-2147483648 ≤ (fw_g W 271 r1) → (fw_g W 271 r1) ≤ 2147483647 → (-2147483648 ≤ (fw_shl (1 : Int) to) → (fw_shl (1 : Int) to) ≤ 2147483647 → (-2147483648 ≤ (fw_or (fw_g W 271 r1) (fw_shl (1 : Int) to)) → (fw_or (fw_g W 271 r1) (fw_shl (1 : Int) to)) ≤ 2147483647 → 0 ≤ r1 ∧ r1 < 14 ∧ -2147483648 ≤ (fw_or (fw_g W 271 r1) (fw_shl (1 : Int) to)) ∧ (fw_or (fw_g W 271 r1) (fw_shl (1 : Int) to)) ≤ 2147483647 ∧ (0 ≤ to ∧ to < 14 ∧ (-2147483648 ≤ (fw_g (fw_up (fw_up W 270 r1 (0 : Int)) 271 r1 (fw_or (fw_g W 271 r1) (fw_shl (1 : Int) to))) 271 to) → (fw_g (fw_up (fw_up W 270 r1 (0 : Int)) 271 r1 (fw_or (fw_g W 271 r1) (fw_shl (1 : Int) to))) 271 to) ≤ 2147483647 → (-2147483648 ≤ (fw_shl (1 : Int) r1) → (fw_shl (1 : Int) r1) ≤ 2147483647 → (-2147483648 ≤ (fw_or (fw_g (fw_up (fw_up W 270 r1 (0 : Int)) 271 r1 (fw_or (fw_g W 271 r1) (fw_shl (1 : Int) to))) 271 to) (fw_shl (1 : Int) r1)) → (fw_or (fw_g (fw_up (fw_up W 270 r1 (0 : Int)) 271 r1 (fw_or (fw_g W 271 r1) (fw_shl (1 : Int) to))) 271 to) (fw_shl (1 : Int) r1)) ≤ 2147483647 → 0 ≤ to ∧ to < 14 ∧ -2147483648 ≤ (fw_or (fw_g (fw_up (fw_up W 270 r1 (0 : Int)) 271 r1 (fw_or (fw_g W 271 r1) (fw_shl (1 : Int) to))) 271 to) (fw_shl (1 : Int) r1)) ∧ (fw_or (fw_g (fw_up (fw_up W 270 r1 (0 : Int)) 271 r1 (fw_or (fw_g W 271 r1) (fw_shl (1 : Int) to))) 271 to) (fw_shl (1 : Int) r1)) ≤ 2147483647 ∧ (Post none (fw_up (fw_up (fw_up W 270 r1 (0 : Int)) 271 r1 (fw_or (fw_g W 271 r1) (fw_shl (1 : Int) to))) 271 to (fw_or (fw_g (fw_up (fw_up W 270 r1 (0 : Int)) 271 r1 (fw_or (fw_g W 271 r1) (fw_shl (1 : Int) to))) 271 to) (fw_shl (1 : Int) r1)))))))))))))) :
    jf fw_T (d + 2) 46 0 [(0, .inr (.inl 268)), (1, .inl nn), (2, .inl to)] [] W Post := fw_ok (n := 31) (ss := []) (hv := []) fr_46_ok fv_marksl_ok (ct_k_linkFirstEnd_ok d) hw_

def x_k_linkFirstEnd : fw_X := fun as W Q => match as with
  | [.inr (.inl s_), .inl nn, .inl to] => fw_if (Nat.beq s_ 268) (((2 ≤ nn ∧ nn ≤ 14 ∧ 0 ≤ to ∧ to < nn) ∧ (∃ l_, 0 ≤ l_ ∧ l_ < nn ∧ (fw_g W 270 l_) = 1) ∧ kb nn W) ∧ (∀ (f : fw_W), (lk_ok nn to W (fw_put [270, 271] 0 [] W f)) → Q none (fw_put [270, 271] 0 [] W f)))
  | _ => False
theorem x_k_linkFirstEnd_ok (d : Nat) (as : List fw_V) (W : fw_W) (Q : Option fw_V → fw_W → Prop) (hx : x_k_linkFirstEnd as W Q) : jf fw_T (d + 2) 46 0 (fw_args 0 as) [] W Q := by
  unfold x_k_linkFirstEnd at hx
  split at hx
  · rename_i s_ nn to
    obtain ⟨e_, hpre, hQ⟩ := fw_if_ok hx
    have e_ := Nat.eq_of_beq_eq_true e_
    subst e_
    have hP : ∀ (W2 : fw_W), fw_sm [270, 271] 0 [] W W2 → (lk_ok nn to W W2) → Q none W2 := fun W2 hs hr => fw_sm_use (Q := fun Z => Q none Z) hs (hQ W2 (by rw [fw_sm_eq hs]; exact hr))
    refine s_k_linkFirstEnd_0 ?_
    have hp1 := hpre.1
    repeat' (first
      | (exact True.intro)
      | (exact hpre.1)
      | (refine And.intro ?_ ?_)
      | (refine hP _ (by repeat (first | exact fw_sm_refl | exact fw_sm_put0 | refine fw_sm_arr ?_ rfl | refine fw_sm_up ?_ rfl | refine fw_sm_put ?_ rfl | refine fw_sm_cp ?_ rfl)) ?_; (
         rename_i r1 h1 w1 w2 w3 w4 w5 w6 w7 w8 w9 w10 w11 w12
         have q : 0 ≤ r1 ∧ r1 < nn ∧ fw_g W 270 r1 = 1 ∧ ∀ x_, 0 ≤ x_ → x_ < r1 → fw_g W 270 x_ ≠ 1 := by
           rcases h1.2.2 with q | q
           · exact q
           · exfalso
             obtain ⟨l, l1, l2, l3⟩ := hpre.2.1
             exact q.2 l l1 l2 l3
         exact lk_mk (by omega) q.1 q.2.1 (by omega) (by omega) hpre.2.2 q.2.2 rfl rfl))
      | (
         rename_i r1 h1
         have q : 0 ≤ r1 ∧ r1 < nn := by
           rcases h1.2.2 with q | q
           · exact ⟨q.1, q.2.1⟩
           · exact ⟨by omega, by omega⟩
         omega)
      | omega
      | (intro _))
  · exact hx.elim

