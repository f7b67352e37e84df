/-! states of carts: four places of four bits -/
def nb4 (s c : Int) : Int := s / ((16 ^ c.toNat : Nat) : Int) % 16
def gs4 (K s : Int) : Prop := 0 ≤ s ∧ s ≤ 65535 ∧ ∀ c, 0 ≤ c → c < K → nb4 s c < 14
theorem nb4_b (s c : Int) : 0 ≤ nb4 s c ∧ nb4 s c ≤ 15 := by
  unfold nb4
  have h1 := Int.emod_nonneg (s / ((16 ^ c.toNat : Nat) : Int)) (show (16 : Int) ≠ 0 by decide)
  have h2 := Int.emod_lt_of_pos (s / ((16 ^ c.toNat : Nat) : Int)) (show (0 : Int) < 16 by decide)
  omega
theorem c_4 {c : Int} (h0 : 0 ≤ c) (h1 : c < 4) : c = 0 ∨ c = 1 ∨ c = 2 ∨ c = 3 := by omega
theorem nb4_0 (s : Int) : nb4 s 0 = s % 16 := by show s / 1 % 16 = s % 16; rw [Int.ediv_one]
theorem nb4_1 (s : Int) : nb4 s 1 = s / 16 % 16 := rfl
theorem nb4_2 (s : Int) : nb4 s 2 = s / 256 % 16 := rfl
theorem nb4_3 (s : Int) : nb4 s 3 = s / 4096 % 16 := rfl
theorem gs4_up {K s c h : Int} (g : gs4 K s) (hK : K ≤ 4) (c0 : 0 ≤ c) (c1 : c < K) (h0 : 0 ≤ h) (h1 : h < 14) : gs4 K (s + (h - nb4 s c) * ((16 ^ c.toNat : Nat) : Int)) := by
  obtain ⟨g1, g2, g3⟩ := g
  have q0 := g3 0 (by omega)
  have q1 := g3 1 (by omega)
  have q2 := g3 2 (by omega)
  have q3 := g3 3 (by omega)
  rw [nb4_0] at q0
  rw [nb4_1] at q1
  rw [nb4_2] at q2
  rw [nb4_3] at q3
  have key : ∀ s', (0 ≤ s' ∧ s' ≤ 65535) → (∀ j, 0 ≤ j → j < K → (j = 0 → s' % 16 < 14) ∧ (j = 1 → s' / 16 % 16 < 14) ∧ (j = 2 → s' / 256 % 16 < 14) ∧ (j = 3 → s' / 4096 % 16 < 14)) → gs4 K s' := fun s' hs hj => ⟨hs.1, hs.2, fun j j0 j1 => by
    have := hj j j0 j1
    rcases c_4 j0 (by omega) with e | e | e | e
    · subst e; rw [nb4_0]; exact this.1 rfl
    · subst e; rw [nb4_1]; exact this.2.1 rfl
    · subst e; rw [nb4_2]; exact this.2.2.1 rfl
    · subst e; rw [nb4_3]; exact this.2.2.2 rfl⟩
  rcases c_4 c0 (by omega) with e | e | e | e
  · subst e
    rw [nb4_0]
    show gs4 K (s + (h - s % 16) * 1)
    refine key _ (by omega) (fun j j0 j1 => ⟨fun e => by omega, fun e => by omega, fun e => by omega, fun e => by omega⟩)
  · subst e
    rw [nb4_1]
    show gs4 K (s + (h - s / 16 % 16) * 16)
    refine key _ (by omega) (fun j j0 j1 => ⟨fun e => by omega, fun e => by omega, fun e => by omega, fun e => by omega⟩)
  · subst e
    rw [nb4_2]
    show gs4 K (s + (h - s / 256 % 16) * 256)
    refine key _ (by omega) (fun j j0 j1 => ⟨fun e => by omega, fun e => by omega, fun e => by omega, fun e => by omega⟩)
  · subst e
    rw [nb4_3]
    show gs4 K (s + (h - s / 4096 % 16) * 4096)
    refine key _ (by omega) (fun j j0 j1 => ⟨fun e => by omega, fun e => by omega, fun e => by omega, fun e => by omega⟩)
/-- so far: below 16 ^ c, all places small -/
def gp4 (c s : Int) : Prop := 0 ≤ s ∧ s < ((16 ^ c.toNat : Nat) : Int) ∧ ∀ j, 0 ≤ j → j < c → nb4 s j < 14
theorem gp4_up {c s x : Int} (g : gp4 c s) (c0 : 0 ≤ c) (c1 : c < 4) (x0 : 0 ≤ x) (x1 : x < 14) : gp4 (c + 1) (s + x * ((16 ^ c.toNat : Nat) : Int)) := by
  obtain ⟨g1, g2, g3⟩ := g
  have q0 := g3 0 (by omega)
  have q1 := g3 1 (by omega)
  have q2 := g3 2 (by omega)
  rw [nb4_0] at q0
  rw [nb4_1] at q1
  rw [nb4_2] at q2
  rcases c_4 c0 c1 with e | e | e | e
  · subst e
    have g2 : s < 1 := g2
    refine ⟨by show 0 ≤ s + x * 1; omega, by show s + x * 1 < 16; omega, fun j j0 j1 => ?_⟩
    have : j = 0 := by omega
    subst this
    rw [nb4_0]
    show (s + x * 1) % 16 < 14
    omega
  · subst e
    have g2 : s < 16 := g2
    refine ⟨by show 0 ≤ s + x * 16; omega, by show s + x * 16 < 256; omega, fun j j0 j1 => ?_⟩
    rcases (by omega : j = 0 ∨ j = 1) with e | e
    · subst e; rw [nb4_0]; show (s + x * 16) % 16 < 14; omega
    · subst e; rw [nb4_1]; show (s + x * 16) / 16 % 16 < 14; omega
  · subst e
    have g2 : s < 256 := g2
    refine ⟨by show 0 ≤ s + x * 256; omega, by show s + x * 256 < 4096; omega, fun j j0 j1 => ?_⟩
    rcases (by omega : j = 0 ∨ j = 1 ∨ j = 2) with e | e | e
    · subst e; rw [nb4_0]; show (s + x * 256) % 16 < 14; omega
    · subst e; rw [nb4_1]; show (s + x * 256) / 16 % 16 < 14; omega
    · subst e; rw [nb4_2]; show (s + x * 256) / 256 % 16 < 14; omega
  · subst e
    have g2 : s < 4096 := g2
    refine ⟨by show 0 ≤ s + x * 4096; omega, by show s + x * 4096 < 65536; omega, fun j j0 j1 => ?_⟩
    rcases (by omega : j = 0 ∨ j = 1 ∨ j = 2 ∨ j = 3) with e | e | e | e
    · subst e; rw [nb4_0]; show (s + x * 4096) % 16 < 14; omega
    · subst e; rw [nb4_1]; show (s + x * 4096) / 16 % 16 < 14; omega
    · subst e; rw [nb4_2]; show (s + x * 4096) / 256 % 16 < 14; omega
    · subst e; rw [nb4_3]; show (s + x * 4096) / 4096 % 16 < 14; omega
theorem gp4_gs {K s : Int} (g : gp4 K s) (k0 : 0 ≤ K) (k1 : K ≤ 4) : gs4 K s := by
  refine ⟨g.1, ?_, g.2.2⟩
  have h := g.2.1
  have : ((16 ^ K.toNat : Nat) : Int) ≤ 65536 := by
    rcases (by omega : K = 0 ∨ K = 1 ∨ K = 2 ∨ K = 3 ∨ K = 4) with e | e | e | e | e <;> subst e <;> decide
  omega
theorem pl_eq {s c : Int} (s0 : 0 ≤ s) (s1 : s ≤ 65535) (c0 : 0 ≤ c) (c1 : c ≤ 3) : fw_and (fw_shr s (4 * c)) 15 = nb4 s c := by
  rw [fw_shr_nat s0 (by omega) (by omega) (by omega), fw_and_nat (Int.natCast_nonneg _) (Int.le_trans (Int.ofNat_le.mpr (Nat.div_le_self s.toNat (2 ^ (4 * c).toNat))) (by omega)) (by omega) (by omega)]
  unfold nb4
  rw [Int.toNat_natCast]
  show ((s.toNat / 2 ^ (4 * c).toNat &&& 2 ^ 4 - 1 : Nat) : Int) = _
  rw [Nat.and_two_pow_sub_one_eq_mod]
  have e : 2 ^ (4 * c).toNat = 16 ^ c.toNat := by
    rcases c_4 c0 (by omega) with e | e | e | e <;> subst e <;> rfl
  rw [e]
  have h := Int.toNat_of_nonneg s0
  show ((s.toNat / 16 ^ c.toNat % 16 : Nat) : Int) = _
  rw [Int.natCast_emod, Int.natCast_ediv, h]
  rfl
def shd : Bool := (List.range 4).all (fun c => (List.range 31).all (fun d => decide (fw_shl ((d : Int) - 15) (4 * (c : Int)) = ((d : Int) - 15) * ((16 ^ c : Nat) : Int))))
theorem shd_ok : shd = true := by decide +kernel
theorem sh_eq {x c : Int} (x0 : -15 ≤ x) (x1 : x ≤ 15) (c0 : 0 ≤ c) (c1 : c < 4) : fw_shl x (4 * c) = x * ((16 ^ c.toNat : Nat) : Int) := by
  have h1 := List.all_eq_true.mp shd_ok c.toNat (List.mem_range.mpr (by omega))
  have h2 := of_decide_eq_true (List.all_eq_true.mp h1 (x + 15).toNat (List.mem_range.mpr (by omega)))
  rw [show (((x + 15).toNat : Nat) : Int) - 15 = x by omega, show ((c.toNat : Nat) : Int) = c by omega] at h2
  exact h2
theorem or_eq {c s x : Int} (c0 : 0 ≤ c) (c1 : c < 4) (s0 : 0 ≤ s) (s1 : s < ((16 ^ c.toNat : Nat) : Int)) (x0 : 0 ≤ x) (x1 : x < 14) : fw_or s (fw_shl x (4 * c)) = s + x * ((16 ^ c.toNat : Nat) : Int) := by
  rw [sh_eq (by omega) (by omega) c0 c1]
  have hp : ((16 ^ c.toNat : Nat) : Int) ≤ 4096 := by
    rcases c_4 c0 c1 with e | e | e | e <;> subst e <;> decide
  have hp0 : 0 < ((16 ^ c.toNat : Nat) : Int) := by
    rcases c_4 c0 c1 with e | e | e | e <;> subst e <;> decide
  have hx : 0 ≤ x * ((16 ^ c.toNat : Nat) : Int) := Int.mul_nonneg x0 (Int.le_of_lt hp0)
  have hx2 : x * ((16 ^ c.toNat : Nat) : Int) ≤ 13 * 4096 := Int.mul_le_mul (by omega) hp (Int.le_of_lt hp0) (by omega)
  rw [fw_or_nat s0 (by omega) hx (by omega)]
  have e2 : (x * ((16 ^ c.toNat : Nat) : Int)).toNat = 2 ^ (4 * c.toNat) * x.toNat := by
    have e3 : (2 : Nat) ^ (4 * c.toNat) = 16 ^ c.toNat := by
      rw [Nat.pow_mul]
    rw [e3]
    have : x * ((16 ^ c.toNat : Nat) : Int) = ((16 ^ c.toNat * x.toNat : Nat) : Int) := by
      rw [Int.natCast_mul, Int.toNat_of_nonneg x0, Int.mul_comm]
    rw [this, Int.toNat_natCast]
  have e3 : (2 : Nat) ^ (4 * c.toNat) = 16 ^ c.toNat := by rw [Nat.pow_mul]
  rw [e2, Nat.or_comm, ← Nat.two_pow_add_eq_or_of_lt (by rw [e3]; omega), ← e2]
  omega
