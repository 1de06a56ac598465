/-! where a rafter ends; the peak -/
def enp (X Y : Nat) (q : Nat → Rat) (side t : Nat) : Nat → Nat
  | 0 => opp side
  | n + 1 => if n ≠ side ∧ n ≠ opp side ∧ gab q n = false ∧ (lim X Y q side t n < lim X Y q side t (enp X Y q side t n) ∨ (lim X Y q side t n = lim X Y q side t (enp X Y q side t n) ∧ n < enp X Y q side t n)) then n else enp X Y q side t n
theorem opp_lt (k : Nat) : opp k < 4 := Nat.mod_lt _ (by decide)
theorem behind_lt (k : Nat) : behind k < 4 := Nat.mod_lt _ (by decide)
theorem enp_ok (X Y : Nat) (q : Nat → Rat) (side t : Nat) : ∀ n, n ≤ 4 → enp X Y q side t n < 4 ∧ (enp X Y q side t n = opp side ∨ gab q (enp X Y q side t n) = false) := by
  intro n
  induction n with
  | zero => intro _; exact ⟨opp_lt side, Or.inl rfl⟩
  | succ n ih =>
    intro h
    simp only [enp]
    split
    · rename_i h1; exact ⟨by omega, Or.inr h1.2.2.1⟩
    · exact ih (by omega)
theorem enp_no {X Y : Nat} {q : Nat → Rat} {side t n : Nat} (h : n = side ∨ n = opp side ∨ gab q n = true ∨ (¬ lim X Y q side t n < lim X Y q side t (enp X Y q side t n) ∧ (lim X Y q side t n = lim X Y q side t (enp X Y q side t n) → enp X Y q side t n ≤ n))) : enp X Y q side t (n + 1) = enp X Y q side t n := by
  rw [enp, if_neg]
  rintro ⟨h1, h2, h3, h4⟩
  rcases h with h | h | h | ⟨h5, h6⟩
  · exact h1 h
  · exact h2 h
  · rw [h3] at h; cases h
  · rcases h4 with h4 | ⟨h4, h7⟩
    · exact h5 h4
    · have := h6 h4; omega
theorem enp_yes {X Y : Nat} {q : Nat → Rat} {side t n : Nat} (h1 : n ≠ side) (h2 : n ≠ opp side) (h3 : gab q n = false) (h4 : lim X Y q side t n < lim X Y q side t (enp X Y q side t n) ∨ (lim X Y q side t n = lim X Y q side t (enp X Y q side t n) ∧ n < enp X Y q side t n)) : enp X Y q side t (n + 1) = n := by
  rw [enp, if_pos ⟨h1, h2, h3, h4⟩]
theorem lwp_t {X Y : Nat} {q : Nat → Rat} {x y n : Nat} (h1 : gab q (n + 1) = false) (h2 : gab q (lwp X Y q x y n) = true ∨ hgt X Y q x y (n + 1) < hgt X Y q x y (lwp X Y q x y n)) : lwp X Y q x y (n + 1) = n + 1 := if_pos ⟨h1, h2⟩
theorem lwp_f {X Y : Nat} {q : Nat → Rat} {x y n : Nat} (h : gab q (n + 1) = true ∨ (gab q (lwp X Y q x y n) = false ∧ ¬ hgt X Y q x y (n + 1) < hgt X Y q x y (lwp X Y q x y n))) : lwp X Y q x y (n + 1) = lwp X Y q x y n := if_neg (by
  rintro ⟨h1, h2⟩
  rcases h with h | ⟨h3, h4⟩
  · rw [h1] at h; cases h
  · rcases h2 with h2 | h2
    · rw [h3] at h2; cases h2
    · exact h4 h2)
def pk (X Y : Nat) (q : Nat → Rat) : Rat :=
  if q 3 + q 1 = 0 then (q 0 + q 2)⁻¹ * (Y : Rat) else if q 0 + q 2 = 0 then (q 3 + q 1)⁻¹ * (X : Rat) else if (q 3 + q 1)⁻¹ * (X : Rat) < (q 0 + q 2)⁻¹ * (Y : Rat) then (q 3 + q 1)⁻¹ * (X : Rat) else (q 0 + q 2)⁻¹ * (Y : Rat)
theorem sum0 {x y : Rat} (hx : 0 ≤ x) (hy : 0 ≤ y) (h : x + y = 0) : x = 0 ∧ y = 0 := by
  constructor <;> grind
theorem OK.pos {X Y : Nat} {q : Nat → Rat} (h : OK X Y q) (h0 : q 3 + q 1 = 0) : 0 < q 0 + q 2 := by
  have b0 := (h.2.2.1 0 (by decide)).1
  have b1 := (h.2.2.1 1 (by decide)).1
  have b2 := (h.2.2.1 2 (by decide)).1
  have b3 := (h.2.2.1 3 (by decide)).1
  obtain ⟨e3, e1⟩ := sum0 b3 b1 h0
  obtain ⟨k, hk, hne⟩ := h.2.2.2
  rcases (show k = 0 ∨ k = 1 ∨ k = 2 ∨ k = 3 by omega) with rfl | rfl | rfl | rfl
  · have := pos_of b0 hne; grind
  · exact absurd e1 hne
  · have := pos_of b2 hne; grind
  · exact absurd e3 hne
theorem bd_s31 {X Y : Nat} {q : Nat → Rat} (h : OK X Y q) : bd (q 3 + q 1) 800 400 := bd_add (h.2.2.1 3 (by decide)) (h.2.2.1 1 (by decide))
theorem bd_s02 {X Y : Nat} {q : Nat → Rat} (h : OK X Y q) : bd (q 0 + q 2) 800 400 := bd_add (h.2.2.1 0 (by decide)) (h.2.2.1 2 (by decide))
theorem bd_px {X Y : Nat} {q : Nat → Rat} (h : OK X Y q) (h0 : 0 < q 3 + q 1) : bd ((q 3 + q 1)⁻¹ * (X : Rat)) 800000 800 := (bd_muln (w := X) (bd_inv (bd_s31 h) h0)).mono (by have := h.1.2; omega) (Nat.le_refl _)
theorem bd_py {X Y : Nat} {q : Nat → Rat} (h : OK X Y q) (h0 : 0 < q 0 + q 2) : bd ((q 0 + q 2)⁻¹ * (Y : Rat)) 800000 800 := (bd_muln (w := Y) (bd_inv (bd_s02 h) h0)).mono (by have := h.2.1.2; omega) (Nat.le_refl _)
theorem bd_pk {X Y : Nat} {q : Nat → Rat} (h : OK X Y q) : bd (pk X Y q) 800000 800 := by
  unfold pk
  split
  · rename_i h0; exact bd_py h (h.pos h0)
  · rename_i h1
    have p1 := pos_of (bd_s31 h).1 h1
    split
    · exact bd_px h p1
    · rename_i h2
      have p2 := pos_of (bd_s02 h).1 h2
      split
      · exact bd_px h p1
      · exact bd_py h p2
theorem pk_x {X Y : Nat} {q : Nat → Rat} (h : OK X Y q) : pk X Y q * (q 3 + q 1) ≤ (X : Rat) := by
  have hX : (0 : Rat) ≤ (X : Rat) := Rat.natCast_nonneg
  unfold pk
  split
  · rename_i h0; rw [h0]; grind
  · rename_i h1
    have p1 := pos_of (bd_s31 h).1 h1
    have e : (q 3 + q 1)⁻¹ * (X : Rat) * (q 3 + q 1) = (X : Rat) := by grind
    split
    · rw [e]; exact Rat.le_refl
    · split
      · rw [e]; exact Rat.le_refl
      · rename_i h3
        have := Rat.mul_le_mul_of_nonneg_right (Rat.not_lt.mp h3) (Rat.le_of_lt p1)
        rw [e] at this
        exact this
theorem pk_y {X Y : Nat} {q : Nat → Rat} (h : OK X Y q) : pk X Y q * (q 0 + q 2) ≤ (Y : Rat) := by
  have hY : (0 : Rat) ≤ (Y : Rat) := Rat.natCast_nonneg
  have e : ∀ h : 0 < q 0 + q 2, (q 0 + q 2)⁻¹ * (Y : Rat) * (q 0 + q 2) = (Y : Rat) := fun h => by
    have := Rat.ne_of_gt h
    grind
  unfold pk
  split
  · rename_i h0; rw [e (h.pos h0)]; exact Rat.le_refl
  · rename_i h1
    split
    · rename_i h2; rw [h2]; grind
    · rename_i h2
      have p2 := pos_of (bd_s02 h).1 h2
      split
      · rename_i h3
        have := Rat.mul_le_mul_of_nonneg_right (Rat.le_of_lt h3) (Rat.le_of_lt p2)
        rw [e p2] at this
        exact this
      · rw [e p2]; exact Rat.le_refl
theorem mono4 {P a b w : Rat} (hP : 0 ≤ P) (ha : 0 ≤ a) (hb : 0 ≤ b) (h : P * (a + b) ≤ w) : P * a ≤ w ∧ P * b ≤ w := by
  have h1 := Rat.mul_nonneg hP ha
  have h2 := Rat.mul_nonneg hP hb
  rw [Rat.mul_add] at h
  constructor <;> grind
theorem pk_side {X Y : Nat} {q : Nat → Rat} (h : OK X Y q) {k : Nat} (hk : k < 4) : pk X Y q * q k ≤ ((wayo X Y k : Nat) : Rat) := by
  have b := fun k hk => (h.2.2.1 k hk).1
  have h1 := mono4 (bd_pk h).1 (b 3 (by decide)) (b 1 (by decide)) (pk_x h)
  have h2 := mono4 (bd_pk h).1 (b 0 (by decide)) (b 2 (by decide)) (pk_y h)
  rcases (show k = 0 ∨ k = 1 ∨ k = 2 ∨ k = 3 by omega) with rfl | rfl | rfl | rfl
  · exact h2.1
  · exact h1.2
  · exact h2.2
  · exact h1.1
theorem bd_in {X Y : Nat} {q : Nat → Rat} (h : OK X Y q) {k : Nat} (hk : k < 4) : bd (pk X Y q * q k) 16000000 16000 := bd_mul (bd_pk h) (h.2.2.1 k hk)
/-- both sides beside a side -/
def bes (q : Nat → Rat) (k : Nat) : Rat := q (behind k) + q (opp (behind k))
theorem pk_bes {X Y : Nat} {q : Nat → Rat} (h : OK X Y q) {k : Nat} (hk : k < 4) : pk X Y q * bes q k ≤ ((slen X Y k : Nat) : Rat) := by
  have h1 := pk_x h
  have h2 := pk_y h
  have h1' : pk X Y q * (q 1 + q 3) ≤ (X : Rat) := by rw [Rat.add_comm]; exact h1
  have h2' : pk X Y q * (q 2 + q 0) ≤ (Y : Rat) := by rw [Rat.add_comm]; exact h2
  rcases (show k = 0 ∨ k = 1 ∨ k = 2 ∨ k = 3 by omega) with rfl | rfl | rfl | rfl
  · exact h1'
  · exact h2'
  · exact h1
  · exact h2
def rdg (X Y : Nat) (q : Nat → Rat) (w : Nat) : Rat := if w = 0 then pk X Y q * q 3 else if w = 1 then (X : Rat) - pk X Y q * q 1 else if w = 2 then pk X Y q * q 0 else (Y : Rat) - pk X Y q * q 2
def are (X Y : Nat) (q : Nat → Rat) (k : Nat) : Rat := pk X Y q * q k * (((2 * slen X Y k : Nat) : Rat) - pk X Y q * bes q k)
/-- the square of the way up the slope -/
def sqr (q : Nat → Rat) (k : Nat) (z : Rat) : Rat := ((q k)⁻¹ * (q k)⁻¹ + 1) * z * z
theorem bd_sqr {q : Nat → Rat} {k : Nat} {z : Rat} (hq : bd (q k) 20 20) (h0 : 0 < q k) (hz : bd z 16000000 16000) : bd (sqr q k z) 204800000000000000 102400000000 := by
  have h1 := bd_inv hq h0
  exact bd_mul (bd_mul (bd_add (bd_mul h1 h1) (bd_nat 1)) hz) hz
def rt : Nat → Nat → Nat → Nat
  | 0, r, _ => r
  | k + 1, r, n => if (r + 2 ^ k) * (r + 2 ^ k) ≤ n then rt k (r + 2 ^ k) n else rt k r n
theorem rt_ok : ∀ (k r n : Nat), r * r ≤ n → n < (r + 2 ^ k) * (r + 2 ^ k) → rt k r n * rt k r n ≤ n ∧ n < (rt k r n + 1) * (rt k r n + 1) := by
  intro k
  induction k with
  | zero => intro r n h1 h2; simpa [rt] using ⟨h1, h2⟩
  | succ k ih =>
    intro r n h1 h2
    rw [rt]
    split
    · rename_i h
      exact ih _ _ h (by rw [Nat.add_assoc, ← Nat.two_mul, ← Nat.pow_succ']; exact h2)
    · rename_i h
      exact ih _ _ h1 (Nat.lt_of_not_le h)
def isq (n : Nat) : Nat := rt 31 0 n
theorem isq_ok {n : Nat} (h : n < 2 ^ 62) : isq n * isq n ≤ n ∧ n < (isq n + 1) * (isq n + 1) := rt_ok 31 0 n (Nat.zero_le _) (Nat.lt_of_lt_of_le h (by decide))
def tng (X Y : Nat) (q : Nat → Rat) (side t cut : Nat) : Rat := if cut = 0 then (q side)⁻¹ else if cut = 1 then q side else if enp X Y q side t 4 = opp side then 0 else q (enp X Y q side t 4) / q side
theorem wb_tb (n : Nat) : (lN n).toBitVec = BitVec.ofNat 64 n := rfl
theorem wb_inj {a b : Int64} (h : a.toBitVec = b.toBitVec) : a = b := Int64.toBitVec_inj.mp h
theorem wb_c : ∀ k, k < 64 → ((nI k).toInt64 &&& 63) = lN k := by decide +kernel
theorem wb_sm : ∀ k, k < 64 → (BitVec.ofNat 64 k).smod 64 = BitVec.ofNat 64 k := by decide +kernel
theorem wb_shl (n : Nat) {k : Nat} (hk : k < 64) : lN n <<< ((nI k).toInt64 &&& 63) = lN (n * 2 ^ k) := by
  rw [wb_c k hk]
  apply wb_inj
  rw [Int64.toBitVec_shiftLeft, wb_tb, wb_tb, wb_tb, wb_sm k hk]
  apply BitVec.eq_of_toNat_eq
  rw [BitVec.shiftLeft_eq', BitVec.toNat_shiftLeft, BitVec.toNat_ofNat, BitVec.toNat_ofNat, BitVec.toNat_ofNat, Nat.mod_eq_of_lt (show k < 2 ^ 64 by omega), Nat.shiftLeft_eq, Nat.mul_mod, Nat.mod_mod, ← Nat.mul_mod]
