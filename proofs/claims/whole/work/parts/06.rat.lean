/-! fractions that are not below 0, by numerator and denominator -/
def nu (q : Rat) : Nat := q.num.toNat
theorem nu_int {q : Rat} (h : 0 ≤ q) : ((nu q : Nat) : Int) = q.num := Int.toNat_of_nonneg (Rat.num_nonneg.mpr h)
theorem dn_pos (q : Rat) : 0 < q.den := Nat.pos_of_ne_zero q.den_nz
theorem dn_ne (q : Rat) : (q.den : Rat) ≠ 0 := fun h => q.den_nz (Rat.natCast_eq_zero_iff.mp h)
theorem nc_ne {d : Nat} (h : 0 < d) : (d : Rat) ≠ 0 := fun e => by
  have := Rat.natCast_eq_zero_iff.mp e
  omega
theorem nc_pos {d : Nat} (h : 0 < d) : (0 : Rat) < (d : Rat) := Rat.natCast_pos.mpr h
theorem nu_val {q : Rat} (h : 0 ≤ q) : ((nu q : Nat) : Rat) / ((q.den : Nat) : Rat) = q := by
  have e : ((nu q : Nat) : Rat) = ((q.num : Int) : Rat) := by
    rw [← nu_int h]; rfl
  rw [e, ← Rat.mkRat_eq_div, Rat.mkRat_self]
theorem nu_mul {q : Rat} (h : 0 ≤ q) : ((nu q : Nat) : Rat) = q * (q.den : Rat) := by
  have h1 := nu_val h
  have h2 := dn_ne q
  grind
theorem fr_mk {n d : Nat} (hd : 0 < d) : nu ((n : Rat) / (d : Rat)) = n / Nat.gcd n d ∧ ((n : Rat) / (d : Rat)).den = d / Nat.gcd n d ∧ (0 : Rat) ≤ (n : Rat) / (d : Rat) := by
  have e : (n : Rat) / (d : Rat) = mkRat (n : Int) d := by rw [Rat.mkRat_eq_div]; rfl
  have hd0 : d ≠ 0 := by omega
  have h1 : (mkRat (n : Int) d).num = (n : Int) / ((Nat.gcd n d : Nat) : Int) := by
    rw [Rat.num_mkRat, if_neg hd0, Int.natAbs_natCast, Nat.gcd_comm]
  have h2 : (mkRat (n : Int) d).den = d / Nat.gcd n d := by
    rw [Rat.den_mkRat, if_neg hd0, Int.natAbs_natCast, Nat.gcd_comm]
  rw [e]
  refine ⟨?_, h2, ?_⟩
  · unfold nu
    rw [h1, ← Int.natCast_ediv, Int.toNat_natCast]
  · rw [← Rat.num_nonneg, h1, ← Int.natCast_ediv]
    exact Int.natCast_nonneg _
/-- not below 0, numerator and denominator bounded -/
def bd (q : Rat) (N D : Nat) : Prop := 0 ≤ q ∧ nu q ≤ N ∧ q.den ≤ D
theorem bd.nn {q : Rat} {N D : Nat} (h : bd q N D) : 0 ≤ q := h.1
theorem bd_mk {n d : Nat} (hd : 0 < d) : bd ((n : Rat) / (d : Rat)) n d := by
  obtain ⟨h1, h2, h3⟩ := fr_mk (n := n) hd
  exact ⟨h3, by rw [h1]; exact Nat.div_le_self _ _, by rw [h2]; exact Nat.div_le_self _ _⟩
theorem bd.mono {q : Rat} {N D N' D' : Nat} (h : bd q N D) (h1 : N ≤ N') (h2 : D ≤ D') : bd q N' D' := ⟨h.1, Nat.le_trans h.2.1 h1, Nat.le_trans h.2.2 h2⟩
theorem bd_self {q : Rat} (h : 0 ≤ q) : bd q (nu q) q.den := ⟨h, Nat.le_refl _, Nat.le_refl _⟩
theorem bd_nat (n : Nat) : bd (n : Rat) n 1 := ⟨Rat.natCast_nonneg, by simp [nu], by simp⟩
theorem mul_mk {x y : Rat} (hx : 0 ≤ x) (hy : 0 ≤ y) : x * y = ((nu x * nu y : Nat) : Rat) / ((x.den * y.den : Nat) : Rat) := by
  have h1 := nu_mul hx
  have h2 := nu_mul hy
  have h3 := dn_ne x
  have h4 := dn_ne y
  rw [Rat.natCast_mul, Rat.natCast_mul, h1, h2]
  grind
theorem add_mk {x y : Rat} (hx : 0 ≤ x) (hy : 0 ≤ y) : x + y = ((nu x * y.den + nu y * x.den : Nat) : Rat) / ((x.den * y.den : Nat) : Rat) := by
  have h1 := nu_mul hx
  have h2 := nu_mul hy
  have h3 := dn_ne x
  have h4 := dn_ne y
  rw [Rat.natCast_add, Rat.natCast_mul, Rat.natCast_mul, Rat.natCast_mul, h1, h2]
  grind
theorem nu_pos {x : Rat} (hx : 0 < x) : 0 < nu x := by
  have h0 : 0 ≤ x := Rat.le_of_lt hx
  rcases Nat.eq_zero_or_pos (nu x) with h | h
  · exfalso
    have h1 := nu_val h0
    rw [h] at h1
    have : x = 0 := by rw [← h1]; simp [Rat.div_def]
    rw [this] at hx
    exact Rat.lt_irrefl hx
  · exact h
theorem nu_eq0 {x : Rat} (hx : 0 ≤ x) : nu x = 0 ↔ x = 0 := by
  constructor
  · intro h
    have h1 := nu_val hx
    rw [← h1, h]; simp [Rat.div_def]
  · intro h; rw [h]; rfl
theorem pos_of {x : Rat} (hx : 0 ≤ x) (h : x ≠ 0) : 0 < x := Rat.lt_of_le_of_ne hx (Ne.symm h)
theorem inv_mk {x : Rat} (hx : 0 < x) : x⁻¹ = ((x.den : Nat) : Rat) / ((nu x : Nat) : Rat) := by
  have h1 := nu_mul (Rat.le_of_lt hx)
  have h3 := dn_ne x
  have h4 := Rat.ne_of_gt hx
  rw [h1]
  grind
theorem div_mk {x y : Rat} (hx : 0 ≤ x) (hy : 0 < y) : x / y = ((nu x * y.den : Nat) : Rat) / ((x.den * nu y : Nat) : Rat) := by
  have h1 := nu_mul hx
  have h2 := nu_mul (Rat.le_of_lt hy)
  have h3 := dn_ne x
  have h4 := dn_ne y
  have h5 := Rat.ne_of_gt hy
  rw [Rat.natCast_mul, Rat.natCast_mul, h1, h2]
  grind
theorem sub_mk {x : Rat} {w : Nat} (hx : 0 ≤ x) (h : nu x ≤ w * x.den) : (w : Rat) - x = ((w * x.den - nu x : Nat) : Rat) / ((x.den : Nat) : Rat) := by
  have h1 := nu_mul hx
  have h3 := dn_ne x
  have e : ((w * x.den - nu x : Nat) : Rat) + (nu x : Rat) = (w : Rat) * (x.den : Rat) := by
    rw [← Rat.natCast_add, Nat.sub_add_cancel h, Rat.natCast_mul]
  grind
theorem muln_mk {x : Rat} {w : Nat} (hx : 0 ≤ x) : x * (w : Rat) = ((nu x * w : Nat) : Rat) / ((x.den : Nat) : Rat) := by
  have h1 := nu_mul hx
  have h3 := dn_ne x
  rw [Rat.natCast_mul, h1]
  grind
theorem bd_mul {x y : Rat} {N D N' D' : Nat} (hx : bd x N D) (hy : bd y N' D') : bd (x * y) (N * N') (D * D') := by
  rw [mul_mk hx.1 hy.1]
  exact (bd_mk (Nat.mul_pos (dn_pos x) (dn_pos y))).mono (Nat.mul_le_mul hx.2.1 hy.2.1) (Nat.mul_le_mul hx.2.2 hy.2.2)
theorem bd_muln {x : Rat} {w N D : Nat} (hx : bd x N D) : bd (x * (w : Rat)) (N * w) D := by
  rw [muln_mk hx.1]
  exact (bd_mk (dn_pos x)).mono (Nat.mul_le_mul hx.2.1 (Nat.le_refl _)) hx.2.2
theorem bd_add {x y : Rat} {N D N' D' : Nat} (hx : bd x N D) (hy : bd y N' D') : bd (x + y) (N * D' + N' * D) (D * D') := by
  rw [add_mk hx.1 hy.1]
  exact (bd_mk (Nat.mul_pos (dn_pos x) (dn_pos y))).mono (Nat.add_le_add (Nat.mul_le_mul hx.2.1 hy.2.2) (Nat.mul_le_mul hy.2.1 hx.2.2)) (Nat.mul_le_mul hx.2.2 hy.2.2)
theorem bd_inv {x : Rat} {N D : Nat} (hx : bd x N D) (h : 0 < x) : bd x⁻¹ D N := by
  rw [inv_mk h]
  exact (bd_mk (nu_pos h)).mono hx.2.2 hx.2.1
theorem bd_div {x y : Rat} {N D N' D' : Nat} (hx : bd x N D) (hy : bd y N' D') (h : 0 < y) : bd (x / y) (N * D') (D * N') := by
  rw [div_mk hx.1 h]
  exact (bd_mk (Nat.mul_pos (dn_pos x) (nu_pos h))).mono (Nat.mul_le_mul hx.2.1 hy.2.2) (Nat.mul_le_mul hx.2.2 hy.2.1)
theorem le_nu {x : Rat} {w : Nat} (hx : 0 ≤ x) : x ≤ (w : Rat) ↔ nu x ≤ w * x.den := by
  rw [Rat.le_iff, ← nu_int hx, Rat.num_natCast, Rat.den_natCast]
  constructor
  · intro h; have := h; simp only [Int.natCast_one, Int.mul_one] at this; exact_mod_cast this
  · intro h; simp only [Int.natCast_one, Int.mul_one]; exact_mod_cast h
theorem bd_sub {x : Rat} {w N D : Nat} (hx : bd x N D) (h : x ≤ (w : Rat)) : bd ((w : Rat) - x) (w * D) D := by
  rw [sub_mk hx.1 ((le_nu hx.1).mp h)]
  exact (bd_mk (dn_pos x)).mono (Nat.le_trans (Nat.sub_le _ _) (Nat.mul_le_mul (Nat.le_refl _) hx.2.2)) hx.2.2
theorem lt_nu {x y : Rat} (hx : 0 ≤ x) (hy : 0 ≤ y) : x < y ↔ nu x * y.den < nu y * x.den := by
  rw [Rat.lt_iff, ← nu_int hx, ← nu_int hy]
  constructor
  · intro h; exact_mod_cast h
  · intro h; exact_mod_cast h
theorem same_nu {x y : Rat} (hx : 0 ≤ x) (hy : 0 ≤ y) : x = y ↔ nu x = nu y ∧ x.den = y.den := by
  constructor
  · intro h; rw [h]; exact ⟨rfl, rfl⟩
  · rintro ⟨h1, h2⟩
    rw [← nu_val hx, ← nu_val hy, h1, h2]
/-! Euclid's way, at most so many steps -/
def eu : Nat → Nat → Nat → Nat
  | 0, a, _ => a
  | n + 1, a, b => if b = 0 then a else eu n b (a % b)
def fb : Nat → Nat × Nat
  | 0 => (1, 1)
  | n + 1 => ((fb n).2, (fb n).1 + (fb n).2)
theorem eu_bad : ∀ (n a b : Nat), b < a → eu n a b ≠ Nat.gcd a b → (fb n).1 ≤ b ∧ (fb n).2 ≤ a := by
  intro n
  induction n with
  | zero =>
    intro a b h1 h2
    have hb : b ≠ 0 := by
      intro e; subst e
      exact h2 (by simp [eu])
    simp only [fb]
    omega
  | succ n ih =>
    intro a b h1 h2
    have hb : b ≠ 0 := by
      intro e; subst e
      exact h2 (by simp [eu])
    have e : Nat.gcd a b = Nat.gcd b (a % b) := by
      rw [Nat.gcd_comm a b, Nat.gcd_rec b a, Nat.gcd_comm]
    rw [eu, if_neg hb, e] at h2
    obtain ⟨h3, h4⟩ := ih b (a % b) (Nat.mod_lt _ (by omega)) h2
    have h5 : b + a % b ≤ a := by
      have := Nat.div_add_mod a b
      have h6 : 1 ≤ a / b := (Nat.le_div_iff_mul_le (by omega)).mpr (by omega)
      have h7 : b * 1 ≤ b * (a / b) := Nat.mul_le_mul (Nat.le_refl _) h6
      omega
    simp only [fb]
    omega
theorem eu_gcd {a b : Nat} (hb : b < 2 ^ 63) : eu 100 a b = Nat.gcd a b := by
  by_cases h0 : b = 0
  · subst h0; simp [eu]
  · have e : Nat.gcd a b = Nat.gcd b (a % b) := by
      rw [Nat.gcd_comm a b, Nat.gcd_rec b a, Nat.gcd_comm]
    show eu (99 + 1) a b = _
    rw [eu, if_neg h0, e]
    by_cases h : eu 99 b (a % b) = Nat.gcd b (a % b)
    · exact h
    · exfalso
      obtain ⟨h1, h2⟩ := eu_bad 99 b (a % b) (Nat.mod_lt _ (by omega)) h
      have h3 : (fb 99).2 = 573147844013817084101 := by decide +kernel
      rw [h3] at h2
      omega
