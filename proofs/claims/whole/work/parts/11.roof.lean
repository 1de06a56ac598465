theorem mlt {a b A B : Nat} (ha : a ≤ A) (hb : b ≤ B) (h : A * B < 2 ^ 63) : a * b < 2 ^ 63 := Nat.lt_of_le_of_lt (Nat.mul_le_mul ha hb) h
def b_plus (l : Launch) (g : En) (a b : Nat) {x y : Rat} {N D N' D' : Nat} (hx : bd x N D) (hy : bd y N' D') (h1 : N * D' + N' * D < 2 ^ 63) (h2 : D * D' < 2 ^ 63) := c_X0_plus l g a b x y hx.1 hy.1 (Nat.lt_of_le_of_lt (Nat.add_le_add (Nat.mul_le_mul hx.2.1 hy.2.2) (Nat.mul_le_mul hy.2.1 hx.2.2)) h1) (mlt hx.2.2 hy.2.2 h2)
def b_times (l : Launch) (g : En) (a b : Nat) {x y : Rat} {N D N' D' : Nat} (hx : bd x N D) (hy : bd y N' D') (h1 : N * N' < 2 ^ 63) (h2 : D * D' < 2 ^ 63) := c_X0_times l g a b x y hx.1 hy.1 (mlt hx.2.1 hy.2.1 h1) (mlt hx.2.2 hy.2.2 h2)
def b_timesn (l : Launch) (g : En) (a : Nat) {x : Rat} {w N D W : Nat} (hx : bd x N D) (hw : w ≤ W) (h1 : N * W < 2 ^ 63) (h2 : D < 2 ^ 63) := c_X0_times_ l g a w x hx.1 (mlt hx.2.1 hw h1) (Nat.lt_of_le_of_lt hx.2.2 h2)
def b_div (l : Launch) (g : En) (a b : Nat) {x y : Rat} {N D N' D' : Nat} (hx : bd x N D) (hy : bd y N' D') (h0 : 0 < y) (h1 : N * D' < 2 ^ 63) (h2 : D * N' < 2 ^ 63) := c_X0_dividedBy l g a b x y hx.1 h0 (mlt hx.2.1 hy.2.2 h1) (mlt hx.2.2 hy.2.1 h2)
def b_inv (l : Launch) (g : En) (a : Nat) {x : Rat} {N D : Nat} (hx : bd x N D) (h0 : 0 < x) (h1 : N < 2 ^ 63) (h2 : D < 2 ^ 63) := c_X0_inverse l g a x h0 (Nat.lt_of_le_of_lt hx.2.1 h1) (Nat.lt_of_le_of_lt hx.2.2 h2)
def b_sub (l : Launch) (g : En) (a : Nat) {x : Rat} {w N D W : Nat} (hx : bd x N D) (hw : x ≤ (w : Rat)) (hW : w ≤ W) (h1 : W * D < 2 ^ 63) (h2 : D < 2 ^ 63) := c_X0_takenFrom l g a w x hx.1 hw (mlt hW hx.2.2 h1) (Nat.lt_of_le_of_lt hx.2.2 h2)
def b_less (l : Launch) (g : En) (a b : Nat) {x y : Rat} {N D N' D' : Nat} (hx : bd x N D) (hy : bd y N' D') (h1 : N * D' < 2 ^ 63) (h2 : N' * D < 2 ^ 63) := c_X0_isLess l g a b x y hx.1 hy.1 (mlt hx.2.1 hy.2.2 h1) (mlt hy.2.1 hx.2.2 h2)
def b_same (l : Launch) (g : En) (a b : Nat) {x y : Rat} {N D N' D' : Nat} (hx : bd x N D) (hy : bd y N' D') (h1 : N < 2 ^ 63) (h2 : D < 2 ^ 63) (h3 : N' < 2 ^ 63) (h4 : D' < 2 ^ 63) := c_X0_isSame l g a b x y hx.1 hy.1 (Nat.lt_of_le_of_lt hx.2.1 h1) (Nat.lt_of_le_of_lt hy.2.1 h3) (Nat.lt_of_le_of_lt hx.2.2 h2) (Nat.lt_of_le_of_lt hy.2.2 h4)
def b_cut (l : Launch) (g : En) (a : Nat) {x : Rat} {N D : Nat} (hx : bd x N D) (h1 : N < 2 ^ 63) (h2 : D < 2 ^ 63) := c_X0_cutOff l g a x (Nat.lt_of_le_of_lt hx.2.1 h1) (Nat.lt_of_le_of_lt hx.2.2 h2)
/-! a roof: its extents, the runs of its sides (0: a gable) -/
def OK (X Y : Nat) (q : Nat → Rat) : Prop := (1 ≤ X ∧ X ≤ 2000) ∧ (1 ≤ Y ∧ Y ≤ 2000) ∧ (∀ k, k < 4 → bd (q k) 20 20) ∧ ∃ k, k < 4 ∧ q k ≠ 0
abbrev ob (o X Y r : Nat) : Nat × va_E := (o, .inr (1, [.long (lN X), .long (lN Y), .ref r]))
abbrev ar (g : En) (r : Nat) (A : Nat → Nat) : Nat × va_E := (r, .inl (g.2.1, 4, .inr (.inr (.inr (.inr (fun k => some (A k)))))))
def RF (g : En) (A : Nat → Nat) (q : Nat → Rat) (H : Heap) : Prop := ∀ k, k < 4 → va_at g.1 cl0 (fq (A k) (q k)) H
theorem RF.ext {g : En} {A : Nat → Nat} {q : Nat → Rat} {H H1 : Heap} (h : RF g A q H) (k : hxt H H1) : RF g A q H1 := fun i hi => (PP.ext (PP.one (h i hi)) k) 0 _ rfl
def RP (g : En) (o r : Nat) (A : Nat → Nat) (X Y : Nat) (q : Nat → Rat) (H : Heap) : Prop := PP g [ob o X Y r, ar g r A] H ∧ RF g A q H
theorem RP.of {g : En} {o r : Nat} {A : Nat → Nat} {X Y : Nat} {q : Nat → Rat} {H : Heap} {ws : va_W} (hP : PP g ws H) (is : List Nat) (h : is.filterMap (fun i => ws[i]?) = [ob o X Y r, ar g r A]) (hF : RF g A q H) : RP g o r A X Y q H := ⟨va_P.sub hP is h, hF⟩
def alongX (k : Nat) : Bool := decide (k = 0) || decide (k = 2)
def slen (X Y k : Nat) : Nat := if alongX k then X else Y
def wayo (X Y k : Nat) : Nat := if alongX k then Y else X
def dst (X Y k x y : Nat) : Nat := if k = 0 then y else if k = 1 then X - x else if k = 2 then Y - y else x
def gab (q : Nat → Rat) (k : Nat) : Bool := decide (q k = 0)
def hgt (X Y : Nat) (q : Nat → Rat) (x y k : Nat) : Rat := ((dst X Y k x y : Nat) : Rat) / q k
def lwp (X Y : Nat) (q : Nat → Rat) (x y : Nat) : Nat → Nat
  | 0 => 0
  | n + 1 => if gab q (n + 1) = false ∧ (gab q (lwp X Y q x y n) = true ∨ hgt X Y q x y (n + 1) < hgt X Y q x y (lwp X Y q x y n)) then n + 1 else lwp X Y q x y n
theorem lwp_le (X Y : Nat) (q : Nat → Rat) (x y n : Nat) : lwp X Y q x y n ≤ n := by
  induction n with
  | zero => exact Nat.le_refl _
  | succ n ih => simp only [lwp]; split <;> omega
theorem gab_pos {q : Nat → Rat} {k : Nat} (h : bd (q k) 20 20) (hg : gab q k = false) : 0 < q k := pos_of h.1 (of_decide_eq_false hg)
theorem slen_le {X Y : Nat} {q : Nat → Rat} (h : OK X Y q) (k : Nat) : slen X Y k ≤ 2000 := by
  unfold slen; split
  · exact h.1.2
  · exact h.2.1.2
theorem wayo_le {X Y : Nat} {q : Nat → Rat} (h : OK X Y q) (k : Nat) : wayo X Y k ≤ 2000 := by
  unfold wayo; split
  · exact h.2.1.2
  · exact h.1.2
theorem dst_le {X Y x y : Nat} {q : Nat → Rat} (h : OK X Y q) (hx : x ≤ X) (hy : y ≤ Y) (k : Nat) : dst X Y k x y ≤ 2000 := by
  have h1 := h.1.2
  have h2 := h.2.1.2
  unfold dst; split
  · omega
  · split
    · omega
    · split <;> omega
theorem bd_hgt {X Y x y : Nat} {q : Nat → Rat} (h : OK X Y q) (hx : x ≤ X) (hy : y ≤ Y) {k : Nat} (hk : k < 4) (hg : gab q k = false) : bd (hgt X Y q x y k) 40000 20 := by
  have h1 := bd_div (bd_nat (dst X Y k x y)) (h.2.2.1 k hk) (gab_pos (h.2.2.1 k hk) hg)
  exact h1.mono (by have := dst_le h hx hy k; omega) (by omega)
def opp (k : Nat) : Nat := (k + 2) % 4
def behind (k : Nat) : Nat := (k + 1) % 4
/-- how far in another side lets a rafter go -/
def lim (X Y : Nat) (q : Nat → Rat) (side t other : Nat) : Rat :=
  if other = opp side then q side / (q side + q other) * ((wayo X Y side : Nat) : Rat)
  else q side / q other * (((if other = 0 ∨ other = 3 then t else slen X Y side - t) : Nat) : Rat)
theorem bd_lim {X Y : Nat} {q : Nat → Rat} (h : OK X Y q) {side t other : Nat} (hs : side < 4) (ho : other < 4) (ht : t ≤ slen X Y side) (hg : gab q side = false) (hgo : other = opp side ∨ gab q other = false) : bd (lim X Y q side t other) 16000000 16000 := by
  have b1 := h.2.2.1 side hs
  have b2 := h.2.2.1 other ho
  have p1 := gab_pos b1 hg
  have hl := slen_le h side
  have hw := wayo_le h side
  unfold lim
  split
  · have b3 := bd_add b1 b2
    have p3 : 0 < q side + q other := by
      have := b2.1
      grind
    exact (bd_muln (w := wayo X Y side) (bd_div b1 b3 p3)).mono (by omega) (by omega)
  · have p2 : 0 < q other := gab_pos b2 (by
      rcases hgo with h9 | h9
      · contradiction
      · exact h9)
    refine (bd_muln (w := if other = 0 ∨ other = 3 then t else slen X Y side - t) (bd_div b1 b2 p2)).mono ?_ (by omega)
    have : (if other = 0 ∨ other = 3 then t else slen X Y side - t) ≤ 2000 := by split <;> omega
    omega

