/-! the reference's object -/
abbrev mob (mo : Nat) (cd : Int32) (x1 y1 ua oa ga : Nat) (ab be : Int64) : Nat × va_E := (mo, .inr (2, [.int cd, .long (lN x1), .long (lN y1), .ref ua, .ref oa, .ref ga, .long ab, .long be]))
abbrev mla (g : En) (a : Nat) (f : Nat → Nat) : Nat × va_E := (a, .inl (g.2.2.1, 4, .inr (.inl (fun k => lN (f k)))))
abbrev mza (g : En) (a : Nat) (q : Nat → Rat) : Nat × va_E := (a, .inl (g.2.2.2, 4, .inl (fun k => bI (gab q k))))
abbrev MO (g : En) (mo ua oa ga : Nat) (cd : Int32) (ab be : Int64) (x1 y1 : Nat) (U O : Nat → Nat) (q : Nat → Rat) (H : Heap) : Prop := PP g [mob mo cd x1 y1 ua oa ga ab be, mla g ua U, mla g oa O, mza g ga q] H
def MD (mo ua oa ga : Nat) : Prop := ua ≠ mo ∧ oa ≠ mo ∧ ga ≠ mo ∧ ua ≠ oa ∧ ua ≠ ga ∧ oa ≠ ga
def MR (q : Nat → Rat) (U O : Nat → Nat) : Prop := ∀ k, k < 4 → gab q k = false → O k = nu (q k) ∧ U k = (q k).den
def mk3 (c2 c3 : Nat) (a s g : Bool) : Nat := if a then (if s then (if g then 0 else c3) else c2) else 1
theorem gcd_step (x y : Nat) : Nat.gcd x y = Nat.gcd y (x % y) := by rw [Nat.gcd_comm x y, Nat.gcd_rec y x, Nat.gcd_comm]
theorem lt_frac {a b : Nat} {z : Rat} (hb : 0 < b) (hz : 0 ≤ z) : (a : Rat) / (b : Rat) < z ↔ a * z.den < nu z * b := by
  have h1 := nc_pos hb
  have h2 := nc_pos (dn_pos z)
  rw [Rat.div_lt_iff h1, ← Rat.mul_lt_mul_right h2]
  have e : z * (b : Rat) * ((z.den : Nat) : Rat) = ((nu z * b : Nat) : Rat) := by
    rw [Rat.natCast_mul, nu_mul hz]; grind
  rw [e, ← Rat.natCast_mul, Rat.natCast_lt_natCast]
set_option maxHeartbeats 4000000 in
set_option maxRecDepth 100000 in
theorem c_X2_thrown (l : Launch) (g : En) (mo ua oa ga : Nat) (cd : Int32) (ab be : Int64) (x1 y1 : Nat) (U O : Nat → Nat) (q : Nat → Rat)  : PM l yX2_thrown cX2_thrown 1 (some FieldType.int) { frames := 0, cells := 0, slots := 0, locals := 0 } g [.ref mo] (fun H => MO g mo ua oa ga cd ab be x1 y1 U O q H) 0 0 (fun v _ => v = some (.int cd)) := by
  refine PM.of (by decide) (Nat.le_of_ble_eq_true rfl) (fun p e s m below meth c ls X hP hl => ?_)
  have hl : lv_has ls 1 [(0, .ref mo)] := hl
  have hX : hxt s.heap s.heap := hxt.rf
  have hP : PP g [(mo, .inr (2, [.int cd, .long (lN x1), .long (lN y1), .ref ua, .ref oa, .ref ga, .long ab, .long be])), mla g ua U, mla g oa O, mza g ga q] s.heap := hP
  refine lv_aload_n X.1 X.2.1 dX2_thrown_0 rfl (lv_at hl 0 rfl) ?_
  refine p_get (T := TX2) X uX2 (hP.at 0 rfl) rfl 0 (by decide) mw_464 rfl rfl dX2_thrown_1 ?_
  exact p_iret X hX (rfl) ⟨by decide, by decide⟩ dX2_thrown_4
set_option maxHeartbeats 4000000 in
set_option maxRecDepth 100000 in
theorem c_X2_isIn (l : Launch) (g : En) (v0 : Int64) (lo hi : Nat) (h1 : lo < 2 ^ 63) (h2 : hi < 2 ^ 63) : PM l yX2_isIn cX2_isIn 6 (some FieldType.boolean) { frames := 0, cells := 0, slots := 0, locals := 0 } g [.long v0, .long (lN lo), .long (lN hi)] (fun H => True) 0 0 (rB (inL v0 lo hi)) := by
  refine PM.of (by decide) (Nat.le_of_ble_eq_true rfl) (fun p e s m below meth c ls X _ hl => ?_)
  have hl : lv_has ls 6 [(0, .long v0), (2, .long (lN lo)), (4, .long (lN hi))] := hl
  have hX : hxt s.heap s.heap := hxt.rf
  refine lv_lload_n X.1 X.2.1 dX2_isIn_0 rfl (lv_at hl 0 rfl) ?_
  refine lv_lload_n X.1 X.2.1 dX2_isIn_1 rfl (lv_at hl 1 rfl) ?_
  refine q_llt X (tgt := 17) dX2_isIn_2 dX2_isIn_3 (by decide) (fun hB1 => ?_) (fun hB1 => ?_)
  ·
    refine lv_iconst (v := nI 0) X.1 X.2.1 dX2_isIn_17 (by decide) ?_
    refine w_i (v' := bI false) (by decide) ?_
    exact p_zret (v := false) X hX (by rw [rB, inL_lo h1 hB1]; rfl) ⟨by decide, by decide⟩ dX2_isIn_18
  ·
    refine lv_lload_n X.1 X.2.1 dX2_isIn_6 rfl (lv_at hl 0 rfl) ?_
    refine lv_lload X.1 X.2.1 dX2_isIn_7 (lv_at hl 2 rfl) ?_
    refine q_lgt X (tgt := 17) dX2_isIn_9 dX2_isIn_10 (by decide) (fun hB2 => ?_) (fun hB2 => ?_)
    ·
      refine lv_iconst (v := nI 0) X.1 X.2.1 dX2_isIn_17 (by decide) ?_
      refine w_i (v' := bI false) (by decide) ?_
      exact p_zret (v := false) X hX (by rw [rB, inL_hi h2 (fun h9 => absurd hB2 (Int64.not_lt.mpr h9))]; rfl) ⟨by decide, by decide⟩ dX2_isIn_18
    ·
      refine lv_iconst (v := nI 1) X.1 X.2.1 dX2_isIn_13 (by decide) ?_
      refine lv_goto (tgt := 18) X.1 X.2.1 dX2_isIn_14 (by decide) ?_
      refine w_i (v' := bI true) (by decide) ?_
      exact p_zret (v := true) X hX (by rw [rB, inL_in h1 h2 hB1 (Int64.not_lt.mp hB2)]; rfl) ⟨by decide, by decide⟩ dX2_isIn_18
set_option maxHeartbeats 4000000 in
set_option maxRecDepth 100000 in
theorem c_X2_put (l : Launch) (g : En) (mo ua oa ga : Nat) (cd : Int32) (ab be : Int64) (x1 y1 : Nat) (U O : Nat → Nat) (q : Nat → Rat) (a b : Nat) (hM : MD mo ua oa ga) (ha : a < 2 ^ 63) (hb : b < 2 ^ 63) (h0 : 0 < b) : FM l yX2_put cX2_put 11 none { frames := 0, cells := 0, slots := 0, locals := 0 } g [.ref mo, .long (lN a), .long (lN b)] (fun H => MO g mo ua oa ga cd ab be x1 y1 U O q H) (fun q => q = mo) 0 0 (fun v H => v = none ∧ MO g mo ua oa ga cd (lN (nu (((a : Nat) : Rat) / ((b : Nat) : Rat)))) (lN (((a : Nat) : Rat) / ((b : Nat) : Rat)).den) x1 y1 U O q H) := by
  refine FM.of (by decide) (Nat.le_of_ble_eq_true rfl) (fun p e s m below meth c ls X hP hl => ?_)
  obtain ⟨f1, f2, f3⟩ := fr_mk (n := a) h0
  have hg := Nat.gcd_pos_of_pos_right a h0
  have hg2 : Nat.gcd a b ≤ b := Nat.le_of_dvd h0 (Nat.gcd_dvd_right a b)
  have loop : ∀ (n y x : Nat), y ≤ n → x < 2 ^ 63 → y < 2 ^ 63 → Nat.gcd x y = Nat.gcd a b → ∀ (ls : Array Slot), lv_has ls 11 [(7, .long (lN y)), (5, .long (lN x)), (0, .ref mo), (1, .long (lN a)), (3, .long (lN b))] → W p l e { frames := 0, cells := 0, slots := 0, locals := 0 } s m ([.ref mo, .long (lN a), .long (lN b)] : List Value).toArray below meth c s.heap [] 0 0 (MQ below (fQ (fun q => q = mo) (fun v H => v = none ∧ MO g mo ua oa ga cd (lN (nu (((a : Nat) : Rat) / ((b : Nat) : Rat)))) (lN (((a : Nat) : Rat) / ((b : Nat) : Rat)).den) x1 y1 U O q H)) ([.ref mo, .long (lN a), .long (lN b)] : List Value).toArray s 0 0 (fun q => (fun q => q = mo) q ∨ s.heap.size ≤ q)) (F0 m 6 ls []) := by
    intro n
    induction n with
    | zero =>
      intro y x hy hx hy2 hgc ls hl
      obtain rfl : y = 0 := by omega
      rw [Nat.gcd_zero_right] at hgc
      subst hgc
      have hX : hxf (fun q => q = mo) s.heap s.heap := hxf.rf
      have hlo : lok (fun q => q = mo) s.heap.size ([] : List Loc) := lok.nil
      refine lv_lload X.1 X.2.1 dX2_put_6 (lv_at hl 0 rfl) ?_
      refine lv_lconst (v := lN 0) X.1 X.2.1 dX2_put_8 (by decide) ?_
      refine q_Neq X (by omega) (by omega) (tgt := 31) dX2_put_9 dX2_put_10 (by decide) (fun hB101 => ?_) (fun hB101 => ?_)
      ·
        refine lv_aload_n X.1 X.2.1 dX2_put_31 rfl (lv_at hl 2 rfl) ?_
        refine lv_lload_n X.1 X.2.1 dX2_put_32 rfl (lv_at hl 3 rfl) ?_
        refine lv_lload X.1 X.2.1 dX2_put_33 (lv_at hl 1 rfl) ?_
        refine lv_ldiv X.1 X.2.1 dX2_put_35 (ln_ne hg (by omega)) ?_
        refine w_l (pk_lDiv ha hg (by omega)) ?_
        refine f_put (F := fun q => q = mo) (T := TX2) (N := 8) (ci := 2) X tyX2 tyX2_ok nmX2 uX2 (hP.at 0 rfl) rfl 6 (by decide) mw_470 rfl rfl (v := .long (lN (a / (Nat.gcd a b)))) (ty := .long) (by decide +kernel) rfl rfl (Nat.le_of_ble_eq_true rfl) (Or.inl rfl) hlo dX2_put_36 (fun H102 locs hpa hlo hat => ?_)
        have hX := hX.tra (rfl) hpa
        have hP := PP.cons hat (PP.exa (hP.sub [1, 2, 3] rfl : PP g [mla g ua U, mla g oa O, mza g ga q] _) hpa (fun z hz => by simp only [List.mem_cons, List.not_mem_nil, or_false] at hz; rcases hz with rfl | rfl | rfl <;> first | exact hM.1 | exact hM.2.1 | exact hM.2.2.1))
        have hP : PP g [(mo, .inr (2, [.int cd, .long (lN x1), .long (lN y1), .ref ua, .ref oa, .ref ga, .long (lN (a / (Nat.gcd a b))), .long be])), mla g ua U, mla g oa O, mza g ga q] H102 := hP
        refine lv_aload_n X.1 X.2.1 dX2_put_39 rfl (lv_at hl 2 rfl) ?_
        refine lv_lload_n X.1 X.2.1 dX2_put_40 rfl (lv_at hl 4 rfl) ?_
        refine lv_lload X.1 X.2.1 dX2_put_41 (lv_at hl 1 rfl) ?_
        refine lv_ldiv X.1 X.2.1 dX2_put_43 (ln_ne hg (by omega)) ?_
        refine w_l (pk_lDiv hb hg (by omega)) ?_
        refine f_put (F := fun q => q = mo) (T := TX2) (N := 8) (ci := 2) X tyX2 tyX2_ok nmX2 uX2 (hP.at 0 rfl) rfl 7 (by decide) mw_471 rfl rfl (v := .long (lN (b / (Nat.gcd a b)))) (ty := .long) (by decide +kernel) rfl rfl (Nat.le_of_ble_eq_true rfl) (Or.inl rfl) hlo dX2_put_44 (fun H103 locs hpa hlo hat => ?_)
        have hX := hX.tra (rfl) hpa
        have hP := PP.cons hat (PP.exa (hP.sub [1, 2, 3] rfl : PP g [mla g ua U, mla g oa O, mza g ga q] _) hpa (fun z hz => by simp only [List.mem_cons, List.not_mem_nil, or_false] at hz; rcases hz with rfl | rfl | rfl <;> first | exact hM.1 | exact hM.2.1 | exact hM.2.2.1))
        have hP : PP g [(mo, .inr (2, [.int cd, .long (lN x1), .long (lN y1), .ref ua, .ref oa, .ref ga, .long (lN (a / (Nat.gcd a b))), .long (lN (b / (Nat.gcd a b)))])), mla g ua U, mla g oa O, mza g ga q] H103 := hP
        rw [← f1, ← f2] at hP
        exact f_vret X hX hlo (⟨rfl, hP⟩) ⟨by decide, by decide⟩ dX2_put_47
      ·
        exact absurd rfl hB101
    | succ n ih =>
      intro y x hy hx hy2 hgc ls hl
      have hX : hxf (fun q => q = mo) s.heap s.heap := hxf.rf
      have hlo : lok (fun q => q = mo) s.heap.size ([] : List Loc) := lok.nil
      refine lv_lload X.1 X.2.1 dX2_put_6 (lv_at hl 0 rfl) ?_
      refine lv_lconst (v := lN 0) X.1 X.2.1 dX2_put_8 (by decide) ?_
      refine q_Neq X (by omega) (by omega) (tgt := 31) dX2_put_9 dX2_put_10 (by decide) (fun hB101 => ?_) (fun hB101 => ?_)
      ·
        subst hB101
        rw [Nat.gcd_zero_right] at hgc
        subst hgc
        refine lv_aload_n X.1 X.2.1 dX2_put_31 rfl (lv_at hl 2 rfl) ?_
        refine lv_lload_n X.1 X.2.1 dX2_put_32 rfl (lv_at hl 3 rfl) ?_
        refine lv_lload X.1 X.2.1 dX2_put_33 (lv_at hl 1 rfl) ?_
        refine lv_ldiv X.1 X.2.1 dX2_put_35 (ln_ne hg (by omega)) ?_
        refine w_l (pk_lDiv ha hg (by omega)) ?_
        refine f_put (F := fun q => q = mo) (T := TX2) (N := 8) (ci := 2) X tyX2 tyX2_ok nmX2 uX2 (hP.at 0 rfl) rfl 6 (by decide) mw_470 rfl rfl (v := .long (lN (a / (Nat.gcd a b)))) (ty := .long) (by decide +kernel) rfl rfl (Nat.le_of_ble_eq_true rfl) (Or.inl rfl) hlo dX2_put_36 (fun H102 locs hpa hlo hat => ?_)
        have hX := hX.tra (rfl) hpa
        have hP := PP.cons hat (PP.exa (hP.sub [1, 2, 3] rfl : PP g [mla g ua U, mla g oa O, mza g ga q] _) hpa (fun z hz => by simp only [List.mem_cons, List.not_mem_nil, or_false] at hz; rcases hz with rfl | rfl | rfl <;> first | exact hM.1 | exact hM.2.1 | exact hM.2.2.1))
        have hP : PP g [(mo, .inr (2, [.int cd, .long (lN x1), .long (lN y1), .ref ua, .ref oa, .ref ga, .long (lN (a / (Nat.gcd a b))), .long be])), mla g ua U, mla g oa O, mza g ga q] H102 := hP
        refine lv_aload_n X.1 X.2.1 dX2_put_39 rfl (lv_at hl 2 rfl) ?_
        refine lv_lload_n X.1 X.2.1 dX2_put_40 rfl (lv_at hl 4 rfl) ?_
        refine lv_lload X.1 X.2.1 dX2_put_41 (lv_at hl 1 rfl) ?_
        refine lv_ldiv X.1 X.2.1 dX2_put_43 (ln_ne hg (by omega)) ?_
        refine w_l (pk_lDiv hb hg (by omega)) ?_
        refine f_put (F := fun q => q = mo) (T := TX2) (N := 8) (ci := 2) X tyX2 tyX2_ok nmX2 uX2 (hP.at 0 rfl) rfl 7 (by decide) mw_471 rfl rfl (v := .long (lN (b / (Nat.gcd a b)))) (ty := .long) (by decide +kernel) rfl rfl (Nat.le_of_ble_eq_true rfl) (Or.inl rfl) hlo dX2_put_44 (fun H103 locs hpa hlo hat => ?_)
        have hX := hX.tra (rfl) hpa
        have hP := PP.cons hat (PP.exa (hP.sub [1, 2, 3] rfl : PP g [mla g ua U, mla g oa O, mza g ga q] _) hpa (fun z hz => by simp only [List.mem_cons, List.not_mem_nil, or_false] at hz; rcases hz with rfl | rfl | rfl <;> first | exact hM.1 | exact hM.2.1 | exact hM.2.2.1))
        have hP : PP g [(mo, .inr (2, [.int cd, .long (lN x1), .long (lN y1), .ref ua, .ref oa, .ref ga, .long (lN (a / (Nat.gcd a b))), .long (lN (b / (Nat.gcd a b)))])), mla g ua U, mla g oa O, mza g ga q] H103 := hP
        rw [← f1, ← f2] at hP
        exact f_vret X hX hlo (⟨rfl, hP⟩) ⟨by decide, by decide⟩ dX2_put_47
      ·
        have hlt : x % y < y := Nat.mod_lt _ (by omega)
        refine lv_lload X.1 X.2.1 dX2_put_13 (lv_at hl 1 rfl) ?_
        refine lv_lload X.1 X.2.1 dX2_put_15 (lv_at hl 0 rfl) ?_
        refine lv_lrem X.1 X.2.1 dX2_put_17 (ln_ne (by omega) hy2) ?_
        refine w_l (pk_lRem hx (by omega) hy2) ?_
        refine lv_lstore (lv' := [(9, .long (lN (x % y))), (7, .long (lN y)), (5, .long (lN x)), (0, .ref mo), (1, .long (lN a)), (3, .long (lN b))]) X.1 X.2.1 dX2_put_18 hl (by decide) rfl (fun ls hl => ?_)
        refine lv_lload X.1 X.2.1 dX2_put_20 (lv_at hl 1 rfl) ?_
        refine lv_lstore (lv' := [(5, .long (lN y)), (9, .long (lN (x % y))), (7, .long (lN y)), (0, .ref mo), (1, .long (lN a)), (3, .long (lN b))]) X.1 X.2.1 dX2_put_22 hl (by decide) rfl (fun ls hl => ?_)
        refine lv_lload X.1 X.2.1 dX2_put_24 (lv_at hl 1 rfl) ?_
        refine lv_lstore (lv' := [(7, .long (lN (x % y))), (5, .long (lN y)), (9, .long (lN (x % y))), (0, .ref mo), (1, .long (lN a)), (3, .long (lN b))]) X.1 X.2.1 dX2_put_26 hl (by decide) rfl (fun ls hl => ?_)
        refine lv_goto (tgt := 6) X.1 X.2.1 dX2_put_28 (by decide) ?_
        exact ih (x % y) y (by omega) hy2 (by omega) (by rw [← gcd_step]; exact hgc) ls (lv_sub hl [0, 1, 3, 4, 5] rfl)
  have hl : lv_has ls 11 [(0, .ref mo), (1, .long (lN a)), (3, .long (lN b))] := hl
  have hX : hxf (fun q => q = mo) s.heap s.heap := hxf.rf
  have hlo : lok (fun q => q = mo) s.heap.size ([] : List Loc) := lok.nil
  have hP : PP g [(mo, .inr (2, [.int cd, .long (lN x1), .long (lN y1), .ref ua, .ref oa, .ref ga, .long ab, .long be])), mla g ua U, mla g oa O, mza g ga q] s.heap := hP
  refine lv_lload_n X.1 X.2.1 dX2_put_0 rfl (lv_at hl 1 rfl) ?_
  refine lv_lstore (lv' := [(5, .long (lN a)), (0, .ref mo), (1, .long (lN a)), (3, .long (lN b))]) X.1 X.2.1 dX2_put_1 hl (by decide) rfl (fun ls hl => ?_)
  refine lv_lload_n X.1 X.2.1 dX2_put_3 rfl (lv_at hl 3 rfl) ?_
  refine lv_lstore (lv' := [(7, .long (lN b)), (5, .long (lN a)), (0, .ref mo), (1, .long (lN a)), (3, .long (lN b))]) X.1 X.2.1 dX2_put_4 hl (by decide) rfl (fun ls hl => ?_)
  exact loop b b a (Nat.le_refl _) ha hb rfl ls (lv_sub hl [0, 1, 2, 3, 4] rfl)
set_option maxHeartbeats 4000000 in
set_option maxRecDepth 100000 in
theorem c_X2_told (l : Launch) (g : En) (mo ua oa ga : Nat) (cd : Int32) (x1 y1 : Nat) (U O : Nat → Nat) (q : Nat → Rat) (z : Rat) (k : Nat) (hk : k < 2) : PM l yX2_told cX2_told 2 (some FieldType.long) { frames := 0, cells := 0, slots := 0, locals := 0 } g [.ref mo, .int (nI k)] (fun H => MO g mo ua oa ga cd (lN (nu z)) (lN z.den) x1 y1 U O q H) 0 0 (rL (prt z k)) := by
  refine PM.of (by decide) (Nat.le_of_ble_eq_true rfl) (fun p e s m below meth c ls X hP hl => ?_)
  have hl : lv_has ls 2 [(0, .ref mo), (1, .int (nI k))] := hl
  have hX : hxt s.heap s.heap := hxt.rf
  have hP : PP g [(mo, .inr (2, [.int cd, .long (lN x1), .long (lN y1), .ref ua, .ref oa, .ref ga, .long (lN (nu z)), .long (lN z.den)])), mla g ua U, mla g oa O, mza g ga q] s.heap := hP
  refine lv_iload_n X.1 X.2.1 dX2_told_0 rfl (lv_at hl 1 rfl) ?_
  refine q_Zne X (by omega) (tgt := 11) dX2_told_1 (by decide) (fun hB1 => ?_) (fun hB1 => ?_)
  ·
    refine lv_aload_n X.1 X.2.1 dX2_told_11 rfl (lv_at hl 0 rfl) ?_
    refine p_get (T := TX2) X uX2 (hP.at 0 rfl) rfl 7 (by decide) mw_471 rfl rfl dX2_told_12 ?_
    exact p_lret X hX (by rw [rL, prt, if_neg hB1]) ⟨by decide, by decide⟩ dX2_told_15
  ·
    refine lv_aload_n X.1 X.2.1 dX2_told_4 rfl (lv_at hl 0 rfl) ?_
    refine p_get (T := TX2) X uX2 (hP.at 0 rfl) rfl 6 (by decide) mw_470 rfl rfl dX2_told_5 ?_
    refine lv_goto (tgt := 15) X.1 X.2.1 dX2_told_8 (by decide) ?_
    exact p_lret X hX (by rw [rL, prt, if_pos hB1]) ⟨by decide, by decide⟩ dX2_told_15
set_option maxHeartbeats 4000000 in
set_option maxRecDepth 100000 in
theorem c_X2_lesser (l : Launch) (g : En) (mo ua oa ga : Nat) (cd : Int32) (x1 y1 : Nat) (U O : Nat → Nat) (q : Nat → Rat) (z : Rat) (a b : Nat) (hM : MD mo ua oa ga) (hz : 0 ≤ z) (ha : a < 2 ^ 63) (hb : b < 2 ^ 63) (h0 : 0 < b) (h1 : a * z.den < 2 ^ 63) (h2 : nu z * b < 2 ^ 63) : FM l yX2_lesser cX2_lesser 5 none { frames := 1, cells := 0, slots := 0, locals := 30 } g [.ref mo, .long (lN a), .long (lN b)] (fun H => MO g mo ua oa ga cd (lN (nu z)) (lN z.den) x1 y1 U O q H) (fun q => q = mo) 0 0 (fun v H => v = none ∧ MO g mo ua oa ga cd (lN (nu (if ((a : Nat) : Rat) / ((b : Nat) : Rat) < z then ((a : Nat) : Rat) / ((b : Nat) : Rat) else z))) (lN (if ((a : Nat) : Rat) / ((b : Nat) : Rat) < z then ((a : Nat) : Rat) / ((b : Nat) : Rat) else z).den) x1 y1 U O q H) := by
  refine FM.of (by decide) (Nat.le_of_ble_eq_true rfl) (fun p e s m below meth c ls X hP hl => ?_)
  have hlt := lt_frac (a := a) h0 hz
  have hl : lv_has ls 5 [(0, .ref mo), (1, .long (lN a)), (3, .long (lN b))] := hl
  have hX : hxf (fun q => q = mo) s.heap s.heap := hxf.rf
  have hlo : lok (fun q => q = mo) s.heap.size ([] : List Loc) := lok.nil
  have hP : PP g [(mo, .inr (2, [.int cd, .long (lN x1), .long (lN y1), .ref ua, .ref oa, .ref ga, .long (lN (nu z)), .long (lN z.den)])), mla g ua U, mla g oa O, mza g ga q] s.heap := hP
  refine lv_lload_n X.1 X.2.1 dX2_lesser_0 rfl (lv_at hl 1 rfl) ?_
  refine lv_aload_n X.1 X.2.1 dX2_lesser_1 rfl (lv_at hl 0 rfl) ?_
  refine p_get (T := TX2) X uX2 (hP.at 0 rfl) rfl 7 (by decide) mw_471 rfl rfl dX2_lesser_2 ?_
  refine lv_lmul X.1 X.2.1 dX2_lesser_5 ?_
  refine w_l (lN_mul _ _) ?_
  refine lv_aload_n X.1 X.2.1 dX2_lesser_6 rfl (lv_at hl 0 rfl) ?_
  refine p_get (T := TX2) X uX2 (hP.at 0 rfl) rfl 6 (by decide) mw_470 rfl rfl dX2_lesser_7 ?_
  refine lv_lload_n X.1 X.2.1 dX2_lesser_10 rfl (lv_at hl 2 rfl) ?_
  refine lv_lmul X.1 X.2.1 dX2_lesser_11 ?_
  refine w_l (lN_mul _ _) ?_
  refine q_Nge X h1 h2 (tgt := 22) dX2_lesser_12 dX2_lesser_13 (by decide) (fun hB1 => ?_) (fun hB1 => ?_)
  ·
    exact f_vret X hX hlo (⟨rfl, by rw [if_neg (fun h9 => by have := hlt.mp h9; omega)]; exact hP⟩) ⟨by decide, by decide⟩ dX2_lesser_22
  ·
    refine lv_aload_n X.1 X.2.1 dX2_lesser_16 rfl (lv_at hl 0 rfl) ?_
    refine lv_lload_n X.1 X.2.1 dX2_lesser_17 rfl (lv_at hl 1 rfl) ?_
    refine lv_lload_n X.1 X.2.1 dX2_lesser_18 rfl (lv_at hl 2 rfl) ?_
    refine f_callV (F := fun q => q = mo) (C := RX2) (b := mo) (As := [.long (lN a), .long (lN b)]) (rest := []) X (c_X2_put l g mo ua oa ga cd _ _ x1 y1 U O q a b hM ha hb h0) ⟨mw_508, mw_510, mw_22, mw_40, mw_511⟩ sgX2_put ⟨rfl, rfl, ⟨by decide, by decide⟩, by decide, by decide⟩ (hP.at 0 rfl) rfl rfl (hP) hX.1 (fun q h => h) hlo rfl hl.1 rfl (Nat.le_of_ble_eq_true rfl) dX2_lesser_19 (fun v H2 locs hk3 hlo hp => ?_)
    obtain ⟨rfl, hP⟩ := hp
    have hX := hX.trf (fun q h => h) hk3
    refine W.eq (g2 := F0 m 22 ls []) rfl ?_
    exact f_vret X hX hlo (⟨rfl, by rw [if_pos (hlt.mpr hB1)]; exact hP⟩) ⟨by decide, by decide⟩ dX2_lesser_22
theorem even_k {k : Nat} (hk : k < 4) : k % 2 = 0 ↔ alongX k = true := by
  rcases (show k = 0 ∨ k = 1 ∨ k = 2 ∨ k = 3 by omega) with rfl | rfl | rfl | rfl <;> decide
set_option maxHeartbeats 4000000 in
set_option maxRecDepth 100000 in
theorem c_X2_depth (l : Launch) (g : En) (mo ua oa ga : Nat) (cd : Int32) (ab be : Int64) (x1 y1 : Nat) (U O : Nat → Nat) (q : Nat → Rat) (k : Nat) (hk : k < 4) : PM l yX2_depth cX2_depth 2 (some FieldType.long) { frames := 0, cells := 0, slots := 0, locals := 0 } g [.ref mo, .int (nI k)] (fun H => MO g mo ua oa ga cd ab be x1 y1 U O q H) 0 0 (rL (wayo x1 y1 k)) := by
  refine PM.of (by decide) (Nat.le_of_ble_eq_true rfl) (fun p e s m below meth c ls X hP hl => ?_)
  have hl : lv_has ls 2 [(0, .ref mo), (1, .int (nI k))] := hl
  have hX : hxt s.heap s.heap := hxt.rf
  have hP : PP g [(mo, .inr (2, [.int cd, .long (lN x1), .long (lN y1), .ref ua, .ref oa, .ref ga, .long ab, .long be])), mla g ua U, mla g oa O, mza g ga q] s.heap := hP
  refine lv_iload_n X.1 X.2.1 dX2_depth_0 rfl (lv_at hl 1 rfl) ?_
  refine lv_iconst (v := nI 2) X.1 X.2.1 dX2_depth_1 (by decide) ?_
  refine lv_irem X.1 X.2.1 dX2_depth_2 (nI_ne0 (by omega) (by omega)) ?_
  refine w_i (pk_rem (by omega) (by omega) (by omega)) ?_
  refine q_Zne X (by omega) (tgt := 13) dX2_depth_3 (by decide) (fun hB1 => ?_) (fun hB1 => ?_)
  ·
    refine lv_aload_n X.1 X.2.1 dX2_depth_13 rfl (lv_at hl 0 rfl) ?_
    refine p_get (T := TX2) X uX2 (hP.at 0 rfl) rfl 1 (by decide) mw_465 rfl rfl dX2_depth_14 ?_
    exact p_lret X hX (by rw [rL, wayo, if_neg (fun h9 => hB1 ((even_k hk).mpr h9))]) ⟨by decide, by decide⟩ dX2_depth_17
  ·
    refine lv_aload_n X.1 X.2.1 dX2_depth_6 rfl (lv_at hl 0 rfl) ?_
    refine p_get (T := TX2) X uX2 (hP.at 0 rfl) rfl 2 (by decide) mw_466 rfl rfl dX2_depth_7 ?_
    refine lv_goto (tgt := 17) X.1 X.2.1 dX2_depth_10 (by decide) ?_
    exact p_lret X hX (by rw [rL, wayo, if_pos ((even_k hk).mp hB1)]) ⟨by decide, by decide⟩ dX2_depth_17
set_option maxHeartbeats 4000000 in
set_option maxRecDepth 100000 in
theorem c_X2_width (l : Launch) (g : En) (mo ua oa ga : Nat) (cd : Int32) (ab be : Int64) (x1 y1 : Nat) (U O : Nat → Nat) (q : Nat → Rat) (k : Nat) (hk : k < 4) : PM l yX2_width cX2_width 2 (some FieldType.long) { frames := 0, cells := 0, slots := 0, locals := 0 } g [.ref mo, .int (nI k)] (fun H => MO g mo ua oa ga cd ab be x1 y1 U O q H) 0 0 (rL (slen x1 y1 k)) := by
  refine PM.of (by decide) (Nat.le_of_ble_eq_true rfl) (fun p e s m below meth c ls X hP hl => ?_)
  have hl : lv_has ls 2 [(0, .ref mo), (1, .int (nI k))] := hl
  have hX : hxt s.heap s.heap := hxt.rf
  have hP : PP g [(mo, .inr (2, [.int cd, .long (lN x1), .long (lN y1), .ref ua, .ref oa, .ref ga, .long ab, .long be])), mla g ua U, mla g oa O, mza g ga q] s.heap := hP
  refine lv_iload_n X.1 X.2.1 dX2_width_0 rfl (lv_at hl 1 rfl) ?_
  refine lv_iconst (v := nI 2) X.1 X.2.1 dX2_width_1 (by decide) ?_
  refine lv_irem X.1 X.2.1 dX2_width_2 (nI_ne0 (by omega) (by omega)) ?_
  refine w_i (pk_rem (by omega) (by omega) (by omega)) ?_
  refine q_Zne X (by omega) (tgt := 13) dX2_width_3 (by decide) (fun hB1 => ?_) (fun hB1 => ?_)
  ·
    refine lv_aload_n X.1 X.2.1 dX2_width_13 rfl (lv_at hl 0 rfl) ?_
    refine p_get (T := TX2) X uX2 (hP.at 0 rfl) rfl 2 (by decide) mw_466 rfl rfl dX2_width_14 ?_
    exact p_lret X hX (by rw [rL, slen, if_neg (fun h9 => hB1 ((even_k hk).mpr h9))]) ⟨by decide, by decide⟩ dX2_width_17
  ·
    refine lv_aload_n X.1 X.2.1 dX2_width_6 rfl (lv_at hl 0 rfl) ?_
    refine p_get (T := TX2) X uX2 (hP.at 0 rfl) rfl 1 (by decide) mw_465 rfl rfl dX2_width_7 ?_
    refine lv_goto (tgt := 17) X.1 X.2.1 dX2_width_10 (by decide) ?_
    exact p_lret X hX (by rw [rL, slen, if_pos ((even_k hk).mp hB1)]) ⟨by decide, by decide⟩ dX2_width_17
set_option maxHeartbeats 4000000 in
set_option maxRecDepth 100000 in
theorem c_X2_far (l : Launch) (g : En) (mo ua oa ga : Nat) (cd : Int32) (ab be : Int64) (x1 y1 : Nat) (U O : Nat → Nat) (q : Nat → Rat) (k x y : Nat) (hk : k < 4) (hx : x ≤ x1) (hy : y ≤ y1) : PM l yX2_far cX2_far 6 (some FieldType.long) { frames := 0, cells := 0, slots := 0, locals := 0 } g [.ref mo, .int (nI k), .long (lN x), .long (lN y)] (fun H => MO g mo ua oa ga cd ab be x1 y1 U O q H) 0 0 (rL (dst x1 y1 k x y)) := by
  refine PM.of (by decide) (Nat.le_of_ble_eq_true rfl) (fun p e s m below meth c ls X hP hl => ?_)
  have hl : lv_has ls 6 [(0, .ref mo), (1, .int (nI k)), (2, .long (lN x)), (4, .long (lN y))] := hl
  have hX : hxt s.heap s.heap := hxt.rf
  have hP : PP g [(mo, .inr (2, [.int cd, .long (lN x1), .long (lN y1), .ref ua, .ref oa, .ref ga, .long ab, .long be])), mla g ua U, mla g oa O, mza g ga q] s.heap := hP
  refine lv_iload_n X.1 X.2.1 dX2_far_0 rfl (lv_at hl 1 rfl) ?_
  refine q_Zne X (by omega) (tgt := 9) dX2_far_1 (by decide) (fun hB1 => ?_) (fun hB1 => ?_)
  ·
    refine lv_iload_n X.1 X.2.1 dX2_far_9 rfl (lv_at hl 1 rfl) ?_
    refine lv_iconst (v := nI 1) X.1 X.2.1 dX2_far_10 (by decide) ?_
    refine q_Ine X (by omega) (by omega) (tgt := 23) dX2_far_11 (by decide) (fun hB2 => ?_) (fun hB2 => ?_)
    ·
      refine lv_iload_n X.1 X.2.1 dX2_far_23 rfl (lv_at hl 1 rfl) ?_
      refine lv_iconst (v := nI 2) X.1 X.2.1 dX2_far_24 (by decide) ?_
      refine q_Ine X (by omega) (by omega) (tgt := 38) dX2_far_25 (by decide) (fun hB3 => ?_) (fun hB3 => ?_)
      ·
        refine lv_lload_n X.1 X.2.1 dX2_far_38 rfl (lv_at hl 2 rfl) ?_
        exact p_lret X hX (by rw [rL, dst, if_neg hB1, if_neg hB2, if_neg hB3]) ⟨by decide, by decide⟩ dX2_far_39
      ·
        refine lv_aload_n X.1 X.2.1 dX2_far_28 rfl (lv_at hl 0 rfl) ?_
        refine p_get (T := TX2) X uX2 (hP.at 0 rfl) rfl 2 (by decide) mw_466 rfl rfl dX2_far_29 ?_
        refine lv_lload X.1 X.2.1 dX2_far_32 (lv_at hl 3 rfl) ?_
        refine lv_lsub X.1 X.2.1 dX2_far_34 ?_
        refine w_l (lN_sub hy) ?_
        refine lv_goto (tgt := 39) X.1 X.2.1 dX2_far_35 (by decide) ?_
        exact p_lret X hX (by rw [rL, dst, if_neg hB1, if_neg hB2, if_pos hB3]) ⟨by decide, by decide⟩ dX2_far_39
    ·
      refine lv_aload_n X.1 X.2.1 dX2_far_14 rfl (lv_at hl 0 rfl) ?_
      refine p_get (T := TX2) X uX2 (hP.at 0 rfl) rfl 1 (by decide) mw_465 rfl rfl dX2_far_15 ?_
      refine lv_lload_n X.1 X.2.1 dX2_far_18 rfl (lv_at hl 2 rfl) ?_
      refine lv_lsub X.1 X.2.1 dX2_far_19 ?_
      refine w_l (lN_sub hx) ?_
      refine lv_goto (tgt := 39) X.1 X.2.1 dX2_far_20 (by decide) ?_
      exact p_lret X hX (by rw [rL, dst, if_neg hB1, if_pos hB2]) ⟨by decide, by decide⟩ dX2_far_39
  ·
    refine lv_lload X.1 X.2.1 dX2_far_4 (lv_at hl 3 rfl) ?_
    refine lv_goto (tgt := 39) X.1 X.2.1 dX2_far_6 (by decide) ?_
    exact p_lret X hX (by rw [rL, dst, if_pos hB1]) ⟨by decide, by decide⟩ dX2_far_39
set_option maxHeartbeats 4000000 in
set_option maxRecDepth 100000 in
theorem c_X2_isInside (l : Launch) (g : En) (mo ua oa ga : Nat) (cd : Int32) (ab be : Int64) (x1 y1 : Nat) (U O : Nat → Nat) (q : Nat → Rat) (vx vy : Int64) (hO : OK x1 y1 q) : PM l yX2_isInside cX2_isInside 5 (some FieldType.boolean) { frames := 1, cells := 0, slots := 0, locals := 25 } g [.ref mo, .long vx, .long vy] (fun H => MO g mo ua oa ga cd ab be x1 y1 U O q H) 0 0 (rB (inL vx 0 x1 && inL vy 0 y1)) := by
  refine PM.of (by decide) (Nat.le_of_ble_eq_true rfl) (fun p e s m below meth c ls X hP hl => ?_)
  have hX2 := hO.1.2
  have hY2 := hO.2.1.2
  have hl : lv_has ls 5 [(0, .ref mo), (1, .long vx), (3, .long vy)] := hl
  have hX : hxt s.heap s.heap := hxt.rf
  have hP : PP g [(mo, .inr (2, [.int cd, .long (lN x1), .long (lN y1), .ref ua, .ref oa, .ref ga, .long ab, .long be])), mla g ua U, mla g oa O, mza g ga q] s.heap := hP
  refine lv_lload_n X.1 X.2.1 dX2_isInside_0 rfl (lv_at hl 1 rfl) ?_
  refine lv_lconst (v := lN 0) X.1 X.2.1 dX2_isInside_1 (by decide) ?_
  refine lv_aload_n X.1 X.2.1 dX2_isInside_2 rfl (lv_at hl 0 rfl) ?_
  refine p_get (T := TX2) X uX2 (hP.at 0 rfl) rfl 1 (by decide) mw_465 rfl rfl dX2_isInside_3 ?_
  refine p_callS (As := [.long vx, .long (lN 0), .long (lN x1)]) (rest := []) X (c_X2_isIn l g vx 0 x1 (by decide) (by omega)) ⟨mw_500, mw_501, mw_40, mw_502⟩ sgX2_isIn ⟨rfl, rfl, ⟨by decide, by decide⟩, by decide, by decide⟩ (trivial) hX.1 rfl hl.1 rfl (Nat.le_of_ble_eq_true rfl) dX2_isInside_6 (fun v H1 hk2 hp => ?_)
  obtain rfl := hp
  have hX := hX.tr hk2
  have hP := PP.ext hP hk2
  refine W.eq (g2 := F0 m 9 ls [.int (bI (inL vx 0 x1))]) rfl ?_
  refine q_Beq X (tgt := 28) dX2_isInside_9 (by decide) (fun hB3 => ?_) (fun hB3 => ?_)
  ·
    refine lv_iconst (v := nI 0) X.1 X.2.1 dX2_isInside_28 (by decide) ?_
    refine w_i (v' := bI false) (by decide) ?_
    exact p_zret (v := false) X hX (by rw [rB, hB3]; rfl) ⟨by decide, by decide⟩ dX2_isInside_29
  ·
    refine lv_lload_n X.1 X.2.1 dX2_isInside_12 rfl (lv_at hl 2 rfl) ?_
    refine lv_lconst (v := lN 0) X.1 X.2.1 dX2_isInside_13 (by decide) ?_
    refine lv_aload_n X.1 X.2.1 dX2_isInside_14 rfl (lv_at hl 0 rfl) ?_
    refine p_get (T := TX2) X uX2 (hP.at 0 rfl) rfl 2 (by decide) mw_466 rfl rfl dX2_isInside_15 ?_
    refine p_callS (As := [.long vy, .long (lN 0), .long (lN y1)]) (rest := []) X (c_X2_isIn l g vy 0 y1 (by decide) (by omega)) ⟨mw_500, mw_501, mw_40, mw_502⟩ sgX2_isIn ⟨rfl, rfl, ⟨by decide, by decide⟩, by decide, by decide⟩ (trivial) hX.1 rfl hl.1 rfl (Nat.le_of_ble_eq_true rfl) dX2_isInside_18 (fun v H4 hk5 hp => ?_)
    obtain rfl := hp
    have hX := hX.tr hk5
    have hP := PP.ext hP hk5
    refine W.eq (g2 := F0 m 21 ls [.int (bI (inL vy 0 y1))]) rfl ?_
    refine q_Beq X (tgt := 28) dX2_isInside_21 (by decide) (fun hB6 => ?_) (fun hB6 => ?_)
    ·
      refine lv_iconst (v := nI 0) X.1 X.2.1 dX2_isInside_28 (by decide) ?_
      refine w_i (v' := bI false) (by decide) ?_
      exact p_zret (v := false) X hX (by rw [rB, hB3, hB6]; rfl) ⟨by decide, by decide⟩ dX2_isInside_29
    ·
      refine lv_iconst (v := nI 1) X.1 X.2.1 dX2_isInside_24 (by decide) ?_
      refine lv_goto (tgt := 29) X.1 X.2.1 dX2_isInside_25 (by decide) ?_
      refine w_i (v' := bI true) (by decide) ?_
      exact p_zret (v := true) X hX (by rw [rB, hB3, hB6]; rfl) ⟨by decide, by decide⟩ dX2_isInside_29
theorem inI_hi3 {i : Int32} {n : Nat} (hn : n + 1 < 2 ^ 31) (h : ¬ i ≤ nI n) : inI i (n + 1) = false := by
  rw [Int32.le_iff_toInt_le, nI_toInt (by omega)] at h
  exact decide_eq_false (by omega)
theorem inI_in3 {i : Int32} {n : Nat} (hn : n + 1 < 2 ^ 31) (h0 : ¬ i < 0) (h : i ≤ nI n) : inI i (n + 1) = true := by
  rw [Int32.lt_iff_toInt_lt, Int32.toInt_zero] at h0
  rw [Int32.le_iff_toInt_le, nI_toInt (by omega)] at h
  exact decide_eq_true (by omega)
set_option maxHeartbeats 4000000 in
set_option maxRecDepth 100000 in
theorem c_X2_sideCode (l : Launch) (g : En) (mo ua oa ga : Nat) (cd : Int32) (ab be : Int64) (x1 y1 : Nat) (U O : Nat → Nat) (q : Nat → Rat) (i : Int32)  : PM l yX2_sideCode cX2_sideCode 2 (some FieldType.int) { frames := 0, cells := 0, slots := 0, locals := 0 } g [.ref mo, .int i] (fun H => MO g mo ua oa ga cd ab be x1 y1 U O q H) 0 0 (rI (if inI i 4 then (if gab q (toN i) then 2 else 0) else 1)) := by
  refine PM.of (by decide) (Nat.le_of_ble_eq_true rfl) (fun p e s m below meth c ls X hP hl => ?_)
  have hl : lv_has ls 2 [(0, .ref mo), (1, .int i)] := hl
  have hX : hxt s.heap s.heap := hxt.rf
  have hP : PP g [(mo, .inr (2, [.int cd, .long (lN x1), .long (lN y1), .ref ua, .ref oa, .ref ga, .long ab, .long be])), mla g ua U, mla g oa O, mza g ga q] s.heap := hP
  refine lv_iload_n X.1 X.2.1 dX2_sideCode_0 rfl (lv_at hl 1 rfl) ?_
  refine lv_if_lt (tgt := 9) X.1 X.2.1 dX2_sideCode_1 (by decide) (fun hB1 => ?_) (fun hB1 => ?_)
  ·
    refine lv_iconst (v := nI 1) X.1 X.2.1 dX2_sideCode_9 (by decide) ?_
    refine lv_goto (tgt := 27) X.1 X.2.1 dX2_sideCode_10 (by decide) ?_
    exact p_iret X hX (by rw [rI, show inI i 4 = false from inI_lo hB1]; rfl) ⟨by decide, by decide⟩ dX2_sideCode_27
  ·
    refine lv_iload_n X.1 X.2.1 dX2_sideCode_4 rfl (lv_at hl 1 rfl) ?_
    refine lv_iconst (v := nI 3) X.1 X.2.1 dX2_sideCode_5 (by decide) ?_
    refine lv_icmp_le (tgt := 13) X.1 X.2.1 dX2_sideCode_6 (by decide) (fun hB2 => ?_) (fun hB2 => ?_)
    ·
      have hi : inI i 4 = true := inI_in3 (n := 3) (by decide) hB1 hB2
      obtain ⟨k, hk, rfl⟩ := inI_of hi (by decide)
      have ek : toN (nI k) = k := toN_k (by omega)
      refine lv_aload_n X.1 X.2.1 dX2_sideCode_13 rfl (lv_at hl 0 rfl) ?_
      refine p_get (T := TX2) X uX2 (hP.at 0 rfl) rfl 5 (by decide) mw_469 rfl rfl dX2_sideCode_14 ?_
      refine lv_iload_n X.1 X.2.1 dX2_sideCode_17 rfl (lv_at hl 1 rfl) ?_
      refine f_zald X (hP.at 3 rfl) hk (by decide) dX2_sideCode_18 ?_
      refine q_Beq X (tgt := 26) dX2_sideCode_19 (by decide) (fun hB3 => ?_) (fun hB3 => ?_)
      ·
        refine lv_iconst (v := nI 0) X.1 X.2.1 dX2_sideCode_26 (by decide) ?_
        exact p_iret X hX (by rw [rI, hi, ek, hB3]; rfl) ⟨by decide, by decide⟩ dX2_sideCode_27
      ·
        refine lv_iconst (v := nI 2) X.1 X.2.1 dX2_sideCode_22 (by decide) ?_
        refine lv_goto (tgt := 27) X.1 X.2.1 dX2_sideCode_23 (by decide) ?_
        exact p_iret X hX (by rw [rI, hi, ek, hB3]; rfl) ⟨by decide, by decide⟩ dX2_sideCode_27
    ·
      refine lv_iconst (v := nI 1) X.1 X.2.1 dX2_sideCode_9 (by decide) ?_
      refine lv_goto (tgt := 27) X.1 X.2.1 dX2_sideCode_10 (by decide) ?_
      exact p_iret X hX (by rw [rI, show inI i 4 = false from inI_hi3 (n := 3) (by decide) hB2]; rfl) ⟨by decide, by decide⟩ dX2_sideCode_27
set_option maxHeartbeats 4000000 in
set_option maxRecDepth 100000 in
theorem c_X2_rafterCode (l : Launch) (g : En) (mo ua oa ga : Nat) (cd : Int32) (ab be : Int64) (x1 y1 : Nat) (U O : Nat → Nat) (q : Nat → Rat) (i : Int32) (v0 : Int64) (hO : OK x1 y1 q) : PM l yX2_rafterCode cX2_rafterCode 5 (some FieldType.int) { frames := 1, cells := 0, slots := 0, locals := 25 } g [.ref mo, .int i, .long v0] (fun H => MO g mo ua oa ga cd ab be x1 y1 U O q H) 0 0 (rI (mk3 2 3 (inI i 4) (!gab q (toN i)) (inL v0 0 (slen x1 y1 (toN i))))) := by
  refine PM.of (by decide) (Nat.le_of_ble_eq_true rfl) (fun p e s m below meth c ls X hP hl => ?_)
  have hl : lv_has ls 5 [(0, .ref mo), (1, .int i), (2, .long v0)] := hl
  have hX : hxt s.heap s.heap := hxt.rf
  have hP : PP g [(mo, .inr (2, [.int cd, .long (lN x1), .long (lN y1), .ref ua, .ref oa, .ref ga, .long ab, .long be])), mla g ua U, mla g oa O, mza g ga q] s.heap := hP
  refine lv_aload_n X.1 X.2.1 dX2_rafterCode_0 rfl (lv_at hl 0 rfl) ?_
  refine lv_iload_n X.1 X.2.1 dX2_rafterCode_1 rfl (lv_at hl 1 rfl) ?_
  refine p_callV (C := RX2) (b := mo) (As := [.int i]) (rest := []) X (c_X2_sideCode l g mo ua oa ga cd ab be x1 y1 U O q i) ⟨mw_544, mw_546, mw_27, mw_40, mw_547⟩ sgX2_sideCode ⟨rfl, rfl, ⟨by decide, by decide⟩, by decide, by decide⟩ (hP.at 0 rfl) rfl rfl (hP.sub [0, 1, 2, 3] rfl) hX.1 rfl hl.1 rfl (Nat.le_of_ble_eq_true rfl) dX2_rafterCode_2 (fun v H1 hk2 hp => ?_)
  obtain rfl := hp
  have hX := hX.tr hk2
  have hP := PP.ext hP hk2
  refine W.eq (g2 := F0 m 5 ls [.int (nI (if inI i 4 then (if gab q (toN i) then 2 else 0) else 1))]) rfl ?_
  by_cases hi : inI i 4 = true
  ·
    obtain ⟨k, hk, rfl⟩ := inI_of hi (by decide)
    have ek : toN (nI k) = k := toN_k (by omega)
    by_cases hg : gab q k = true
    ·
      refine w_i (v' := nI 2) (by rw [hi, ek, hg]; rfl) ?_
      refine lv_istore (lv' := [(4, .int (nI 2)), (0, .ref mo), (1, .int (nI k)), (2, .long v0)]) X.1 X.2.1 dX2_rafterCode_5 hl (by decide) rfl (fun ls hl => ?_)
      refine lv_iload X.1 X.2.1 dX2_rafterCode_7 (lv_at hl 0 rfl) ?_
      refine lv_if_le (tgt := 17) X.1 X.2.1 dX2_rafterCode_9 (by decide) (fun hB3 => ?_) (fun hB3 => ?_)
      ·
        exact absurd hB3 (by decide)
      ·
        refine lv_iload X.1 X.2.1 dX2_rafterCode_12 (lv_at hl 0 rfl) ?_
        refine lv_goto (tgt := 35) X.1 X.2.1 dX2_rafterCode_14 (by decide) ?_
        exact p_iret X hX (by rw [rI, mk3, hi, ek, hg]; rfl) ⟨by decide, by decide⟩ dX2_rafterCode_35
    ·
      have hg : gab q k = false := by simpa using hg
      refine w_i (v' := nI 0) (by rw [hi, ek, hg]; rfl) ?_
      have hsl := slen_le hO k
      refine lv_istore (lv' := [(4, .int (nI 0)), (0, .ref mo), (1, .int (nI k)), (2, .long v0)]) X.1 X.2.1 dX2_rafterCode_5 hl (by decide) rfl (fun ls hl => ?_)
      refine lv_iload X.1 X.2.1 dX2_rafterCode_7 (lv_at hl 0 rfl) ?_
      refine lv_if_le (tgt := 17) X.1 X.2.1 dX2_rafterCode_9 (by decide) (fun hB4 => ?_) (fun hB4 => ?_)
      ·
        refine lv_lload_n X.1 X.2.1 dX2_rafterCode_17 rfl (lv_at hl 3 rfl) ?_
        refine lv_lconst (v := lN 0) X.1 X.2.1 dX2_rafterCode_18 (by decide) ?_
        refine lv_aload_n X.1 X.2.1 dX2_rafterCode_19 rfl (lv_at hl 1 rfl) ?_
        refine lv_iload_n X.1 X.2.1 dX2_rafterCode_20 rfl (lv_at hl 2 rfl) ?_
        refine p_callV (C := RX2) (b := mo) (As := [.int (nI k)]) (rest := [.long (lN 0), .long v0]) X (c_X2_width l g mo ua oa ga cd ab be x1 y1 U O q k hk) ⟨mw_549, mw_551, mw_28, mw_40, mw_552⟩ sgX2_width ⟨rfl, rfl, ⟨by decide, by decide⟩, by decide, by decide⟩ (hP.at 0 rfl) rfl rfl (hP.sub [0, 1, 2, 3] rfl) hX.1 rfl hl.1 rfl (Nat.le_of_ble_eq_true rfl) dX2_rafterCode_21 (fun v H5 hk6 hp => ?_)
        obtain rfl := hp
        have hX := hX.tr hk6
        have hP := PP.ext hP hk6
        refine W.eq (g2 := F0 m 24 ls [.long (lN (slen x1 y1 k)), .long (lN 0), .long v0]) rfl ?_
        refine p_callS (As := [.long v0, .long (lN 0), .long (lN (slen x1 y1 k))]) (rest := []) X (c_X2_isIn l g v0 0 (slen x1 y1 k) (by decide) (by omega)) ⟨mw_500, mw_501, mw_40, mw_502⟩ sgX2_isIn ⟨rfl, rfl, ⟨by decide, by decide⟩, by decide, by decide⟩ (trivial) hX.1 rfl hl.1 rfl (Nat.le_of_ble_eq_true rfl) dX2_rafterCode_24 (fun v H7 hk8 hp => ?_)
        obtain rfl := hp
        have hX := hX.tr hk8
        have hP := PP.ext hP hk8
        refine W.eq (g2 := F0 m 27 ls [.int (bI (inL v0 0 (slen x1 y1 k)))]) rfl ?_
        refine q_Beq X (tgt := 34) dX2_rafterCode_27 (by decide) (fun hB9 => ?_) (fun hB9 => ?_)
        ·
          refine lv_iconst (v := nI 3) X.1 X.2.1 dX2_rafterCode_34 (by decide) ?_
          exact p_iret X hX (by rw [rI, mk3, hi, ek, hg, hB9]; rfl) ⟨by decide, by decide⟩ dX2_rafterCode_35
        ·
          refine lv_iconst (v := nI 0) X.1 X.2.1 dX2_rafterCode_30 (by decide) ?_
          refine lv_goto (tgt := 35) X.1 X.2.1 dX2_rafterCode_31 (by decide) ?_
          exact p_iret X hX (by rw [rI, mk3, hi, ek, hg, hB9]; rfl) ⟨by decide, by decide⟩ dX2_rafterCode_35
      ·
        exact absurd (by decide) hB4
  ·
    have hi : inI i 4 = false := by simpa using hi
    refine w_i (v' := nI 1) (by rw [hi]; rfl) ?_
    refine lv_istore (lv' := [(4, .int (nI 1)), (0, .ref mo), (1, .int i), (2, .long v0)]) X.1 X.2.1 dX2_rafterCode_5 hl (by decide) rfl (fun ls hl => ?_)
    refine lv_iload X.1 X.2.1 dX2_rafterCode_7 (lv_at hl 0 rfl) ?_
    refine lv_if_le (tgt := 17) X.1 X.2.1 dX2_rafterCode_9 (by decide) (fun hB10 => ?_) (fun hB10 => ?_)
    ·
      exact absurd hB10 (by decide)
    ·
      refine lv_iload X.1 X.2.1 dX2_rafterCode_12 (lv_at hl 0 rfl) ?_
      refine lv_goto (tgt := 35) X.1 X.2.1 dX2_rafterCode_14 (by decide) ?_
      exact p_iret X hX (by rw [rI, mk3, hi]; rfl) ⟨by decide, by decide⟩ dX2_rafterCode_35
