/-! the reference's public methods that read -/
def mP (g : En) (mo ua oa ga cn x1 y1 : Nat) (U O : Nat → Nat) (q : Nat → Rat) (H : Heap) : Prop := ∃ (n : Nat) (ab1 be1 : Int64), n = cn ∧ MO g mo ua oa ga (nI n) ab1 be1 x1 y1 U O q H
def rJ (a s g : Bool) (n : Nat) (v : Option Value) : Prop := ∃ w : Int64, v = some (.long w) ∧ (a = true → s = true → g = true → w = lN n)
def rN (a s g : Bool) (n : Nat) (v : Option Value) : Prop := ∃ w : Int32, v = some (.int w) ∧ (a = true → s = true → g = true → w = nI n)
theorem inv_nu {x : Rat} (hx : 0 < x) : nu x⁻¹ = x.den ∧ (x⁻¹).den = nu x := by
  have h1 := Rat.le_of_lt hx
  have e : x.num.natAbs = nu x := by have := nu_int h1; omega
  have hc : Nat.gcd x.den (nu x) = 1 := by have h2 := x.reduced; rw [e] at h2; rw [Nat.gcd_comm]; exact h2
  obtain ⟨f1, f2, -⟩ := fr_mk (n := x.den) (nu_pos hx)
  rw [← inv_mk hx, hc, Nat.div_one] at f1
  rw [← inv_mk hx, hc, Nat.div_one] at f2
  exact ⟨f1, f2⟩
theorem tg_eq {X Y k t c : Nat} {q : Nat → Rat} (hx : 0 < q k) (h : c < 2) : (q k).den = prt (tng X Y q k t c) c := by
  rcases (show c = 0 ∨ c = 1 by omega) with rfl | rfl
  · exact (inv_nu hx).1.symm
  · rfl
theorem tg_ne {X Y k t c p : Nat} {q : Nat → Rat} (hx : 0 < q k) (h : c < 2) (hp : p < 2) (hn : ¬ c = p) : nu (q k) = prt (tng X Y q k t c) p := by
  rcases (show (c = 0 ∧ p = 1) ∨ (c = 1 ∧ p = 0) by omega) with ⟨rfl, rfl⟩ | ⟨rfl, rfl⟩
  · exact (inv_nu hx).2.symm
  · rfl
theorem xor2 : ∀ a, a < 4 → ∀ b, b < 4 → ((nI a ^^^ nI b = nI 2) ↔ a = opp b) := by decide +kernel
theorem dv_mk {x y : Rat} (hx : 0 < x) (hy : 0 < y) : ((x.den * nu y : Nat) : Rat) / ((nu x * y.den : Nat) : Rat) = y / x := by
  rw [div_mk (Rat.le_of_lt hy) hx, Nat.mul_comm x.den, Nat.mul_comm (nu x)]
theorem muln_mk' {x : Rat} {w : Nat} (hx : 0 ≤ x) : ((w * nu x : Nat) : Rat) / ((x.den : Nat) : Rat) = x * (w : Rat) := by rw [muln_mk hx, Nat.mul_comm]
theorem inL_i64 (i : Int32) (n : Nat) : inL i.toInt64 0 n = inI i (n + 1) := by
  unfold inL inI
  rw [Int32.toInt_toInt64]
  exact decide_eq_decide.mpr (by omega)
theorem upL (f : Nat → Nat) (k v : Nat) : vp_updL (fun j => lN (f j)) k (lN v) = fun j => lN (va_up f k v j) := by
  funext j
  by_cases h : j = k
  · subst h; simp [vp_updL, va_up]
  · simp [vp_updL, va_up, h]
theorem upZ (q : Nat → Rat) (k : Nat) (z : Rat) : upd (fun j => bI (gab q j)) k (bI (decide (z = 0))) = fun j => bI (gab (va_up q k z) j) := by
  funext j
  by_cases h : j = k
  · subst h; simp [upd, gab, va_up]
  · simp [upd, gab, va_up, h]
theorem sw_nu {a b : Nat} (ha : 0 < a) (hb : 0 < b) : nu ((a : Rat) / (b : Rat)) = ((b : Rat) / (a : Rat)).den ∧ ((a : Rat) / (b : Rat)).den = nu ((b : Rat) / (a : Rat)) := by
  obtain ⟨f1, f2, -⟩ := fr_mk (n := a) hb
  obtain ⟨g1, g2, -⟩ := fr_mk (n := b) ha
  rw [f1, f2, g1, g2, Nat.gcd_comm b a]
  exact ⟨rfl, rfl⟩
theorem eq_fr {a b : Nat} {x : Rat} (ha : 0 < a) (hx : 0 ≤ x) : (b : Rat) / (a : Rat) = x ↔ a * nu x = b * x.den := by
  have h1 := nc_ne ha
  have h2 := dn_ne x
  have h3 := nu_mul hx
  rw [← Rat.natCast_inj, Rat.natCast_mul, Rat.natCast_mul, h3]
  constructor
  · intro h; rw [← h]; grind
  · intro h
    have h4 : (b : Rat) = (a : Rat) * x := by grind
    rw [h4]; grind
theorem fr_pos {a b : Nat} (ha : 0 < a) (hb : 0 < b) : (0 : Rat) < (b : Rat) / (a : Rat) := by
  rw [Rat.div_def]; exact Rat.mul_pos (nc_pos hb) (Rat.inv_pos.mpr (nc_pos ha))
set_option maxHeartbeats 4000000 in
set_option maxRecDepth 100000 in
theorem c_X2_end (l : Launch) (g : En) (mo ua oa ga : Nat) (cd : Int32) (ab be : Int64) (x1 y1 : Nat) (U O : Nat → Nat) (q : Nat → Rat) (i : Int32) (v0 : Int64) (j : Int32) (hO : OK x1 y1 q) (hR : MR q U O) (hM : MD mo ua oa ga) : FM l yX2_end cX2_end 6 (some FieldType.long) { frames := 3, cells := 0, slots := 0, locals := 88 } g [.ref mo, .int i, .long v0, .int j] (fun H => MO g mo ua oa ga cd ab be x1 y1 U O q H) (fun q => q = mo) 0 0 (fun v H => mP g mo ua oa ga (mk3 2 3 (inI i 4 && inI j 2) (!gab q (toN i)) (inL v0 0 (slen x1 y1 (toN i)))) x1 y1 U O q H ∧ rJ (inI i 4 && inI j 2) (!gab q (toN i)) (inL v0 0 (slen x1 y1 (toN i))) (prt (raf x1 y1 q (toN i) (toL v0)) (toN j)) v) := by
  refine FM.of (by decide) (Nat.le_of_ble_eq_true rfl) (fun p e s m below meth c ls X hP hl => ?_)
  have hl : lv_has ls 6 [(0, .ref mo), (1, .int i), (2, .long v0), (4, .int j)] := hl
  have hX : hxf (fun q => q = mo) s.heap s.heap := hxf.rf
  have hlo : lok (fun q => q = mo) s.heap.size ([] : List Loc) := lok.nil
  have hP : PP g [(mo, .inr (2, [.int cd, .long (lN x1), .long (lN y1), .ref ua, .ref oa, .ref ga, .long ab, .long be])), mla g ua U, mla g oa O, mza g ga q] s.heap := hP
  refine lv_aload_n X.1 X.2.1 dX2_end_0 rfl (lv_at hl 0 rfl) ?_
  refine lv_iload X.1 X.2.1 dX2_end_1 (lv_at hl 3 rfl) ?_
  refine lv_if_lt (tgt := 12) X.1 X.2.1 dX2_end_3 (by decide) (fun hB1 => ?_) (fun hB1 => ?_)
  ·
    have hj : inI j 2 = false := inI_lo hB1
    refine lv_iconst (v := nI 1) X.1 X.2.1 dX2_end_12 (by decide) ?_
    refine lv_goto (tgt := 22) X.1 X.2.1 dX2_end_13 (by decide) ?_
    refine f_put (F := fun q => q = mo) (T := TX2) (N := 8) (ci := 2) X tyX2 tyX2_ok nmX2 uX2 (hP.at 0 rfl) rfl 0 (by decide) mw_464 rfl rfl (v := .int (nI 1)) (ty := .int) (by decide +kernel) rfl rfl (Nat.le_of_ble_eq_true rfl) (Or.inl rfl) hlo dX2_end_22 (fun H2 locs hpa hlo hat => ?_)
    have hX := hX.tra (rfl) hpa
    have hP := PP.cons hat (PP.exa (hP.sub [1, 2, 3] rfl : PP g [mla g ua U, mla g oa O, mza g ga q] _) hpa (fun z hz => by simp only [List.mem_cons, List.not_mem_nil, or_false] at hz; rcases hz with rfl | rfl | rfl <;> first | exact hM.1 | exact hM.2.1 | exact hM.2.2.1))
    have hP : PP g [(mo, .inr (2, [.int (nI 1), .long (lN x1), .long (lN y1), .ref ua, .ref oa, .ref ga, .long ab, .long be])), mla g ua U, mla g oa O, mza g ga q] H2 := hP
    refine lv_aload_n X.1 X.2.1 dX2_end_25 rfl (lv_at hl 0 rfl) ?_
    refine p_get (T := TX2) X uX2 (hP.at 0 rfl) rfl 0 (by decide) mw_464 rfl rfl dX2_end_26 ?_
    refine lv_if_le (tgt := 34) X.1 X.2.1 dX2_end_29 (by decide) (fun h9 => absurd h9 (by decide)) (fun _ => ?_)
    refine lv_lconst (v := lN 0) X.1 X.2.1 dX2_end_32 (by decide) ?_
    exact f_lret X hX hlo (⟨⟨_, _, _, by simp [mk3, hj], hP⟩, _, rfl, fun h1 h2 h3 => by simp [hj] at h1⟩) ⟨by decide, by decide⟩ dX2_end_33
  ·
    refine lv_iload X.1 X.2.1 dX2_end_6 (lv_at hl 3 rfl) ?_
    refine lv_iconst (v := nI 1) X.1 X.2.1 dX2_end_8 (by decide) ?_
    refine lv_icmp_le (tgt := 16) X.1 X.2.1 dX2_end_9 (by decide) (fun hB3 => ?_) (fun hB3 => ?_)
    ·
      have hj : inI j 2 = true := inI_in3 (n := 1) (by decide) hB1 hB3
      obtain ⟨pj, hpj, rfl⟩ := inI_of hj (by decide)
      have epj : toN (nI pj) = pj := toN_k (by omega)
      refine lv_aload_n X.1 X.2.1 dX2_end_16 rfl (lv_at hl 0 rfl) ?_
      refine lv_iload_n X.1 X.2.1 dX2_end_17 rfl (lv_at hl 1 rfl) ?_
      refine lv_lload_n X.1 X.2.1 dX2_end_18 rfl (lv_at hl 2 rfl) ?_
      refine p_callV (C := RX2) (b := mo) (As := [.int i, .long v0]) (rest := [.ref mo]) X (c_X2_rafterCode l g mo ua oa ga cd ab be x1 y1 U O q i v0 hO) ⟨mw_557, mw_559, mw_29, mw_40, mw_560⟩ sgX2_rafterCode ⟨rfl, rfl, ⟨by decide, by decide⟩, by decide, by decide⟩ (hP.at 0 rfl) rfl rfl (hP.sub [0, 1, 2, 3] rfl) hX.1 rfl hl.1 rfl (Nat.le_of_ble_eq_true rfl) dX2_end_19 (fun v H4 hk5 hp => ?_)
      obtain rfl := hp
      have hX := hX.tr hk5
      have hP := PP.ext hP hk5
      refine W.eq (g2 := F0 m 22 ls [.int (nI (mk3 2 3 (inI i 4) (!gab q (toN i)) (inL v0 0 (slen x1 y1 (toN i))))), .ref mo]) rfl ?_
      by_cases hi : inI i 4 = true
      ·
        obtain ⟨k, hk, rfl⟩ := inI_of hi (by decide)
        have ek : toN (nI k) = k := toN_k (by omega)
        by_cases hg : gab q k = true
        ·
          refine w_i (v' := nI 2) (by simp [mk3, hi, ek, hg]) ?_
          refine f_put (F := fun q => q = mo) (T := TX2) (N := 8) (ci := 2) X tyX2 tyX2_ok nmX2 uX2 (hP.at 0 rfl) rfl 0 (by decide) mw_464 rfl rfl (v := .int (nI 2)) (ty := .int) (by decide +kernel) rfl rfl (Nat.le_of_ble_eq_true rfl) (Or.inl rfl) hlo dX2_end_22 (fun H6 locs hpa hlo hat => ?_)
          have hX := hX.tra (rfl) hpa
          have hP := PP.cons hat (PP.exa (hP.sub [1, 2, 3] rfl : PP g [mla g ua U, mla g oa O, mza g ga q] _) hpa (fun z hz => by simp only [List.mem_cons, List.not_mem_nil, or_false] at hz; rcases hz with rfl | rfl | rfl <;> first | exact hM.1 | exact hM.2.1 | exact hM.2.2.1))
          have hP : PP g [(mo, .inr (2, [.int (nI 2), .long (lN x1), .long (lN y1), .ref ua, .ref oa, .ref ga, .long ab, .long be])), mla g ua U, mla g oa O, mza g ga q] H6 := hP
          refine lv_aload_n X.1 X.2.1 dX2_end_25 rfl (lv_at hl 0 rfl) ?_
          refine p_get (T := TX2) X uX2 (hP.at 0 rfl) rfl 0 (by decide) mw_464 rfl rfl dX2_end_26 ?_
          refine lv_if_le (tgt := 34) X.1 X.2.1 dX2_end_29 (by decide) (fun h9 => absurd h9 (by decide)) (fun _ => ?_)
          refine lv_lconst (v := lN 0) X.1 X.2.1 dX2_end_32 (by decide) ?_
          exact f_lret X hX hlo (⟨⟨_, _, _, by simp [mk3, hj, epj, hi, ek, hg], hP⟩, _, rfl, fun h1 h2 h3 => by simp [hj, epj, hi, ek, hg] at h2⟩) ⟨by decide, by decide⟩ dX2_end_33
        ·
          have hg : gab q k = false := gabF hg
          have hsl := slen_le hO k
          by_cases hr : inL v0 0 (slen x1 y1 k) = true
          ·
            obtain ⟨t, ht0, ht, rfl⟩ := inL_of hr (by omega)
            have eT : toL (lN t) = t := toL_k (by omega)
            refine w_i (v' := nI 0) (by simp [mk3, hi, ek, hg, hr]) ?_
            refine f_put (F := fun q => q = mo) (T := TX2) (N := 8) (ci := 2) X tyX2 tyX2_ok nmX2 uX2 (hP.at 0 rfl) rfl 0 (by decide) mw_464 rfl rfl (v := .int (nI 0)) (ty := .int) (by decide +kernel) rfl rfl (Nat.le_of_ble_eq_true rfl) (Or.inl rfl) hlo dX2_end_22 (fun H7 locs hpa hlo hat => ?_)
            have hX := hX.tra (rfl) hpa
            have hP := PP.cons hat (PP.exa (hP.sub [1, 2, 3] rfl : PP g [mla g ua U, mla g oa O, mza g ga q] _) hpa (fun z hz => by simp only [List.mem_cons, List.not_mem_nil, or_false] at hz; rcases hz with rfl | rfl | rfl <;> first | exact hM.1 | exact hM.2.1 | exact hM.2.2.1))
            have hP : PP g [(mo, .inr (2, [.int (nI 0), .long (lN x1), .long (lN y1), .ref ua, .ref oa, .ref ga, .long ab, .long be])), mla g ua U, mla g oa O, mza g ga q] H7 := hP
            refine lv_aload_n X.1 X.2.1 dX2_end_25 rfl (lv_at hl 0 rfl) ?_
            refine p_get (T := TX2) X uX2 (hP.at 0 rfl) rfl 0 (by decide) mw_464 rfl rfl dX2_end_26 ?_
            refine lv_if_le (tgt := 34) X.1 X.2.1 dX2_end_29 (by decide) (fun _ => ?_) (fun h9 => absurd (by decide) h9)
            refine lv_aload_n X.1 X.2.1 dX2_end_34 rfl (lv_at hl 0 rfl) ?_
            refine lv_iload_n X.1 X.2.1 dX2_end_35 rfl (lv_at hl 1 rfl) ?_
            refine lv_lload_n X.1 X.2.1 dX2_end_36 rfl (lv_at hl 2 rfl) ?_
            refine f_callV (F := fun q => q = mo) (C := RX2) (b := mo) (As := [.int (nI k), .long (lN t)]) (rest := []) X (c_X2_ending l g mo ua oa ga _ _ _ x1 y1 U O q k t hO hR hM hk hg ht) ⟨mw_561, mw_563, mw_30, mw_40, mw_564⟩ sgX2_ending ⟨rfl, rfl, ⟨by decide, by decide⟩, by decide, by decide⟩ (hP.at 0 rfl) rfl rfl (hP) hX.1 (fun q h => h) hlo rfl hl.1 rfl (Nat.le_of_ble_eq_true rfl) dX2_end_37 (fun v H8 locs hk9 hlo hp => ?_)
            obtain ⟨rfl, hP⟩ := hp
            have hX := hX.trf (fun q h => h) hk9
            refine W.eq (g2 := F0 m 40 ls [.int (nI (enp x1 y1 q k t 4))]) rfl ?_
            refine lv_istore (lv' := [(5, .int (nI (enp x1 y1 q k t 4))), (0, .ref mo), (1, .int (nI k)), (2, .long (lN t)), (4, .int (nI pj))]) X.1 X.2.1 dX2_end_40 hl (by decide) rfl (fun ls hl => ?_)
            refine lv_aload_n X.1 X.2.1 dX2_end_42 rfl (lv_at hl 1 rfl) ?_
            refine lv_iload X.1 X.2.1 dX2_end_43 (lv_at hl 4 rfl) ?_
            refine p_callV (C := RX2) (b := mo) (As := [.int (nI pj)]) (rest := []) X (c_X2_told l g mo ua oa ga _ x1 y1 U O q (raf x1 y1 q k t) pj hpj) ⟨mw_532, mw_534, mw_26, mw_40, mw_535⟩ sgX2_told ⟨rfl, rfl, ⟨by decide, by decide⟩, by decide, by decide⟩ (hP.at 0 rfl) rfl rfl (hP.sub [0, 1, 2, 3] rfl) hX.1 rfl hl.1 rfl (Nat.le_of_ble_eq_true rfl) dX2_end_45 (fun v H10 hk11 hp => ?_)
            obtain rfl := hp
            have hX := hX.tr hk11
            have hP := PP.ext hP hk11
            refine W.eq (g2 := F0 m 48 ls [.long (lN (prt (raf x1 y1 q k t) pj))]) rfl ?_
            exact f_lret X hX hlo (⟨⟨_, _, _, by simp [mk3, hj, epj, hi, ek, hg, hr], hP⟩, _, rfl, fun _ _ _ => by simp only [ek, eT, epj]⟩) ⟨by decide, by decide⟩ dX2_end_48
          ·
            have hr : inL v0 0 (slen x1 y1 k) = false := gabF hr
            refine w_i (v' := nI 3) (by simp [mk3, hi, ek, hg, hr]) ?_
            refine f_put (F := fun q => q = mo) (T := TX2) (N := 8) (ci := 2) X tyX2 tyX2_ok nmX2 uX2 (hP.at 0 rfl) rfl 0 (by decide) mw_464 rfl rfl (v := .int (nI 3)) (ty := .int) (by decide +kernel) rfl rfl (Nat.le_of_ble_eq_true rfl) (Or.inl rfl) hlo dX2_end_22 (fun H12 locs hpa hlo hat => ?_)
            have hX := hX.tra (rfl) hpa
            have hP := PP.cons hat (PP.exa (hP.sub [1, 2, 3] rfl : PP g [mla g ua U, mla g oa O, mza g ga q] _) hpa (fun z hz => by simp only [List.mem_cons, List.not_mem_nil, or_false] at hz; rcases hz with rfl | rfl | rfl <;> first | exact hM.1 | exact hM.2.1 | exact hM.2.2.1))
            have hP : PP g [(mo, .inr (2, [.int (nI 3), .long (lN x1), .long (lN y1), .ref ua, .ref oa, .ref ga, .long ab, .long be])), mla g ua U, mla g oa O, mza g ga q] H12 := hP
            refine lv_aload_n X.1 X.2.1 dX2_end_25 rfl (lv_at hl 0 rfl) ?_
            refine p_get (T := TX2) X uX2 (hP.at 0 rfl) rfl 0 (by decide) mw_464 rfl rfl dX2_end_26 ?_
            refine lv_if_le (tgt := 34) X.1 X.2.1 dX2_end_29 (by decide) (fun h9 => absurd h9 (by decide)) (fun _ => ?_)
            refine lv_lconst (v := lN 0) X.1 X.2.1 dX2_end_32 (by decide) ?_
            exact f_lret X hX hlo (⟨⟨_, _, _, by simp [mk3, hj, epj, hi, ek, hg, hr], hP⟩, _, rfl, fun h1 h2 h3 => by simp [hj, epj, hi, ek, hg, hr] at h3⟩) ⟨by decide, by decide⟩ dX2_end_33
      ·
        have hi : inI i 4 = false := gabF hi
        refine w_i (v' := nI 1) (by simp [mk3, hi]) ?_
        refine f_put (F := fun q => q = mo) (T := TX2) (N := 8) (ci := 2) X tyX2 tyX2_ok nmX2 uX2 (hP.at 0 rfl) rfl 0 (by decide) mw_464 rfl rfl (v := .int (nI 1)) (ty := .int) (by decide +kernel) rfl rfl (Nat.le_of_ble_eq_true rfl) (Or.inl rfl) hlo dX2_end_22 (fun H13 locs hpa hlo hat => ?_)
        have hX := hX.tra (rfl) hpa
        have hP := PP.cons hat (PP.exa (hP.sub [1, 2, 3] rfl : PP g [mla g ua U, mla g oa O, mza g ga q] _) hpa (fun z hz => by simp only [List.mem_cons, List.not_mem_nil, or_false] at hz; rcases hz with rfl | rfl | rfl <;> first | exact hM.1 | exact hM.2.1 | exact hM.2.2.1))
        have hP : PP g [(mo, .inr (2, [.int (nI 1), .long (lN x1), .long (lN y1), .ref ua, .ref oa, .ref ga, .long ab, .long be])), mla g ua U, mla g oa O, mza g ga q] H13 := hP
        refine lv_aload_n X.1 X.2.1 dX2_end_25 rfl (lv_at hl 0 rfl) ?_
        refine p_get (T := TX2) X uX2 (hP.at 0 rfl) rfl 0 (by decide) mw_464 rfl rfl dX2_end_26 ?_
        refine lv_if_le (tgt := 34) X.1 X.2.1 dX2_end_29 (by decide) (fun h9 => absurd h9 (by decide)) (fun _ => ?_)
        refine lv_lconst (v := lN 0) X.1 X.2.1 dX2_end_32 (by decide) ?_
        exact f_lret X hX hlo (⟨⟨_, _, _, by simp [mk3, hj, epj, hi], hP⟩, _, rfl, fun h1 h2 h3 => by simp [hj, epj, hi] at h1⟩) ⟨by decide, by decide⟩ dX2_end_33
    ·
      have hj : inI j 2 = false := inI_hi3 (n := 1) (by decide) hB3
      refine lv_iconst (v := nI 1) X.1 X.2.1 dX2_end_12 (by decide) ?_
      refine lv_goto (tgt := 22) X.1 X.2.1 dX2_end_13 (by decide) ?_
      refine f_put (F := fun q => q = mo) (T := TX2) (N := 8) (ci := 2) X tyX2 tyX2_ok nmX2 uX2 (hP.at 0 rfl) rfl 0 (by decide) mw_464 rfl rfl (v := .int (nI 1)) (ty := .int) (by decide +kernel) rfl rfl (Nat.le_of_ble_eq_true rfl) (Or.inl rfl) hlo dX2_end_22 (fun H14 locs hpa hlo hat => ?_)
      have hX := hX.tra (rfl) hpa
      have hP := PP.cons hat (PP.exa (hP.sub [1, 2, 3] rfl : PP g [mla g ua U, mla g oa O, mza g ga q] _) hpa (fun z hz => by simp only [List.mem_cons, List.not_mem_nil, or_false] at hz; rcases hz with rfl | rfl | rfl <;> first | exact hM.1 | exact hM.2.1 | exact hM.2.2.1))
      have hP : PP g [(mo, .inr (2, [.int (nI 1), .long (lN x1), .long (lN y1), .ref ua, .ref oa, .ref ga, .long ab, .long be])), mla g ua U, mla g oa O, mza g ga q] H14 := hP
      refine lv_aload_n X.1 X.2.1 dX2_end_25 rfl (lv_at hl 0 rfl) ?_
      refine p_get (T := TX2) X uX2 (hP.at 0 rfl) rfl 0 (by decide) mw_464 rfl rfl dX2_end_26 ?_
      refine lv_if_le (tgt := 34) X.1 X.2.1 dX2_end_29 (by decide) (fun h9 => absurd h9 (by decide)) (fun _ => ?_)
      refine lv_lconst (v := lN 0) X.1 X.2.1 dX2_end_32 (by decide) ?_
      exact f_lret X hX hlo (⟨⟨_, _, _, by simp [mk3, hj], hP⟩, _, rfl, fun h1 h2 h3 => by simp [hj] at h1⟩) ⟨by decide, by decide⟩ dX2_end_33
set_option maxHeartbeats 4000000 in
set_option maxRecDepth 100000 in
theorem c_X2_against (l : Launch) (g : En) (mo ua oa ga : Nat) (cd : Int32) (ab be : Int64) (x1 y1 : Nat) (U O : Nat → Nat) (q : Nat → Rat) (i : Int32) (v0 : Int64) (hO : OK x1 y1 q) (hR : MR q U O) (hM : MD mo ua oa ga) : FM l yX2_against cX2_against 4 (some FieldType.int) { frames := 3, cells := 0, slots := 0, locals := 88 } g [.ref mo, .int i, .long v0] (fun H => MO g mo ua oa ga cd ab be x1 y1 U O q H) (fun q => q = mo) 0 0 (fun v H => mP g mo ua oa ga (mk3 2 3 (inI i 4) (!gab q (toN i)) (inL v0 0 (slen x1 y1 (toN i)))) x1 y1 U O q H ∧ rN (inI i 4) (!gab q (toN i)) (inL v0 0 (slen x1 y1 (toN i))) (enp x1 y1 q (toN i) (toL v0) 4) v) := by
  refine FM.of (by decide) (Nat.le_of_ble_eq_true rfl) (fun p e s m below meth c ls X hP hl => ?_)
  have hl : lv_has ls 4 [(0, .ref mo), (1, .int i), (2, .long v0)] := hl
  have hX : hxf (fun q => q = mo) s.heap s.heap := hxf.rf
  have hlo : lok (fun q => q = mo) s.heap.size ([] : List Loc) := lok.nil
  have hP : PP g [(mo, .inr (2, [.int cd, .long (lN x1), .long (lN y1), .ref ua, .ref oa, .ref ga, .long ab, .long be])), mla g ua U, mla g oa O, mza g ga q] s.heap := hP
  refine lv_aload_n X.1 X.2.1 dX2_against_0 rfl (lv_at hl 0 rfl) ?_
  refine lv_aload_n X.1 X.2.1 dX2_against_1 rfl (lv_at hl 0 rfl) ?_
  refine lv_iload_n X.1 X.2.1 dX2_against_2 rfl (lv_at hl 1 rfl) ?_
  refine lv_lload_n X.1 X.2.1 dX2_against_3 rfl (lv_at hl 2 rfl) ?_
  refine p_callV (C := RX2) (b := mo) (As := [.int i, .long v0]) (rest := [.ref mo]) X (c_X2_rafterCode l g mo ua oa ga cd ab be x1 y1 U O q i v0 hO) ⟨mw_557, mw_559, mw_29, mw_40, mw_560⟩ sgX2_rafterCode ⟨rfl, rfl, ⟨by decide, by decide⟩, by decide, by decide⟩ (hP.at 0 rfl) rfl rfl (hP.sub [0, 1, 2, 3] rfl) hX.1 rfl hl.1 rfl (Nat.le_of_ble_eq_true rfl) dX2_against_4 (fun v H1 hk2 hp => ?_)
  obtain rfl := hp
  have hX := hX.tr hk2
  have hP := PP.ext hP hk2
  refine W.eq (g2 := F0 m 7 ls [.int (nI (mk3 2 3 (inI i 4) (!gab q (toN i)) (inL v0 0 (slen x1 y1 (toN i))))), .ref mo]) rfl ?_
  by_cases hi : inI i 4 = true
  ·
    obtain ⟨k, hk, rfl⟩ := inI_of hi (by decide)
    have ek : toN (nI k) = k := toN_k (by omega)
    by_cases hg : gab q k = true
    ·
      refine w_i (v' := nI 2) (by simp [mk3, hi, ek, hg]) ?_
      refine f_put (F := fun q => q = mo) (T := TX2) (N := 8) (ci := 2) X tyX2 tyX2_ok nmX2 uX2 (hP.at 0 rfl) rfl 0 (by decide) mw_464 rfl rfl (v := .int (nI 2)) (ty := .int) (by decide +kernel) rfl rfl (Nat.le_of_ble_eq_true rfl) (Or.inl rfl) hlo dX2_against_7 (fun H3 locs hpa hlo hat => ?_)
      have hX := hX.tra (rfl) hpa
      have hP := PP.cons hat (PP.exa (hP.sub [1, 2, 3] rfl : PP g [mla g ua U, mla g oa O, mza g ga q] _) hpa (fun z hz => by simp only [List.mem_cons, List.not_mem_nil, or_false] at hz; rcases hz with rfl | rfl | rfl <;> first | exact hM.1 | exact hM.2.1 | exact hM.2.2.1))
      have hP : PP g [(mo, .inr (2, [.int (nI 2), .long (lN x1), .long (lN y1), .ref ua, .ref oa, .ref ga, .long ab, .long be])), mla g ua U, mla g oa O, mza g ga q] H3 := hP
      refine lv_aload_n X.1 X.2.1 dX2_against_10 rfl (lv_at hl 0 rfl) ?_
      refine p_get (T := TX2) X uX2 (hP.at 0 rfl) rfl 0 (by decide) mw_464 rfl rfl dX2_against_11 ?_
      refine lv_if_le (tgt := 21) X.1 X.2.1 dX2_against_14 (by decide) (fun h9 => absurd h9 (by decide)) (fun _ => ?_)
      refine lv_iconst (v := nI 0) X.1 X.2.1 dX2_against_17 (by decide) ?_
      refine lv_goto (tgt := 27) X.1 X.2.1 dX2_against_18 (by decide) ?_
      exact f_iret X hX hlo (⟨⟨_, _, _, by simp [mk3, hi, ek, hg], hP⟩, _, rfl, fun h1 h2 h3 => by simp [hi, ek, hg] at h2⟩) ⟨by decide, by decide⟩ dX2_against_27
    ·
      have hg : gab q k = false := gabF hg
      have hsl := slen_le hO k
      by_cases hr : inL v0 0 (slen x1 y1 k) = true
      ·
        obtain ⟨t, ht0, ht, rfl⟩ := inL_of hr (by omega)
        have eT : toL (lN t) = t := toL_k (by omega)
        refine w_i (v' := nI 0) (by simp [mk3, hi, ek, hg, hr]) ?_
        refine f_put (F := fun q => q = mo) (T := TX2) (N := 8) (ci := 2) X tyX2 tyX2_ok nmX2 uX2 (hP.at 0 rfl) rfl 0 (by decide) mw_464 rfl rfl (v := .int (nI 0)) (ty := .int) (by decide +kernel) rfl rfl (Nat.le_of_ble_eq_true rfl) (Or.inl rfl) hlo dX2_against_7 (fun H4 locs hpa hlo hat => ?_)
        have hX := hX.tra (rfl) hpa
        have hP := PP.cons hat (PP.exa (hP.sub [1, 2, 3] rfl : PP g [mla g ua U, mla g oa O, mza g ga q] _) hpa (fun z hz => by simp only [List.mem_cons, List.not_mem_nil, or_false] at hz; rcases hz with rfl | rfl | rfl <;> first | exact hM.1 | exact hM.2.1 | exact hM.2.2.1))
        have hP : PP g [(mo, .inr (2, [.int (nI 0), .long (lN x1), .long (lN y1), .ref ua, .ref oa, .ref ga, .long ab, .long be])), mla g ua U, mla g oa O, mza g ga q] H4 := hP
        refine lv_aload_n X.1 X.2.1 dX2_against_10 rfl (lv_at hl 0 rfl) ?_
        refine p_get (T := TX2) X uX2 (hP.at 0 rfl) rfl 0 (by decide) mw_464 rfl rfl dX2_against_11 ?_
        refine lv_if_le (tgt := 21) X.1 X.2.1 dX2_against_14 (by decide) (fun _ => ?_) (fun h9 => absurd (by decide) h9)
        refine lv_aload_n X.1 X.2.1 dX2_against_21 rfl (lv_at hl 0 rfl) ?_
        refine lv_iload_n X.1 X.2.1 dX2_against_22 rfl (lv_at hl 1 rfl) ?_
        refine lv_lload_n X.1 X.2.1 dX2_against_23 rfl (lv_at hl 2 rfl) ?_
        refine f_callV (F := fun q => q = mo) (C := RX2) (b := mo) (As := [.int (nI k), .long (lN t)]) (rest := []) X (c_X2_ending l g mo ua oa ga _ _ _ x1 y1 U O q k t hO hR hM hk hg ht) ⟨mw_561, mw_563, mw_30, mw_40, mw_564⟩ sgX2_ending ⟨rfl, rfl, ⟨by decide, by decide⟩, by decide, by decide⟩ (hP.at 0 rfl) rfl rfl (hP) hX.1 (fun q h => h) hlo rfl hl.1 rfl (Nat.le_of_ble_eq_true rfl) dX2_against_24 (fun v H5 locs hk6 hlo hp => ?_)
        obtain ⟨rfl, hP⟩ := hp
        have hX := hX.trf (fun q h => h) hk6
        refine W.eq (g2 := F0 m 27 ls [.int (nI (enp x1 y1 q k t 4))]) rfl ?_
        exact f_iret X hX hlo (⟨⟨_, _, _, by simp [mk3, hi, ek, hg, hr], hP⟩, _, rfl, fun _ _ _ => by simp only [ek, eT]⟩) ⟨by decide, by decide⟩ dX2_against_27
      ·
        have hr : inL v0 0 (slen x1 y1 k) = false := gabF hr
        refine w_i (v' := nI 3) (by simp [mk3, hi, ek, hg, hr]) ?_
        refine f_put (F := fun q => q = mo) (T := TX2) (N := 8) (ci := 2) X tyX2 tyX2_ok nmX2 uX2 (hP.at 0 rfl) rfl 0 (by decide) mw_464 rfl rfl (v := .int (nI 3)) (ty := .int) (by decide +kernel) rfl rfl (Nat.le_of_ble_eq_true rfl) (Or.inl rfl) hlo dX2_against_7 (fun H7 locs hpa hlo hat => ?_)
        have hX := hX.tra (rfl) hpa
        have hP := PP.cons hat (PP.exa (hP.sub [1, 2, 3] rfl : PP g [mla g ua U, mla g oa O, mza g ga q] _) hpa (fun z hz => by simp only [List.mem_cons, List.not_mem_nil, or_false] at hz; rcases hz with rfl | rfl | rfl <;> first | exact hM.1 | exact hM.2.1 | exact hM.2.2.1))
        have hP : PP g [(mo, .inr (2, [.int (nI 3), .long (lN x1), .long (lN y1), .ref ua, .ref oa, .ref ga, .long ab, .long be])), mla g ua U, mla g oa O, mza g ga q] H7 := hP
        refine lv_aload_n X.1 X.2.1 dX2_against_10 rfl (lv_at hl 0 rfl) ?_
        refine p_get (T := TX2) X uX2 (hP.at 0 rfl) rfl 0 (by decide) mw_464 rfl rfl dX2_against_11 ?_
        refine lv_if_le (tgt := 21) X.1 X.2.1 dX2_against_14 (by decide) (fun h9 => absurd h9 (by decide)) (fun _ => ?_)
        refine lv_iconst (v := nI 0) X.1 X.2.1 dX2_against_17 (by decide) ?_
        refine lv_goto (tgt := 27) X.1 X.2.1 dX2_against_18 (by decide) ?_
        exact f_iret X hX hlo (⟨⟨_, _, _, by simp [mk3, hi, ek, hg, hr], hP⟩, _, rfl, fun h1 h2 h3 => by simp [hi, ek, hg, hr] at h3⟩) ⟨by decide, by decide⟩ dX2_against_27
  ·
    have hi : inI i 4 = false := gabF hi
    refine w_i (v' := nI 1) (by simp [mk3, hi]) ?_
    refine f_put (F := fun q => q = mo) (T := TX2) (N := 8) (ci := 2) X tyX2 tyX2_ok nmX2 uX2 (hP.at 0 rfl) rfl 0 (by decide) mw_464 rfl rfl (v := .int (nI 1)) (ty := .int) (by decide +kernel) rfl rfl (Nat.le_of_ble_eq_true rfl) (Or.inl rfl) hlo dX2_against_7 (fun H8 locs hpa hlo hat => ?_)
    have hX := hX.tra (rfl) hpa
    have hP := PP.cons hat (PP.exa (hP.sub [1, 2, 3] rfl : PP g [mla g ua U, mla g oa O, mza g ga q] _) hpa (fun z hz => by simp only [List.mem_cons, List.not_mem_nil, or_false] at hz; rcases hz with rfl | rfl | rfl <;> first | exact hM.1 | exact hM.2.1 | exact hM.2.2.1))
    have hP : PP g [(mo, .inr (2, [.int (nI 1), .long (lN x1), .long (lN y1), .ref ua, .ref oa, .ref ga, .long ab, .long be])), mla g ua U, mla g oa O, mza g ga q] H8 := hP
    refine lv_aload_n X.1 X.2.1 dX2_against_10 rfl (lv_at hl 0 rfl) ?_
    refine p_get (T := TX2) X uX2 (hP.at 0 rfl) rfl 0 (by decide) mw_464 rfl rfl dX2_against_11 ?_
    refine lv_if_le (tgt := 21) X.1 X.2.1 dX2_against_14 (by decide) (fun h9 => absurd h9 (by decide)) (fun _ => ?_)
    refine lv_iconst (v := nI 0) X.1 X.2.1 dX2_against_17 (by decide) ?_
    refine lv_goto (tgt := 27) X.1 X.2.1 dX2_against_18 (by decide) ?_
    exact f_iret X hX hlo (⟨⟨_, _, _, by simp [mk3, hi], hP⟩, _, rfl, fun h1 h2 h3 => by simp [hi] at h1⟩) ⟨by decide, by decide⟩ dX2_against_27
set_option maxHeartbeats 4000000 in
set_option maxRecDepth 100000 in
theorem c_X2_tangent (l : Launch) (g : En) (mo ua oa ga : Nat) (cd : Int32) (ab be : Int64) (x1 y1 : Nat) (U O : Nat → Nat) (q : Nat → Rat) (i : Int32) (v0 : Int64) (cu j : Int32) (hO : OK x1 y1 q) (hR : MR q U O) (hM : MD mo ua oa ga) : FM l yX2_tangent cX2_tangent 7 (some FieldType.long) { frames := 3, cells := 0, slots := 0, locals := 88 } g [.ref mo, .int i, .long v0, .int cu, .int j] (fun H => MO g mo ua oa ga cd ab be x1 y1 U O q H) (fun q => q = mo) 0 0 (fun v H => mP g mo ua oa ga (mk3 2 3 (inI i 4 && inI cu 3 && inI j 2) (!gab q (toN i)) (inL v0 0 (slen x1 y1 (toN i)))) x1 y1 U O q H ∧ rJ (inI i 4 && inI cu 3 && inI j 2) (!gab q (toN i)) (inL v0 0 (slen x1 y1 (toN i))) (prt (tng x1 y1 q (toN i) (toL v0) (toN cu)) (toN j)) v) := by
  refine FM.of (by decide) (Nat.le_of_ble_eq_true rfl) (fun p e s m below meth c ls X hP hl => ?_)
  have hl : lv_has ls 7 [(0, .ref mo), (1, .int i), (2, .long v0), (4, .int cu), (5, .int j)] := hl
  have hX : hxf (fun q => q = mo) s.heap s.heap := hxf.rf
  have hlo : lok (fun q => q = mo) s.heap.size ([] : List Loc) := lok.nil
  have hP : PP g [(mo, .inr (2, [.int cd, .long (lN x1), .long (lN y1), .ref ua, .ref oa, .ref ga, .long ab, .long be])), mla g ua U, mla g oa O, mza g ga q] s.heap := hP
  refine lv_aload_n X.1 X.2.1 dX2_tangent_0 rfl (lv_at hl 0 rfl) ?_
  refine lv_iload X.1 X.2.1 dX2_tangent_1 (lv_at hl 3 rfl) ?_
  refine lv_if_lt (tgt := 23) X.1 X.2.1 dX2_tangent_3 (by decide) (fun hB1 => ?_) (fun hB1 => ?_)
  ·
    have hcu : inI cu 3 = false := inI_lo hB1
    refine lv_iconst (v := nI 1) X.1 X.2.1 dX2_tangent_23 (by decide) ?_
    refine lv_goto (tgt := 33) X.1 X.2.1 dX2_tangent_24 (by decide) ?_
    refine f_put (F := fun q => q = mo) (T := TX2) (N := 8) (ci := 2) X tyX2 tyX2_ok nmX2 uX2 (hP.at 0 rfl) rfl 0 (by decide) mw_464 rfl rfl (v := .int (nI 1)) (ty := .int) (by decide +kernel) rfl rfl (Nat.le_of_ble_eq_true rfl) (Or.inl rfl) hlo dX2_tangent_33 (fun H2 locs hpa hlo hat => ?_)
    have hX := hX.tra (rfl) hpa
    have hP := PP.cons hat (PP.exa (hP.sub [1, 2, 3] rfl : PP g [mla g ua U, mla g oa O, mza g ga q] _) hpa (fun z hz => by simp only [List.mem_cons, List.not_mem_nil, or_false] at hz; rcases hz with rfl | rfl | rfl <;> first | exact hM.1 | exact hM.2.1 | exact hM.2.2.1))
    have hP : PP g [(mo, .inr (2, [.int (nI 1), .long (lN x1), .long (lN y1), .ref ua, .ref oa, .ref ga, .long ab, .long be])), mla g ua U, mla g oa O, mza g ga q] H2 := hP
    refine lv_aload_n X.1 X.2.1 dX2_tangent_36 rfl (lv_at hl 0 rfl) ?_
    refine p_get (T := TX2) X uX2 (hP.at 0 rfl) rfl 0 (by decide) mw_464 rfl rfl dX2_tangent_37 ?_
    refine lv_if_le (tgt := 45) X.1 X.2.1 dX2_tangent_40 (by decide) (fun h9 => absurd h9 (by decide)) (fun _ => ?_)
    refine lv_lconst (v := lN 0) X.1 X.2.1 dX2_tangent_43 (by decide) ?_
    exact f_lret X hX hlo (⟨⟨_, _, _, by simp [mk3, hcu], hP⟩, _, rfl, fun h1 h2 h3 => by simp [hcu] at h1⟩) ⟨by decide, by decide⟩ dX2_tangent_44
  ·
    refine lv_iload X.1 X.2.1 dX2_tangent_6 (lv_at hl 3 rfl) ?_
    refine lv_iconst (v := nI 2) X.1 X.2.1 dX2_tangent_8 (by decide) ?_
    refine lv_icmp_gt (tgt := 23) X.1 X.2.1 dX2_tangent_9 (by decide) (fun hB3 => ?_) (fun hB3 => ?_)
    ·
      have hcu : inI cu 3 = false := inI_hi3 (n := 2) (by decide) (fun h9 => absurd hB3 (Int32.not_lt.mpr h9))
      refine lv_iconst (v := nI 1) X.1 X.2.1 dX2_tangent_23 (by decide) ?_
      refine lv_goto (tgt := 33) X.1 X.2.1 dX2_tangent_24 (by decide) ?_
      refine f_put (F := fun q => q = mo) (T := TX2) (N := 8) (ci := 2) X tyX2 tyX2_ok nmX2 uX2 (hP.at 0 rfl) rfl 0 (by decide) mw_464 rfl rfl (v := .int (nI 1)) (ty := .int) (by decide +kernel) rfl rfl (Nat.le_of_ble_eq_true rfl) (Or.inl rfl) hlo dX2_tangent_33 (fun H4 locs hpa hlo hat => ?_)
      have hX := hX.tra (rfl) hpa
      have hP := PP.cons hat (PP.exa (hP.sub [1, 2, 3] rfl : PP g [mla g ua U, mla g oa O, mza g ga q] _) hpa (fun z hz => by simp only [List.mem_cons, List.not_mem_nil, or_false] at hz; rcases hz with rfl | rfl | rfl <;> first | exact hM.1 | exact hM.2.1 | exact hM.2.2.1))
      have hP : PP g [(mo, .inr (2, [.int (nI 1), .long (lN x1), .long (lN y1), .ref ua, .ref oa, .ref ga, .long ab, .long be])), mla g ua U, mla g oa O, mza g ga q] H4 := hP
      refine lv_aload_n X.1 X.2.1 dX2_tangent_36 rfl (lv_at hl 0 rfl) ?_
      refine p_get (T := TX2) X uX2 (hP.at 0 rfl) rfl 0 (by decide) mw_464 rfl rfl dX2_tangent_37 ?_
      refine lv_if_le (tgt := 45) X.1 X.2.1 dX2_tangent_40 (by decide) (fun h9 => absurd h9 (by decide)) (fun _ => ?_)
      refine lv_lconst (v := lN 0) X.1 X.2.1 dX2_tangent_43 (by decide) ?_
      exact f_lret X hX hlo (⟨⟨_, _, _, by simp [mk3, hcu], hP⟩, _, rfl, fun h1 h2 h3 => by simp [hcu] at h1⟩) ⟨by decide, by decide⟩ dX2_tangent_44
    ·
      have hcu : inI cu 3 = true := inI_in3 (n := 2) (by decide) hB1 (Int32.not_lt.mp hB3)
      obtain ⟨nc, hnc, rfl⟩ := inI_of hcu (by decide)
      have enc : toN (nI nc) = nc := toN_k (by omega)
      refine lv_iload X.1 X.2.1 dX2_tangent_12 (lv_at hl 4 rfl) ?_
      refine lv_if_lt (tgt := 23) X.1 X.2.1 dX2_tangent_14 (by decide) (fun hB5 => ?_) (fun hB5 => ?_)
      ·
        have hj : inI j 2 = false := inI_lo hB5
        refine lv_iconst (v := nI 1) X.1 X.2.1 dX2_tangent_23 (by decide) ?_
        refine lv_goto (tgt := 33) X.1 X.2.1 dX2_tangent_24 (by decide) ?_
        refine f_put (F := fun q => q = mo) (T := TX2) (N := 8) (ci := 2) X tyX2 tyX2_ok nmX2 uX2 (hP.at 0 rfl) rfl 0 (by decide) mw_464 rfl rfl (v := .int (nI 1)) (ty := .int) (by decide +kernel) rfl rfl (Nat.le_of_ble_eq_true rfl) (Or.inl rfl) hlo dX2_tangent_33 (fun H6 locs hpa hlo hat => ?_)
        have hX := hX.tra (rfl) hpa
        have hP := PP.cons hat (PP.exa (hP.sub [1, 2, 3] rfl : PP g [mla g ua U, mla g oa O, mza g ga q] _) hpa (fun z hz => by simp only [List.mem_cons, List.not_mem_nil, or_false] at hz; rcases hz with rfl | rfl | rfl <;> first | exact hM.1 | exact hM.2.1 | exact hM.2.2.1))
        have hP : PP g [(mo, .inr (2, [.int (nI 1), .long (lN x1), .long (lN y1), .ref ua, .ref oa, .ref ga, .long ab, .long be])), mla g ua U, mla g oa O, mza g ga q] H6 := hP
        refine lv_aload_n X.1 X.2.1 dX2_tangent_36 rfl (lv_at hl 0 rfl) ?_
        refine p_get (T := TX2) X uX2 (hP.at 0 rfl) rfl 0 (by decide) mw_464 rfl rfl dX2_tangent_37 ?_
        refine lv_if_le (tgt := 45) X.1 X.2.1 dX2_tangent_40 (by decide) (fun h9 => absurd h9 (by decide)) (fun _ => ?_)
        refine lv_lconst (v := lN 0) X.1 X.2.1 dX2_tangent_43 (by decide) ?_
        exact f_lret X hX hlo (⟨⟨_, _, _, by simp [mk3, hcu, enc, hj], hP⟩, _, rfl, fun h1 h2 h3 => by simp [hcu, enc, hj] at h1⟩) ⟨by decide, by decide⟩ dX2_tangent_44
      ·
        refine lv_iload X.1 X.2.1 dX2_tangent_17 (lv_at hl 4 rfl) ?_
        refine lv_iconst (v := nI 1) X.1 X.2.1 dX2_tangent_19 (by decide) ?_
        refine lv_icmp_le (tgt := 27) X.1 X.2.1 dX2_tangent_20 (by decide) (fun hB7 => ?_) (fun hB7 => ?_)
        ·
          have hj : inI j 2 = true := inI_in3 (n := 1) (by decide) hB5 hB7
          obtain ⟨pj, hpj, rfl⟩ := inI_of hj (by decide)
          have epj : toN (nI pj) = pj := toN_k (by omega)
          refine lv_aload_n X.1 X.2.1 dX2_tangent_27 rfl (lv_at hl 0 rfl) ?_
          refine lv_iload_n X.1 X.2.1 dX2_tangent_28 rfl (lv_at hl 1 rfl) ?_
          refine lv_lload_n X.1 X.2.1 dX2_tangent_29 rfl (lv_at hl 2 rfl) ?_
          refine p_callV (C := RX2) (b := mo) (As := [.int i, .long v0]) (rest := [.ref mo]) X (c_X2_rafterCode l g mo ua oa ga cd ab be x1 y1 U O q i v0 hO) ⟨mw_557, mw_559, mw_29, mw_40, mw_560⟩ sgX2_rafterCode ⟨rfl, rfl, ⟨by decide, by decide⟩, by decide, by decide⟩ (hP.at 0 rfl) rfl rfl (hP.sub [0, 1, 2, 3] rfl) hX.1 rfl hl.1 rfl (Nat.le_of_ble_eq_true rfl) dX2_tangent_30 (fun v H8 hk9 hp => ?_)
          obtain rfl := hp
          have hX := hX.tr hk9
          have hP := PP.ext hP hk9
          refine W.eq (g2 := F0 m 33 ls [.int (nI (mk3 2 3 (inI i 4) (!gab q (toN i)) (inL v0 0 (slen x1 y1 (toN i))))), .ref mo]) rfl ?_
          by_cases hi : inI i 4 = true
          ·
            obtain ⟨k, hk, rfl⟩ := inI_of hi (by decide)
            have ek : toN (nI k) = k := toN_k (by omega)
            by_cases hg : gab q k = true
            ·
              refine w_i (v' := nI 2) (by simp [mk3, hi, ek, hg]) ?_
              refine f_put (F := fun q => q = mo) (T := TX2) (N := 8) (ci := 2) X tyX2 tyX2_ok nmX2 uX2 (hP.at 0 rfl) rfl 0 (by decide) mw_464 rfl rfl (v := .int (nI 2)) (ty := .int) (by decide +kernel) rfl rfl (Nat.le_of_ble_eq_true rfl) (Or.inl rfl) hlo dX2_tangent_33 (fun H10 locs hpa hlo hat => ?_)
              have hX := hX.tra (rfl) hpa
              have hP := PP.cons hat (PP.exa (hP.sub [1, 2, 3] rfl : PP g [mla g ua U, mla g oa O, mza g ga q] _) hpa (fun z hz => by simp only [List.mem_cons, List.not_mem_nil, or_false] at hz; rcases hz with rfl | rfl | rfl <;> first | exact hM.1 | exact hM.2.1 | exact hM.2.2.1))
              have hP : PP g [(mo, .inr (2, [.int (nI 2), .long (lN x1), .long (lN y1), .ref ua, .ref oa, .ref ga, .long ab, .long be])), mla g ua U, mla g oa O, mza g ga q] H10 := hP
              refine lv_aload_n X.1 X.2.1 dX2_tangent_36 rfl (lv_at hl 0 rfl) ?_
              refine p_get (T := TX2) X uX2 (hP.at 0 rfl) rfl 0 (by decide) mw_464 rfl rfl dX2_tangent_37 ?_
              refine lv_if_le (tgt := 45) X.1 X.2.1 dX2_tangent_40 (by decide) (fun h9 => absurd h9 (by decide)) (fun _ => ?_)
              refine lv_lconst (v := lN 0) X.1 X.2.1 dX2_tangent_43 (by decide) ?_
              exact f_lret X hX hlo (⟨⟨_, _, _, by simp [mk3, hcu, enc, hj, epj, hi, ek, hg], hP⟩, _, rfl, fun h1 h2 h3 => by simp [hcu, enc, hj, epj, hi, ek, hg] at h2⟩) ⟨by decide, by decide⟩ dX2_tangent_44
            ·
              have hg : gab q k = false := gabF hg
              have hsl := slen_le hO k
              by_cases hr : inL v0 0 (slen x1 y1 k) = true
              ·
                obtain ⟨t, ht0, ht, rfl⟩ := inL_of hr (by omega)
                have eT : toL (lN t) = t := toL_k (by omega)
                refine w_i (v' := nI 0) (by simp [mk3, hi, ek, hg, hr]) ?_
                have bk := hO.2.2.1 k hk
                have pq := gab_pos bk hg
                have eR := hR k hk hg
                refine f_put (F := fun q => q = mo) (T := TX2) (N := 8) (ci := 2) X tyX2 tyX2_ok nmX2 uX2 (hP.at 0 rfl) rfl 0 (by decide) mw_464 rfl rfl (v := .int (nI 0)) (ty := .int) (by decide +kernel) rfl rfl (Nat.le_of_ble_eq_true rfl) (Or.inl rfl) hlo dX2_tangent_33 (fun H11 locs hpa hlo hat => ?_)
                have hX := hX.tra (rfl) hpa
                have hP := PP.cons hat (PP.exa (hP.sub [1, 2, 3] rfl : PP g [mla g ua U, mla g oa O, mza g ga q] _) hpa (fun z hz => by simp only [List.mem_cons, List.not_mem_nil, or_false] at hz; rcases hz with rfl | rfl | rfl <;> first | exact hM.1 | exact hM.2.1 | exact hM.2.2.1))
                have hP : PP g [(mo, .inr (2, [.int (nI 0), .long (lN x1), .long (lN y1), .ref ua, .ref oa, .ref ga, .long ab, .long be])), mla g ua U, mla g oa O, mza g ga q] H11 := hP
                refine lv_aload_n X.1 X.2.1 dX2_tangent_36 rfl (lv_at hl 0 rfl) ?_
                refine p_get (T := TX2) X uX2 (hP.at 0 rfl) rfl 0 (by decide) mw_464 rfl rfl dX2_tangent_37 ?_
                refine lv_if_le (tgt := 45) X.1 X.2.1 dX2_tangent_40 (by decide) (fun _ => ?_) (fun h9 => absurd (by decide) h9)
                refine lv_iload X.1 X.2.1 dX2_tangent_45 (lv_at hl 3 rfl) ?_
                refine lv_iconst (v := nI 2) X.1 X.2.1 dX2_tangent_47 (by decide) ?_
                refine q_Ige X (by omega) (by omega) (tgt := 74) dX2_tangent_48 (by decide) (fun hB12 => ?_) (fun hB12 => ?_)
                ·
                  obtain rfl : nc = 2 := by omega
                  refine lv_aload_n X.1 X.2.1 dX2_tangent_74 rfl (lv_at hl 0 rfl) ?_
                  refine lv_iload_n X.1 X.2.1 dX2_tangent_75 rfl (lv_at hl 1 rfl) ?_
                  refine lv_lload_n X.1 X.2.1 dX2_tangent_76 rfl (lv_at hl 2 rfl) ?_
                  refine f_callV (F := fun q => q = mo) (C := RX2) (b := mo) (As := [.int (nI k), .long (lN t)]) (rest := []) X (c_X2_ending l g mo ua oa ga _ _ _ x1 y1 U O q k t hO hR hM hk hg ht) ⟨mw_561, mw_563, mw_30, mw_40, mw_564⟩ sgX2_ending ⟨rfl, rfl, ⟨by decide, by decide⟩, by decide, by decide⟩ (hP.at 0 rfl) rfl rfl (hP) hX.1 (fun q h => h) hlo rfl hl.1 rfl (Nat.le_of_ble_eq_true rfl) dX2_tangent_77 (fun v H13 locs hk14 hlo hp => ?_)
                  obtain ⟨rfl, hP⟩ := hp
                  have hX := hX.trf (fun q h => h) hk14
                  refine W.eq (g2 := F0 m 80 ls [.int (nI (enp x1 y1 q k t 4))]) rfl ?_
                  refine lv_istore (lv' := [(6, .int (nI (enp x1 y1 q k t 4))), (0, .ref mo), (1, .int (nI k)), (2, .long (lN t)), (4, .int (nI 2)), (5, .int (nI pj))]) X.1 X.2.1 dX2_tangent_80 hl (by decide) rfl (fun ls hl => ?_)
                  refine lv_iload X.1 X.2.1 dX2_tangent_82 (lv_at hl 0 rfl) ?_
                  refine lv_iload_n X.1 X.2.1 dX2_tangent_84 rfl (lv_at hl 2 rfl) ?_
                  refine lv_ixor X.1 X.2.1 dX2_tangent_85 ?_
                  refine lv_iconst (v := nI 2) X.1 X.2.1 dX2_tangent_86 (by decide) ?_
                  have hen := enp_ok x1 y1 q k t 4 (by decide)
                  have hxo := xor2 _ hen.1 k hk
                  refine lv_icmp_ne (tgt := 101) X.1 X.2.1 dX2_tangent_87 (by decide) (fun hB15 => ?_) (fun hB15 => ?_)
                  ·
                    have hno : ¬ enp x1 y1 q k t 4 = opp k := fun h9 => absurd (hxo.mpr h9) hB15
                    have hgo : gab q (enp x1 y1 q k t 4) = false := hen.2.resolve_left hno
                    have bo := hO.2.2.1 _ hen.1
                    have po := gab_pos bo hgo
                    have eO := hR _ hen.1 hgo
                    refine lv_aload_n X.1 X.2.1 dX2_tangent_101 rfl (lv_at hl 1 rfl) ?_
                    refine lv_aload_n X.1 X.2.1 dX2_tangent_102 rfl (lv_at hl 1 rfl) ?_
                    refine p_get (T := TX2) X uX2 (hP.at 0 rfl) rfl 3 (by decide) mw_467 rfl rfl dX2_tangent_103 ?_
                    refine lv_iload_n X.1 X.2.1 dX2_tangent_106 rfl (lv_at hl 2 rfl) ?_
                    refine f_lald X (hP.at 1 rfl) hk (by decide) dX2_tangent_107 ?_
                    refine w_l (v' := lN ((q k).den)) (by rw [(eR).2]) ?_
                    refine lv_aload_n X.1 X.2.1 dX2_tangent_108 rfl (lv_at hl 1 rfl) ?_
                    refine p_get (T := TX2) X uX2 (hP.at 0 rfl) rfl 4 (by decide) mw_468 rfl rfl dX2_tangent_109 ?_
                    refine lv_iload X.1 X.2.1 dX2_tangent_112 (lv_at hl 0 rfl) ?_
                    refine f_lald X (hP.at 2 rfl) hen.1 (by decide) dX2_tangent_114 ?_
                    refine w_l (v' := lN (nu (q (enp x1 y1 q k t 4)))) (by rw [(eO).1]) ?_
                    refine lv_lmul X.1 X.2.1 dX2_tangent_115 ?_
                    refine w_l (lN_mul _ _) ?_
                    refine lv_aload_n X.1 X.2.1 dX2_tangent_116 rfl (lv_at hl 1 rfl) ?_
                    refine p_get (T := TX2) X uX2 (hP.at 0 rfl) rfl 4 (by decide) mw_468 rfl rfl dX2_tangent_117 ?_
                    refine lv_iload_n X.1 X.2.1 dX2_tangent_120 rfl (lv_at hl 2 rfl) ?_
                    refine f_lald X (hP.at 2 rfl) hk (by decide) dX2_tangent_121 ?_
                    refine w_l (v' := lN (nu (q k))) (by rw [(eR).1]) ?_
                    refine lv_aload_n X.1 X.2.1 dX2_tangent_122 rfl (lv_at hl 1 rfl) ?_
                    refine p_get (T := TX2) X uX2 (hP.at 0 rfl) rfl 3 (by decide) mw_467 rfl rfl dX2_tangent_123 ?_
                    refine lv_iload X.1 X.2.1 dX2_tangent_126 (lv_at hl 0 rfl) ?_
                    refine f_lald X (hP.at 1 rfl) hen.1 (by decide) dX2_tangent_128 ?_
                    refine w_l (v' := lN ((q (enp x1 y1 q k t 4)).den)) (by rw [(eO).2]) ?_
                    refine lv_lmul X.1 X.2.1 dX2_tangent_129 ?_
                    refine w_l (lN_mul _ _) ?_
                    refine f_callV (F := fun q => q = mo) (C := RX2) (b := mo) (As := [.long (lN (((q k).den) * (nu (q (enp x1 y1 q k t 4))))), .long (lN ((nu (q k)) * ((q (enp x1 y1 q k t 4)).den)))]) (rest := []) X (c_X2_put l g mo ua oa ga _ _ _ x1 y1 U O q ((q k).den * nu (q (enp x1 y1 q k t 4))) (nu (q k) * (q (enp x1 y1 q k t 4)).den) hM (mlt bk.2.2 bo.2.1 (by decide)) (mlt bk.2.1 bo.2.2 (by decide)) (Nat.mul_pos (nu_pos pq) (dn_pos _))) ⟨mw_508, mw_510, mw_22, mw_40, mw_511⟩ sgX2_put ⟨rfl, rfl, ⟨by decide, by decide⟩, by decide, by decide⟩ (hP.at 0 rfl) rfl rfl (hP) hX.1 (fun q h => h) hlo rfl hl.1 rfl (Nat.le_of_ble_eq_true rfl) dX2_tangent_130 (fun v H16 locs hk17 hlo hp => ?_)
                    obtain ⟨rfl, hP⟩ := hp
                    have hX := hX.trf (fun q h => h) hk17
                    refine W.eq (g2 := F0 m 133 ls []) rfl ?_
                    rw [dv_mk pq po] at hP
                    refine lv_aload_n X.1 X.2.1 dX2_tangent_133 rfl (lv_at hl 1 rfl) ?_
                    refine lv_iload X.1 X.2.1 dX2_tangent_134 (lv_at hl 5 rfl) ?_
                    refine p_callV (C := RX2) (b := mo) (As := [.int (nI pj)]) (rest := []) X (c_X2_told l g mo ua oa ga _ x1 y1 U O q (q (enp x1 y1 q k t 4) / q k) pj hpj) ⟨mw_532, mw_534, mw_26, mw_40, mw_535⟩ sgX2_told ⟨rfl, rfl, ⟨by decide, by decide⟩, by decide, by decide⟩ (hP.at 0 rfl) rfl rfl (hP.sub [0, 1, 2, 3] rfl) hX.1 rfl hl.1 rfl (Nat.le_of_ble_eq_true rfl) dX2_tangent_136 (fun v H18 hk19 hp => ?_)
                    obtain rfl := hp
                    have hX := hX.tr hk19
                    have hP := PP.ext hP hk19
                    refine W.eq (g2 := F0 m 139 ls [.long (lN (prt (q (enp x1 y1 q k t 4) / q k) pj))]) rfl ?_
                    exact f_lret X hX hlo (⟨⟨_, _, _, by simp [mk3, hcu, enc, hj, epj, hi, ek, hg, hr], hP⟩, _, rfl, fun _ _ _ => by simp only [ek, eT, epj, enc]; rw [tng, if_neg (by decide), if_neg (by decide), if_neg hno]⟩) ⟨by decide, by decide⟩ dX2_tangent_139
                  ·
                    have heo : enp x1 y1 q k t 4 = opp k := hxo.mp hB15
                    refine lv_iload X.1 X.2.1 dX2_tangent_90 (lv_at hl 5 rfl) ?_
                    refine q_Zne X (by omega) (tgt := 99) dX2_tangent_92 (by decide) (fun hB20 => ?_) (fun hB20 => ?_)
                    ·
                      refine lv_lconst (v := lN 1) X.1 X.2.1 dX2_tangent_99 (by decide) ?_
                      exact f_lret X hX hlo (⟨⟨_, _, _, by simp [mk3, hcu, enc, hj, epj, hi, ek, hg, hr], hP⟩, _, rfl, fun _ _ _ => by simp only [ek, eT, epj, enc]; rw [tng, if_neg (by decide), if_neg (by decide), if_pos heo, prt, if_neg hB20]; rfl⟩) ⟨by decide, by decide⟩ dX2_tangent_100
                    ·
                      refine lv_lconst (v := lN 0) X.1 X.2.1 dX2_tangent_95 (by decide) ?_
                      refine lv_goto (tgt := 100) X.1 X.2.1 dX2_tangent_96 (by decide) ?_
                      exact f_lret X hX hlo (⟨⟨_, _, _, by simp [mk3, hcu, enc, hj, epj, hi, ek, hg, hr], hP⟩, _, rfl, fun _ _ _ => by simp only [ek, eT, epj, enc]; rw [tng, if_neg (by decide), if_neg (by decide), if_pos heo, prt, if_pos hB20]; rfl⟩) ⟨by decide, by decide⟩ dX2_tangent_100
                ·
                  refine lv_iload X.1 X.2.1 dX2_tangent_51 (lv_at hl 3 rfl) ?_
                  refine lv_iload X.1 X.2.1 dX2_tangent_53 (lv_at hl 4 rfl) ?_
                  refine q_Ine X (by omega) (by omega) (tgt := 67) dX2_tangent_55 (by decide) (fun hB21 => ?_) (fun hB21 => ?_)
                  ·
                    refine lv_aload_n X.1 X.2.1 dX2_tangent_67 rfl (lv_at hl 0 rfl) ?_
                    refine p_get (T := TX2) X uX2 (hP.at 0 rfl) rfl 4 (by decide) mw_468 rfl rfl dX2_tangent_68 ?_
                    refine lv_iload_n X.1 X.2.1 dX2_tangent_71 rfl (lv_at hl 1 rfl) ?_
                    refine f_lald X (hP.at 2 rfl) hk (by decide) dX2_tangent_72 ?_
                    refine w_l (v' := lN (nu (q k))) (by rw [(eR).1]) ?_
                    exact f_lret X hX hlo (⟨⟨_, _, _, by simp [mk3, hcu, enc, hj, epj, hi, ek, hg, hr], hP⟩, _, rfl, fun _ _ _ => by simp only [ek, eT, epj, enc]; rw [tg_ne pq (by omega) hpj hB21]⟩) ⟨by decide, by decide⟩ dX2_tangent_73
                  ·
                    refine lv_aload_n X.1 X.2.1 dX2_tangent_58 rfl (lv_at hl 0 rfl) ?_
                    refine p_get (T := TX2) X uX2 (hP.at 0 rfl) rfl 3 (by decide) mw_467 rfl rfl dX2_tangent_59 ?_
                    refine lv_iload_n X.1 X.2.1 dX2_tangent_62 rfl (lv_at hl 1 rfl) ?_
                    refine f_lald X (hP.at 1 rfl) hk (by decide) dX2_tangent_63 ?_
                    refine w_l (v' := lN ((q k).den)) (by rw [(eR).2]) ?_
                    refine lv_goto (tgt := 73) X.1 X.2.1 dX2_tangent_64 (by decide) ?_
                    exact f_lret X hX hlo (⟨⟨_, _, _, by simp [mk3, hcu, enc, hj, epj, hi, ek, hg, hr], hP⟩, _, rfl, fun _ _ _ => by simp only [ek, eT, epj, enc]; rw [← hB21, ← tg_eq pq (by omega)]⟩) ⟨by decide, by decide⟩ dX2_tangent_73
              ·
                have hr : inL v0 0 (slen x1 y1 k) = false := gabF hr
                refine w_i (v' := nI 3) (by simp [mk3, hi, ek, hg, hr]) ?_
                refine f_put (F := fun q => q = mo) (T := TX2) (N := 8) (ci := 2) X tyX2 tyX2_ok nmX2 uX2 (hP.at 0 rfl) rfl 0 (by decide) mw_464 rfl rfl (v := .int (nI 3)) (ty := .int) (by decide +kernel) rfl rfl (Nat.le_of_ble_eq_true rfl) (Or.inl rfl) hlo dX2_tangent_33 (fun H22 locs hpa hlo hat => ?_)
                have hX := hX.tra (rfl) hpa
                have hP := PP.cons hat (PP.exa (hP.sub [1, 2, 3] rfl : PP g [mla g ua U, mla g oa O, mza g ga q] _) hpa (fun z hz => by simp only [List.mem_cons, List.not_mem_nil, or_false] at hz; rcases hz with rfl | rfl | rfl <;> first | exact hM.1 | exact hM.2.1 | exact hM.2.2.1))
                have hP : PP g [(mo, .inr (2, [.int (nI 3), .long (lN x1), .long (lN y1), .ref ua, .ref oa, .ref ga, .long ab, .long be])), mla g ua U, mla g oa O, mza g ga q] H22 := hP
                refine lv_aload_n X.1 X.2.1 dX2_tangent_36 rfl (lv_at hl 0 rfl) ?_
                refine p_get (T := TX2) X uX2 (hP.at 0 rfl) rfl 0 (by decide) mw_464 rfl rfl dX2_tangent_37 ?_
                refine lv_if_le (tgt := 45) X.1 X.2.1 dX2_tangent_40 (by decide) (fun h9 => absurd h9 (by decide)) (fun _ => ?_)
                refine lv_lconst (v := lN 0) X.1 X.2.1 dX2_tangent_43 (by decide) ?_
                exact f_lret X hX hlo (⟨⟨_, _, _, by simp [mk3, hcu, enc, hj, epj, hi, ek, hg, hr], hP⟩, _, rfl, fun h1 h2 h3 => by simp [hcu, enc, hj, epj, hi, ek, hg, hr] at h3⟩) ⟨by decide, by decide⟩ dX2_tangent_44
          ·
            have hi : inI i 4 = false := gabF hi
            refine w_i (v' := nI 1) (by simp [mk3, hi]) ?_
            refine f_put (F := fun q => q = mo) (T := TX2) (N := 8) (ci := 2) X tyX2 tyX2_ok nmX2 uX2 (hP.at 0 rfl) rfl 0 (by decide) mw_464 rfl rfl (v := .int (nI 1)) (ty := .int) (by decide +kernel) rfl rfl (Nat.le_of_ble_eq_true rfl) (Or.inl rfl) hlo dX2_tangent_33 (fun H23 locs hpa hlo hat => ?_)
            have hX := hX.tra (rfl) hpa
            have hP := PP.cons hat (PP.exa (hP.sub [1, 2, 3] rfl : PP g [mla g ua U, mla g oa O, mza g ga q] _) hpa (fun z hz => by simp only [List.mem_cons, List.not_mem_nil, or_false] at hz; rcases hz with rfl | rfl | rfl <;> first | exact hM.1 | exact hM.2.1 | exact hM.2.2.1))
            have hP : PP g [(mo, .inr (2, [.int (nI 1), .long (lN x1), .long (lN y1), .ref ua, .ref oa, .ref ga, .long ab, .long be])), mla g ua U, mla g oa O, mza g ga q] H23 := hP
            refine lv_aload_n X.1 X.2.1 dX2_tangent_36 rfl (lv_at hl 0 rfl) ?_
            refine p_get (T := TX2) X uX2 (hP.at 0 rfl) rfl 0 (by decide) mw_464 rfl rfl dX2_tangent_37 ?_
            refine lv_if_le (tgt := 45) X.1 X.2.1 dX2_tangent_40 (by decide) (fun h9 => absurd h9 (by decide)) (fun _ => ?_)
            refine lv_lconst (v := lN 0) X.1 X.2.1 dX2_tangent_43 (by decide) ?_
            exact f_lret X hX hlo (⟨⟨_, _, _, by simp [mk3, hcu, enc, hj, epj, hi], hP⟩, _, rfl, fun h1 h2 h3 => by simp [hcu, enc, hj, epj, hi] at h1⟩) ⟨by decide, by decide⟩ dX2_tangent_44
        ·
          have hj : inI j 2 = false := inI_hi3 (n := 1) (by decide) hB7
          refine lv_iconst (v := nI 1) X.1 X.2.1 dX2_tangent_23 (by decide) ?_
          refine lv_goto (tgt := 33) X.1 X.2.1 dX2_tangent_24 (by decide) ?_
          refine f_put (F := fun q => q = mo) (T := TX2) (N := 8) (ci := 2) X tyX2 tyX2_ok nmX2 uX2 (hP.at 0 rfl) rfl 0 (by decide) mw_464 rfl rfl (v := .int (nI 1)) (ty := .int) (by decide +kernel) rfl rfl (Nat.le_of_ble_eq_true rfl) (Or.inl rfl) hlo dX2_tangent_33 (fun H24 locs hpa hlo hat => ?_)
          have hX := hX.tra (rfl) hpa
          have hP := PP.cons hat (PP.exa (hP.sub [1, 2, 3] rfl : PP g [mla g ua U, mla g oa O, mza g ga q] _) hpa (fun z hz => by simp only [List.mem_cons, List.not_mem_nil, or_false] at hz; rcases hz with rfl | rfl | rfl <;> first | exact hM.1 | exact hM.2.1 | exact hM.2.2.1))
          have hP : PP g [(mo, .inr (2, [.int (nI 1), .long (lN x1), .long (lN y1), .ref ua, .ref oa, .ref ga, .long ab, .long be])), mla g ua U, mla g oa O, mza g ga q] H24 := hP
          refine lv_aload_n X.1 X.2.1 dX2_tangent_36 rfl (lv_at hl 0 rfl) ?_
          refine p_get (T := TX2) X uX2 (hP.at 0 rfl) rfl 0 (by decide) mw_464 rfl rfl dX2_tangent_37 ?_
          refine lv_if_le (tgt := 45) X.1 X.2.1 dX2_tangent_40 (by decide) (fun h9 => absurd h9 (by decide)) (fun _ => ?_)
          refine lv_lconst (v := lN 0) X.1 X.2.1 dX2_tangent_43 (by decide) ?_
          exact f_lret X hX hlo (⟨⟨_, _, _, by simp [mk3, hcu, enc, hj], hP⟩, _, rfl, fun h1 h2 h3 => by simp [hcu, enc, hj] at h1⟩) ⟨by decide, by decide⟩ dX2_tangent_44
set_option maxHeartbeats 4000000 in
set_option maxRecDepth 100000 in
theorem c_X2_mouth (l : Launch) (g : En) (mo ua oa ga : Nat) (cd : Int32) (ab be : Int64) (x1 y1 : Nat) (U O : Nat → Nat) (q : Nat → Rat) (i : Int32) (v0 : Int64) (j : Int32) (hO : OK x1 y1 q) (hR : MR q U O) (hM : MD mo ua oa ga) : FM l yX2_mouth cX2_mouth 5 (some FieldType.long) { frames := 1, cells := 0, slots := 0, locals := 30 } g [.ref mo, .int i, .long v0, .int j] (fun H => MO g mo ua oa ga cd ab be x1 y1 U O q H) (fun q => q = mo) 0 0 (fun v H => mP g mo ua oa ga (mk3 2 3 (inI i 4 && inI j 2) (!gab q (toN i)) (inL v0 0 1000)) x1 y1 U O q H ∧ rJ (inI i 4 && inI j 2) (!gab q (toN i)) (inL v0 0 1000) (prt (q (toN i) * ((toL v0 : Nat) : Rat)) (toN j)) v) := by
  refine FM.of (by decide) (Nat.le_of_ble_eq_true rfl) (fun p e s m below meth c ls X hP hl => ?_)
  have hl : lv_has ls 5 [(0, .ref mo), (1, .int i), (2, .long v0), (4, .int j)] := hl
  have hX : hxf (fun q => q = mo) s.heap s.heap := hxf.rf
  have hlo : lok (fun q => q = mo) s.heap.size ([] : List Loc) := lok.nil
  have hP : PP g [(mo, .inr (2, [.int cd, .long (lN x1), .long (lN y1), .ref ua, .ref oa, .ref ga, .long ab, .long be])), mla g ua U, mla g oa O, mza g ga q] s.heap := hP
  refine lv_aload_n X.1 X.2.1 dX2_mouth_0 rfl (lv_at hl 0 rfl) ?_
  refine lv_iload X.1 X.2.1 dX2_mouth_1 (lv_at hl 3 rfl) ?_
  refine lv_if_lt (tgt := 12) X.1 X.2.1 dX2_mouth_3 (by decide) (fun hB1 => ?_) (fun hB1 => ?_)
  ·
    have hj : inI j 2 = false := inI_lo hB1
    refine lv_iconst (v := nI 1) X.1 X.2.1 dX2_mouth_12 (by decide) ?_
    refine lv_goto (tgt := 21) X.1 X.2.1 dX2_mouth_13 (by decide) ?_
    refine f_put (F := fun q => q = mo) (T := TX2) (N := 8) (ci := 2) X tyX2 tyX2_ok nmX2 uX2 (hP.at 0 rfl) rfl 0 (by decide) mw_464 rfl rfl (v := .int (nI 1)) (ty := .int) (by decide +kernel) rfl rfl (Nat.le_of_ble_eq_true rfl) (Or.inl rfl) hlo dX2_mouth_21 (fun H2 locs hpa hlo hat => ?_)
    have hX := hX.tra (rfl) hpa
    have hP := PP.cons hat (PP.exa (hP.sub [1, 2, 3] rfl : PP g [mla g ua U, mla g oa O, mza g ga q] _) hpa (fun z hz => by simp only [List.mem_cons, List.not_mem_nil, or_false] at hz; rcases hz with rfl | rfl | rfl <;> first | exact hM.1 | exact hM.2.1 | exact hM.2.2.1))
    have hP : PP g [(mo, .inr (2, [.int (nI 1), .long (lN x1), .long (lN y1), .ref ua, .ref oa, .ref ga, .long ab, .long be])), mla g ua U, mla g oa O, mza g ga q] H2 := hP
    refine lv_aload_n X.1 X.2.1 dX2_mouth_24 rfl (lv_at hl 0 rfl) ?_
    refine p_get (T := TX2) X uX2 (hP.at 0 rfl) rfl 0 (by decide) mw_464 rfl rfl dX2_mouth_25 ?_
    refine lv_if_le (tgt := 33) X.1 X.2.1 dX2_mouth_28 (by decide) (fun h9 => absurd h9 (by decide)) (fun _ => ?_)
    refine lv_lconst (v := lN 0) X.1 X.2.1 dX2_mouth_31 (by decide) ?_
    exact f_lret X hX hlo (⟨⟨_, _, _, by simp [mk3, hj], hP⟩, _, rfl, fun h1 h2 h3 => by simp [hj] at h1⟩) ⟨by decide, by decide⟩ dX2_mouth_32
  ·
    refine lv_iload X.1 X.2.1 dX2_mouth_6 (lv_at hl 3 rfl) ?_
    refine lv_iconst (v := nI 1) X.1 X.2.1 dX2_mouth_8 (by decide) ?_
    refine lv_icmp_le (tgt := 16) X.1 X.2.1 dX2_mouth_9 (by decide) (fun hB3 => ?_) (fun hB3 => ?_)
    ·
      have hj : inI j 2 = true := inI_in3 (n := 1) (by decide) hB1 hB3
      obtain ⟨pj, hpj, rfl⟩ := inI_of hj (by decide)
      have epj : toN (nI pj) = pj := toN_k (by omega)
      refine lv_aload_n X.1 X.2.1 dX2_mouth_16 rfl (lv_at hl 0 rfl) ?_
      refine lv_iload_n X.1 X.2.1 dX2_mouth_17 rfl (lv_at hl 1 rfl) ?_
      refine p_callV (C := RX2) (b := mo) (As := [.int i]) (rest := [.ref mo]) X (c_X2_sideCode l g mo ua oa ga cd ab be x1 y1 U O q i) ⟨mw_544, mw_546, mw_27, mw_40, mw_547⟩ sgX2_sideCode ⟨rfl, rfl, ⟨by decide, by decide⟩, by decide, by decide⟩ (hP.at 0 rfl) rfl rfl (hP.sub [0, 1, 2, 3] rfl) hX.1 rfl hl.1 rfl (Nat.le_of_ble_eq_true rfl) dX2_mouth_18 (fun v H4 hk5 hp => ?_)
      obtain rfl := hp
      have hX := hX.tr hk5
      have hP := PP.ext hP hk5
      refine W.eq (g2 := F0 m 21 ls [.int (nI (if inI i 4 then (if gab q (toN i) then 2 else 0) else 1)), .ref mo]) rfl ?_
      by_cases hi : inI i 4 = true
      ·
        obtain ⟨k, hk, rfl⟩ := inI_of hi (by decide)
        have ek : toN (nI k) = k := toN_k (by omega)
        by_cases hg : gab q k = true
        ·
          refine w_i (v' := nI 2) (by simp [mk3, hi, ek, hg]) ?_
          refine f_put (F := fun q => q = mo) (T := TX2) (N := 8) (ci := 2) X tyX2 tyX2_ok nmX2 uX2 (hP.at 0 rfl) rfl 0 (by decide) mw_464 rfl rfl (v := .int (nI 2)) (ty := .int) (by decide +kernel) rfl rfl (Nat.le_of_ble_eq_true rfl) (Or.inl rfl) hlo dX2_mouth_21 (fun H6 locs hpa hlo hat => ?_)
          have hX := hX.tra (rfl) hpa
          have hP := PP.cons hat (PP.exa (hP.sub [1, 2, 3] rfl : PP g [mla g ua U, mla g oa O, mza g ga q] _) hpa (fun z hz => by simp only [List.mem_cons, List.not_mem_nil, or_false] at hz; rcases hz with rfl | rfl | rfl <;> first | exact hM.1 | exact hM.2.1 | exact hM.2.2.1))
          have hP : PP g [(mo, .inr (2, [.int (nI 2), .long (lN x1), .long (lN y1), .ref ua, .ref oa, .ref ga, .long ab, .long be])), mla g ua U, mla g oa O, mza g ga q] H6 := hP
          refine lv_aload_n X.1 X.2.1 dX2_mouth_24 rfl (lv_at hl 0 rfl) ?_
          refine p_get (T := TX2) X uX2 (hP.at 0 rfl) rfl 0 (by decide) mw_464 rfl rfl dX2_mouth_25 ?_
          refine lv_if_le (tgt := 33) X.1 X.2.1 dX2_mouth_28 (by decide) (fun h9 => absurd h9 (by decide)) (fun _ => ?_)
          refine lv_lconst (v := lN 0) X.1 X.2.1 dX2_mouth_31 (by decide) ?_
          exact f_lret X hX hlo (⟨⟨_, _, _, by simp [mk3, hj, epj, hi, ek, hg], hP⟩, _, rfl, fun h1 h2 h3 => by simp [hj, epj, hi, ek, hg] at h2⟩) ⟨by decide, by decide⟩ dX2_mouth_32
        ·
          have hg : gab q k = false := gabF hg
          refine w_i (v' := nI 0) (by simp [mk3, hi, ek, hg]) ?_
          have bk := hO.2.2.1 k hk
          have pq := gab_pos bk hg
          have eR := hR k hk hg
          refine f_put (F := fun q => q = mo) (T := TX2) (N := 8) (ci := 2) X tyX2 tyX2_ok nmX2 uX2 (hP.at 0 rfl) rfl 0 (by decide) mw_464 rfl rfl (v := .int (nI 0)) (ty := .int) (by decide +kernel) rfl rfl (Nat.le_of_ble_eq_true rfl) (Or.inl rfl) hlo dX2_mouth_21 (fun H7 locs hpa hlo hat => ?_)
          have hX := hX.tra (rfl) hpa
          have hP := PP.cons hat (PP.exa (hP.sub [1, 2, 3] rfl : PP g [mla g ua U, mla g oa O, mza g ga q] _) hpa (fun z hz => by simp only [List.mem_cons, List.not_mem_nil, or_false] at hz; rcases hz with rfl | rfl | rfl <;> first | exact hM.1 | exact hM.2.1 | exact hM.2.2.1))
          have hP : PP g [(mo, .inr (2, [.int (nI 0), .long (lN x1), .long (lN y1), .ref ua, .ref oa, .ref ga, .long ab, .long be])), mla g ua U, mla g oa O, mza g ga q] H7 := hP
          refine lv_aload_n X.1 X.2.1 dX2_mouth_24 rfl (lv_at hl 0 rfl) ?_
          refine p_get (T := TX2) X uX2 (hP.at 0 rfl) rfl 0 (by decide) mw_464 rfl rfl dX2_mouth_25 ?_
          refine lv_if_le (tgt := 33) X.1 X.2.1 dX2_mouth_28 (by decide) (fun _ => ?_) (fun h9 => absurd (by decide) h9)
          refine lv_aload_n X.1 X.2.1 dX2_mouth_33 rfl (lv_at hl 0 rfl) ?_
          refine lv_lload_n X.1 X.2.1 dX2_mouth_34 rfl (lv_at hl 2 rfl) ?_
          refine lv_lconst (v := lN 0) X.1 X.2.1 dX2_mouth_35 (by decide) ?_
          refine lv_ldc2 (v := 1000) X.1 X.2.1 X.2.2.2.1 (X.2.2.2.2.1 _ (List.mem_cons_of_mem _ mw_462)) dX2_mouth_36 ?_
          refine w_l (v' := lN 1000) (by decide) ?_
          refine p_callS (As := [.long v0, .long (lN 0), .long (lN 1000)]) (rest := [.ref mo]) X (c_X2_isIn l g v0 0 1000 (by decide) (by decide)) ⟨mw_500, mw_501, mw_40, mw_502⟩ sgX2_isIn ⟨rfl, rfl, ⟨by decide, by decide⟩, by decide, by decide⟩ (trivial) hX.1 rfl hl.1 rfl (Nat.le_of_ble_eq_true rfl) dX2_mouth_39 (fun v H8 hk9 hp => ?_)
          obtain rfl := hp
          have hX := hX.tr hk9
          have hP := PP.ext hP hk9
          refine W.eq (g2 := F0 m 42 ls [.int (bI (inL v0 0 1000)), .ref mo]) rfl ?_
          refine q_Beq X (tgt := 49) dX2_mouth_42 (by decide) (fun hB10 => ?_) (fun hB10 => ?_)
          ·
            refine lv_iconst (v := nI 3) X.1 X.2.1 dX2_mouth_49 (by decide) ?_
            refine f_put (F := fun q => q = mo) (T := TX2) (N := 8) (ci := 2) X tyX2 tyX2_ok nmX2 uX2 (hP.at 0 rfl) rfl 0 (by decide) mw_464 rfl rfl (v := .int (nI 3)) (ty := .int) (by decide +kernel) rfl rfl (Nat.le_of_ble_eq_true rfl) (Or.inl rfl) hlo dX2_mouth_50 (fun H11 locs hpa hlo hat => ?_)
            have hX := hX.tra (rfl) hpa
            have hP := PP.cons hat (PP.exa (hP.sub [1, 2, 3] rfl : PP g [mla g ua U, mla g oa O, mza g ga q] _) hpa (fun z hz => by simp only [List.mem_cons, List.not_mem_nil, or_false] at hz; rcases hz with rfl | rfl | rfl <;> first | exact hM.1 | exact hM.2.1 | exact hM.2.2.1))
            have hP : PP g [(mo, .inr (2, [.int (nI 3), .long (lN x1), .long (lN y1), .ref ua, .ref oa, .ref ga, .long ab, .long be])), mla g ua U, mla g oa O, mza g ga q] H11 := hP
            refine lv_aload_n X.1 X.2.1 dX2_mouth_53 rfl (lv_at hl 0 rfl) ?_
            refine p_get (T := TX2) X uX2 (hP.at 0 rfl) rfl 0 (by decide) mw_464 rfl rfl dX2_mouth_54 ?_
            refine lv_if_le (tgt := 62) X.1 X.2.1 dX2_mouth_57 (by decide) (fun h9 => absurd h9 (by decide)) (fun _ => ?_)
            refine lv_lconst (v := lN 0) X.1 X.2.1 dX2_mouth_60 (by decide) ?_
            exact f_lret X hX hlo (⟨⟨_, _, _, by simp [mk3, hj, epj, hi, ek, hg, hB10], hP⟩, _, rfl, fun h1 h2 h3 => by simp [hj, epj, hi, ek, hg, hB10] at h3⟩) ⟨by decide, by decide⟩ dX2_mouth_61
          ·
            have hr : inL v0 0 1000 = true := hB10
            obtain ⟨t, ht0, ht, rfl⟩ := inL_of hr (by decide)
            have eT : toL (lN t) = t := toL_k (by omega)
            refine lv_iconst (v := nI 0) X.1 X.2.1 dX2_mouth_45 (by decide) ?_
            refine lv_goto (tgt := 50) X.1 X.2.1 dX2_mouth_46 (by decide) ?_
            refine f_put (F := fun q => q = mo) (T := TX2) (N := 8) (ci := 2) X tyX2 tyX2_ok nmX2 uX2 (hP.at 0 rfl) rfl 0 (by decide) mw_464 rfl rfl (v := .int (nI 0)) (ty := .int) (by decide +kernel) rfl rfl (Nat.le_of_ble_eq_true rfl) (Or.inl rfl) hlo dX2_mouth_50 (fun H12 locs hpa hlo hat => ?_)
            have hX := hX.tra (rfl) hpa
            have hP := PP.cons hat (PP.exa (hP.sub [1, 2, 3] rfl : PP g [mla g ua U, mla g oa O, mza g ga q] _) hpa (fun z hz => by simp only [List.mem_cons, List.not_mem_nil, or_false] at hz; rcases hz with rfl | rfl | rfl <;> first | exact hM.1 | exact hM.2.1 | exact hM.2.2.1))
            have hP : PP g [(mo, .inr (2, [.int (nI 0), .long (lN x1), .long (lN y1), .ref ua, .ref oa, .ref ga, .long ab, .long be])), mla g ua U, mla g oa O, mza g ga q] H12 := hP
            refine lv_aload_n X.1 X.2.1 dX2_mouth_53 rfl (lv_at hl 0 rfl) ?_
            refine p_get (T := TX2) X uX2 (hP.at 0 rfl) rfl 0 (by decide) mw_464 rfl rfl dX2_mouth_54 ?_
            refine lv_if_le (tgt := 62) X.1 X.2.1 dX2_mouth_57 (by decide) (fun _ => ?_) (fun h9 => absurd (by decide) h9)
            refine lv_aload_n X.1 X.2.1 dX2_mouth_62 rfl (lv_at hl 0 rfl) ?_
            refine lv_lload_n X.1 X.2.1 dX2_mouth_63 rfl (lv_at hl 2 rfl) ?_
            refine lv_aload_n X.1 X.2.1 dX2_mouth_64 rfl (lv_at hl 0 rfl) ?_
            refine p_get (T := TX2) X uX2 (hP.at 0 rfl) rfl 4 (by decide) mw_468 rfl rfl dX2_mouth_65 ?_
            refine lv_iload_n X.1 X.2.1 dX2_mouth_68 rfl (lv_at hl 1 rfl) ?_
            refine f_lald X (hP.at 2 rfl) hk (by decide) dX2_mouth_69 ?_
            refine w_l (v' := lN (nu (q k))) (by rw [(eR).1]) ?_
            refine lv_lmul X.1 X.2.1 dX2_mouth_70 ?_
            refine w_l (lN_mul _ _) ?_
            refine lv_aload_n X.1 X.2.1 dX2_mouth_71 rfl (lv_at hl 0 rfl) ?_
            refine p_get (T := TX2) X uX2 (hP.at 0 rfl) rfl 3 (by decide) mw_467 rfl rfl dX2_mouth_72 ?_
            refine lv_iload_n X.1 X.2.1 dX2_mouth_75 rfl (lv_at hl 1 rfl) ?_
            refine f_lald X (hP.at 1 rfl) hk (by decide) dX2_mouth_76 ?_
            refine w_l (v' := lN ((q k).den)) (by rw [(eR).2]) ?_
            refine f_callV (F := fun q => q = mo) (C := RX2) (b := mo) (As := [.long (lN (t * (nu (q k)))), .long (lN ((q k).den))]) (rest := []) X (c_X2_put l g mo ua oa ga _ _ _ x1 y1 U O q (t * nu (q k)) ((q k).den) hM (mlt ht bk.2.1 (by decide)) (by have := bk.2.2; omega) (dn_pos _)) ⟨mw_508, mw_510, mw_22, mw_40, mw_511⟩ sgX2_put ⟨rfl, rfl, ⟨by decide, by decide⟩, by decide, by decide⟩ (hP.at 0 rfl) rfl rfl (hP) hX.1 (fun q h => h) hlo rfl hl.1 rfl (Nat.le_of_ble_eq_true rfl) dX2_mouth_77 (fun v H13 locs hk14 hlo hp => ?_)
            obtain ⟨rfl, hP⟩ := hp
            have hX := hX.trf (fun q h => h) hk14
            refine W.eq (g2 := F0 m 80 ls []) rfl ?_
            rw [muln_mk' bk.1] at hP
            refine lv_aload_n X.1 X.2.1 dX2_mouth_80 rfl (lv_at hl 0 rfl) ?_
            refine lv_iload X.1 X.2.1 dX2_mouth_81 (lv_at hl 3 rfl) ?_
            refine p_callV (C := RX2) (b := mo) (As := [.int (nI pj)]) (rest := []) X (c_X2_told l g mo ua oa ga _ x1 y1 U O q (q k * ((t : Nat) : Rat)) pj hpj) ⟨mw_532, mw_534, mw_26, mw_40, mw_535⟩ sgX2_told ⟨rfl, rfl, ⟨by decide, by decide⟩, by decide, by decide⟩ (hP.at 0 rfl) rfl rfl (hP.sub [0, 1, 2, 3] rfl) hX.1 rfl hl.1 rfl (Nat.le_of_ble_eq_true rfl) dX2_mouth_83 (fun v H15 hk16 hp => ?_)
            obtain rfl := hp
            have hX := hX.tr hk16
            have hP := PP.ext hP hk16
            refine W.eq (g2 := F0 m 86 ls [.long (lN (prt (q k * ((t : Nat) : Rat)) pj))]) rfl ?_
            exact f_lret X hX hlo (⟨⟨_, _, _, by simp [mk3, hj, epj, hi, ek, hg, hr], hP⟩, _, rfl, fun _ _ _ => by simp only [ek, eT, epj]⟩) ⟨by decide, by decide⟩ dX2_mouth_86
      ·
        have hi : inI i 4 = false := gabF hi
        refine w_i (v' := nI 1) (by simp [mk3, hi]) ?_
        refine f_put (F := fun q => q = mo) (T := TX2) (N := 8) (ci := 2) X tyX2 tyX2_ok nmX2 uX2 (hP.at 0 rfl) rfl 0 (by decide) mw_464 rfl rfl (v := .int (nI 1)) (ty := .int) (by decide +kernel) rfl rfl (Nat.le_of_ble_eq_true rfl) (Or.inl rfl) hlo dX2_mouth_21 (fun H17 locs hpa hlo hat => ?_)
        have hX := hX.tra (rfl) hpa
        have hP := PP.cons hat (PP.exa (hP.sub [1, 2, 3] rfl : PP g [mla g ua U, mla g oa O, mza g ga q] _) hpa (fun z hz => by simp only [List.mem_cons, List.not_mem_nil, or_false] at hz; rcases hz with rfl | rfl | rfl <;> first | exact hM.1 | exact hM.2.1 | exact hM.2.2.1))
        have hP : PP g [(mo, .inr (2, [.int (nI 1), .long (lN x1), .long (lN y1), .ref ua, .ref oa, .ref ga, .long ab, .long be])), mla g ua U, mla g oa O, mza g ga q] H17 := hP
        refine lv_aload_n X.1 X.2.1 dX2_mouth_24 rfl (lv_at hl 0 rfl) ?_
        refine p_get (T := TX2) X uX2 (hP.at 0 rfl) rfl 0 (by decide) mw_464 rfl rfl dX2_mouth_25 ?_
        refine lv_if_le (tgt := 33) X.1 X.2.1 dX2_mouth_28 (by decide) (fun h9 => absurd h9 (by decide)) (fun _ => ?_)
        refine lv_lconst (v := lN 0) X.1 X.2.1 dX2_mouth_31 (by decide) ?_
        exact f_lret X hX hlo (⟨⟨_, _, _, by simp [mk3, hj, epj, hi], hP⟩, _, rfl, fun h1 h2 h3 => by simp [hj, epj, hi] at h1⟩) ⟨by decide, by decide⟩ dX2_mouth_32
    ·
      have hj : inI j 2 = false := inI_hi3 (n := 1) (by decide) hB3
      refine lv_iconst (v := nI 1) X.1 X.2.1 dX2_mouth_12 (by decide) ?_
      refine lv_goto (tgt := 21) X.1 X.2.1 dX2_mouth_13 (by decide) ?_
      refine f_put (F := fun q => q = mo) (T := TX2) (N := 8) (ci := 2) X tyX2 tyX2_ok nmX2 uX2 (hP.at 0 rfl) rfl 0 (by decide) mw_464 rfl rfl (v := .int (nI 1)) (ty := .int) (by decide +kernel) rfl rfl (Nat.le_of_ble_eq_true rfl) (Or.inl rfl) hlo dX2_mouth_21 (fun H18 locs hpa hlo hat => ?_)
      have hX := hX.tra (rfl) hpa
      have hP := PP.cons hat (PP.exa (hP.sub [1, 2, 3] rfl : PP g [mla g ua U, mla g oa O, mza g ga q] _) hpa (fun z hz => by simp only [List.mem_cons, List.not_mem_nil, or_false] at hz; rcases hz with rfl | rfl | rfl <;> first | exact hM.1 | exact hM.2.1 | exact hM.2.2.1))
      have hP : PP g [(mo, .inr (2, [.int (nI 1), .long (lN x1), .long (lN y1), .ref ua, .ref oa, .ref ga, .long ab, .long be])), mla g ua U, mla g oa O, mza g ga q] H18 := hP
      refine lv_aload_n X.1 X.2.1 dX2_mouth_24 rfl (lv_at hl 0 rfl) ?_
      refine p_get (T := TX2) X uX2 (hP.at 0 rfl) rfl 0 (by decide) mw_464 rfl rfl dX2_mouth_25 ?_
      refine lv_if_le (tgt := 33) X.1 X.2.1 dX2_mouth_28 (by decide) (fun h9 => absurd h9 (by decide)) (fun _ => ?_)
      refine lv_lconst (v := lN 0) X.1 X.2.1 dX2_mouth_31 (by decide) ?_
      exact f_lret X hX hlo (⟨⟨_, _, _, by simp [mk3, hj], hP⟩, _, rfl, fun h1 h2 h3 => by simp [hj] at h1⟩) ⟨by decide, by decide⟩ dX2_mouth_32
set_option maxHeartbeats 4000000 in
set_option maxRecDepth 100000 in
theorem c_X2_peak (l : Launch) (g : En) (mo ua oa ga : Nat) (cd : Int32) (ab be : Int64) (x1 y1 : Nat) (U O : Nat → Nat) (q : Nat → Rat) (j : Int32) (hO : OK x1 y1 q) (hR : MR q U O) (hM : MD mo ua oa ga) : FM l yX2_peak cX2_peak 2 (some FieldType.long) { frames := 3, cells := 0, slots := 0, locals := 80 } g [.ref mo, .int j] (fun H => MO g mo ua oa ga cd ab be x1 y1 U O q H) (fun q => q = mo) 0 0 (fun v H => mP g mo ua oa ga (mk3 2 3 (inI j 2) (true) (true)) x1 y1 U O q H ∧ rJ (inI j 2) (true) (true) (prt (pk x1 y1 q) (toN j)) v) := by
  refine FM.of (by decide) (Nat.le_of_ble_eq_true rfl) (fun p e s m below meth c ls X hP hl => ?_)
  have hl : lv_has ls 2 [(0, .ref mo), (1, .int j)] := hl
  have hX : hxf (fun q => q = mo) s.heap s.heap := hxf.rf
  have hlo : lok (fun q => q = mo) s.heap.size ([] : List Loc) := lok.nil
  have hP : PP g [(mo, .inr (2, [.int cd, .long (lN x1), .long (lN y1), .ref ua, .ref oa, .ref ga, .long ab, .long be])), mla g ua U, mla g oa O, mza g ga q] s.heap := hP
  refine lv_aload_n X.1 X.2.1 dX2_peak_0 rfl (lv_at hl 0 rfl) ?_
  refine lv_iload_n X.1 X.2.1 dX2_peak_1 rfl (lv_at hl 1 rfl) ?_
  refine lv_if_lt (tgt := 10) X.1 X.2.1 dX2_peak_2 (by decide) (fun hB1 => ?_) (fun hB1 => ?_)
  ·
    have hj : inI j 2 = false := inI_lo hB1
    refine lv_iconst (v := nI 1) X.1 X.2.1 dX2_peak_10 (by decide) ?_
    refine lv_goto (tgt := 15) X.1 X.2.1 dX2_peak_11 (by decide) ?_
    refine f_put (F := fun q => q = mo) (T := TX2) (N := 8) (ci := 2) X tyX2 tyX2_ok nmX2 uX2 (hP.at 0 rfl) rfl 0 (by decide) mw_464 rfl rfl (v := .int (nI 1)) (ty := .int) (by decide +kernel) rfl rfl (Nat.le_of_ble_eq_true rfl) (Or.inl rfl) hlo dX2_peak_15 (fun H2 locs hpa hlo hat => ?_)
    have hX := hX.tra (rfl) hpa
    have hP := PP.cons hat (PP.exa (hP.sub [1, 2, 3] rfl : PP g [mla g ua U, mla g oa O, mza g ga q] _) hpa (fun z hz => by simp only [List.mem_cons, List.not_mem_nil, or_false] at hz; rcases hz with rfl | rfl | rfl <;> first | exact hM.1 | exact hM.2.1 | exact hM.2.2.1))
    have hP : PP g [(mo, .inr (2, [.int (nI 1), .long (lN x1), .long (lN y1), .ref ua, .ref oa, .ref ga, .long ab, .long be])), mla g ua U, mla g oa O, mza g ga q] H2 := hP
    refine lv_aload_n X.1 X.2.1 dX2_peak_18 rfl (lv_at hl 0 rfl) ?_
    refine p_get (T := TX2) X uX2 (hP.at 0 rfl) rfl 0 (by decide) mw_464 rfl rfl dX2_peak_19 ?_
    refine lv_if_le (tgt := 27) X.1 X.2.1 dX2_peak_22 (by decide) (fun h9 => absurd h9 (by decide)) (fun _ => ?_)
    refine lv_lconst (v := lN 0) X.1 X.2.1 dX2_peak_25 (by decide) ?_
    exact f_lret X hX hlo (⟨⟨_, _, _, by simp [mk3, hj], hP⟩, _, rfl, fun h1 h2 h3 => by simp [hj] at h1⟩) ⟨by decide, by decide⟩ dX2_peak_26
  ·
    refine lv_iload_n X.1 X.2.1 dX2_peak_5 rfl (lv_at hl 1 rfl) ?_
    refine lv_iconst (v := nI 1) X.1 X.2.1 dX2_peak_6 (by decide) ?_
    refine lv_icmp_le (tgt := 14) X.1 X.2.1 dX2_peak_7 (by decide) (fun hB3 => ?_) (fun hB3 => ?_)
    ·
      have hj : inI j 2 = true := inI_in3 (n := 1) (by decide) hB1 hB3
      obtain ⟨pj, hpj, rfl⟩ := inI_of hj (by decide)
      have epj : toN (nI pj) = pj := toN_k (by omega)
      refine lv_iconst (v := nI 0) X.1 X.2.1 dX2_peak_14 (by decide) ?_
      refine f_put (F := fun q => q = mo) (T := TX2) (N := 8) (ci := 2) X tyX2 tyX2_ok nmX2 uX2 (hP.at 0 rfl) rfl 0 (by decide) mw_464 rfl rfl (v := .int (nI 0)) (ty := .int) (by decide +kernel) rfl rfl (Nat.le_of_ble_eq_true rfl) (Or.inl rfl) hlo dX2_peak_15 (fun H4 locs hpa hlo hat => ?_)
      have hX := hX.tra (rfl) hpa
      have hP := PP.cons hat (PP.exa (hP.sub [1, 2, 3] rfl : PP g [mla g ua U, mla g oa O, mza g ga q] _) hpa (fun z hz => by simp only [List.mem_cons, List.not_mem_nil, or_false] at hz; rcases hz with rfl | rfl | rfl <;> first | exact hM.1 | exact hM.2.1 | exact hM.2.2.1))
      have hP : PP g [(mo, .inr (2, [.int (nI 0), .long (lN x1), .long (lN y1), .ref ua, .ref oa, .ref ga, .long ab, .long be])), mla g ua U, mla g oa O, mza g ga q] H4 := hP
      refine lv_aload_n X.1 X.2.1 dX2_peak_18 rfl (lv_at hl 0 rfl) ?_
      refine p_get (T := TX2) X uX2 (hP.at 0 rfl) rfl 0 (by decide) mw_464 rfl rfl dX2_peak_19 ?_
      refine lv_if_le (tgt := 27) X.1 X.2.1 dX2_peak_22 (by decide) (fun _ => ?_) (fun h9 => absurd (by decide) h9)
      refine lv_aload_n X.1 X.2.1 dX2_peak_27 rfl (lv_at hl 0 rfl) ?_
      refine f_callV (F := fun q => q = mo) (C := RX2) (b := mo) (As := []) (rest := []) X (c_X2_makePeak l g mo ua oa ga _ _ _ x1 y1 U O q hO hR hM) ⟨mw_594, mw_596, mw_33, mw_40, mw_597⟩ sgX2_makePeak ⟨rfl, rfl, ⟨by decide, by decide⟩, by decide, by decide⟩ (hP.at 0 rfl) rfl rfl (hP) hX.1 (fun q h => h) hlo rfl hl.1 rfl (Nat.le_of_ble_eq_true rfl) dX2_peak_28 (fun v H5 locs hk6 hlo hp => ?_)
      obtain ⟨rfl, hP⟩ := hp
      have hX := hX.trf (fun q h => h) hk6
      refine W.eq (g2 := F0 m 31 ls []) rfl ?_
      refine lv_aload_n X.1 X.2.1 dX2_peak_31 rfl (lv_at hl 0 rfl) ?_
      refine lv_iload_n X.1 X.2.1 dX2_peak_32 rfl (lv_at hl 1 rfl) ?_
      refine p_callV (C := RX2) (b := mo) (As := [.int (nI pj)]) (rest := []) X (c_X2_told l g mo ua oa ga _ x1 y1 U O q (pk x1 y1 q) pj hpj) ⟨mw_532, mw_534, mw_26, mw_40, mw_535⟩ sgX2_told ⟨rfl, rfl, ⟨by decide, by decide⟩, by decide, by decide⟩ (hP.at 0 rfl) rfl rfl (hP.sub [0, 1, 2, 3] rfl) hX.1 rfl hl.1 rfl (Nat.le_of_ble_eq_true rfl) dX2_peak_33 (fun v H7 hk8 hp => ?_)
      obtain rfl := hp
      have hX := hX.tr hk8
      have hP := PP.ext hP hk8
      refine W.eq (g2 := F0 m 36 ls [.long (lN (prt (pk x1 y1 q) pj))]) rfl ?_
      exact f_lret X hX hlo (⟨⟨_, _, _, by simp [mk3, hj, epj], hP⟩, _, rfl, fun _ _ _ => by simp only [epj]⟩) ⟨by decide, by decide⟩ dX2_peak_36
    ·
      have hj : inI j 2 = false := inI_hi3 (n := 1) (by decide) hB3
      refine lv_iconst (v := nI 1) X.1 X.2.1 dX2_peak_10 (by decide) ?_
      refine lv_goto (tgt := 15) X.1 X.2.1 dX2_peak_11 (by decide) ?_
      refine f_put (F := fun q => q = mo) (T := TX2) (N := 8) (ci := 2) X tyX2 tyX2_ok nmX2 uX2 (hP.at 0 rfl) rfl 0 (by decide) mw_464 rfl rfl (v := .int (nI 1)) (ty := .int) (by decide +kernel) rfl rfl (Nat.le_of_ble_eq_true rfl) (Or.inl rfl) hlo dX2_peak_15 (fun H9 locs hpa hlo hat => ?_)
      have hX := hX.tra (rfl) hpa
      have hP := PP.cons hat (PP.exa (hP.sub [1, 2, 3] rfl : PP g [mla g ua U, mla g oa O, mza g ga q] _) hpa (fun z hz => by simp only [List.mem_cons, List.not_mem_nil, or_false] at hz; rcases hz with rfl | rfl | rfl <;> first | exact hM.1 | exact hM.2.1 | exact hM.2.2.1))
      have hP : PP g [(mo, .inr (2, [.int (nI 1), .long (lN x1), .long (lN y1), .ref ua, .ref oa, .ref ga, .long ab, .long be])), mla g ua U, mla g oa O, mza g ga q] H9 := hP
      refine lv_aload_n X.1 X.2.1 dX2_peak_18 rfl (lv_at hl 0 rfl) ?_
      refine p_get (T := TX2) X uX2 (hP.at 0 rfl) rfl 0 (by decide) mw_464 rfl rfl dX2_peak_19 ?_
      refine lv_if_le (tgt := 27) X.1 X.2.1 dX2_peak_22 (by decide) (fun h9 => absurd h9 (by decide)) (fun _ => ?_)
      refine lv_lconst (v := lN 0) X.1 X.2.1 dX2_peak_25 (by decide) ?_
      exact f_lret X hX hlo (⟨⟨_, _, _, by simp [mk3, hj], hP⟩, _, rfl, fun h1 h2 h3 => by simp [hj] at h1⟩) ⟨by decide, by decide⟩ dX2_peak_26
set_option maxHeartbeats 4000000 in
set_option maxRecDepth 100000 in
theorem c_X2_ridge (l : Launch) (g : En) (mo ua oa ga : Nat) (cd : Int32) (ab be : Int64) (x1 y1 : Nat) (U O : Nat → Nat) (q : Nat → Rat) (i j : Int32) (hO : OK x1 y1 q) (hR : MR q U O) (hM : MD mo ua oa ga) : FM l yX2_ridge cX2_ridge 5 (some FieldType.long) { frames := 4, cells := 0, slots := 0, locals := 101 } g [.ref mo, .int i, .int j] (fun H => MO g mo ua oa ga cd ab be x1 y1 U O q H) (fun q => q = mo) 0 0 (fun v H => mP g mo ua oa ga (mk3 2 3 (inI i 4 && inI j 2) (true) (true)) x1 y1 U O q H ∧ rJ (inI i 4 && inI j 2) (true) (true) (prt (rdg x1 y1 q (toN i)) (toN j)) v) := by
  refine FM.of (by decide) (Nat.le_of_ble_eq_true rfl) (fun p e s m below meth c ls X hP hl => ?_)
  have hl : lv_has ls 5 [(0, .ref mo), (1, .int i), (2, .int j)] := hl
  have hX : hxf (fun q => q = mo) s.heap s.heap := hxf.rf
  have hlo : lok (fun q => q = mo) s.heap.size ([] : List Loc) := lok.nil
  have hP : PP g [(mo, .inr (2, [.int cd, .long (lN x1), .long (lN y1), .ref ua, .ref oa, .ref ga, .long ab, .long be])), mla g ua U, mla g oa O, mza g ga q] s.heap := hP
  refine lv_aload_n X.1 X.2.1 dX2_ridge_0 rfl (lv_at hl 0 rfl) ?_
  refine lv_iload_n X.1 X.2.1 dX2_ridge_1 rfl (lv_at hl 1 rfl) ?_
  refine lv_if_lt (tgt := 19) X.1 X.2.1 dX2_ridge_2 (by decide) (fun hB1 => ?_) (fun hB1 => ?_)
  ·
    have hi : inI i 4 = false := inI_lo hB1
    refine lv_iconst (v := nI 1) X.1 X.2.1 dX2_ridge_19 (by decide) ?_
    refine lv_goto (tgt := 24) X.1 X.2.1 dX2_ridge_20 (by decide) ?_
    refine f_put (F := fun q => q = mo) (T := TX2) (N := 8) (ci := 2) X tyX2 tyX2_ok nmX2 uX2 (hP.at 0 rfl) rfl 0 (by decide) mw_464 rfl rfl (v := .int (nI 1)) (ty := .int) (by decide +kernel) rfl rfl (Nat.le_of_ble_eq_true rfl) (Or.inl rfl) hlo dX2_ridge_24 (fun H2 locs hpa hlo hat => ?_)
    have hX := hX.tra (rfl) hpa
    have hP := PP.cons hat (PP.exa (hP.sub [1, 2, 3] rfl : PP g [mla g ua U, mla g oa O, mza g ga q] _) hpa (fun z hz => by simp only [List.mem_cons, List.not_mem_nil, or_false] at hz; rcases hz with rfl | rfl | rfl <;> first | exact hM.1 | exact hM.2.1 | exact hM.2.2.1))
    have hP : PP g [(mo, .inr (2, [.int (nI 1), .long (lN x1), .long (lN y1), .ref ua, .ref oa, .ref ga, .long ab, .long be])), mla g ua U, mla g oa O, mza g ga q] H2 := hP
    refine lv_aload_n X.1 X.2.1 dX2_ridge_27 rfl (lv_at hl 0 rfl) ?_
    refine p_get (T := TX2) X uX2 (hP.at 0 rfl) rfl 0 (by decide) mw_464 rfl rfl dX2_ridge_28 ?_
    refine lv_if_le (tgt := 36) X.1 X.2.1 dX2_ridge_31 (by decide) (fun h9 => absurd h9 (by decide)) (fun _ => ?_)
    refine lv_lconst (v := lN 0) X.1 X.2.1 dX2_ridge_34 (by decide) ?_
    exact f_lret X hX hlo (⟨⟨_, _, _, by simp [mk3, hi], hP⟩, _, rfl, fun h1 h2 h3 => by simp [hi] at h1⟩) ⟨by decide, by decide⟩ dX2_ridge_35
  ·
    refine lv_iload_n X.1 X.2.1 dX2_ridge_5 rfl (lv_at hl 1 rfl) ?_
    refine lv_iconst (v := nI 3) X.1 X.2.1 dX2_ridge_6 (by decide) ?_
    refine lv_icmp_gt (tgt := 19) X.1 X.2.1 dX2_ridge_7 (by decide) (fun hB3 => ?_) (fun hB3 => ?_)
    ·
      have hi : inI i 4 = false := inI_hi3 (n := 3) (by decide) (fun h9 => absurd hB3 (Int32.not_lt.mpr h9))
      refine lv_iconst (v := nI 1) X.1 X.2.1 dX2_ridge_19 (by decide) ?_
      refine lv_goto (tgt := 24) X.1 X.2.1 dX2_ridge_20 (by decide) ?_
      refine f_put (F := fun q => q = mo) (T := TX2) (N := 8) (ci := 2) X tyX2 tyX2_ok nmX2 uX2 (hP.at 0 rfl) rfl 0 (by decide) mw_464 rfl rfl (v := .int (nI 1)) (ty := .int) (by decide +kernel) rfl rfl (Nat.le_of_ble_eq_true rfl) (Or.inl rfl) hlo dX2_ridge_24 (fun H4 locs hpa hlo hat => ?_)
      have hX := hX.tra (rfl) hpa
      have hP := PP.cons hat (PP.exa (hP.sub [1, 2, 3] rfl : PP g [mla g ua U, mla g oa O, mza g ga q] _) hpa (fun z hz => by simp only [List.mem_cons, List.not_mem_nil, or_false] at hz; rcases hz with rfl | rfl | rfl <;> first | exact hM.1 | exact hM.2.1 | exact hM.2.2.1))
      have hP : PP g [(mo, .inr (2, [.int (nI 1), .long (lN x1), .long (lN y1), .ref ua, .ref oa, .ref ga, .long ab, .long be])), mla g ua U, mla g oa O, mza g ga q] H4 := hP
      refine lv_aload_n X.1 X.2.1 dX2_ridge_27 rfl (lv_at hl 0 rfl) ?_
      refine p_get (T := TX2) X uX2 (hP.at 0 rfl) rfl 0 (by decide) mw_464 rfl rfl dX2_ridge_28 ?_
      refine lv_if_le (tgt := 36) X.1 X.2.1 dX2_ridge_31 (by decide) (fun h9 => absurd h9 (by decide)) (fun _ => ?_)
      refine lv_lconst (v := lN 0) X.1 X.2.1 dX2_ridge_34 (by decide) ?_
      exact f_lret X hX hlo (⟨⟨_, _, _, by simp [mk3, hi], hP⟩, _, rfl, fun h1 h2 h3 => by simp [hi] at h1⟩) ⟨by decide, by decide⟩ dX2_ridge_35
    ·
      have hi : inI i 4 = true := inI_in3 (n := 3) (by decide) hB1 (Int32.not_lt.mp hB3)
      obtain ⟨wn, hwn, rfl⟩ := inI_of hi (by decide)
      have ewn : toN (nI wn) = wn := toN_k (by omega)
      refine lv_iload_n X.1 X.2.1 dX2_ridge_10 rfl (lv_at hl 2 rfl) ?_
      refine lv_if_lt (tgt := 19) X.1 X.2.1 dX2_ridge_11 (by decide) (fun hB5 => ?_) (fun hB5 => ?_)
      ·
        have hj : inI j 2 = false := inI_lo hB5
        refine lv_iconst (v := nI 1) X.1 X.2.1 dX2_ridge_19 (by decide) ?_
        refine lv_goto (tgt := 24) X.1 X.2.1 dX2_ridge_20 (by decide) ?_
        refine f_put (F := fun q => q = mo) (T := TX2) (N := 8) (ci := 2) X tyX2 tyX2_ok nmX2 uX2 (hP.at 0 rfl) rfl 0 (by decide) mw_464 rfl rfl (v := .int (nI 1)) (ty := .int) (by decide +kernel) rfl rfl (Nat.le_of_ble_eq_true rfl) (Or.inl rfl) hlo dX2_ridge_24 (fun H6 locs hpa hlo hat => ?_)
        have hX := hX.tra (rfl) hpa
        have hP := PP.cons hat (PP.exa (hP.sub [1, 2, 3] rfl : PP g [mla g ua U, mla g oa O, mza g ga q] _) hpa (fun z hz => by simp only [List.mem_cons, List.not_mem_nil, or_false] at hz; rcases hz with rfl | rfl | rfl <;> first | exact hM.1 | exact hM.2.1 | exact hM.2.2.1))
        have hP : PP g [(mo, .inr (2, [.int (nI 1), .long (lN x1), .long (lN y1), .ref ua, .ref oa, .ref ga, .long ab, .long be])), mla g ua U, mla g oa O, mza g ga q] H6 := hP
        refine lv_aload_n X.1 X.2.1 dX2_ridge_27 rfl (lv_at hl 0 rfl) ?_
        refine p_get (T := TX2) X uX2 (hP.at 0 rfl) rfl 0 (by decide) mw_464 rfl rfl dX2_ridge_28 ?_
        refine lv_if_le (tgt := 36) X.1 X.2.1 dX2_ridge_31 (by decide) (fun h9 => absurd h9 (by decide)) (fun _ => ?_)
        refine lv_lconst (v := lN 0) X.1 X.2.1 dX2_ridge_34 (by decide) ?_
        exact f_lret X hX hlo (⟨⟨_, _, _, by simp [mk3, hi, ewn, hj], hP⟩, _, rfl, fun h1 h2 h3 => by simp [hi, ewn, hj] at h1⟩) ⟨by decide, by decide⟩ dX2_ridge_35
      ·
        refine lv_iload_n X.1 X.2.1 dX2_ridge_14 rfl (lv_at hl 2 rfl) ?_
        refine lv_iconst (v := nI 1) X.1 X.2.1 dX2_ridge_15 (by decide) ?_
        refine lv_icmp_le (tgt := 23) X.1 X.2.1 dX2_ridge_16 (by decide) (fun hB7 => ?_) (fun hB7 => ?_)
        ·
          have hj : inI j 2 = true := inI_in3 (n := 1) (by decide) hB5 hB7
          obtain ⟨pj, hpj, rfl⟩ := inI_of hj (by decide)
          have epj : toN (nI pj) = pj := toN_k (by omega)
          refine lv_iconst (v := nI 0) X.1 X.2.1 dX2_ridge_23 (by decide) ?_
          refine f_put (F := fun q => q = mo) (T := TX2) (N := 8) (ci := 2) X tyX2 tyX2_ok nmX2 uX2 (hP.at 0 rfl) rfl 0 (by decide) mw_464 rfl rfl (v := .int (nI 0)) (ty := .int) (by decide +kernel) rfl rfl (Nat.le_of_ble_eq_true rfl) (Or.inl rfl) hlo dX2_ridge_24 (fun H8 locs hpa hlo hat => ?_)
          have hX := hX.tra (rfl) hpa
          have hP := PP.cons hat (PP.exa (hP.sub [1, 2, 3] rfl : PP g [mla g ua U, mla g oa O, mza g ga q] _) hpa (fun z hz => by simp only [List.mem_cons, List.not_mem_nil, or_false] at hz; rcases hz with rfl | rfl | rfl <;> first | exact hM.1 | exact hM.2.1 | exact hM.2.2.1))
          have hP : PP g [(mo, .inr (2, [.int (nI 0), .long (lN x1), .long (lN y1), .ref ua, .ref oa, .ref ga, .long ab, .long be])), mla g ua U, mla g oa O, mza g ga q] H8 := hP
          rcases (show wn = 0 ∨ wn = 1 ∨ wn = 2 ∨ wn = 3 by omega) with rfl | rfl | rfl | rfl
          ·
            refine lv_aload_n X.1 X.2.1 dX2_ridge_27 rfl (lv_at hl 0 rfl) ?_
            refine p_get (T := TX2) X uX2 (hP.at 0 rfl) rfl 0 (by decide) mw_464 rfl rfl dX2_ridge_28 ?_
            refine lv_if_le (tgt := 36) X.1 X.2.1 dX2_ridge_31 (by decide) (fun _ => ?_) (fun h9 => absurd (by decide) h9)
            refine lv_aload_n X.1 X.2.1 dX2_ridge_36 rfl (lv_at hl 0 rfl) ?_
            refine lv_iload_n X.1 X.2.1 dX2_ridge_37 rfl (lv_at hl 1 rfl) ?_
            refine lv_if_ne (tgt := 45) X.1 X.2.1 dX2_ridge_38 (by decide) (fun h9 => absurd (by decide) h9) (fun _ => ?_)
            refine lv_iconst (v := nI 3) X.1 X.2.1 dX2_ridge_41 (by decide) ?_
            refine lv_goto (tgt := 64) X.1 X.2.1 dX2_ridge_42 (by decide) ?_
            refine f_callV (F := fun q => q = mo) (C := RX2) (b := mo) (As := [.int (nI 3)]) (rest := []) X (c_X2_makeFar l g mo ua oa ga _ _ _ x1 y1 U O q (3) hO hR hM (by decide)) ⟨mw_610, mw_612, mw_36, mw_40, mw_613⟩ sgX2_makeFar ⟨rfl, rfl, ⟨by decide, by decide⟩, by decide, by decide⟩ (hP.at 0 rfl) rfl rfl (hP) hX.1 (fun q h => h) hlo rfl hl.1 rfl (Nat.le_of_ble_eq_true rfl) dX2_ridge_64 (fun v H9 locs hk10 hlo hp => ?_)
            obtain ⟨rfl, hP⟩ := hp
            have hX := hX.trf (fun q h => h) hk10
            refine W.eq (g2 := F0 m 67 ls []) rfl ?_
            refine lv_iload_n X.1 X.2.1 dX2_ridge_67 rfl (lv_at hl 1 rfl) ?_
            refine lv_iconst (v := nI 2) X.1 X.2.1 dX2_ridge_68 (by decide) ?_
            refine lv_irem X.1 X.2.1 dX2_ridge_69 (by decide) ?_
            refine w_i (v' := nI 0) (by decide) ?_
            refine lv_iconst (v := nI 1) X.1 X.2.1 dX2_ridge_70 (by decide) ?_
            refine lv_icmp_ne (tgt := 110) X.1 X.2.1 dX2_ridge_71 (by decide) (fun _ => ?_) (fun h9 => absurd h9 (by decide))
            refine lv_aload_n X.1 X.2.1 dX2_ridge_110 rfl (lv_at hl 0 rfl) ?_
            refine lv_iload_n X.1 X.2.1 dX2_ridge_111 rfl (lv_at hl 2 rfl) ?_
            refine p_callV (C := RX2) (b := mo) (As := [.int (nI pj)]) (rest := []) X (c_X2_told l g mo ua oa ga _ x1 y1 U O q (pk x1 y1 q * q 3) pj hpj) ⟨mw_532, mw_534, mw_26, mw_40, mw_535⟩ sgX2_told ⟨rfl, rfl, ⟨by decide, by decide⟩, by decide, by decide⟩ (hP.at 0 rfl) rfl rfl (hP.sub [0, 1, 2, 3] rfl) hX.1 rfl hl.1 rfl (Nat.le_of_ble_eq_true rfl) dX2_ridge_112 (fun v H11 hk12 hp => ?_)
            obtain rfl := hp
            have hX := hX.tr hk12
            have hP := PP.ext hP hk12
            refine W.eq (g2 := F0 m 115 ls [.long (lN (prt (pk x1 y1 q * q 3) pj))]) rfl ?_
            exact f_lret X hX hlo (⟨⟨_, _, _, by simp [mk3, hi, ewn, hj, epj], hP⟩, _, rfl, fun _ _ _ => by simp only [ewn, epj]; rfl⟩) ⟨by decide, by decide⟩ dX2_ridge_115
          ·
            refine lv_aload_n X.1 X.2.1 dX2_ridge_27 rfl (lv_at hl 0 rfl) ?_
            refine p_get (T := TX2) X uX2 (hP.at 0 rfl) rfl 0 (by decide) mw_464 rfl rfl dX2_ridge_28 ?_
            refine lv_if_le (tgt := 36) X.1 X.2.1 dX2_ridge_31 (by decide) (fun _ => ?_) (fun h9 => absurd (by decide) h9)
            refine lv_aload_n X.1 X.2.1 dX2_ridge_36 rfl (lv_at hl 0 rfl) ?_
            refine lv_iload_n X.1 X.2.1 dX2_ridge_37 rfl (lv_at hl 1 rfl) ?_
            refine lv_if_ne (tgt := 45) X.1 X.2.1 dX2_ridge_38 (by decide) (fun _ => ?_) (fun h9 => absurd h9 (by decide))
            refine lv_iload_n X.1 X.2.1 dX2_ridge_45 rfl (lv_at hl 1 rfl) ?_
            refine lv_iconst (v := nI 1) X.1 X.2.1 dX2_ridge_46 (by decide) ?_
            refine lv_icmp_ne (tgt := 54) X.1 X.2.1 dX2_ridge_47 (by decide) (fun h9 => absurd (by decide) h9) (fun _ => ?_)
            refine lv_iconst (v := nI 1) X.1 X.2.1 dX2_ridge_50 (by decide) ?_
            refine lv_goto (tgt := 64) X.1 X.2.1 dX2_ridge_51 (by decide) ?_
            refine f_callV (F := fun q => q = mo) (C := RX2) (b := mo) (As := [.int (nI 1)]) (rest := []) X (c_X2_makeFar l g mo ua oa ga _ _ _ x1 y1 U O q (1) hO hR hM (by decide)) ⟨mw_610, mw_612, mw_36, mw_40, mw_613⟩ sgX2_makeFar ⟨rfl, rfl, ⟨by decide, by decide⟩, by decide, by decide⟩ (hP.at 0 rfl) rfl rfl (hP) hX.1 (fun q h => h) hlo rfl hl.1 rfl (Nat.le_of_ble_eq_true rfl) dX2_ridge_64 (fun v H13 locs hk14 hlo hp => ?_)
            obtain ⟨rfl, hP⟩ := hp
            have hX := hX.trf (fun q h => h) hk14
            refine W.eq (g2 := F0 m 67 ls []) rfl ?_
            refine lv_iload_n X.1 X.2.1 dX2_ridge_67 rfl (lv_at hl 1 rfl) ?_
            refine lv_iconst (v := nI 2) X.1 X.2.1 dX2_ridge_68 (by decide) ?_
            refine lv_irem X.1 X.2.1 dX2_ridge_69 (by decide) ?_
            refine w_i (v' := nI 1) (by decide) ?_
            refine lv_iconst (v := nI 1) X.1 X.2.1 dX2_ridge_70 (by decide) ?_
            refine lv_icmp_ne (tgt := 110) X.1 X.2.1 dX2_ridge_71 (by decide) (fun h9 => absurd (by decide) h9) (fun _ => ?_)
            refine lv_iload_n X.1 X.2.1 dX2_ridge_74 rfl (lv_at hl 1 rfl) ?_
            refine lv_iconst (v := nI 1) X.1 X.2.1 dX2_ridge_75 (by decide) ?_
            refine lv_icmp_ne (tgt := 86) X.1 X.2.1 dX2_ridge_76 (by decide) (fun h9 => absurd (by decide) h9) (fun _ => ?_)
            refine lv_aload_n X.1 X.2.1 dX2_ridge_79 rfl (lv_at hl 0 rfl) ?_
            refine p_get (T := TX2) X uX2 (hP.at 0 rfl) rfl 1 (by decide) mw_465 rfl rfl dX2_ridge_80 ?_
            refine lv_goto (tgt := 90) X.1 X.2.1 dX2_ridge_83 (by decide) ?_
            refine lv_lstore_n (lv' := [(3, .long (lN x1)), (0, .ref mo), (1, .int (nI 1)), (2, .int (nI pj))]) X.1 X.2.1 dX2_ridge_90 rfl hl (by decide) rfl (fun ls hl => ?_)
            refine lv_aload_n X.1 X.2.1 dX2_ridge_91 rfl (lv_at hl 1 rfl) ?_
            refine lv_lload_n X.1 X.2.1 dX2_ridge_92 rfl (lv_at hl 0 rfl) ?_
            refine lv_aload_n X.1 X.2.1 dX2_ridge_93 rfl (lv_at hl 1 rfl) ?_
            refine p_get (T := TX2) X uX2 (hP.at 0 rfl) rfl 7 (by decide) mw_471 rfl rfl dX2_ridge_94 ?_
            refine lv_lmul X.1 X.2.1 dX2_ridge_97 ?_
            refine w_l (lN_mul _ _) ?_
            refine lv_aload_n X.1 X.2.1 dX2_ridge_98 rfl (lv_at hl 1 rfl) ?_
            refine p_get (T := TX2) X uX2 (hP.at 0 rfl) rfl 6 (by decide) mw_470 rfl rfl dX2_ridge_99 ?_
            have bz := bd_in hO (k := 1) (by decide)
            have hle : pk x1 y1 q * q 1 ≤ ((x1 : Nat) : Rat) := pk_side hO (k := 1) (by decide)
            have hln := (le_nu bz.1).mp hle
            have hXl := hO.1.2
            have hYl := hO.2.1.2
            have hm9 : x1 * (pk x1 y1 q * q 1).den ≤ 2000 * 16000 := Nat.mul_le_mul (by omega) bz.2.2
            refine lv_lsub X.1 X.2.1 dX2_ridge_102 ?_
            refine w_l (lN_sub hln) ?_
            refine lv_aload_n X.1 X.2.1 dX2_ridge_103 rfl (lv_at hl 1 rfl) ?_
            refine p_get (T := TX2) X uX2 (hP.at 0 rfl) rfl 7 (by decide) mw_471 rfl rfl dX2_ridge_104 ?_
            refine f_callV (F := fun q => q = mo) (C := RX2) (b := mo) (As := [.long (lN ((x1 * ((pk x1 y1 q * q 1).den)) - (nu (pk x1 y1 q * q 1)))), .long (lN ((pk x1 y1 q * q 1).den))]) (rest := []) X (c_X2_put l g mo ua oa ga _ _ _ x1 y1 U O q (x1 * (pk x1 y1 q * q 1).den - nu (pk x1 y1 q * q 1)) ((pk x1 y1 q * q 1).den) hM (by omega) (by have := bz.2.2; omega) (dn_pos _)) ⟨mw_508, mw_510, mw_22, mw_40, mw_511⟩ sgX2_put ⟨rfl, rfl, ⟨by decide, by decide⟩, by decide, by decide⟩ (hP.at 0 rfl) rfl rfl (hP) hX.1 (fun q h => h) hlo rfl hl.1 rfl (Nat.le_of_ble_eq_true rfl) dX2_ridge_107 (fun v H15 locs hk16 hlo hp => ?_)
            obtain ⟨rfl, hP⟩ := hp
            have hX := hX.trf (fun q h => h) hk16
            refine W.eq (g2 := F0 m 110 ls []) rfl ?_
            rw [← sub_mk bz.1 hln] at hP
            refine lv_aload_n X.1 X.2.1 dX2_ridge_110 rfl (lv_at hl 1 rfl) ?_
            refine lv_iload_n X.1 X.2.1 dX2_ridge_111 rfl (lv_at hl 3 rfl) ?_
            refine p_callV (C := RX2) (b := mo) (As := [.int (nI pj)]) (rest := []) X (c_X2_told l g mo ua oa ga _ x1 y1 U O q (((x1 : Nat) : Rat) - pk x1 y1 q * q 1) pj hpj) ⟨mw_532, mw_534, mw_26, mw_40, mw_535⟩ sgX2_told ⟨rfl, rfl, ⟨by decide, by decide⟩, by decide, by decide⟩ (hP.at 0 rfl) rfl rfl (hP.sub [0, 1, 2, 3] rfl) hX.1 rfl hl.1 rfl (Nat.le_of_ble_eq_true rfl) dX2_ridge_112 (fun v H17 hk18 hp => ?_)
            obtain rfl := hp
            have hX := hX.tr hk18
            have hP := PP.ext hP hk18
            refine W.eq (g2 := F0 m 115 ls [.long (lN (prt (((x1 : Nat) : Rat) - pk x1 y1 q * q 1) pj))]) rfl ?_
            exact f_lret X hX hlo (⟨⟨_, _, _, by simp [mk3, hi, ewn, hj, epj], hP⟩, _, rfl, fun _ _ _ => by simp only [ewn, epj]; rfl⟩) ⟨by decide, by decide⟩ dX2_ridge_115
          ·
            refine lv_aload_n X.1 X.2.1 dX2_ridge_27 rfl (lv_at hl 0 rfl) ?_
            refine p_get (T := TX2) X uX2 (hP.at 0 rfl) rfl 0 (by decide) mw_464 rfl rfl dX2_ridge_28 ?_
            refine lv_if_le (tgt := 36) X.1 X.2.1 dX2_ridge_31 (by decide) (fun _ => ?_) (fun h9 => absurd (by decide) h9)
            refine lv_aload_n X.1 X.2.1 dX2_ridge_36 rfl (lv_at hl 0 rfl) ?_
            refine lv_iload_n X.1 X.2.1 dX2_ridge_37 rfl (lv_at hl 1 rfl) ?_
            refine lv_if_ne (tgt := 45) X.1 X.2.1 dX2_ridge_38 (by decide) (fun _ => ?_) (fun h9 => absurd h9 (by decide))
            refine lv_iload_n X.1 X.2.1 dX2_ridge_45 rfl (lv_at hl 1 rfl) ?_
            refine lv_iconst (v := nI 1) X.1 X.2.1 dX2_ridge_46 (by decide) ?_
            refine lv_icmp_ne (tgt := 54) X.1 X.2.1 dX2_ridge_47 (by decide) (fun _ => ?_) (fun h9 => absurd h9 (by decide))
            refine lv_iload_n X.1 X.2.1 dX2_ridge_54 rfl (lv_at hl 1 rfl) ?_
            refine lv_iconst (v := nI 2) X.1 X.2.1 dX2_ridge_55 (by decide) ?_
            refine lv_icmp_ne (tgt := 63) X.1 X.2.1 dX2_ridge_56 (by decide) (fun h9 => absurd (by decide) h9) (fun _ => ?_)
            refine lv_iconst (v := nI 0) X.1 X.2.1 dX2_ridge_59 (by decide) ?_
            refine lv_goto (tgt := 64) X.1 X.2.1 dX2_ridge_60 (by decide) ?_
            refine f_callV (F := fun q => q = mo) (C := RX2) (b := mo) (As := [.int (nI 0)]) (rest := []) X (c_X2_makeFar l g mo ua oa ga _ _ _ x1 y1 U O q (0) hO hR hM (by decide)) ⟨mw_610, mw_612, mw_36, mw_40, mw_613⟩ sgX2_makeFar ⟨rfl, rfl, ⟨by decide, by decide⟩, by decide, by decide⟩ (hP.at 0 rfl) rfl rfl (hP) hX.1 (fun q h => h) hlo rfl hl.1 rfl (Nat.le_of_ble_eq_true rfl) dX2_ridge_64 (fun v H19 locs hk20 hlo hp => ?_)
            obtain ⟨rfl, hP⟩ := hp
            have hX := hX.trf (fun q h => h) hk20
            refine W.eq (g2 := F0 m 67 ls []) rfl ?_
            refine lv_iload_n X.1 X.2.1 dX2_ridge_67 rfl (lv_at hl 1 rfl) ?_
            refine lv_iconst (v := nI 2) X.1 X.2.1 dX2_ridge_68 (by decide) ?_
            refine lv_irem X.1 X.2.1 dX2_ridge_69 (by decide) ?_
            refine w_i (v' := nI 0) (by decide) ?_
            refine lv_iconst (v := nI 1) X.1 X.2.1 dX2_ridge_70 (by decide) ?_
            refine lv_icmp_ne (tgt := 110) X.1 X.2.1 dX2_ridge_71 (by decide) (fun _ => ?_) (fun h9 => absurd h9 (by decide))
            refine lv_aload_n X.1 X.2.1 dX2_ridge_110 rfl (lv_at hl 0 rfl) ?_
            refine lv_iload_n X.1 X.2.1 dX2_ridge_111 rfl (lv_at hl 2 rfl) ?_
            refine p_callV (C := RX2) (b := mo) (As := [.int (nI pj)]) (rest := []) X (c_X2_told l g mo ua oa ga _ x1 y1 U O q (pk x1 y1 q * q 0) pj hpj) ⟨mw_532, mw_534, mw_26, mw_40, mw_535⟩ sgX2_told ⟨rfl, rfl, ⟨by decide, by decide⟩, by decide, by decide⟩ (hP.at 0 rfl) rfl rfl (hP.sub [0, 1, 2, 3] rfl) hX.1 rfl hl.1 rfl (Nat.le_of_ble_eq_true rfl) dX2_ridge_112 (fun v H21 hk22 hp => ?_)
            obtain rfl := hp
            have hX := hX.tr hk22
            have hP := PP.ext hP hk22
            refine W.eq (g2 := F0 m 115 ls [.long (lN (prt (pk x1 y1 q * q 0) pj))]) rfl ?_
            exact f_lret X hX hlo (⟨⟨_, _, _, by simp [mk3, hi, ewn, hj, epj], hP⟩, _, rfl, fun _ _ _ => by simp only [ewn, epj]; rfl⟩) ⟨by decide, by decide⟩ dX2_ridge_115
          ·
            refine lv_aload_n X.1 X.2.1 dX2_ridge_27 rfl (lv_at hl 0 rfl) ?_
            refine p_get (T := TX2) X uX2 (hP.at 0 rfl) rfl 0 (by decide) mw_464 rfl rfl dX2_ridge_28 ?_
            refine lv_if_le (tgt := 36) X.1 X.2.1 dX2_ridge_31 (by decide) (fun _ => ?_) (fun h9 => absurd (by decide) h9)
            refine lv_aload_n X.1 X.2.1 dX2_ridge_36 rfl (lv_at hl 0 rfl) ?_
            refine lv_iload_n X.1 X.2.1 dX2_ridge_37 rfl (lv_at hl 1 rfl) ?_
            refine lv_if_ne (tgt := 45) X.1 X.2.1 dX2_ridge_38 (by decide) (fun _ => ?_) (fun h9 => absurd h9 (by decide))
            refine lv_iload_n X.1 X.2.1 dX2_ridge_45 rfl (lv_at hl 1 rfl) ?_
            refine lv_iconst (v := nI 1) X.1 X.2.1 dX2_ridge_46 (by decide) ?_
            refine lv_icmp_ne (tgt := 54) X.1 X.2.1 dX2_ridge_47 (by decide) (fun _ => ?_) (fun h9 => absurd h9 (by decide))
            refine lv_iload_n X.1 X.2.1 dX2_ridge_54 rfl (lv_at hl 1 rfl) ?_
            refine lv_iconst (v := nI 2) X.1 X.2.1 dX2_ridge_55 (by decide) ?_
            refine lv_icmp_ne (tgt := 63) X.1 X.2.1 dX2_ridge_56 (by decide) (fun _ => ?_) (fun h9 => absurd h9 (by decide))
            refine lv_iconst (v := nI 2) X.1 X.2.1 dX2_ridge_63 (by decide) ?_
            refine f_callV (F := fun q => q = mo) (C := RX2) (b := mo) (As := [.int (nI 2)]) (rest := []) X (c_X2_makeFar l g mo ua oa ga _ _ _ x1 y1 U O q (2) hO hR hM (by decide)) ⟨mw_610, mw_612, mw_36, mw_40, mw_613⟩ sgX2_makeFar ⟨rfl, rfl, ⟨by decide, by decide⟩, by decide, by decide⟩ (hP.at 0 rfl) rfl rfl (hP) hX.1 (fun q h => h) hlo rfl hl.1 rfl (Nat.le_of_ble_eq_true rfl) dX2_ridge_64 (fun v H23 locs hk24 hlo hp => ?_)
            obtain ⟨rfl, hP⟩ := hp
            have hX := hX.trf (fun q h => h) hk24
            refine W.eq (g2 := F0 m 67 ls []) rfl ?_
            refine lv_iload_n X.1 X.2.1 dX2_ridge_67 rfl (lv_at hl 1 rfl) ?_
            refine lv_iconst (v := nI 2) X.1 X.2.1 dX2_ridge_68 (by decide) ?_
            refine lv_irem X.1 X.2.1 dX2_ridge_69 (by decide) ?_
            refine w_i (v' := nI 1) (by decide) ?_
            refine lv_iconst (v := nI 1) X.1 X.2.1 dX2_ridge_70 (by decide) ?_
            refine lv_icmp_ne (tgt := 110) X.1 X.2.1 dX2_ridge_71 (by decide) (fun h9 => absurd (by decide) h9) (fun _ => ?_)
            refine lv_iload_n X.1 X.2.1 dX2_ridge_74 rfl (lv_at hl 1 rfl) ?_
            refine lv_iconst (v := nI 1) X.1 X.2.1 dX2_ridge_75 (by decide) ?_
            refine lv_icmp_ne (tgt := 86) X.1 X.2.1 dX2_ridge_76 (by decide) (fun _ => ?_) (fun h9 => absurd h9 (by decide))
            refine lv_aload_n X.1 X.2.1 dX2_ridge_86 rfl (lv_at hl 0 rfl) ?_
            refine p_get (T := TX2) X uX2 (hP.at 0 rfl) rfl 2 (by decide) mw_466 rfl rfl dX2_ridge_87 ?_
            refine lv_lstore_n (lv' := [(3, .long (lN y1)), (0, .ref mo), (1, .int (nI 3)), (2, .int (nI pj))]) X.1 X.2.1 dX2_ridge_90 rfl hl (by decide) rfl (fun ls hl => ?_)
            refine lv_aload_n X.1 X.2.1 dX2_ridge_91 rfl (lv_at hl 1 rfl) ?_
            refine lv_lload_n X.1 X.2.1 dX2_ridge_92 rfl (lv_at hl 0 rfl) ?_
            refine lv_aload_n X.1 X.2.1 dX2_ridge_93 rfl (lv_at hl 1 rfl) ?_
            refine p_get (T := TX2) X uX2 (hP.at 0 rfl) rfl 7 (by decide) mw_471 rfl rfl dX2_ridge_94 ?_
            refine lv_lmul X.1 X.2.1 dX2_ridge_97 ?_
            refine w_l (lN_mul _ _) ?_
            refine lv_aload_n X.1 X.2.1 dX2_ridge_98 rfl (lv_at hl 1 rfl) ?_
            refine p_get (T := TX2) X uX2 (hP.at 0 rfl) rfl 6 (by decide) mw_470 rfl rfl dX2_ridge_99 ?_
            have bz := bd_in hO (k := 2) (by decide)
            have hle : pk x1 y1 q * q 2 ≤ ((y1 : Nat) : Rat) := pk_side hO (k := 2) (by decide)
            have hln := (le_nu bz.1).mp hle
            have hXl := hO.1.2
            have hYl := hO.2.1.2
            have hm9 : y1 * (pk x1 y1 q * q 2).den ≤ 2000 * 16000 := Nat.mul_le_mul (by omega) bz.2.2
            refine lv_lsub X.1 X.2.1 dX2_ridge_102 ?_
            refine w_l (lN_sub hln) ?_
            refine lv_aload_n X.1 X.2.1 dX2_ridge_103 rfl (lv_at hl 1 rfl) ?_
            refine p_get (T := TX2) X uX2 (hP.at 0 rfl) rfl 7 (by decide) mw_471 rfl rfl dX2_ridge_104 ?_
            refine f_callV (F := fun q => q = mo) (C := RX2) (b := mo) (As := [.long (lN ((y1 * ((pk x1 y1 q * q 2).den)) - (nu (pk x1 y1 q * q 2)))), .long (lN ((pk x1 y1 q * q 2).den))]) (rest := []) X (c_X2_put l g mo ua oa ga _ _ _ x1 y1 U O q (y1 * (pk x1 y1 q * q 2).den - nu (pk x1 y1 q * q 2)) ((pk x1 y1 q * q 2).den) hM (by omega) (by have := bz.2.2; omega) (dn_pos _)) ⟨mw_508, mw_510, mw_22, mw_40, mw_511⟩ sgX2_put ⟨rfl, rfl, ⟨by decide, by decide⟩, by decide, by decide⟩ (hP.at 0 rfl) rfl rfl (hP) hX.1 (fun q h => h) hlo rfl hl.1 rfl (Nat.le_of_ble_eq_true rfl) dX2_ridge_107 (fun v H25 locs hk26 hlo hp => ?_)
            obtain ⟨rfl, hP⟩ := hp
            have hX := hX.trf (fun q h => h) hk26
            refine W.eq (g2 := F0 m 110 ls []) rfl ?_
            rw [← sub_mk bz.1 hln] at hP
            refine lv_aload_n X.1 X.2.1 dX2_ridge_110 rfl (lv_at hl 1 rfl) ?_
            refine lv_iload_n X.1 X.2.1 dX2_ridge_111 rfl (lv_at hl 3 rfl) ?_
            refine p_callV (C := RX2) (b := mo) (As := [.int (nI pj)]) (rest := []) X (c_X2_told l g mo ua oa ga _ x1 y1 U O q (((y1 : Nat) : Rat) - pk x1 y1 q * q 2) pj hpj) ⟨mw_532, mw_534, mw_26, mw_40, mw_535⟩ sgX2_told ⟨rfl, rfl, ⟨by decide, by decide⟩, by decide, by decide⟩ (hP.at 0 rfl) rfl rfl (hP.sub [0, 1, 2, 3] rfl) hX.1 rfl hl.1 rfl (Nat.le_of_ble_eq_true rfl) dX2_ridge_112 (fun v H27 hk28 hp => ?_)
            obtain rfl := hp
            have hX := hX.tr hk28
            have hP := PP.ext hP hk28
            refine W.eq (g2 := F0 m 115 ls [.long (lN (prt (((y1 : Nat) : Rat) - pk x1 y1 q * q 2) pj))]) rfl ?_
            exact f_lret X hX hlo (⟨⟨_, _, _, by simp [mk3, hi, ewn, hj, epj], hP⟩, _, rfl, fun _ _ _ => by simp only [ewn, epj]; rfl⟩) ⟨by decide, by decide⟩ dX2_ridge_115
        ·
          have hj : inI j 2 = false := inI_hi3 (n := 1) (by decide) hB7
          refine lv_iconst (v := nI 1) X.1 X.2.1 dX2_ridge_19 (by decide) ?_
          refine lv_goto (tgt := 24) X.1 X.2.1 dX2_ridge_20 (by decide) ?_
          refine f_put (F := fun q => q = mo) (T := TX2) (N := 8) (ci := 2) X tyX2 tyX2_ok nmX2 uX2 (hP.at 0 rfl) rfl 0 (by decide) mw_464 rfl rfl (v := .int (nI 1)) (ty := .int) (by decide +kernel) rfl rfl (Nat.le_of_ble_eq_true rfl) (Or.inl rfl) hlo dX2_ridge_24 (fun H29 locs hpa hlo hat => ?_)
          have hX := hX.tra (rfl) hpa
          have hP := PP.cons hat (PP.exa (hP.sub [1, 2, 3] rfl : PP g [mla g ua U, mla g oa O, mza g ga q] _) hpa (fun z hz => by simp only [List.mem_cons, List.not_mem_nil, or_false] at hz; rcases hz with rfl | rfl | rfl <;> first | exact hM.1 | exact hM.2.1 | exact hM.2.2.1))
          have hP : PP g [(mo, .inr (2, [.int (nI 1), .long (lN x1), .long (lN y1), .ref ua, .ref oa, .ref ga, .long ab, .long be])), mla g ua U, mla g oa O, mza g ga q] H29 := hP
          refine lv_aload_n X.1 X.2.1 dX2_ridge_27 rfl (lv_at hl 0 rfl) ?_
          refine p_get (T := TX2) X uX2 (hP.at 0 rfl) rfl 0 (by decide) mw_464 rfl rfl dX2_ridge_28 ?_
          refine lv_if_le (tgt := 36) X.1 X.2.1 dX2_ridge_31 (by decide) (fun h9 => absurd h9 (by decide)) (fun _ => ?_)
          refine lv_lconst (v := lN 0) X.1 X.2.1 dX2_ridge_34 (by decide) ?_
          exact f_lret X hX hlo (⟨⟨_, _, _, by simp [mk3, hi, ewn, hj], hP⟩, _, rfl, fun h1 h2 h3 => by simp [hi, ewn, hj] at h1⟩) ⟨by decide, by decide⟩ dX2_ridge_35
set_option maxHeartbeats 4000000 in
set_option maxRecDepth 100000 in
theorem c_X2_hip (l : Launch) (g : En) (mo ua oa ga : Nat) (cd : Int32) (ab be : Int64) (x1 y1 : Nat) (U O : Nat → Nat) (q : Nat → Rat) (i wh j : Int32) (hO : OK x1 y1 q) (hR : MR q U O) (hM : MD mo ua oa ga) : FM l yX2_hip cX2_hip 5 (some FieldType.long) { frames := 4, cells := 0, slots := 0, locals := 101 } g [.ref mo, .int i, .int wh, .int j] (fun H => MO g mo ua oa ga cd ab be x1 y1 U O q H) (fun q => q = mo) 0 0 (fun v H => mP g mo ua oa ga (mk3 2 3 (inI i 4 && inI wh 2 && inI j 2) (!gab q (toN i) && !gab q (behind (toN i))) (true)) x1 y1 U O q H ∧ rJ (inI i 4 && inI wh 2 && inI j 2) (!gab q (toN i) && !gab q (behind (toN i))) (true) (prt (pk x1 y1 q * q (if toN wh = 0 then toN i else behind (toN i))) (toN j)) v) := by
  refine FM.of (by decide) (Nat.le_of_ble_eq_true rfl) (fun p e s m below meth c ls X hP hl => ?_)
  have hl : lv_has ls 5 [(0, .ref mo), (1, .int i), (2, .int wh), (3, .int j)] := hl
  have hX : hxf (fun q => q = mo) s.heap s.heap := hxf.rf
  have hlo : lok (fun q => q = mo) s.heap.size ([] : List Loc) := lok.nil
  have hP : PP g [(mo, .inr (2, [.int cd, .long (lN x1), .long (lN y1), .ref ua, .ref oa, .ref ga, .long ab, .long be])), mla g ua U, mla g oa O, mza g ga q] s.heap := hP
  refine lv_iload_n X.1 X.2.1 dX2_hip_0 rfl (lv_at hl 1 rfl) ?_
  refine lv_i2l X.1 X.2.1 dX2_hip_1 rfl ?_
  refine lv_lconst (v := lN 0) X.1 X.2.1 dX2_hip_2 (by decide) ?_
  refine lv_ldc2 (v := 3) X.1 X.2.1 X.2.2.2.1 (X.2.2.2.2.1 _ (List.mem_cons_of_mem _ mw_618)) dX2_hip_3 ?_
  refine w_l (v' := lN 3) (by decide) ?_
  refine p_callS (As := [.long i.toInt64, .long (lN 0), .long (lN 3)]) (rest := []) X (c_X2_isIn l g i.toInt64 0 3 (by decide) (by decide)) ⟨mw_500, mw_501, mw_40, mw_502⟩ sgX2_isIn ⟨rfl, rfl, ⟨by decide, by decide⟩, by decide, by decide⟩ (trivial) hX.1 rfl hl.1 rfl (Nat.le_of_ble_eq_true rfl) dX2_hip_6 (fun v H1 hk2 hp => ?_)
  obtain rfl := hp
  have hX := hX.tr hk2
  have hP := PP.ext hP hk2
  refine W.eq (g2 := F0 m 9 ls [.int (bI (inL i.toInt64 0 3))]) rfl ?_
  refine q_Beq X (tgt := 36) dX2_hip_9 (by decide) (fun hB3 => ?_) (fun hB3 => ?_)
  ·
    have hi : inI i 4 = false := by rw [inL_i64] at hB3; exact hB3
    refine lv_iconst (v := nI 0) X.1 X.2.1 dX2_hip_36 (by decide) ?_
    refine lv_istore (lv' := [(4, .int (nI 0)), (0, .ref mo), (1, .int i), (2, .int wh), (3, .int j)]) X.1 X.2.1 dX2_hip_37 hl (by decide) rfl (fun ls hl => ?_)
    refine lv_aload_n X.1 X.2.1 dX2_hip_39 rfl (lv_at hl 1 rfl) ?_
    refine lv_iload X.1 X.2.1 dX2_hip_40 (lv_at hl 0 rfl) ?_
    refine lv_if_ne (tgt := 49) X.1 X.2.1 dX2_hip_42 (by decide) (fun h9 => absurd (by decide) h9) (fun _ => ?_)
    refine lv_iconst (v := nI 1) X.1 X.2.1 dX2_hip_45 (by decide) ?_
    refine lv_goto (tgt := 76) X.1 X.2.1 dX2_hip_46 (by decide) ?_
    refine f_put (F := fun q => q = mo) (T := TX2) (N := 8) (ci := 2) X tyX2 tyX2_ok nmX2 uX2 (hP.at 0 rfl) rfl 0 (by decide) mw_464 rfl rfl (v := .int (nI 1)) (ty := .int) (by decide +kernel) rfl rfl (Nat.le_of_ble_eq_true rfl) (Or.inl rfl) hlo dX2_hip_76 (fun H4 locs hpa hlo hat => ?_)
    have hX := hX.tra (rfl) hpa
    have hP := PP.cons hat (PP.exa (hP.sub [1, 2, 3] rfl : PP g [mla g ua U, mla g oa O, mza g ga q] _) hpa (fun z hz => by simp only [List.mem_cons, List.not_mem_nil, or_false] at hz; rcases hz with rfl | rfl | rfl <;> first | exact hM.1 | exact hM.2.1 | exact hM.2.2.1))
    have hP : PP g [(mo, .inr (2, [.int (nI 1), .long (lN x1), .long (lN y1), .ref ua, .ref oa, .ref ga, .long ab, .long be])), mla g ua U, mla g oa O, mza g ga q] H4 := hP
    refine lv_aload_n X.1 X.2.1 dX2_hip_79 rfl (lv_at hl 1 rfl) ?_
    refine p_get (T := TX2) X uX2 (hP.at 0 rfl) rfl 0 (by decide) mw_464 rfl rfl dX2_hip_80 ?_
    refine lv_if_le (tgt := 88) X.1 X.2.1 dX2_hip_83 (by decide) (fun h9 => absurd h9 (by decide)) (fun _ => ?_)
    refine lv_lconst (v := lN 0) X.1 X.2.1 dX2_hip_86 (by decide) ?_
    exact f_lret X hX hlo (⟨⟨_, _, _, by simp [mk3, hi], hP⟩, _, rfl, fun h1 h2 h3 => by simp [hi] at h1⟩) ⟨by decide, by decide⟩ dX2_hip_87
  ·
    have hi : inI i 4 = true := by rw [inL_i64] at hB3; exact hB3
    obtain ⟨k, hk, rfl⟩ := inI_of hi (by decide)
    have ek : toN (nI k) = k := toN_k (by omega)
    refine lv_iload_n X.1 X.2.1 dX2_hip_12 rfl (lv_at hl 2 rfl) ?_
    refine lv_i2l X.1 X.2.1 dX2_hip_13 rfl ?_
    refine lv_lconst (v := lN 0) X.1 X.2.1 dX2_hip_14 (by decide) ?_
    refine lv_lconst (v := lN 1) X.1 X.2.1 dX2_hip_15 (by decide) ?_
    refine p_callS (As := [.long wh.toInt64, .long (lN 0), .long (lN 1)]) (rest := []) X (c_X2_isIn l g wh.toInt64 0 1 (by decide) (by decide)) ⟨mw_500, mw_501, mw_40, mw_502⟩ sgX2_isIn ⟨rfl, rfl, ⟨by decide, by decide⟩, by decide, by decide⟩ (trivial) hX.1 rfl hl.1 rfl (Nat.le_of_ble_eq_true rfl) dX2_hip_16 (fun v H5 hk6 hp => ?_)
    obtain rfl := hp
    have hX := hX.tr hk6
    have hP := PP.ext hP hk6
    refine W.eq (g2 := F0 m 19 ls [.int (bI (inL wh.toInt64 0 1))]) rfl ?_
    refine q_Beq X (tgt := 36) dX2_hip_19 (by decide) (fun hB7 => ?_) (fun hB7 => ?_)
    ·
      have hwh : inI wh 2 = false := by rw [inL_i64] at hB7; exact hB7
      refine lv_iconst (v := nI 0) X.1 X.2.1 dX2_hip_36 (by decide) ?_
      refine lv_istore (lv' := [(4, .int (nI 0)), (0, .ref mo), (1, .int (nI k)), (2, .int wh), (3, .int j)]) X.1 X.2.1 dX2_hip_37 hl (by decide) rfl (fun ls hl => ?_)
      refine lv_aload_n X.1 X.2.1 dX2_hip_39 rfl (lv_at hl 1 rfl) ?_
      refine lv_iload X.1 X.2.1 dX2_hip_40 (lv_at hl 0 rfl) ?_
      refine lv_if_ne (tgt := 49) X.1 X.2.1 dX2_hip_42 (by decide) (fun h9 => absurd (by decide) h9) (fun _ => ?_)
      refine lv_iconst (v := nI 1) X.1 X.2.1 dX2_hip_45 (by decide) ?_
      refine lv_goto (tgt := 76) X.1 X.2.1 dX2_hip_46 (by decide) ?_
      refine f_put (F := fun q => q = mo) (T := TX2) (N := 8) (ci := 2) X tyX2 tyX2_ok nmX2 uX2 (hP.at 0 rfl) rfl 0 (by decide) mw_464 rfl rfl (v := .int (nI 1)) (ty := .int) (by decide +kernel) rfl rfl (Nat.le_of_ble_eq_true rfl) (Or.inl rfl) hlo dX2_hip_76 (fun H8 locs hpa hlo hat => ?_)
      have hX := hX.tra (rfl) hpa
      have hP := PP.cons hat (PP.exa (hP.sub [1, 2, 3] rfl : PP g [mla g ua U, mla g oa O, mza g ga q] _) hpa (fun z hz => by simp only [List.mem_cons, List.not_mem_nil, or_false] at hz; rcases hz with rfl | rfl | rfl <;> first | exact hM.1 | exact hM.2.1 | exact hM.2.2.1))
      have hP : PP g [(mo, .inr (2, [.int (nI 1), .long (lN x1), .long (lN y1), .ref ua, .ref oa, .ref ga, .long ab, .long be])), mla g ua U, mla g oa O, mza g ga q] H8 := hP
      refine lv_aload_n X.1 X.2.1 dX2_hip_79 rfl (lv_at hl 1 rfl) ?_
      refine p_get (T := TX2) X uX2 (hP.at 0 rfl) rfl 0 (by decide) mw_464 rfl rfl dX2_hip_80 ?_
      refine lv_if_le (tgt := 88) X.1 X.2.1 dX2_hip_83 (by decide) (fun h9 => absurd h9 (by decide)) (fun _ => ?_)
      refine lv_lconst (v := lN 0) X.1 X.2.1 dX2_hip_86 (by decide) ?_
      exact f_lret X hX hlo (⟨⟨_, _, _, by simp [mk3, hi, ek, hwh], hP⟩, _, rfl, fun h1 h2 h3 => by simp [hi, ek, hwh] at h1⟩) ⟨by decide, by decide⟩ dX2_hip_87
    ·
      have hwh : inI wh 2 = true := by rw [inL_i64] at hB7; exact hB7
      obtain ⟨wn, hwn, rfl⟩ := inI_of hwh (by decide)
      have ewn : toN (nI wn) = wn := toN_k (by omega)
      refine lv_iload_n X.1 X.2.1 dX2_hip_22 rfl (lv_at hl 3 rfl) ?_
      refine lv_i2l X.1 X.2.1 dX2_hip_23 rfl ?_
      refine lv_lconst (v := lN 0) X.1 X.2.1 dX2_hip_24 (by decide) ?_
      refine lv_lconst (v := lN 1) X.1 X.2.1 dX2_hip_25 (by decide) ?_
      refine p_callS (As := [.long j.toInt64, .long (lN 0), .long (lN 1)]) (rest := []) X (c_X2_isIn l g j.toInt64 0 1 (by decide) (by decide)) ⟨mw_500, mw_501, mw_40, mw_502⟩ sgX2_isIn ⟨rfl, rfl, ⟨by decide, by decide⟩, by decide, by decide⟩ (trivial) hX.1 rfl hl.1 rfl (Nat.le_of_ble_eq_true rfl) dX2_hip_26 (fun v H9 hk10 hp => ?_)
      obtain rfl := hp
      have hX := hX.tr hk10
      have hP := PP.ext hP hk10
      refine W.eq (g2 := F0 m 29 ls [.int (bI (inL j.toInt64 0 1))]) rfl ?_
      refine q_Beq X (tgt := 36) dX2_hip_29 (by decide) (fun hB11 => ?_) (fun hB11 => ?_)
      ·
        have hj : inI j 2 = false := by rw [inL_i64] at hB11; exact hB11
        refine lv_iconst (v := nI 0) X.1 X.2.1 dX2_hip_36 (by decide) ?_
        refine lv_istore (lv' := [(4, .int (nI 0)), (0, .ref mo), (1, .int (nI k)), (2, .int (nI wn)), (3, .int j)]) X.1 X.2.1 dX2_hip_37 hl (by decide) rfl (fun ls hl => ?_)
        refine lv_aload_n X.1 X.2.1 dX2_hip_39 rfl (lv_at hl 1 rfl) ?_
        refine lv_iload X.1 X.2.1 dX2_hip_40 (lv_at hl 0 rfl) ?_
        refine lv_if_ne (tgt := 49) X.1 X.2.1 dX2_hip_42 (by decide) (fun h9 => absurd (by decide) h9) (fun _ => ?_)
        refine lv_iconst (v := nI 1) X.1 X.2.1 dX2_hip_45 (by decide) ?_
        refine lv_goto (tgt := 76) X.1 X.2.1 dX2_hip_46 (by decide) ?_
        refine f_put (F := fun q => q = mo) (T := TX2) (N := 8) (ci := 2) X tyX2 tyX2_ok nmX2 uX2 (hP.at 0 rfl) rfl 0 (by decide) mw_464 rfl rfl (v := .int (nI 1)) (ty := .int) (by decide +kernel) rfl rfl (Nat.le_of_ble_eq_true rfl) (Or.inl rfl) hlo dX2_hip_76 (fun H12 locs hpa hlo hat => ?_)
        have hX := hX.tra (rfl) hpa
        have hP := PP.cons hat (PP.exa (hP.sub [1, 2, 3] rfl : PP g [mla g ua U, mla g oa O, mza g ga q] _) hpa (fun z hz => by simp only [List.mem_cons, List.not_mem_nil, or_false] at hz; rcases hz with rfl | rfl | rfl <;> first | exact hM.1 | exact hM.2.1 | exact hM.2.2.1))
        have hP : PP g [(mo, .inr (2, [.int (nI 1), .long (lN x1), .long (lN y1), .ref ua, .ref oa, .ref ga, .long ab, .long be])), mla g ua U, mla g oa O, mza g ga q] H12 := hP
        refine lv_aload_n X.1 X.2.1 dX2_hip_79 rfl (lv_at hl 1 rfl) ?_
        refine p_get (T := TX2) X uX2 (hP.at 0 rfl) rfl 0 (by decide) mw_464 rfl rfl dX2_hip_80 ?_
        refine lv_if_le (tgt := 88) X.1 X.2.1 dX2_hip_83 (by decide) (fun h9 => absurd h9 (by decide)) (fun _ => ?_)
        refine lv_lconst (v := lN 0) X.1 X.2.1 dX2_hip_86 (by decide) ?_
        exact f_lret X hX hlo (⟨⟨_, _, _, by simp [mk3, hi, ek, hwh, ewn, hj], hP⟩, _, rfl, fun h1 h2 h3 => by simp [hi, ek, hwh, ewn, hj] at h1⟩) ⟨by decide, by decide⟩ dX2_hip_87
      ·
        have hj : inI j 2 = true := by rw [inL_i64] at hB11; exact hB11
        obtain ⟨pj, hpj, rfl⟩ := inI_of hj (by decide)
        have epj : toN (nI pj) = pj := toN_k (by omega)
        refine lv_iconst (v := nI 1) X.1 X.2.1 dX2_hip_32 (by decide) ?_
        refine lv_goto (tgt := 37) X.1 X.2.1 dX2_hip_33 (by decide) ?_
        refine lv_istore (lv' := [(4, .int (nI 1)), (0, .ref mo), (1, .int (nI k)), (2, .int (nI wn)), (3, .int (nI pj))]) X.1 X.2.1 dX2_hip_37 hl (by decide) rfl (fun ls hl => ?_)
        refine lv_aload_n X.1 X.2.1 dX2_hip_39 rfl (lv_at hl 1 rfl) ?_
        refine lv_iload X.1 X.2.1 dX2_hip_40 (lv_at hl 0 rfl) ?_
        refine lv_if_ne (tgt := 49) X.1 X.2.1 dX2_hip_42 (by decide) (fun _ => ?_) (fun h9 => absurd h9 (by decide))
        refine lv_aload_n X.1 X.2.1 dX2_hip_49 rfl (lv_at hl 1 rfl) ?_
        refine p_get (T := TX2) X uX2 (hP.at 0 rfl) rfl 5 (by decide) mw_469 rfl rfl dX2_hip_50 ?_
        refine lv_iload_n X.1 X.2.1 dX2_hip_53 rfl (lv_at hl 2 rfl) ?_
        refine f_zald X (hP.at 3 rfl) hk (by decide) dX2_hip_54 ?_
        refine q_Bne X (tgt := 71) dX2_hip_55 (by decide) (fun hB13 => ?_) (fun hB13 => ?_)
        ·
          refine lv_iconst (v := nI 2) X.1 X.2.1 dX2_hip_71 (by decide) ?_
          refine lv_goto (tgt := 76) X.1 X.2.1 dX2_hip_72 (by decide) ?_
          refine f_put (F := fun q => q = mo) (T := TX2) (N := 8) (ci := 2) X tyX2 tyX2_ok nmX2 uX2 (hP.at 0 rfl) rfl 0 (by decide) mw_464 rfl rfl (v := .int (nI 2)) (ty := .int) (by decide +kernel) rfl rfl (Nat.le_of_ble_eq_true rfl) (Or.inl rfl) hlo dX2_hip_76 (fun H14 locs hpa hlo hat => ?_)
          have hX := hX.tra (rfl) hpa
          have hP := PP.cons hat (PP.exa (hP.sub [1, 2, 3] rfl : PP g [mla g ua U, mla g oa O, mza g ga q] _) hpa (fun z hz => by simp only [List.mem_cons, List.not_mem_nil, or_false] at hz; rcases hz with rfl | rfl | rfl <;> first | exact hM.1 | exact hM.2.1 | exact hM.2.2.1))
          have hP : PP g [(mo, .inr (2, [.int (nI 2), .long (lN x1), .long (lN y1), .ref ua, .ref oa, .ref ga, .long ab, .long be])), mla g ua U, mla g oa O, mza g ga q] H14 := hP
          refine lv_aload_n X.1 X.2.1 dX2_hip_79 rfl (lv_at hl 1 rfl) ?_
          refine p_get (T := TX2) X uX2 (hP.at 0 rfl) rfl 0 (by decide) mw_464 rfl rfl dX2_hip_80 ?_
          refine lv_if_le (tgt := 88) X.1 X.2.1 dX2_hip_83 (by decide) (fun h9 => absurd h9 (by decide)) (fun _ => ?_)
          refine lv_lconst (v := lN 0) X.1 X.2.1 dX2_hip_86 (by decide) ?_
          exact f_lret X hX hlo (⟨⟨_, _, _, by simp [mk3, hi, ek, hwh, ewn, hj, epj, hB13], hP⟩, _, rfl, fun h1 h2 h3 => by simp [hi, ek, hwh, ewn, hj, epj, hB13] at h2⟩) ⟨by decide, by decide⟩ dX2_hip_87
        ·
          refine lv_aload_n X.1 X.2.1 dX2_hip_58 rfl (lv_at hl 1 rfl) ?_
          refine p_get (T := TX2) X uX2 (hP.at 0 rfl) rfl 5 (by decide) mw_469 rfl rfl dX2_hip_59 ?_
          refine lv_iload_n X.1 X.2.1 dX2_hip_62 rfl (lv_at hl 2 rfl) ?_
          refine lv_iconst (v := nI 1) X.1 X.2.1 dX2_hip_63 (by decide) ?_
          refine lv_iadd X.1 X.2.1 dX2_hip_64 ?_
          refine w_i (nI_add _ _) ?_
          refine lv_iconst (v := nI 4) X.1 X.2.1 dX2_hip_65 (by decide) ?_
          refine lv_irem X.1 X.2.1 dX2_hip_66 (nI_ne0 (by omega) (by omega)) ?_
          refine w_i (pk_rem (by omega) (by omega) (by omega)) ?_
          refine f_zald X (hP.at 3 rfl) (Nat.mod_lt _ (by decide)) (by decide) dX2_hip_67 ?_
          have hbl := behind_lt k
          refine q_Beq X (tgt := 75) dX2_hip_68 (by decide) (fun hB15 => ?_) (fun hB15 => ?_)
          ·
            have hgb : gab q (behind k) = false := hB15
            refine lv_iconst (v := nI 0) X.1 X.2.1 dX2_hip_75 (by decide) ?_
            refine f_put (F := fun q => q = mo) (T := TX2) (N := 8) (ci := 2) X tyX2 tyX2_ok nmX2 uX2 (hP.at 0 rfl) rfl 0 (by decide) mw_464 rfl rfl (v := .int (nI 0)) (ty := .int) (by decide +kernel) rfl rfl (Nat.le_of_ble_eq_true rfl) (Or.inl rfl) hlo dX2_hip_76 (fun H16 locs hpa hlo hat => ?_)
            have hX := hX.tra (rfl) hpa
            have hP := PP.cons hat (PP.exa (hP.sub [1, 2, 3] rfl : PP g [mla g ua U, mla g oa O, mza g ga q] _) hpa (fun z hz => by simp only [List.mem_cons, List.not_mem_nil, or_false] at hz; rcases hz with rfl | rfl | rfl <;> first | exact hM.1 | exact hM.2.1 | exact hM.2.2.1))
            have hP : PP g [(mo, .inr (2, [.int (nI 0), .long (lN x1), .long (lN y1), .ref ua, .ref oa, .ref ga, .long ab, .long be])), mla g ua U, mla g oa O, mza g ga q] H16 := hP
            refine lv_aload_n X.1 X.2.1 dX2_hip_79 rfl (lv_at hl 1 rfl) ?_
            refine p_get (T := TX2) X uX2 (hP.at 0 rfl) rfl 0 (by decide) mw_464 rfl rfl dX2_hip_80 ?_
            refine lv_if_le (tgt := 88) X.1 X.2.1 dX2_hip_83 (by decide) (fun _ => ?_) (fun h9 => absurd (by decide) h9)
            refine lv_aload_n X.1 X.2.1 dX2_hip_88 rfl (lv_at hl 1 rfl) ?_
            refine lv_iload_n X.1 X.2.1 dX2_hip_89 rfl (lv_at hl 3 rfl) ?_
            refine q_Zne X (by omega) (tgt := 97) dX2_hip_90 (by decide) (fun hB17 => ?_) (fun hB17 => ?_)
            ·
              refine lv_iload_n X.1 X.2.1 dX2_hip_97 rfl (lv_at hl 2 rfl) ?_
              refine lv_iconst (v := nI 1) X.1 X.2.1 dX2_hip_98 (by decide) ?_
              refine lv_iadd X.1 X.2.1 dX2_hip_99 ?_
              refine w_i (nI_add _ _) ?_
              refine lv_iconst (v := nI 4) X.1 X.2.1 dX2_hip_100 (by decide) ?_
              refine lv_irem X.1 X.2.1 dX2_hip_101 (nI_ne0 (by omega) (by omega)) ?_
              refine w_i (pk_rem (by omega) (by omega) (by omega)) ?_
              refine f_callV (F := fun q => q = mo) (C := RX2) (b := mo) (As := [.int (nI ((k + 1) % 4))]) (rest := []) X (c_X2_makeFar l g mo ua oa ga _ _ _ x1 y1 U O q (behind k) hO hR hM hbl) ⟨mw_610, mw_612, mw_36, mw_40, mw_613⟩ sgX2_makeFar ⟨rfl, rfl, ⟨by decide, by decide⟩, by decide, by decide⟩ (hP.at 0 rfl) rfl rfl (hP) hX.1 (fun q h => h) hlo rfl hl.1 rfl (Nat.le_of_ble_eq_true rfl) dX2_hip_102 (fun v H18 locs hk19 hlo hp => ?_)
              obtain ⟨rfl, hP⟩ := hp
              have hX := hX.trf (fun q h => h) hk19
              refine W.eq (g2 := F0 m 105 ls []) rfl ?_
              refine lv_aload_n X.1 X.2.1 dX2_hip_105 rfl (lv_at hl 1 rfl) ?_
              refine lv_iload_n X.1 X.2.1 dX2_hip_106 rfl (lv_at hl 4 rfl) ?_
              refine p_callV (C := RX2) (b := mo) (As := [.int (nI pj)]) (rest := []) X (c_X2_told l g mo ua oa ga _ x1 y1 U O q (pk x1 y1 q * q (behind k)) pj hpj) ⟨mw_532, mw_534, mw_26, mw_40, mw_535⟩ sgX2_told ⟨rfl, rfl, ⟨by decide, by decide⟩, by decide, by decide⟩ (hP.at 0 rfl) rfl rfl (hP.sub [0, 1, 2, 3] rfl) hX.1 rfl hl.1 rfl (Nat.le_of_ble_eq_true rfl) dX2_hip_107 (fun v H20 hk21 hp => ?_)
              obtain rfl := hp
              have hX := hX.tr hk21
              have hP := PP.ext hP hk21
              refine W.eq (g2 := F0 m 110 ls [.long (lN (prt (pk x1 y1 q * q (behind k)) pj))]) rfl ?_
              exact f_lret X hX hlo (⟨⟨_, _, _, by simp [mk3, hi, ek, hwh, ewn, hj, epj, hB13, hgb], hP⟩, _, rfl, fun _ _ _ => by simp only [ek, ewn, epj]; rw [if_neg hB17]⟩) ⟨by decide, by decide⟩ dX2_hip_110
            ·
              refine lv_iload_n X.1 X.2.1 dX2_hip_93 rfl (lv_at hl 2 rfl) ?_
              refine lv_goto (tgt := 102) X.1 X.2.1 dX2_hip_94 (by decide) ?_
              refine f_callV (F := fun q => q = mo) (C := RX2) (b := mo) (As := [.int (nI k)]) (rest := []) X (c_X2_makeFar l g mo ua oa ga _ _ _ x1 y1 U O q (k) hO hR hM hk) ⟨mw_610, mw_612, mw_36, mw_40, mw_613⟩ sgX2_makeFar ⟨rfl, rfl, ⟨by decide, by decide⟩, by decide, by decide⟩ (hP.at 0 rfl) rfl rfl (hP) hX.1 (fun q h => h) hlo rfl hl.1 rfl (Nat.le_of_ble_eq_true rfl) dX2_hip_102 (fun v H22 locs hk23 hlo hp => ?_)
              obtain ⟨rfl, hP⟩ := hp
              have hX := hX.trf (fun q h => h) hk23
              refine W.eq (g2 := F0 m 105 ls []) rfl ?_
              refine lv_aload_n X.1 X.2.1 dX2_hip_105 rfl (lv_at hl 1 rfl) ?_
              refine lv_iload_n X.1 X.2.1 dX2_hip_106 rfl (lv_at hl 4 rfl) ?_
              refine p_callV (C := RX2) (b := mo) (As := [.int (nI pj)]) (rest := []) X (c_X2_told l g mo ua oa ga _ x1 y1 U O q (pk x1 y1 q * q k) pj hpj) ⟨mw_532, mw_534, mw_26, mw_40, mw_535⟩ sgX2_told ⟨rfl, rfl, ⟨by decide, by decide⟩, by decide, by decide⟩ (hP.at 0 rfl) rfl rfl (hP.sub [0, 1, 2, 3] rfl) hX.1 rfl hl.1 rfl (Nat.le_of_ble_eq_true rfl) dX2_hip_107 (fun v H24 hk25 hp => ?_)
              obtain rfl := hp
              have hX := hX.tr hk25
              have hP := PP.ext hP hk25
              refine W.eq (g2 := F0 m 110 ls [.long (lN (prt (pk x1 y1 q * q k) pj))]) rfl ?_
              exact f_lret X hX hlo (⟨⟨_, _, _, by simp [mk3, hi, ek, hwh, ewn, hj, epj, hB13, hgb], hP⟩, _, rfl, fun _ _ _ => by simp only [ek, ewn, epj]; rw [if_pos hB17]⟩) ⟨by decide, by decide⟩ dX2_hip_110
          ·
            have hgb : gab q (behind k) = true := hB15
            refine lv_iconst (v := nI 2) X.1 X.2.1 dX2_hip_71 (by decide) ?_
            refine lv_goto (tgt := 76) X.1 X.2.1 dX2_hip_72 (by decide) ?_
            refine f_put (F := fun q => q = mo) (T := TX2) (N := 8) (ci := 2) X tyX2 tyX2_ok nmX2 uX2 (hP.at 0 rfl) rfl 0 (by decide) mw_464 rfl rfl (v := .int (nI 2)) (ty := .int) (by decide +kernel) rfl rfl (Nat.le_of_ble_eq_true rfl) (Or.inl rfl) hlo dX2_hip_76 (fun H26 locs hpa hlo hat => ?_)
            have hX := hX.tra (rfl) hpa
            have hP := PP.cons hat (PP.exa (hP.sub [1, 2, 3] rfl : PP g [mla g ua U, mla g oa O, mza g ga q] _) hpa (fun z hz => by simp only [List.mem_cons, List.not_mem_nil, or_false] at hz; rcases hz with rfl | rfl | rfl <;> first | exact hM.1 | exact hM.2.1 | exact hM.2.2.1))
            have hP : PP g [(mo, .inr (2, [.int (nI 2), .long (lN x1), .long (lN y1), .ref ua, .ref oa, .ref ga, .long ab, .long be])), mla g ua U, mla g oa O, mza g ga q] H26 := hP
            refine lv_aload_n X.1 X.2.1 dX2_hip_79 rfl (lv_at hl 1 rfl) ?_
            refine p_get (T := TX2) X uX2 (hP.at 0 rfl) rfl 0 (by decide) mw_464 rfl rfl dX2_hip_80 ?_
            refine lv_if_le (tgt := 88) X.1 X.2.1 dX2_hip_83 (by decide) (fun h9 => absurd h9 (by decide)) (fun _ => ?_)
            refine lv_lconst (v := lN 0) X.1 X.2.1 dX2_hip_86 (by decide) ?_
            exact f_lret X hX hlo (⟨⟨_, _, _, by simp [mk3, hi, ek, hwh, ewn, hj, epj, hB13, hgb], hP⟩, _, rfl, fun h1 h2 h3 => by simp [hi, ek, hwh, ewn, hj, epj, hB13, hgb] at h2⟩) ⟨by decide, by decide⟩ dX2_hip_87
set_option maxHeartbeats 4000000 in
set_option maxRecDepth 100000 in
theorem c_X2_rafter (l : Launch) (g : En) (mo ua oa ga : Nat) (cd : Int32) (ab be : Int64) (x1 y1 : Nat) (U O : Nat → Nat) (q : Nat → Rat) (i : Int32) (v0 : Int64) (hO : OK x1 y1 q) (hR : MR q U O) (hM : MD mo ua oa ga) : FM l yX2_rafter cX2_rafter 4 (some FieldType.int) { frames := 1, cells := 0, slots := 0, locals := 25 } g [.ref mo, .int i, .long v0] (fun H => MO g mo ua oa ga cd ab be x1 y1 U O q H) (fun q => q = mo) 0 0 (fun v H => mP g mo ua oa ga (mk3 2 3 (inI i 4) (!gab q (toN i)) (inL v0 1 10000)) x1 y1 U O q H ∧ rN (inI i 4) (!gab q (toN i)) (inL v0 1 10000) (slen x1 y1 (toN i) / toL v0 + 1) v) := by
  refine FM.of (by decide) (Nat.le_of_ble_eq_true rfl) (fun p e s m below meth c ls X hP hl => ?_)
  have hl : lv_has ls 4 [(0, .ref mo), (1, .int i), (2, .long v0)] := hl
  have hX : hxf (fun q => q = mo) s.heap s.heap := hxf.rf
  have hlo : lok (fun q => q = mo) s.heap.size ([] : List Loc) := lok.nil
  have hP : PP g [(mo, .inr (2, [.int cd, .long (lN x1), .long (lN y1), .ref ua, .ref oa, .ref ga, .long ab, .long be])), mla g ua U, mla g oa O, mza g ga q] s.heap := hP
  refine lv_aload_n X.1 X.2.1 dX2_rafter_0 rfl (lv_at hl 0 rfl) ?_
  refine lv_aload_n X.1 X.2.1 dX2_rafter_1 rfl (lv_at hl 0 rfl) ?_
  refine lv_iload_n X.1 X.2.1 dX2_rafter_2 rfl (lv_at hl 1 rfl) ?_
  refine p_callV (C := RX2) (b := mo) (As := [.int i]) (rest := [.ref mo]) X (c_X2_sideCode l g mo ua oa ga cd ab be x1 y1 U O q i) ⟨mw_544, mw_546, mw_27, mw_40, mw_547⟩ sgX2_sideCode ⟨rfl, rfl, ⟨by decide, by decide⟩, by decide, by decide⟩ (hP.at 0 rfl) rfl rfl (hP.sub [0, 1, 2, 3] rfl) hX.1 rfl hl.1 rfl (Nat.le_of_ble_eq_true rfl) dX2_rafter_3 (fun v H1 hk2 hp => ?_)
  obtain rfl := hp
  have hX := hX.tr hk2
  have hP := PP.ext hP hk2
  refine W.eq (g2 := F0 m 6 ls [.int (nI (if inI i 4 then (if gab q (toN i) then 2 else 0) else 1)), .ref mo]) rfl ?_
  by_cases hi : inI i 4 = true
  ·
    obtain ⟨k, hk, rfl⟩ := inI_of hi (by decide)
    have ek : toN (nI k) = k := toN_k (by omega)
    by_cases hg : gab q k = true
    ·
      refine w_i (v' := nI 2) (by simp [mk3, hi, ek, hg]) ?_
      refine f_put (F := fun q => q = mo) (T := TX2) (N := 8) (ci := 2) X tyX2 tyX2_ok nmX2 uX2 (hP.at 0 rfl) rfl 0 (by decide) mw_464 rfl rfl (v := .int (nI 2)) (ty := .int) (by decide +kernel) rfl rfl (Nat.le_of_ble_eq_true rfl) (Or.inl rfl) hlo dX2_rafter_6 (fun H3 locs hpa hlo hat => ?_)
      have hX := hX.tra (rfl) hpa
      have hP := PP.cons hat (PP.exa (hP.sub [1, 2, 3] rfl : PP g [mla g ua U, mla g oa O, mza g ga q] _) hpa (fun z hz => by simp only [List.mem_cons, List.not_mem_nil, or_false] at hz; rcases hz with rfl | rfl | rfl <;> first | exact hM.1 | exact hM.2.1 | exact hM.2.2.1))
      have hP : PP g [(mo, .inr (2, [.int (nI 2), .long (lN x1), .long (lN y1), .ref ua, .ref oa, .ref ga, .long ab, .long be])), mla g ua U, mla g oa O, mza g ga q] H3 := hP
      refine lv_aload_n X.1 X.2.1 dX2_rafter_9 rfl (lv_at hl 0 rfl) ?_
      refine p_get (T := TX2) X uX2 (hP.at 0 rfl) rfl 0 (by decide) mw_464 rfl rfl dX2_rafter_10 ?_
      refine lv_if_le (tgt := 18) X.1 X.2.1 dX2_rafter_13 (by decide) (fun h9 => absurd h9 (by decide)) (fun _ => ?_)
      refine lv_iconst (v := nI 0) X.1 X.2.1 dX2_rafter_16 (by decide) ?_
      exact f_iret X hX hlo (⟨⟨_, _, _, by simp [mk3, hi, ek, hg], hP⟩, _, rfl, fun h1 h2 h3 => by simp [hi, ek, hg] at h2⟩) ⟨by decide, by decide⟩ dX2_rafter_17
    ·
      have hg : gab q k = false := gabF hg
      refine w_i (v' := nI 0) (by simp [mk3, hi, ek, hg]) ?_
      have hsl := slen_le hO k
      refine f_put (F := fun q => q = mo) (T := TX2) (N := 8) (ci := 2) X tyX2 tyX2_ok nmX2 uX2 (hP.at 0 rfl) rfl 0 (by decide) mw_464 rfl rfl (v := .int (nI 0)) (ty := .int) (by decide +kernel) rfl rfl (Nat.le_of_ble_eq_true rfl) (Or.inl rfl) hlo dX2_rafter_6 (fun H4 locs hpa hlo hat => ?_)
      have hX := hX.tra (rfl) hpa
      have hP := PP.cons hat (PP.exa (hP.sub [1, 2, 3] rfl : PP g [mla g ua U, mla g oa O, mza g ga q] _) hpa (fun z hz => by simp only [List.mem_cons, List.not_mem_nil, or_false] at hz; rcases hz with rfl | rfl | rfl <;> first | exact hM.1 | exact hM.2.1 | exact hM.2.2.1))
      have hP : PP g [(mo, .inr (2, [.int (nI 0), .long (lN x1), .long (lN y1), .ref ua, .ref oa, .ref ga, .long ab, .long be])), mla g ua U, mla g oa O, mza g ga q] H4 := hP
      refine lv_aload_n X.1 X.2.1 dX2_rafter_9 rfl (lv_at hl 0 rfl) ?_
      refine p_get (T := TX2) X uX2 (hP.at 0 rfl) rfl 0 (by decide) mw_464 rfl rfl dX2_rafter_10 ?_
      refine lv_if_le (tgt := 18) X.1 X.2.1 dX2_rafter_13 (by decide) (fun _ => ?_) (fun h9 => absurd (by decide) h9)
      refine lv_aload_n X.1 X.2.1 dX2_rafter_18 rfl (lv_at hl 0 rfl) ?_
      refine lv_lload_n X.1 X.2.1 dX2_rafter_19 rfl (lv_at hl 2 rfl) ?_
      refine lv_lconst (v := lN 1) X.1 X.2.1 dX2_rafter_20 (by decide) ?_
      refine lv_ldc2 (v := 10000) X.1 X.2.1 X.2.2.2.1 (X.2.2.2.2.1 _ (List.mem_cons_of_mem _ mw_548)) dX2_rafter_21 ?_
      refine w_l (v' := lN 10000) (by decide) ?_
      refine p_callS (As := [.long v0, .long (lN 1), .long (lN 10000)]) (rest := [.ref mo]) X (c_X2_isIn l g v0 1 10000 (by decide) (by decide)) ⟨mw_500, mw_501, mw_40, mw_502⟩ sgX2_isIn ⟨rfl, rfl, ⟨by decide, by decide⟩, by decide, by decide⟩ (trivial) hX.1 rfl hl.1 rfl (Nat.le_of_ble_eq_true rfl) dX2_rafter_24 (fun v H5 hk6 hp => ?_)
      obtain rfl := hp
      have hX := hX.tr hk6
      have hP := PP.ext hP hk6
      refine W.eq (g2 := F0 m 27 ls [.int (bI (inL v0 1 10000)), .ref mo]) rfl ?_
      refine q_Beq X (tgt := 34) dX2_rafter_27 (by decide) (fun hB7 => ?_) (fun hB7 => ?_)
      ·
        refine lv_iconst (v := nI 3) X.1 X.2.1 dX2_rafter_34 (by decide) ?_
        refine f_put (F := fun q => q = mo) (T := TX2) (N := 8) (ci := 2) X tyX2 tyX2_ok nmX2 uX2 (hP.at 0 rfl) rfl 0 (by decide) mw_464 rfl rfl (v := .int (nI 3)) (ty := .int) (by decide +kernel) rfl rfl (Nat.le_of_ble_eq_true rfl) (Or.inl rfl) hlo dX2_rafter_35 (fun H8 locs hpa hlo hat => ?_)
        have hX := hX.tra (rfl) hpa
        have hP := PP.cons hat (PP.exa (hP.sub [1, 2, 3] rfl : PP g [mla g ua U, mla g oa O, mza g ga q] _) hpa (fun z hz => by simp only [List.mem_cons, List.not_mem_nil, or_false] at hz; rcases hz with rfl | rfl | rfl <;> first | exact hM.1 | exact hM.2.1 | exact hM.2.2.1))
        have hP : PP g [(mo, .inr (2, [.int (nI 3), .long (lN x1), .long (lN y1), .ref ua, .ref oa, .ref ga, .long ab, .long be])), mla g ua U, mla g oa O, mza g ga q] H8 := hP
        refine lv_aload_n X.1 X.2.1 dX2_rafter_38 rfl (lv_at hl 0 rfl) ?_
        refine p_get (T := TX2) X uX2 (hP.at 0 rfl) rfl 0 (by decide) mw_464 rfl rfl dX2_rafter_39 ?_
        refine lv_if_le (tgt := 49) X.1 X.2.1 dX2_rafter_42 (by decide) (fun h9 => absurd h9 (by decide)) (fun _ => ?_)
        refine lv_iconst (v := nI 0) X.1 X.2.1 dX2_rafter_45 (by decide) ?_
        refine lv_goto (tgt := 59) X.1 X.2.1 dX2_rafter_46 (by decide) ?_
        exact f_iret X hX hlo (⟨⟨_, _, _, by simp [mk3, hi, ek, hg, hB7], hP⟩, _, rfl, fun h1 h2 h3 => by simp [hi, ek, hg, hB7] at h3⟩) ⟨by decide, by decide⟩ dX2_rafter_59
      ·
        have hr : inL v0 1 10000 = true := hB7
        obtain ⟨t, ht0, ht, rfl⟩ := inL_of hr (by decide)
        have eT : toL (lN t) = t := toL_k (by omega)
        refine lv_iconst (v := nI 0) X.1 X.2.1 dX2_rafter_30 (by decide) ?_
        refine lv_goto (tgt := 35) X.1 X.2.1 dX2_rafter_31 (by decide) ?_
        refine f_put (F := fun q => q = mo) (T := TX2) (N := 8) (ci := 2) X tyX2 tyX2_ok nmX2 uX2 (hP.at 0 rfl) rfl 0 (by decide) mw_464 rfl rfl (v := .int (nI 0)) (ty := .int) (by decide +kernel) rfl rfl (Nat.le_of_ble_eq_true rfl) (Or.inl rfl) hlo dX2_rafter_35 (fun H9 locs hpa hlo hat => ?_)
        have hX := hX.tra (rfl) hpa
        have hP := PP.cons hat (PP.exa (hP.sub [1, 2, 3] rfl : PP g [mla g ua U, mla g oa O, mza g ga q] _) hpa (fun z hz => by simp only [List.mem_cons, List.not_mem_nil, or_false] at hz; rcases hz with rfl | rfl | rfl <;> first | exact hM.1 | exact hM.2.1 | exact hM.2.2.1))
        have hP : PP g [(mo, .inr (2, [.int (nI 0), .long (lN x1), .long (lN y1), .ref ua, .ref oa, .ref ga, .long ab, .long be])), mla g ua U, mla g oa O, mza g ga q] H9 := hP
        refine lv_aload_n X.1 X.2.1 dX2_rafter_38 rfl (lv_at hl 0 rfl) ?_
        refine p_get (T := TX2) X uX2 (hP.at 0 rfl) rfl 0 (by decide) mw_464 rfl rfl dX2_rafter_39 ?_
        refine lv_if_le (tgt := 49) X.1 X.2.1 dX2_rafter_42 (by decide) (fun _ => ?_) (fun h9 => absurd (by decide) h9)
        refine lv_aload_n X.1 X.2.1 dX2_rafter_49 rfl (lv_at hl 0 rfl) ?_
        refine lv_iload_n X.1 X.2.1 dX2_rafter_50 rfl (lv_at hl 1 rfl) ?_
        refine p_callV (C := RX2) (b := mo) (As := [.int (nI k)]) (rest := []) X (c_X2_width l g mo ua oa ga _ _ _ x1 y1 U O q k hk) ⟨mw_549, mw_551, mw_28, mw_40, mw_552⟩ sgX2_width ⟨rfl, rfl, ⟨by decide, by decide⟩, by decide, by decide⟩ (hP.at 0 rfl) rfl rfl (hP.sub [0, 1, 2, 3] rfl) hX.1 rfl hl.1 rfl (Nat.le_of_ble_eq_true rfl) dX2_rafter_51 (fun v H10 hk11 hp => ?_)
        obtain rfl := hp
        have hX := hX.tr hk11
        have hP := PP.ext hP hk11
        refine W.eq (g2 := F0 m 54 ls [.long (lN (slen x1 y1 k))]) rfl ?_
        refine lv_lload_n X.1 X.2.1 dX2_rafter_54 rfl (lv_at hl 2 rfl) ?_
        refine lv_ldiv X.1 X.2.1 dX2_rafter_55 (ln_ne (by omega) (by omega)) ?_
        refine w_l (pk_lDiv (by omega) (by omega) (by omega)) ?_
        refine lv_l2i X.1 X.2.1 dX2_rafter_56 (lN_i _) ?_
        refine lv_iconst (v := nI 1) X.1 X.2.1 dX2_rafter_57 (by decide) ?_
        refine lv_iadd X.1 X.2.1 dX2_rafter_58 ?_
        refine w_i (nI_add _ _) ?_
        exact f_iret X hX hlo (⟨⟨_, _, _, by simp [mk3, hi, ek, hg, hr], hP⟩, _, rfl, fun _ _ _ => by simp only [ek, eT]⟩) ⟨by decide, by decide⟩ dX2_rafter_59
  ·
    have hi : inI i 4 = false := gabF hi
    refine w_i (v' := nI 1) (by simp [mk3, hi]) ?_
    refine f_put (F := fun q => q = mo) (T := TX2) (N := 8) (ci := 2) X tyX2 tyX2_ok nmX2 uX2 (hP.at 0 rfl) rfl 0 (by decide) mw_464 rfl rfl (v := .int (nI 1)) (ty := .int) (by decide +kernel) rfl rfl (Nat.le_of_ble_eq_true rfl) (Or.inl rfl) hlo dX2_rafter_6 (fun H12 locs hpa hlo hat => ?_)
    have hX := hX.tra (rfl) hpa
    have hP := PP.cons hat (PP.exa (hP.sub [1, 2, 3] rfl : PP g [mla g ua U, mla g oa O, mza g ga q] _) hpa (fun z hz => by simp only [List.mem_cons, List.not_mem_nil, or_false] at hz; rcases hz with rfl | rfl | rfl <;> first | exact hM.1 | exact hM.2.1 | exact hM.2.2.1))
    have hP : PP g [(mo, .inr (2, [.int (nI 1), .long (lN x1), .long (lN y1), .ref ua, .ref oa, .ref ga, .long ab, .long be])), mla g ua U, mla g oa O, mza g ga q] H12 := hP
    refine lv_aload_n X.1 X.2.1 dX2_rafter_9 rfl (lv_at hl 0 rfl) ?_
    refine p_get (T := TX2) X uX2 (hP.at 0 rfl) rfl 0 (by decide) mw_464 rfl rfl dX2_rafter_10 ?_
    refine lv_if_le (tgt := 18) X.1 X.2.1 dX2_rafter_13 (by decide) (fun h9 => absurd h9 (by decide)) (fun _ => ?_)
    refine lv_iconst (v := nI 0) X.1 X.2.1 dX2_rafter_16 (by decide) ?_
    exact f_iret X hX hlo (⟨⟨_, _, _, by simp [mk3, hi], hP⟩, _, rfl, fun h1 h2 h3 => by simp [hi] at h1⟩) ⟨by decide, by decide⟩ dX2_rafter_17
set_option maxHeartbeats 4000000 in
set_option maxRecDepth 100000 in
theorem c_X2_place (l : Launch) (g : En) (mo ua oa ga : Nat) (cd : Int32) (ab be : Int64) (x1 y1 : Nat) (U O : Nat → Nat) (q : Nat → Rat) (vx vy : Int64) (j : Int32) (hO : OK x1 y1 q) (hR : MR q U O) (hM : MD mo ua oa ga) : FM l yX2_place cX2_place 7 (some FieldType.long) { frames := 2, cells := 0, slots := 0, locals := 58 } g [.ref mo, .long vx, .long vy, .int j] (fun H => MO g mo ua oa ga cd ab be x1 y1 U O q H) (fun q => q = mo) 0 0 (fun v H => mP g mo ua oa ga (mk3 2 2 (inI j 2) (true) (inL vx 0 x1 && inL vy 0 y1)) x1 y1 U O q H ∧ rJ (inI j 2) (true) (inL vx 0 x1 && inL vy 0 y1) (prt (hgt x1 y1 q (toL vx) (toL vy) (lwp x1 y1 q (toL vx) (toL vy) 3)) (toN j)) v) := by
  refine FM.of (by decide) (Nat.le_of_ble_eq_true rfl) (fun p e s m below meth c ls X hP hl => ?_)
  have hl : lv_has ls 7 [(0, .ref mo), (1, .long vx), (3, .long vy), (5, .int j)] := hl
  have hX : hxf (fun q => q = mo) s.heap s.heap := hxf.rf
  have hlo : lok (fun q => q = mo) s.heap.size ([] : List Loc) := lok.nil
  have hP : PP g [(mo, .inr (2, [.int cd, .long (lN x1), .long (lN y1), .ref ua, .ref oa, .ref ga, .long ab, .long be])), mla g ua U, mla g oa O, mza g ga q] s.heap := hP
  refine lv_aload_n X.1 X.2.1 dX2_place_0 rfl (lv_at hl 0 rfl) ?_
  refine lv_iload X.1 X.2.1 dX2_place_1 (lv_at hl 3 rfl) ?_
  refine lv_if_lt (tgt := 12) X.1 X.2.1 dX2_place_3 (by decide) (fun hB1 => ?_) (fun hB1 => ?_)
  ·
    have hj : inI j 2 = false := inI_lo hB1
    refine lv_iconst (v := nI 1) X.1 X.2.1 dX2_place_12 (by decide) ?_
    refine lv_goto (tgt := 30) X.1 X.2.1 dX2_place_13 (by decide) ?_
    refine f_put (F := fun q => q = mo) (T := TX2) (N := 8) (ci := 2) X tyX2 tyX2_ok nmX2 uX2 (hP.at 0 rfl) rfl 0 (by decide) mw_464 rfl rfl (v := .int (nI 1)) (ty := .int) (by decide +kernel) rfl rfl (Nat.le_of_ble_eq_true rfl) (Or.inl rfl) hlo dX2_place_30 (fun H2 locs hpa hlo hat => ?_)
    have hX := hX.tra (rfl) hpa
    have hP := PP.cons hat (PP.exa (hP.sub [1, 2, 3] rfl : PP g [mla g ua U, mla g oa O, mza g ga q] _) hpa (fun z hz => by simp only [List.mem_cons, List.not_mem_nil, or_false] at hz; rcases hz with rfl | rfl | rfl <;> first | exact hM.1 | exact hM.2.1 | exact hM.2.2.1))
    have hP : PP g [(mo, .inr (2, [.int (nI 1), .long (lN x1), .long (lN y1), .ref ua, .ref oa, .ref ga, .long ab, .long be])), mla g ua U, mla g oa O, mza g ga q] H2 := hP
    refine lv_aload_n X.1 X.2.1 dX2_place_33 rfl (lv_at hl 0 rfl) ?_
    refine p_get (T := TX2) X uX2 (hP.at 0 rfl) rfl 0 (by decide) mw_464 rfl rfl dX2_place_34 ?_
    refine lv_if_le (tgt := 42) X.1 X.2.1 dX2_place_37 (by decide) (fun h9 => absurd h9 (by decide)) (fun _ => ?_)
    refine lv_lconst (v := lN 0) X.1 X.2.1 dX2_place_40 (by decide) ?_
    exact f_lret X hX hlo (⟨⟨_, _, _, by simp [mk3, hj], hP⟩, _, rfl, fun h1 h2 h3 => by simp [hj] at h1⟩) ⟨by decide, by decide⟩ dX2_place_41
  ·
    refine lv_iload X.1 X.2.1 dX2_place_6 (lv_at hl 3 rfl) ?_
    refine lv_iconst (v := nI 1) X.1 X.2.1 dX2_place_8 (by decide) ?_
    refine lv_icmp_le (tgt := 16) X.1 X.2.1 dX2_place_9 (by decide) (fun hB3 => ?_) (fun hB3 => ?_)
    ·
      have hj : inI j 2 = true := inI_in3 (n := 1) (by decide) hB1 hB3
      obtain ⟨pj, hpj, rfl⟩ := inI_of hj (by decide)
      have epj : toN (nI pj) = pj := toN_k (by omega)
      refine lv_aload_n X.1 X.2.1 dX2_place_16 rfl (lv_at hl 0 rfl) ?_
      refine lv_lload_n X.1 X.2.1 dX2_place_17 rfl (lv_at hl 1 rfl) ?_
      refine lv_lload_n X.1 X.2.1 dX2_place_18 rfl (lv_at hl 2 rfl) ?_
      refine p_callV (C := RX2) (b := mo) (As := [.long vx, .long vy]) (rest := [.ref mo]) X (c_X2_isInside l g mo ua oa ga cd ab be x1 y1 U O q vx vy hO) ⟨mw_520, mw_522, mw_23, mw_40, mw_523⟩ sgX2_isInside ⟨rfl, rfl, ⟨by decide, by decide⟩, by decide, by decide⟩ (hP.at 0 rfl) rfl rfl (hP.sub [0, 1, 2, 3] rfl) hX.1 rfl hl.1 rfl (Nat.le_of_ble_eq_true rfl) dX2_place_19 (fun v H4 hk5 hp => ?_)
      obtain rfl := hp
      have hX := hX.tr hk5
      have hP := PP.ext hP hk5
      refine W.eq (g2 := F0 m 22 ls [.int (bI (inL vx 0 x1 && inL vy 0 y1)), .ref mo]) rfl ?_
      refine q_Beq X (tgt := 29) dX2_place_22 (by decide) (fun hB6 => ?_) (fun hB6 => ?_)
      ·
        refine lv_iconst (v := nI 2) X.1 X.2.1 dX2_place_29 (by decide) ?_
        refine f_put (F := fun q => q = mo) (T := TX2) (N := 8) (ci := 2) X tyX2 tyX2_ok nmX2 uX2 (hP.at 0 rfl) rfl 0 (by decide) mw_464 rfl rfl (v := .int (nI 2)) (ty := .int) (by decide +kernel) rfl rfl (Nat.le_of_ble_eq_true rfl) (Or.inl rfl) hlo dX2_place_30 (fun H7 locs hpa hlo hat => ?_)
        have hX := hX.tra (rfl) hpa
        have hP := PP.cons hat (PP.exa (hP.sub [1, 2, 3] rfl : PP g [mla g ua U, mla g oa O, mza g ga q] _) hpa (fun z hz => by simp only [List.mem_cons, List.not_mem_nil, or_false] at hz; rcases hz with rfl | rfl | rfl <;> first | exact hM.1 | exact hM.2.1 | exact hM.2.2.1))
        have hP : PP g [(mo, .inr (2, [.int (nI 2), .long (lN x1), .long (lN y1), .ref ua, .ref oa, .ref ga, .long ab, .long be])), mla g ua U, mla g oa O, mza g ga q] H7 := hP
        refine lv_aload_n X.1 X.2.1 dX2_place_33 rfl (lv_at hl 0 rfl) ?_
        refine p_get (T := TX2) X uX2 (hP.at 0 rfl) rfl 0 (by decide) mw_464 rfl rfl dX2_place_34 ?_
        refine lv_if_le (tgt := 42) X.1 X.2.1 dX2_place_37 (by decide) (fun h9 => absurd h9 (by decide)) (fun _ => ?_)
        refine lv_lconst (v := lN 0) X.1 X.2.1 dX2_place_40 (by decide) ?_
        exact f_lret X hX hlo (⟨⟨_, _, _, by simp [mk3, hj, epj, hB6], hP⟩, _, rfl, fun h1 h2 h3 => by simp [hj, epj, hB6] at h3⟩) ⟨by decide, by decide⟩ dX2_place_41
      ·
        have hb9 := hB6
        obtain ⟨hvx, hvy⟩ := andL hb9
        have hXl := hO.1.2
        have hYl := hO.2.1.2
        obtain ⟨x, x0, hx, rfl⟩ := inL_of hvx (by omega)
        have ex : toL (lN x) = x := toL_k (by omega)
        obtain ⟨y, y0, hy, rfl⟩ := inL_of hvy (by omega)
        have ey : toL (lN y) = y := toL_k (by omega)
        refine lv_iconst (v := nI 0) X.1 X.2.1 dX2_place_25 (by decide) ?_
        refine lv_goto (tgt := 30) X.1 X.2.1 dX2_place_26 (by decide) ?_
        refine f_put (F := fun q => q = mo) (T := TX2) (N := 8) (ci := 2) X tyX2 tyX2_ok nmX2 uX2 (hP.at 0 rfl) rfl 0 (by decide) mw_464 rfl rfl (v := .int (nI 0)) (ty := .int) (by decide +kernel) rfl rfl (Nat.le_of_ble_eq_true rfl) (Or.inl rfl) hlo dX2_place_30 (fun H8 locs hpa hlo hat => ?_)
        have hX := hX.tra (rfl) hpa
        have hP := PP.cons hat (PP.exa (hP.sub [1, 2, 3] rfl : PP g [mla g ua U, mla g oa O, mza g ga q] _) hpa (fun z hz => by simp only [List.mem_cons, List.not_mem_nil, or_false] at hz; rcases hz with rfl | rfl | rfl <;> first | exact hM.1 | exact hM.2.1 | exact hM.2.2.1))
        have hP : PP g [(mo, .inr (2, [.int (nI 0), .long (lN x1), .long (lN y1), .ref ua, .ref oa, .ref ga, .long ab, .long be])), mla g ua U, mla g oa O, mza g ga q] H8 := hP
        refine lv_aload_n X.1 X.2.1 dX2_place_33 rfl (lv_at hl 0 rfl) ?_
        refine p_get (T := TX2) X uX2 (hP.at 0 rfl) rfl 0 (by decide) mw_464 rfl rfl dX2_place_34 ?_
        refine lv_if_le (tgt := 42) X.1 X.2.1 dX2_place_37 (by decide) (fun _ => ?_) (fun h9 => absurd (by decide) h9)
        refine lv_aload_n X.1 X.2.1 dX2_place_42 rfl (lv_at hl 0 rfl) ?_
        refine lv_lload_n X.1 X.2.1 dX2_place_43 rfl (lv_at hl 1 rfl) ?_
        refine lv_lload_n X.1 X.2.1 dX2_place_44 rfl (lv_at hl 2 rfl) ?_
        refine f_callV (F := fun q => q = mo) (C := RX2) (b := mo) (As := [.long (lN x), .long (lN y)]) (rest := []) X (c_X2_lowest l g mo ua oa ga _ _ _ x1 y1 U O q x y hO hR hM hx hy) ⟨mw_524, mw_526, mw_24, mw_40, mw_527⟩ sgX2_lowest ⟨rfl, rfl, ⟨by decide, by decide⟩, by decide, by decide⟩ (hP.at 0 rfl) rfl rfl (hP) hX.1 (fun q h => h) hlo rfl hl.1 rfl (Nat.le_of_ble_eq_true rfl) dX2_place_45 (fun v H9 locs hk10 hlo hp => ?_)
        obtain ⟨rfl, hP⟩ := hp
        have hX := hX.trf (fun q h => h) hk10
        refine W.eq (g2 := F0 m 48 ls [.int (nI (lwp x1 y1 q x y 3))]) rfl ?_
        refine lv_istore (lv' := [(6, .int (nI (lwp x1 y1 q x y 3))), (0, .ref mo), (1, .long (lN x)), (3, .long (lN y)), (5, .int (nI pj))]) X.1 X.2.1 dX2_place_48 hl (by decide) rfl (fun ls hl => ?_)
        refine lv_aload_n X.1 X.2.1 dX2_place_50 rfl (lv_at hl 1 rfl) ?_
        refine lv_iload X.1 X.2.1 dX2_place_51 (lv_at hl 4 rfl) ?_
        refine p_callV (C := RX2) (b := mo) (As := [.int (nI pj)]) (rest := []) X (c_X2_told l g mo ua oa ga _ x1 y1 U O q (hgt x1 y1 q x y (lwp x1 y1 q x y 3)) pj hpj) ⟨mw_532, mw_534, mw_26, mw_40, mw_535⟩ sgX2_told ⟨rfl, rfl, ⟨by decide, by decide⟩, by decide, by decide⟩ (hP.at 0 rfl) rfl rfl (hP.sub [0, 1, 2, 3] rfl) hX.1 rfl hl.1 rfl (Nat.le_of_ble_eq_true rfl) dX2_place_53 (fun v H11 hk12 hp => ?_)
        obtain rfl := hp
        have hX := hX.tr hk12
        have hP := PP.ext hP hk12
        refine W.eq (g2 := F0 m 56 ls [.long (lN (prt (hgt x1 y1 q x y (lwp x1 y1 q x y 3)) pj))]) rfl ?_
        exact f_lret X hX hlo (⟨⟨_, _, _, by simp [mk3, hj, epj, hvx, hvy], hP⟩, _, rfl, fun _ _ _ => by simp only [ex, ey, epj]⟩) ⟨by decide, by decide⟩ dX2_place_56
    ·
      have hj : inI j 2 = false := inI_hi3 (n := 1) (by decide) hB3
      refine lv_iconst (v := nI 1) X.1 X.2.1 dX2_place_12 (by decide) ?_
      refine lv_goto (tgt := 30) X.1 X.2.1 dX2_place_13 (by decide) ?_
      refine f_put (F := fun q => q = mo) (T := TX2) (N := 8) (ci := 2) X tyX2 tyX2_ok nmX2 uX2 (hP.at 0 rfl) rfl 0 (by decide) mw_464 rfl rfl (v := .int (nI 1)) (ty := .int) (by decide +kernel) rfl rfl (Nat.le_of_ble_eq_true rfl) (Or.inl rfl) hlo dX2_place_30 (fun H13 locs hpa hlo hat => ?_)
      have hX := hX.tra (rfl) hpa
      have hP := PP.cons hat (PP.exa (hP.sub [1, 2, 3] rfl : PP g [mla g ua U, mla g oa O, mza g ga q] _) hpa (fun z hz => by simp only [List.mem_cons, List.not_mem_nil, or_false] at hz; rcases hz with rfl | rfl | rfl <;> first | exact hM.1 | exact hM.2.1 | exact hM.2.2.1))
      have hP : PP g [(mo, .inr (2, [.int (nI 1), .long (lN x1), .long (lN y1), .ref ua, .ref oa, .ref ga, .long ab, .long be])), mla g ua U, mla g oa O, mza g ga q] H13 := hP
      refine lv_aload_n X.1 X.2.1 dX2_place_33 rfl (lv_at hl 0 rfl) ?_
      refine p_get (T := TX2) X uX2 (hP.at 0 rfl) rfl 0 (by decide) mw_464 rfl rfl dX2_place_34 ?_
      refine lv_if_le (tgt := 42) X.1 X.2.1 dX2_place_37 (by decide) (fun h9 => absurd h9 (by decide)) (fun _ => ?_)
      refine lv_lconst (v := lN 0) X.1 X.2.1 dX2_place_40 (by decide) ?_
      exact f_lret X hX hlo (⟨⟨_, _, _, by simp [mk3, hj], hP⟩, _, rfl, fun h1 h2 h3 => by simp [hj] at h1⟩) ⟨by decide, by decide⟩ dX2_place_41
set_option maxHeartbeats 4000000 in
set_option maxRecDepth 100000 in
theorem c_X2_face (l : Launch) (g : En) (mo ua oa ga : Nat) (cd : Int32) (ab be : Int64) (x1 y1 : Nat) (U O : Nat → Nat) (q : Nat → Rat) (vx vy : Int64) (hO : OK x1 y1 q) (hR : MR q U O) (hM : MD mo ua oa ga) : FM l yX2_face cX2_face 5 (some FieldType.int) { frames := 2, cells := 0, slots := 0, locals := 58 } g [.ref mo, .long vx, .long vy] (fun H => MO g mo ua oa ga cd ab be x1 y1 U O q H) (fun q => q = mo) 0 0 (fun v H => mP g mo ua oa ga (mk3 2 1 (true) (true) (inL vx 0 x1 && inL vy 0 y1)) x1 y1 U O q H ∧ rN (true) (true) (inL vx 0 x1 && inL vy 0 y1) (lwp x1 y1 q (toL vx) (toL vy) 3) v) := by
  refine FM.of (by decide) (Nat.le_of_ble_eq_true rfl) (fun p e s m below meth c ls X hP hl => ?_)
  have hl : lv_has ls 5 [(0, .ref mo), (1, .long vx), (3, .long vy)] := hl
  have hX : hxf (fun q => q = mo) s.heap s.heap := hxf.rf
  have hlo : lok (fun q => q = mo) s.heap.size ([] : List Loc) := lok.nil
  have hP : PP g [(mo, .inr (2, [.int cd, .long (lN x1), .long (lN y1), .ref ua, .ref oa, .ref ga, .long ab, .long be])), mla g ua U, mla g oa O, mza g ga q] s.heap := hP
  refine lv_aload_n X.1 X.2.1 dX2_face_0 rfl (lv_at hl 0 rfl) ?_
  refine lv_aload_n X.1 X.2.1 dX2_face_1 rfl (lv_at hl 0 rfl) ?_
  refine lv_lload_n X.1 X.2.1 dX2_face_2 rfl (lv_at hl 1 rfl) ?_
  refine lv_lload_n X.1 X.2.1 dX2_face_3 rfl (lv_at hl 2 rfl) ?_
  refine p_callV (C := RX2) (b := mo) (As := [.long vx, .long vy]) (rest := [.ref mo]) X (c_X2_isInside l g mo ua oa ga cd ab be x1 y1 U O q vx vy hO) ⟨mw_520, mw_522, mw_23, mw_40, mw_523⟩ sgX2_isInside ⟨rfl, rfl, ⟨by decide, by decide⟩, by decide, by decide⟩ (hP.at 0 rfl) rfl rfl (hP.sub [0, 1, 2, 3] rfl) hX.1 rfl hl.1 rfl (Nat.le_of_ble_eq_true rfl) dX2_face_4 (fun v H1 hk2 hp => ?_)
  obtain rfl := hp
  have hX := hX.tr hk2
  have hP := PP.ext hP hk2
  refine W.eq (g2 := F0 m 7 ls [.int (bI (inL vx 0 x1 && inL vy 0 y1)), .ref mo]) rfl ?_
  refine q_Beq X (tgt := 14) dX2_face_7 (by decide) (fun hB3 => ?_) (fun hB3 => ?_)
  ·
    refine lv_iconst (v := nI 1) X.1 X.2.1 dX2_face_14 (by decide) ?_
    refine f_put (F := fun q => q = mo) (T := TX2) (N := 8) (ci := 2) X tyX2 tyX2_ok nmX2 uX2 (hP.at 0 rfl) rfl 0 (by decide) mw_464 rfl rfl (v := .int (nI 1)) (ty := .int) (by decide +kernel) rfl rfl (Nat.le_of_ble_eq_true rfl) (Or.inl rfl) hlo dX2_face_15 (fun H4 locs hpa hlo hat => ?_)
    have hX := hX.tra (rfl) hpa
    have hP := PP.cons hat (PP.exa (hP.sub [1, 2, 3] rfl : PP g [mla g ua U, mla g oa O, mza g ga q] _) hpa (fun z hz => by simp only [List.mem_cons, List.not_mem_nil, or_false] at hz; rcases hz with rfl | rfl | rfl <;> first | exact hM.1 | exact hM.2.1 | exact hM.2.2.1))
    have hP : PP g [(mo, .inr (2, [.int (nI 1), .long (lN x1), .long (lN y1), .ref ua, .ref oa, .ref ga, .long ab, .long be])), mla g ua U, mla g oa O, mza g ga q] H4 := hP
    refine lv_aload_n X.1 X.2.1 dX2_face_18 rfl (lv_at hl 0 rfl) ?_
    refine p_get (T := TX2) X uX2 (hP.at 0 rfl) rfl 0 (by decide) mw_464 rfl rfl dX2_face_19 ?_
    refine lv_if_le (tgt := 29) X.1 X.2.1 dX2_face_22 (by decide) (fun h9 => absurd h9 (by decide)) (fun _ => ?_)
    refine lv_iconst (v := nI 0) X.1 X.2.1 dX2_face_25 (by decide) ?_
    refine lv_goto (tgt := 35) X.1 X.2.1 dX2_face_26 (by decide) ?_
    exact f_iret X hX hlo (⟨⟨_, _, _, by simp [mk3, hB3], hP⟩, _, rfl, fun h1 h2 h3 => by simp [hB3] at h3⟩) ⟨by decide, by decide⟩ dX2_face_35
  ·
    have hb9 := hB3
    obtain ⟨hvx, hvy⟩ := andL hb9
    have hXl := hO.1.2
    have hYl := hO.2.1.2
    obtain ⟨x, x0, hx, rfl⟩ := inL_of hvx (by omega)
    have ex : toL (lN x) = x := toL_k (by omega)
    obtain ⟨y, y0, hy, rfl⟩ := inL_of hvy (by omega)
    have ey : toL (lN y) = y := toL_k (by omega)
    refine lv_iconst (v := nI 0) X.1 X.2.1 dX2_face_10 (by decide) ?_
    refine lv_goto (tgt := 15) X.1 X.2.1 dX2_face_11 (by decide) ?_
    refine f_put (F := fun q => q = mo) (T := TX2) (N := 8) (ci := 2) X tyX2 tyX2_ok nmX2 uX2 (hP.at 0 rfl) rfl 0 (by decide) mw_464 rfl rfl (v := .int (nI 0)) (ty := .int) (by decide +kernel) rfl rfl (Nat.le_of_ble_eq_true rfl) (Or.inl rfl) hlo dX2_face_15 (fun H5 locs hpa hlo hat => ?_)
    have hX := hX.tra (rfl) hpa
    have hP := PP.cons hat (PP.exa (hP.sub [1, 2, 3] rfl : PP g [mla g ua U, mla g oa O, mza g ga q] _) hpa (fun z hz => by simp only [List.mem_cons, List.not_mem_nil, or_false] at hz; rcases hz with rfl | rfl | rfl <;> first | exact hM.1 | exact hM.2.1 | exact hM.2.2.1))
    have hP : PP g [(mo, .inr (2, [.int (nI 0), .long (lN x1), .long (lN y1), .ref ua, .ref oa, .ref ga, .long ab, .long be])), mla g ua U, mla g oa O, mza g ga q] H5 := hP
    refine lv_aload_n X.1 X.2.1 dX2_face_18 rfl (lv_at hl 0 rfl) ?_
    refine p_get (T := TX2) X uX2 (hP.at 0 rfl) rfl 0 (by decide) mw_464 rfl rfl dX2_face_19 ?_
    refine lv_if_le (tgt := 29) X.1 X.2.1 dX2_face_22 (by decide) (fun _ => ?_) (fun h9 => absurd (by decide) h9)
    refine lv_aload_n X.1 X.2.1 dX2_face_29 rfl (lv_at hl 0 rfl) ?_
    refine lv_lload_n X.1 X.2.1 dX2_face_30 rfl (lv_at hl 1 rfl) ?_
    refine lv_lload_n X.1 X.2.1 dX2_face_31 rfl (lv_at hl 2 rfl) ?_
    refine f_callV (F := fun q => q = mo) (C := RX2) (b := mo) (As := [.long (lN x), .long (lN y)]) (rest := []) X (c_X2_lowest l g mo ua oa ga _ _ _ x1 y1 U O q x y hO hR hM hx hy) ⟨mw_524, mw_526, mw_24, mw_40, mw_527⟩ sgX2_lowest ⟨rfl, rfl, ⟨by decide, by decide⟩, by decide, by decide⟩ (hP.at 0 rfl) rfl rfl (hP) hX.1 (fun q h => h) hlo rfl hl.1 rfl (Nat.le_of_ble_eq_true rfl) dX2_face_32 (fun v H6 locs hk7 hlo hp => ?_)
    obtain ⟨rfl, hP⟩ := hp
    have hX := hX.trf (fun q h => h) hk7
    refine W.eq (g2 := F0 m 35 ls [.int (nI (lwp x1 y1 q x y 3))]) rfl ?_
    exact f_iret X hX hlo (⟨⟨_, _, _, by simp [mk3, hvx, hvy], hP⟩, _, rfl, fun _ _ _ => by simp only [ex, ey]⟩) ⟨by decide, by decide⟩ dX2_face_35
