theorem ba_u_tn {n : Nat} (h : n < 2 ^ 64) : (UInt64.ofNat n).toNat = n := Nat.mod_eq_of_lt h
theorem ba_or {v c b : Nat} (hv : v = c * 2 ^ (b + 1)) (h : v + 2 ^ b < 2 ^ 64) : lN v ||| lN (2 ^ b) = lN (v + 2 ^ b) := by
  subst hv
  have ha : 2 ^ b < 2 ^ (b + 1) := by rw [Nat.pow_succ]; have := Nat.two_pow_pos b; omega
  have h1 : c * 2 ^ (b + 1) ||| 2 ^ b = c * 2 ^ (b + 1) + 2 ^ b := by rw [← Nat.shiftLeft_eq, Nat.shiftLeft_add_eq_or_of_lt ha]
  have h3 : UInt64.ofNat (c * 2 ^ (b + 1)) ||| UInt64.ofNat (2 ^ b) = UInt64.ofNat (c * 2 ^ (b + 1) + 2 ^ b) := UInt64.toNat_inj.mp (by rw [UInt64.toNat_or, ba_u_tn (by omega), ba_u_tn (by omega), ba_u_tn h, h1])
  exact congrArg UInt64.toInt64 h3
theorem sq_cross {S : Rat} {N d : Nat} (hd : 0 < d) (hS : S = ((N : Nat) : Rat) / ((d * d : Nat) : Rat)) : nu S * (d * d) = N * S.den := by
  have hD : 0 < d * d := Nat.mul_pos hd hd
  have h0 : 0 ≤ S := by rw [hS]; exact (fr_mk hD).2.2
  have h1 := nu_mul h0
  have h2 := nc_ne hD
  apply Rat.natCast_inj.mp
  rw [Rat.natCast_mul (nu S), Rat.natCast_mul N, h1]
  have h3 : S * ((d * d : Nat) : Rat) = ((N : Nat) : Rat) := by rw [hS]; grind
  rw [← h3]; grind
theorem sq_key {S : Rat} {N d : Nat} (hd : 0 < d) (hS : S = ((N : Nat) : Rat) / ((d * d : Nat) : Rat)) (w : Nat) : (w * w * S.den ≤ nu S ↔ w * d * w * d ≤ N) ∧ (w * w * S.den = nu S ↔ w * d * w * d = N) := by
  have hc := sq_cross hd hS
  have hD : 0 < d * d := Nat.mul_pos hd hd
  have hn := dn_pos S
  have e1 : w * w * S.den * (d * d) = w * d * w * d * S.den := by simp only [Nat.mul_comm, Nat.mul_left_comm]
  constructor
  · rw [← Nat.mul_le_mul_right_iff hD, e1, hc, Nat.mul_le_mul_right_iff hn]
  · rw [← Nat.mul_left_inj (Nat.ne_of_gt hD), e1, hc, Nat.mul_left_inj (Nat.ne_of_gt hn)]
theorem sq_prop {S : Rat} {N d : Nat} (hd : 0 < d) (hS : S = ((N : Nat) : Rat) / ((d * d : Nat) : Rat)) (hb : nu S / S.den < 2 ^ 62) : isq (nu S / S.den) * d * isq (nu S / S.den) * d ≤ N ∧ N < (isq (nu S / S.den) + 1) * d * (isq (nu S / S.den) + 1) * d := by
  obtain ⟨h1, h2⟩ := isq_ok hb
  have hn := dn_pos S
  constructor
  · exact (sq_key hd hS _).1.mp ((Nat.le_div_iff_mul_le hn).mp h1)
  · apply Nat.lt_of_not_le
    intro h3
    have := (Nat.le_div_iff_mul_le hn).mpr ((sq_key hd hS _).1.mpr h3)
    omega
theorem sq_mono {a b d : Nat} (h : a ≤ b) : a * d * a * d ≤ b * d * b * d := Nat.mul_le_mul (Nat.mul_le_mul (Nat.mul_le_mul h (Nat.le_refl _)) h) (Nat.le_refl _)
theorem isq_fin {S : Rat} {N d v : Nat} (hd : 0 < d) (hS : S = ((N : Nat) : Rat) / ((d * d : Nat) : Rat)) (hb : nu S / S.den < 2 ^ 62) (h1 : v * d * v * d ≤ N) (h2 : N < (v + 1) * d * (v + 1) * d) : isq (nu S / S.den) = v ∧ (v * v * S.den = nu S ↔ v * d * v * d = N) := by
  obtain ⟨p1, p2⟩ := sq_prop hd hS hb
  refine ⟨?_, (sq_key hd hS v).2⟩
  generalize isq (nu S / S.den) = r at p1 p2
  apply Nat.le_antisymm
  · apply Nat.le_of_not_lt
    intro h
    have := sq_mono (d := d) (show v + 1 ≤ r from h)
    omega
  · apply Nat.le_of_not_lt
    intro h
    have := sq_mono (d := d) (show r + 1 ≤ v from h)
    omega
theorem bat_fin {S : Rat} {N d n t : Nat} (hd : 0 < d) (ht : 0 < t) (hS : S = ((N : Nat) : Rat) / ((d * d : Nat) : Rat)) (hb : nu S / S.den < 2 ^ 62) (h1 : n * (d * t) * n * (d * t) ≤ N) (h2 : N < (n + 1) * (d * t) * (n + 1) * (d * t)) : isq (nu S / S.den) / t = n := by
  obtain ⟨p1, p2⟩ := sq_prop hd hS hb
  generalize isq (nu S / S.den) = r at p1 p2
  have e : ∀ a, a * (d * t) * a * (d * t) = (a * t) * d * (a * t) * d := fun a => by simp only [Nat.mul_comm, Nat.mul_left_comm]
  rw [e] at h1 h2
  have a1 : n * t ≤ r := by
    apply Nat.le_of_not_lt
    intro h
    have := sq_mono (d := d) (show r + 1 ≤ n * t from h)
    omega
  have a2 : r < (n + 1) * t := by
    apply Nat.lt_of_not_le
    intro h
    have := sq_mono (d := d) h
    omega
  exact Nat.div_eq_of_lt_le a1 a2
theorem sq_mk {q : Nat → Rat} {k : Nat} {z : Rat} (hq : 0 < q k) (hz : 0 ≤ z) : sqr q k z = ((nu z * nu z * ((q k).den * (q k).den + nu (q k) * nu (q k)) : Nat) : Rat) / ((z.den * nu (q k) * (z.den * nu (q k)) : Nat) : Rat) := by
  have h1 := nu_mul (Rat.le_of_lt hq)
  have h2 := nu_mul hz
  have h3 := dn_ne (q k)
  have h4 := dn_ne z
  have h5 := Rat.ne_of_gt hq
  simp only [Rat.natCast_mul, Rat.natCast_add, h1, h2, sqr]
  grind
theorem sq_mkP {q : Nat → Rat} {k : Nat} {P : Rat} (hq : 0 < q k) (hP : 0 ≤ P) : sqr q k (P * q k) = ((nu P * nu P * ((q k).den * (q k).den + nu (q k) * nu (q k)) : Nat) : Rat) / ((P.den * (q k).den * (P.den * (q k).den) : Nat) : Rat) := by
  have h1 := nu_mul (Rat.le_of_lt hq)
  have h2 := nu_mul hP
  have h3 := dn_ne (q k)
  have h4 := dn_ne P
  have h5 := Rat.ne_of_gt hq
  simp only [Rat.natCast_mul, Rat.natCast_add, h1, h2, sqr]
  grind
theorem len_b {a b e f : Nat} (ha : a ≤ 2000 * b) (he : e ≤ 20) (hf : 0 < f) (hb : 0 < b) : a * a * (e * e + f * f) < (0 + 2 ^ 23) * (b * f) * (0 + 2 ^ 23) * (b * f) := by
  have h1 : a * a ≤ 2000 * b * (2000 * b) := Nat.mul_le_mul ha ha
  have h2 : e * e ≤ 20 * 20 := Nat.mul_le_mul he he
  have h3 : 0 < f * f := Nat.mul_pos hf hf
  have h4 : e * e + f * f ≤ 401 * (f * f) := by omega
  have h5 : 0 < b * f * (b * f) := Nat.mul_pos (Nat.mul_pos hb hf) (Nat.mul_pos hb hf)
  have e1 : 2000 * b * (2000 * b) * (401 * (f * f)) = 1604000000 * (b * f * (b * f)) := by grind
  have e2 : (0 + 2 ^ 23) * (b * f) * (0 + 2 ^ 23) * (b * f) = 70368744177664 * (b * f * (b * f)) := by grind
  have h6 := Nat.mul_le_mul h1 h4
  rw [e1] at h6
  rw [e2]
  omega
theorem bat_b {a b e f t : Nat} (ha : a * f ≤ 2000 * (b * e)) (he : e ≤ 20) (he0 : 0 < e) (hf : 0 < f) (hb : 0 < b) (ht : 0 < t) : a * a * (e * e + f * f) < (0 + 2 ^ 23) * (b * e * t) * (0 + 2 ^ 23) * (b * e * t) := by
  have hM : 0 < b * e := Nat.mul_pos hb he0
  generalize b * e = M at ha hM
  have h0 : a ≤ 2000 * M := Nat.le_trans (Nat.le_mul_of_pos_right a hf) ha
  have h1 : a * f * (a * f) ≤ 2000 * M * (2000 * M) := Nat.mul_le_mul ha ha
  have h2 : a * e * (a * e) ≤ 2000 * M * 20 * (2000 * M * 20) := Nat.mul_le_mul (Nat.mul_le_mul h0 he) (Nat.mul_le_mul h0 he)
  have e1 : a * a * (e * e + f * f) = a * e * (a * e) + a * f * (a * f) := by grind
  have e2 : 2000 * M * (2000 * M) = 4000000 * (M * M) := by grind
  have e3 : 2000 * M * 20 * (2000 * M * 20) = 1600000000 * (M * M) := by grind
  have h5 : 0 < M * M := Nat.mul_pos hM hM
  have h6 : M * M ≤ M * t * (M * t) := Nat.mul_le_mul (Nat.le_mul_of_pos_right M ht) (Nat.le_mul_of_pos_right M ht)
  have e4 : (0 + 2 ^ 23) * (M * t) * (0 + 2 ^ 23) * (M * t) = 70368744177664 * (M * t * (M * t)) := by grind
  rw [e1, e4]
  omega
theorem raf_le {X Y : Nat} {q : Nat → Rat} (h : OK X Y q) {k t : Nat} (hk : k < 4) (hg : gab q k = false) : raf X Y q k t ≤ ((2000 : Nat) : Rat) := by
  have h1 := (enp_min X Y q k t 4 (opp k) (Or.inl rfl)).1
  refine Rat.le_trans h1 ?_
  rw [lim_o rfl]
  have p1 := gab_pos (h.2.2.1 k hk) hg
  have p2 := (h.2.2.1 (opp k) (opp_lt k)).1
  have hw : ((wayo X Y k : Nat) : Rat) ≤ ((2000 : Nat) : Rat) := Rat.natCast_le_natCast.mpr (wayo_le h k)
  have hw0 : (0 : Rat) ≤ ((wayo X Y k : Nat) : Rat) := Rat.natCast_nonneg
  have h2 : q k / (q k + q (opp k)) ≤ 1 := by
    have h3 : 0 < q k + q (opp k) := by grind
    refine Rat.not_lt.mp (fun h9 => ?_)
    rw [Rat.lt_div_iff h3, Rat.one_mul] at h9; grind
  have h4 := Rat.mul_le_mul_of_nonneg_right h2 hw0
  rw [Rat.one_mul] at h4
  exact Rat.le_trans h4 hw
theorem pk_nat {X Y : Nat} {q : Nat → Rat} (h : OK X Y q) {k : Nat} (hk : k < 4) : nu (pk X Y q) * nu (q k) ≤ 2000 * ((pk X Y q).den * (q k).den) := by
  have h1 := pk_side h hk
  have hw : ((wayo X Y k : Nat) : Rat) ≤ ((2000 : Nat) : Rat) := Rat.natCast_le_natCast.mpr (wayo_le h k)
  have h2 := Rat.le_trans h1 hw
  have hP := (bd_pk h).1
  have hq := (h.2.2.1 k hk).1
  have h3 := nc_pos (Nat.mul_pos (dn_pos (pk X Y q)) (dn_pos (q k)))
  have h4 := Rat.mul_le_mul_of_nonneg_right h2 (Rat.le_of_lt h3)
  apply Rat.natCast_le_natCast.mp
  rw [Rat.natCast_mul, nu_mul hP, nu_mul hq, Rat.natCast_mul 2000]
  have e : pk X Y q * ((pk X Y q).den : Rat) * (q k * ((q k).den : Rat)) = pk X Y q * q k * (((pk X Y q).den * (q k).den : Nat) : Rat) := by rw [Rat.natCast_mul]; grind
  rw [e]; exact h4
theorem nu_fr_le {N D : Nat} (hD : 0 < D) : nu ((N : Rat) / (D : Rat)) / ((N : Rat) / (D : Rat)).den ≤ N := Nat.le_trans (Nat.div_le_self _ _) (bd_mk hD).2.1
set_option maxHeartbeats 4000000 in
set_option maxRecDepth 100000 in
theorem c_X2_length (l : Launch) (g : En) (mo ua oa ga : Nat) (cd : Int32) (ab be : Int64) (x1 y1 : Nat) (U O : Nat → Nat) (q : Nat → Rat) (i : Int32) (v0 : Int64) (j : Int32) (hO : OK x1 y1 q) (hR : MR q U O) (hM : MD mo ua oa ga) : FM l yX2_length cX2_length 15 (some FieldType.long) { frames := 3, cells := 0, slots := 0, locals := 88 } g [.ref mo, .int i, .long v0, .int j] (fun H => MO g mo ua oa ga cd ab be x1 y1 U O q H) (fun q => q = mo) 0 0 (fun v H => mP g mo ua oa ga (mk3 2 3 (inI i 4 && inI j 2) (!gab q (toN i)) (inL v0 0 (slen x1 y1 (toN i)))) x1 y1 U O q H ∧ rJ (inI i 4 && inI j 2) (!gab q (toN i)) (inL v0 0 (slen x1 y1 (toN i))) (lenv (sqr q (toN i) (raf x1 y1 q (toN i) (toL v0))) (toN j)) v) := by
  refine FM.of (by decide) (Nat.le_of_ble_eq_true rfl) (fun p e s m below meth c ls X hP hl => ?_)
  have hl : lv_has ls 15 [(0, .ref mo), (1, .int i), (2, .long v0), (4, .int j)] := hl
  have hX : hxf (fun q => q = mo) s.heap s.heap := hxf.rf
  have hlo : lok (fun q => q = mo) s.heap.size ([] : List Loc) := lok.nil
  have hP : PP g [(mo, .inr (2, [.int cd, .long (lN x1), .long (lN y1), .ref ua, .ref oa, .ref ga, .long ab, .long be])), mla g ua U, mla g oa O, mza g ga q] s.heap := hP
  refine lv_aload_n X.1 X.2.1 dX2_length_0 rfl (lv_at hl 0 rfl) ?_
  refine lv_iload X.1 X.2.1 dX2_length_1 (lv_at hl 3 rfl) ?_
  refine lv_if_lt (tgt := 12) X.1 X.2.1 dX2_length_3 (by decide) (fun hB1 => ?_) (fun hB1 => ?_)
  ·
    have hj : inI j 2 = false := inI_lo hB1
    refine lv_iconst (v := nI 1) X.1 X.2.1 dX2_length_12 (by decide) ?_
    refine lv_goto (tgt := 22) X.1 X.2.1 dX2_length_13 (by decide) ?_
    refine f_put (F := fun q => q = mo) (T := TX2) (N := 8) (ci := 2) X tyX2 tyX2_ok nmX2 uX2 (hP.at 0 rfl) rfl 0 (by decide) mw_464 rfl rfl (v := .int (nI 1)) (ty := .int) (by decide +kernel) rfl rfl (Nat.le_of_ble_eq_true rfl) (Or.inl rfl) hlo dX2_length_22 (fun H2 locs hpa hlo hat => ?_)
    have hX := hX.tra (rfl) hpa
    have hP := PP.cons hat (PP.exa (hP.sub [1, 2, 3] rfl : PP g [mla g ua U, mla g oa O, mza g ga q] _) hpa (fun z hz => by simp only [List.mem_cons, List.not_mem_nil, or_false] at hz; rcases hz with rfl | rfl | rfl <;> first | exact hM.1 | exact hM.2.1 | exact hM.2.2.1))
    have hP : PP g [(mo, .inr (2, [.int (nI 1), .long (lN x1), .long (lN y1), .ref ua, .ref oa, .ref ga, .long ab, .long be])), mla g ua U, mla g oa O, mza g ga q] H2 := hP
    refine lv_aload_n X.1 X.2.1 dX2_length_25 rfl (lv_at hl 0 rfl) ?_
    refine p_get (T := TX2) X uX2 (hP.at 0 rfl) rfl 0 (by decide) mw_464 rfl rfl dX2_length_26 ?_
    refine lv_if_le (tgt := 34) X.1 X.2.1 dX2_length_29 (by decide) (fun h9 => absurd h9 (by decide)) (fun _ => ?_)
    refine lv_lconst (v := lN 0) X.1 X.2.1 dX2_length_32 (by decide) ?_
    exact f_lret X hX hlo (⟨⟨_, _, _, by simp [mk3, hj], hP⟩, _, rfl, fun h1 h2 h3 => by simp [hj] at h1⟩) ⟨by decide, by decide⟩ dX2_length_33
  ·
    refine lv_iload X.1 X.2.1 dX2_length_6 (lv_at hl 3 rfl) ?_
    refine lv_iconst (v := nI 1) X.1 X.2.1 dX2_length_8 (by decide) ?_
    refine lv_icmp_le (tgt := 16) X.1 X.2.1 dX2_length_9 (by decide) (fun hB3 => ?_) (fun hB3 => ?_)
    ·
      have hj : inI j 2 = true := inI_in3 (n := 1) (by decide) hB1 hB3
      obtain ⟨pj, hpj, rfl⟩ := inI_of hj (by decide)
      have epj : toN (nI pj) = pj := toN_k (by omega)
      refine lv_aload_n X.1 X.2.1 dX2_length_16 rfl (lv_at hl 0 rfl) ?_
      refine lv_iload_n X.1 X.2.1 dX2_length_17 rfl (lv_at hl 1 rfl) ?_
      refine lv_lload_n X.1 X.2.1 dX2_length_18 rfl (lv_at hl 2 rfl) ?_
      refine p_callV (C := RX2) (b := mo) (As := [.int i, .long v0]) (rest := [.ref mo]) X (c_X2_rafterCode l g mo ua oa ga cd ab be x1 y1 U O q i v0 hO) ⟨mw_557, mw_559, mw_29, mw_40, mw_560⟩ sgX2_rafterCode ⟨rfl, rfl, ⟨by decide, by decide⟩, by decide, by decide⟩ (hP.at 0 rfl) rfl rfl (hP.sub [0, 1, 2, 3] rfl) hX.1 rfl hl.1 rfl (Nat.le_of_ble_eq_true rfl) dX2_length_19 (fun v H4 hk5 hp => ?_)
      obtain rfl := hp
      have hX := hX.tr hk5
      have hP := PP.ext hP hk5
      refine W.eq (g2 := F0 m 22 ls [.int (nI (mk3 2 3 (inI i 4) (!gab q (toN i)) (inL v0 0 (slen x1 y1 (toN i))))), .ref mo]) rfl ?_
      by_cases hi : inI i 4 = true
      ·
        obtain ⟨k, hk, rfl⟩ := inI_of hi (by decide)
        have ek : toN (nI k) = k := toN_k (by omega)
        by_cases hg : gab q k = true
        ·
          refine w_i (v' := nI 2) (by simp [mk3, hi, ek, hg]) ?_
          refine f_put (F := fun q => q = mo) (T := TX2) (N := 8) (ci := 2) X tyX2 tyX2_ok nmX2 uX2 (hP.at 0 rfl) rfl 0 (by decide) mw_464 rfl rfl (v := .int (nI 2)) (ty := .int) (by decide +kernel) rfl rfl (Nat.le_of_ble_eq_true rfl) (Or.inl rfl) hlo dX2_length_22 (fun H6 locs hpa hlo hat => ?_)
          have hX := hX.tra (rfl) hpa
          have hP := PP.cons hat (PP.exa (hP.sub [1, 2, 3] rfl : PP g [mla g ua U, mla g oa O, mza g ga q] _) hpa (fun z hz => by simp only [List.mem_cons, List.not_mem_nil, or_false] at hz; rcases hz with rfl | rfl | rfl <;> first | exact hM.1 | exact hM.2.1 | exact hM.2.2.1))
          have hP : PP g [(mo, .inr (2, [.int (nI 2), .long (lN x1), .long (lN y1), .ref ua, .ref oa, .ref ga, .long ab, .long be])), mla g ua U, mla g oa O, mza g ga q] H6 := hP
          refine lv_aload_n X.1 X.2.1 dX2_length_25 rfl (lv_at hl 0 rfl) ?_
          refine p_get (T := TX2) X uX2 (hP.at 0 rfl) rfl 0 (by decide) mw_464 rfl rfl dX2_length_26 ?_
          refine lv_if_le (tgt := 34) X.1 X.2.1 dX2_length_29 (by decide) (fun h9 => absurd h9 (by decide)) (fun _ => ?_)
          refine lv_lconst (v := lN 0) X.1 X.2.1 dX2_length_32 (by decide) ?_
          exact f_lret X hX hlo (⟨⟨_, _, _, by simp [mk3, hj, epj, hi, ek, hg], hP⟩, _, rfl, fun h1 h2 h3 => by simp [hj, epj, hi, ek, hg] at h2⟩) ⟨by decide, by decide⟩ dX2_length_33
        ·
          have hg : gab q k = false := gabF hg
          have hsl := slen_le hO k
          by_cases hr : inL v0 0 (slen x1 y1 k) = true
          ·
            obtain ⟨t, ht0, ht, rfl⟩ := inL_of hr (by omega)
            have eT : toL (lN t) = t := toL_k (by omega)
            refine w_i (v' := nI 0) (by simp [mk3, hi, ek, hg, hr]) ?_
            have bk := hO.2.2.1 k hk
            have pq := gab_pos bk hg
            have eR := hR k hk hg
            have bz := bd_raf hO hk ht hg
            have hz2 := (le_nu bz.1).mp (raf_le hO (t := t) hk hg)
            refine f_put (F := fun q => q = mo) (T := TX2) (N := 8) (ci := 2) X tyX2 tyX2_ok nmX2 uX2 (hP.at 0 rfl) rfl 0 (by decide) mw_464 rfl rfl (v := .int (nI 0)) (ty := .int) (by decide +kernel) rfl rfl (Nat.le_of_ble_eq_true rfl) (Or.inl rfl) hlo dX2_length_22 (fun H7 locs hpa hlo hat => ?_)
            have hX := hX.tra (rfl) hpa
            have hP := PP.cons hat (PP.exa (hP.sub [1, 2, 3] rfl : PP g [mla g ua U, mla g oa O, mza g ga q] _) hpa (fun z hz => by simp only [List.mem_cons, List.not_mem_nil, or_false] at hz; rcases hz with rfl | rfl | rfl <;> first | exact hM.1 | exact hM.2.1 | exact hM.2.2.1))
            have hP : PP g [(mo, .inr (2, [.int (nI 0), .long (lN x1), .long (lN y1), .ref ua, .ref oa, .ref ga, .long ab, .long be])), mla g ua U, mla g oa O, mza g ga q] H7 := hP
            refine lv_aload_n X.1 X.2.1 dX2_length_25 rfl (lv_at hl 0 rfl) ?_
            refine p_get (T := TX2) X uX2 (hP.at 0 rfl) rfl 0 (by decide) mw_464 rfl rfl dX2_length_26 ?_
            refine lv_if_le (tgt := 34) X.1 X.2.1 dX2_length_29 (by decide) (fun _ => ?_) (fun h9 => absurd (by decide) h9)
            refine lv_aload_n X.1 X.2.1 dX2_length_34 rfl (lv_at hl 0 rfl) ?_
            refine lv_iload_n X.1 X.2.1 dX2_length_35 rfl (lv_at hl 1 rfl) ?_
            refine lv_lload_n X.1 X.2.1 dX2_length_36 rfl (lv_at hl 2 rfl) ?_
            refine f_callV (F := fun q => q = mo) (C := RX2) (b := mo) (As := [.int (nI k), .long (lN t)]) (rest := []) X (c_X2_ending l g mo ua oa ga _ _ _ x1 y1 U O q k t hO hR hM hk hg ht) ⟨mw_561, mw_563, mw_30, mw_40, mw_564⟩ sgX2_ending ⟨rfl, rfl, ⟨by decide, by decide⟩, by decide, by decide⟩ (hP.at 0 rfl) rfl rfl (hP) hX.1 (fun q h => h) hlo rfl hl.1 rfl (Nat.le_of_ble_eq_true rfl) dX2_length_37 (fun v H8 locs hk9 hlo hp => ?_)
            obtain ⟨rfl, hP⟩ := hp
            have hX := hX.trf (fun q h => h) hk9
            refine W.eq (g2 := F0 m 40 ls [.int (nI (enp x1 y1 q k t 4))]) rfl ?_
            refine lv_istore (lv' := [(5, .int (nI (enp x1 y1 q k t 4))), (0, .ref mo), (1, .int (nI k)), (2, .long (lN t)), (4, .int (nI pj))]) X.1 X.2.1 dX2_length_40 hl (by decide) rfl (fun ls hl => ?_)
            refine lv_aload_n X.1 X.2.1 dX2_length_42 rfl (lv_at hl 1 rfl) ?_
            refine p_get (T := TX2) X uX2 (hP.at 0 rfl) rfl 6 (by decide) mw_470 rfl rfl dX2_length_43 ?_
            refine lv_aload_n X.1 X.2.1 dX2_length_46 rfl (lv_at hl 1 rfl) ?_
            refine p_get (T := TX2) X uX2 (hP.at 0 rfl) rfl 6 (by decide) mw_470 rfl rfl dX2_length_47 ?_
            refine lv_lmul X.1 X.2.1 dX2_length_50 ?_
            refine w_l (lN_mul _ _) ?_
            refine lv_aload_n X.1 X.2.1 dX2_length_51 rfl (lv_at hl 1 rfl) ?_
            refine p_get (T := TX2) X uX2 (hP.at 0 rfl) rfl 3 (by decide) mw_467 rfl rfl dX2_length_52 ?_
            refine lv_iload_n X.1 X.2.1 dX2_length_55 rfl (lv_at hl 2 rfl) ?_
            refine f_lald X (hP.at 1 rfl) hk (by decide) dX2_length_56 ?_
            refine w_l (v' := lN ((q k).den)) (by rw [(eR).2]) ?_
            refine lv_aload_n X.1 X.2.1 dX2_length_57 rfl (lv_at hl 1 rfl) ?_
            refine p_get (T := TX2) X uX2 (hP.at 0 rfl) rfl 3 (by decide) mw_467 rfl rfl dX2_length_58 ?_
            refine lv_iload_n X.1 X.2.1 dX2_length_61 rfl (lv_at hl 2 rfl) ?_
            refine f_lald X (hP.at 1 rfl) hk (by decide) dX2_length_62 ?_
            refine w_l (v' := lN ((q k).den)) (by rw [(eR).2]) ?_
            refine lv_lmul X.1 X.2.1 dX2_length_63 ?_
            refine w_l (lN_mul _ _) ?_
            refine lv_aload_n X.1 X.2.1 dX2_length_64 rfl (lv_at hl 1 rfl) ?_
            refine p_get (T := TX2) X uX2 (hP.at 0 rfl) rfl 4 (by decide) mw_468 rfl rfl dX2_length_65 ?_
            refine lv_iload_n X.1 X.2.1 dX2_length_68 rfl (lv_at hl 2 rfl) ?_
            refine f_lald X (hP.at 2 rfl) hk (by decide) dX2_length_69 ?_
            refine w_l (v' := lN (nu (q k))) (by rw [(eR).1]) ?_
            refine lv_aload_n X.1 X.2.1 dX2_length_70 rfl (lv_at hl 1 rfl) ?_
            refine p_get (T := TX2) X uX2 (hP.at 0 rfl) rfl 4 (by decide) mw_468 rfl rfl dX2_length_71 ?_
            refine lv_iload_n X.1 X.2.1 dX2_length_74 rfl (lv_at hl 2 rfl) ?_
            refine f_lald X (hP.at 2 rfl) hk (by decide) dX2_length_75 ?_
            refine w_l (v' := lN (nu (q k))) (by rw [(eR).1]) ?_
            refine lv_lmul X.1 X.2.1 dX2_length_76 ?_
            refine w_l (lN_mul _ _) ?_
            refine lv_ladd X.1 X.2.1 dX2_length_77 ?_
            refine w_l (lN_add _ _) ?_
            refine lv_lmul X.1 X.2.1 dX2_length_78 ?_
            refine w_l (lN_mul _ _) ?_
            refine lv_lstore (lv' := [(6, .long (lN (((nu (raf x1 y1 q k t)) * (nu (raf x1 y1 q k t))) * ((((q k).den) * ((q k).den)) + ((nu (q k)) * (nu (q k))))))), (5, .int (nI (enp x1 y1 q k t 4))), (0, .ref mo), (1, .int (nI k)), (2, .long (lN t)), (4, .int (nI pj))]) X.1 X.2.1 dX2_length_79 hl (by decide) rfl (fun ls hl => ?_)
            refine lv_aload_n X.1 X.2.1 dX2_length_81 rfl (lv_at hl 2 rfl) ?_
            refine p_get (T := TX2) X uX2 (hP.at 0 rfl) rfl 7 (by decide) mw_471 rfl rfl dX2_length_82 ?_
            refine lv_aload_n X.1 X.2.1 dX2_length_85 rfl (lv_at hl 2 rfl) ?_
            refine p_get (T := TX2) X uX2 (hP.at 0 rfl) rfl 4 (by decide) mw_468 rfl rfl dX2_length_86 ?_
            refine lv_iload_n X.1 X.2.1 dX2_length_89 rfl (lv_at hl 3 rfl) ?_
            refine f_lald X (hP.at 2 rfl) hk (by decide) dX2_length_90 ?_
            refine w_l (v' := lN (nu (q k))) (by rw [(eR).1]) ?_
            refine lv_lmul X.1 X.2.1 dX2_length_91 ?_
            refine w_l (lN_mul _ _) ?_
            refine lv_lstore (lv' := [(8, .long (lN (((raf x1 y1 q k t).den) * (nu (q k))))), (6, .long (lN (((nu (raf x1 y1 q k t)) * (nu (raf x1 y1 q k t))) * ((((q k).den) * ((q k).den)) + ((nu (q k)) * (nu (q k))))))), (5, .int (nI (enp x1 y1 q k t 4))), (0, .ref mo), (1, .int (nI k)), (2, .long (lN t)), (4, .int (nI pj))]) X.1 X.2.1 dX2_length_92 hl (by decide) rfl (fun ls hl => ?_)
            refine lv_lconst (v := lN 0) X.1 X.2.1 dX2_length_94 (by decide) ?_
            refine lv_lstore (lv' := [(10, .long (lN 0)), (8, .long (lN (((raf x1 y1 q k t).den) * (nu (q k))))), (6, .long (lN (((nu (raf x1 y1 q k t)) * (nu (raf x1 y1 q k t))) * ((((q k).den) * ((q k).den)) + ((nu (q k)) * (nu (q k))))))), (5, .int (nI (enp x1 y1 q k t 4))), (0, .ref mo), (1, .int (nI k)), (2, .long (lN t)), (4, .int (nI pj))]) X.1 X.2.1 dX2_length_95 hl (by decide) rfl (fun ls hl => ?_)
            refine lv_bipush (v := nI 22) X.1 X.2.1 dX2_length_97 (by decide) ?_
            refine lv_istore (lv' := [(12, .int (nI 22)), (10, .long (lN 0)), (8, .long (lN (((raf x1 y1 q k t).den) * (nu (q k))))), (6, .long (lN (((nu (raf x1 y1 q k t)) * (nu (raf x1 y1 q k t))) * ((((q k).den) * ((q k).den)) + ((nu (q k)) * (nu (q k))))))), (5, .int (nI (enp x1 y1 q k t 4))), (0, .ref mo), (1, .int (nI k)), (2, .long (lN t)), (4, .int (nI pj))]) X.1 X.2.1 dX2_length_99 hl (by decide) rfl (fun ls hl => ?_)
            have hini := len_b hz2 bk.2.2 (nu_pos pq) (dn_pos (raf x1 y1 q k t))
            have hSS := sq_mk pq bz.1
            have hd0 : 0 < (raf x1 y1 q k t).den * nu (q k) := Nat.mul_pos (dn_pos _) (nu_pos pq)
            have hdb : (raf x1 y1 q k t).den * nu (q k) ≤ 16000 * 20 := Nat.mul_le_mul bz.2.2 bk.2.1
            have hq1 : (q k).den * (q k).den ≤ 20 * 20 := Nat.mul_le_mul bk.2.2 bk.2.2
            have hq2 : nu (q k) * nu (q k) ≤ 20 * 20 := Nat.mul_le_mul bk.2.1 bk.2.1
            have hNb : nu (raf x1 y1 q k t) * nu (raf x1 y1 q k t) * ((q k).den * (q k).den + nu (q k) * nu (q k)) ≤ 16000000 * 16000000 * 800 := Nat.mul_le_mul (Nat.mul_le_mul bz.2.1 bz.2.1) (by omega)
            have hFb := nu_fr_le (N := nu (raf x1 y1 q k t) * nu (raf x1 y1 q k t) * ((q k).den * (q k).den + nu (q k) * nu (q k))) (Nat.mul_pos hd0 hd0)
            rw [← hSS] at hFb
            generalize ((nu (raf x1 y1 q k t)) * (nu (raf x1 y1 q k t))) * ((((q k).den) * ((q k).den)) + ((nu (q k)) * (nu (q k)))) = N9 at hl hini hSS hNb hFb
            generalize ((raf x1 y1 q k t).den) * (nu (q k)) = d9 at hl hini hSS hd0 hdb
            have hdb : d9 ≤ 400000000 := by omega
            have loop : ∀ (b0 c9 v9 : Nat), v9 = c9 * 2 ^ b0 → v9 + 2 ^ b0 ≤ 2 ^ 23 → v9 * d9 * v9 * d9 ≤ N9 → N9 < (v9 + 2 ^ b0) * d9 * (v9 + 2 ^ b0) * d9 → b0 ≤ 23 → ∀ (ls : Array Slot), lv_has ls 15 [(12, .int (bt b0)), (10, .long (lN v9)), (8, .long (lN d9)), (6, .long (lN N9)), (0, .ref mo), (1, .int (nI k)), (4, .int (nI pj))] → W p l e { frames := 3, cells := 0, slots := 0, locals := 88 } s m ([.ref mo, .int (nI k), .long (lN t), .int (nI pj)] : List Value).toArray below meth c H8 locs 0 0 (MQ below (fQ (fun q => q = mo) (fun v H => mP g mo ua oa ga (mk3 2 3 (inI (nI k) 4 && inI (nI pj) 2) (!gab q (toN (nI k))) (inL (lN t) 0 (slen x1 y1 (toN (nI k))))) x1 y1 U O q H ∧ rJ (inI (nI k) 4 && inI (nI pj) 2) (!gab q (toN (nI k))) (inL (lN t) 0 (slen x1 y1 (toN (nI k)))) (lenv (sqr q (toN (nI k)) (raf x1 y1 q (toN (nI k)) (toL (lN t)))) (toN (nI pj))) v)) ([.ref mo, .int (nI k), .long (lN t), .int (nI pj)] : List Value).toArray s 0 0 (fun q => (fun q => q = mo) q ∨ s.heap.size ≤ q)) (F0 m 101 ls []) := by
              intro b0
              induction b0 with
              | zero =>
                intro c9 v9 hv hb h1 h2 hb0 ls hl
                rw [Nat.pow_zero] at h2
                refine lv_iload X.1 X.2.1 dX2_length_101 (lv_at hl 0 rfl) ?_
                refine lv_if_lt (tgt := 159) X.1 X.2.1 dX2_length_103 (by decide) (fun hB301 => ?_) (fun hB301 => ?_)
                ·
                  obtain ⟨hf1, hf2⟩ := isq_fin hd0 hSS (by omega) h1 h2
                  refine lv_iload X.1 X.2.1 dX2_length_159 (lv_at hl 6 rfl) ?_
                  refine q_Zeq X (by omega) (tgt := 181) dX2_length_161 (by decide) (fun hB302 => ?_) (fun hB302 => ?_)
                  ·
                    refine lv_lload X.1 X.2.1 dX2_length_181 (lv_at hl 1 rfl) ?_
                    refine lv_goto (tgt := 190) X.1 X.2.1 dX2_length_183 (by decide) ?_
                    exact f_lret X hX hlo (⟨⟨_, _, _, by simp [mk3, hj, epj, hi, ek, hg, hr], hP⟩, _, rfl, fun _ _ _ => by simp only [ek, eT, epj]; rw [lenv, hf1, if_pos (Or.inl hB302)]⟩) ⟨by decide, by decide⟩ dX2_length_190
                  ·
                    refine lv_lload X.1 X.2.1 dX2_length_164 (lv_at hl 1 rfl) ?_
                    refine lv_lload X.1 X.2.1 dX2_length_166 (lv_at hl 2 rfl) ?_
                    refine lv_lmul X.1 X.2.1 dX2_length_168 ?_
                    refine w_l (lN_mul _ _) ?_
                    refine lv_lload X.1 X.2.1 dX2_length_169 (lv_at hl 1 rfl) ?_
                    refine lv_lmul X.1 X.2.1 dX2_length_171 ?_
                    refine w_l (lN_mul _ _) ?_
                    refine lv_lload X.1 X.2.1 dX2_length_172 (lv_at hl 2 rfl) ?_
                    refine lv_lmul X.1 X.2.1 dX2_length_174 ?_
                    refine w_l (lN_mul _ _) ?_
                    refine lv_lload X.1 X.2.1 dX2_length_175 (lv_at hl 3 rfl) ?_
                    refine q_Nne X (by omega) (by omega) (tgt := 186) dX2_length_177 dX2_length_178 (by decide) (fun hB303 => ?_) (fun hB303 => ?_)
                    ·
                      refine lv_lload X.1 X.2.1 dX2_length_186 (lv_at hl 1 rfl) ?_
                      refine lv_lconst (v := lN 1) X.1 X.2.1 dX2_length_188 (by decide) ?_
                      refine lv_ladd X.1 X.2.1 dX2_length_189 ?_
                      refine w_l (lN_add _ _) ?_
                      exact f_lret X hX hlo (⟨⟨_, _, _, by simp [mk3, hj, epj, hi, ek, hg, hr], hP⟩, _, rfl, fun _ _ _ => by simp only [ek, eT, epj]; rw [lenv, hf1, if_neg (fun h9 => h9.elim hB302 (fun h8 => hB303 (hf2.mp h8)))]⟩) ⟨by decide, by decide⟩ dX2_length_190
                    ·
                      refine lv_lload X.1 X.2.1 dX2_length_181 (lv_at hl 1 rfl) ?_
                      refine lv_goto (tgt := 190) X.1 X.2.1 dX2_length_183 (by decide) ?_
                      exact f_lret X hX hlo (⟨⟨_, _, _, by simp [mk3, hj, epj, hi, ek, hg, hr], hP⟩, _, rfl, fun _ _ _ => by simp only [ek, eT, epj]; rw [lenv, hf1, if_pos (Or.inr (hf2.mpr hB303))]⟩) ⟨by decide, by decide⟩ dX2_length_190
                ·
                  exact absurd (show bt 0 < 0 by decide) hB301
              | succ b0 ih =>
                intro c9 v9 hv hb h1 h2 hb0 ls hl
                have hp : 2 ^ (b0 + 1) = 2 ^ b0 + 2 ^ b0 := by rw [Nat.pow_succ]; omega
                have hp0 : 0 < 2 ^ b0 := Nat.two_pow_pos b0
                have hmd : (v9 + 2 ^ b0) * d9 ≤ 2 ^ 23 * 400000000 := Nat.mul_le_mul (by omega) hdb
                have hv0 : v9 = 2 * c9 * 2 ^ b0 := by rw [hv, hp, ← Nat.two_mul, ← Nat.mul_assoc, Nat.mul_comm c9 2]
                have hv1 : v9 + 2 ^ b0 = (2 * c9 + 1) * 2 ^ b0 := by rw [Nat.add_mul, ← hv0, Nat.one_mul]
                have e9 : v9 + 2 ^ (b0 + 1) = v9 + 2 ^ b0 + 2 ^ b0 := by omega
                have hl : lv_has ls 15 [(12, .int (nI b0)), (10, .long (lN v9)), (8, .long (lN d9)), (6, .long (lN N9)), (0, .ref mo), (1, .int (nI k)), (4, .int (nI pj))] := hl
                refine lv_iload X.1 X.2.1 dX2_length_101 (lv_at hl 0 rfl) ?_
                refine lv_if_lt (tgt := 159) X.1 X.2.1 dX2_length_103 (by decide) (fun hB301 => ?_) (fun hB301 => ?_)
                ·
                  exact absurd hB301 (nI_pos (by omega))
                ·
                  refine lv_lload X.1 X.2.1 dX2_length_106 (lv_at hl 1 rfl) ?_
                  refine lv_lconst (v := lN 1) X.1 X.2.1 dX2_length_108 (by decide) ?_
                  refine lv_iload X.1 X.2.1 dX2_length_109 (lv_at hl 0 rfl) ?_
                  refine lv_lshl (v := lN (1 * 2 ^ b0)) X.1 X.2.1 dX2_length_111 (wb_shl 1 (by omega)) ?_
                  refine w_l (v' := lN (2 ^ b0)) (by rw [Nat.one_mul]) ?_
                  refine lv_lor X.1 X.2.1 dX2_length_112 ?_
                  refine w_l (v' := lN (v9 + 2 ^ b0)) (ba_or hv (by omega)) ?_
                  refine lv_lstore (lv' := [(13, .long (lN (v9 + 2 ^ b0))), (12, .int (nI b0)), (10, .long (lN v9)), (8, .long (lN d9)), (6, .long (lN N9)), (0, .ref mo), (1, .int (nI k)), (4, .int (nI pj))]) X.1 X.2.1 dX2_length_113 hl (by decide) rfl (fun ls hl => ?_)
                  refine lv_lload X.1 X.2.1 dX2_length_115 (lv_at hl 0 rfl) ?_
                  refine lv_lload X.1 X.2.1 dX2_length_117 (lv_at hl 3 rfl) ?_
                  refine lv_lmul X.1 X.2.1 dX2_length_119 ?_
                  refine w_l (lN_mul _ _) ?_
                  refine lv_ldc2 (v := 3000000000) X.1 X.2.1 X.2.2.2.1 (X.2.2.2.2.1 _ (List.mem_cons_of_mem _ mw_581)) dX2_length_120 ?_
                  refine w_l (v' := lN 3000000000) (by decide) ?_
                  refine q_Ngt X (by omega) (by omega) (tgt := 149) dX2_length_123 dX2_length_124 (by decide) (fun hB302 => ?_) (fun hB302 => ?_)
                  ·
                    have hbg : 3000000001 * 3000000001 ≤ (v9 + 2 ^ b0) * d9 * ((v9 + 2 ^ b0) * d9) := Nat.mul_le_mul (by omega) (by omega)
                    rw [← Nat.mul_assoc] at hbg
                    refine lv_lload X.1 X.2.1 dX2_length_149 (lv_at hl 2 rfl) ?_
                    refine lv_lstore (lv' := [(10, .long (lN v9)), (13, .long (lN (v9 + 2 ^ b0))), (12, .int (nI b0)), (8, .long (lN d9)), (6, .long (lN N9)), (0, .ref mo), (1, .int (nI k)), (4, .int (nI pj))]) X.1 X.2.1 dX2_length_151 hl (by decide) rfl (fun ls hl => ?_)
                    refine lv_iinc (v := bt b0) (lv' := [(12, .int (bt b0)), (10, .long (lN v9)), (13, .long (lN (v9 + 2 ^ b0))), (8, .long (lN d9)), (6, .long (lN N9)), (0, .ref mo), (1, .int (nI k)), (4, .int (nI pj))]) X.1 X.2.1 dX2_length_153 hl (k := 2) rfl (bt_dec b0) (by decide) rfl (fun ls hl => ?_)
                    refine lv_goto (tgt := 101) X.1 X.2.1 dX2_length_156 (by decide) ?_
                    exact ih _ _ hv0 (by omega) h1 (by omega) (by omega) ls (lv_sub hl [0, 1, 3, 4, 5, 6, 7] rfl)
                  ·
                    have hsm : (v9 + 2 ^ b0) * d9 * ((v9 + 2 ^ b0) * d9) ≤ 3000000000 * 3000000000 := Nat.mul_le_mul (by omega) (by omega)
                    rw [← Nat.mul_assoc] at hsm
                    refine lv_lload X.1 X.2.1 dX2_length_127 (lv_at hl 0 rfl) ?_
                    refine lv_lload X.1 X.2.1 dX2_length_129 (lv_at hl 3 rfl) ?_
                    refine lv_lmul X.1 X.2.1 dX2_length_131 ?_
                    refine w_l (lN_mul _ _) ?_
                    refine lv_lload X.1 X.2.1 dX2_length_132 (lv_at hl 0 rfl) ?_
                    refine lv_lmul X.1 X.2.1 dX2_length_134 ?_
                    refine w_l (lN_mul _ _) ?_
                    refine lv_lload X.1 X.2.1 dX2_length_135 (lv_at hl 3 rfl) ?_
                    refine lv_lmul X.1 X.2.1 dX2_length_137 ?_
                    refine w_l (lN_mul _ _) ?_
                    refine lv_lload X.1 X.2.1 dX2_length_138 (lv_at hl 4 rfl) ?_
                    refine q_Ngt X (by omega) (by omega) (tgt := 149) dX2_length_140 dX2_length_141 (by decide) (fun hB303 => ?_) (fun hB303 => ?_)
                    ·
                      refine lv_lload X.1 X.2.1 dX2_length_149 (lv_at hl 2 rfl) ?_
                      refine lv_lstore (lv' := [(10, .long (lN v9)), (13, .long (lN (v9 + 2 ^ b0))), (12, .int (nI b0)), (8, .long (lN d9)), (6, .long (lN N9)), (0, .ref mo), (1, .int (nI k)), (4, .int (nI pj))]) X.1 X.2.1 dX2_length_151 hl (by decide) rfl (fun ls hl => ?_)
                      refine lv_iinc (v := bt b0) (lv' := [(12, .int (bt b0)), (10, .long (lN v9)), (13, .long (lN (v9 + 2 ^ b0))), (8, .long (lN d9)), (6, .long (lN N9)), (0, .ref mo), (1, .int (nI k)), (4, .int (nI pj))]) X.1 X.2.1 dX2_length_153 hl (k := 2) rfl (bt_dec b0) (by decide) rfl (fun ls hl => ?_)
                      refine lv_goto (tgt := 101) X.1 X.2.1 dX2_length_156 (by decide) ?_
                      exact ih _ _ hv0 (by omega) h1 (by omega) (by omega) ls (lv_sub hl [0, 1, 3, 4, 5, 6, 7] rfl)
                    ·
                      refine lv_lload X.1 X.2.1 dX2_length_144 (lv_at hl 0 rfl) ?_
                      refine lv_goto (tgt := 151) X.1 X.2.1 dX2_length_146 (by decide) ?_
                      refine lv_lstore (lv' := [(10, .long (lN (v9 + 2 ^ b0))), (13, .long (lN (v9 + 2 ^ b0))), (12, .int (nI b0)), (8, .long (lN d9)), (6, .long (lN N9)), (0, .ref mo), (1, .int (nI k)), (4, .int (nI pj))]) X.1 X.2.1 dX2_length_151 hl (by decide) rfl (fun ls hl => ?_)
                      refine lv_iinc (v := bt b0) (lv' := [(12, .int (bt b0)), (10, .long (lN (v9 + 2 ^ b0))), (13, .long (lN (v9 + 2 ^ b0))), (8, .long (lN d9)), (6, .long (lN N9)), (0, .ref mo), (1, .int (nI k)), (4, .int (nI pj))]) X.1 X.2.1 dX2_length_153 hl (k := 2) rfl (bt_dec b0) (by decide) rfl (fun ls hl => ?_)
                      refine lv_goto (tgt := 101) X.1 X.2.1 dX2_length_156 (by decide) ?_
                      exact ih _ _ hv1 (by omega) (by omega) (by rw [← e9]; exact h2) (by omega) ls (lv_sub hl [0, 1, 3, 4, 5, 6, 7] rfl)
            exact loop 23 0 0 (Nat.zero_mul _).symm (by decide) (by simp) hini (Nat.le_refl _) ls (lv_sub hl [0, 1, 2, 3, 5, 6, 8] rfl)
          ·
            have hr : inL v0 0 (slen x1 y1 k) = false := gabF hr
            refine w_i (v' := nI 3) (by simp [mk3, hi, ek, hg, hr]) ?_
            refine f_put (F := fun q => q = mo) (T := TX2) (N := 8) (ci := 2) X tyX2 tyX2_ok nmX2 uX2 (hP.at 0 rfl) rfl 0 (by decide) mw_464 rfl rfl (v := .int (nI 3)) (ty := .int) (by decide +kernel) rfl rfl (Nat.le_of_ble_eq_true rfl) (Or.inl rfl) hlo dX2_length_22 (fun H10 locs hpa hlo hat => ?_)
            have hX := hX.tra (rfl) hpa
            have hP := PP.cons hat (PP.exa (hP.sub [1, 2, 3] rfl : PP g [mla g ua U, mla g oa O, mza g ga q] _) hpa (fun z hz => by simp only [List.mem_cons, List.not_mem_nil, or_false] at hz; rcases hz with rfl | rfl | rfl <;> first | exact hM.1 | exact hM.2.1 | exact hM.2.2.1))
            have hP : PP g [(mo, .inr (2, [.int (nI 3), .long (lN x1), .long (lN y1), .ref ua, .ref oa, .ref ga, .long ab, .long be])), mla g ua U, mla g oa O, mza g ga q] H10 := hP
            refine lv_aload_n X.1 X.2.1 dX2_length_25 rfl (lv_at hl 0 rfl) ?_
            refine p_get (T := TX2) X uX2 (hP.at 0 rfl) rfl 0 (by decide) mw_464 rfl rfl dX2_length_26 ?_
            refine lv_if_le (tgt := 34) X.1 X.2.1 dX2_length_29 (by decide) (fun h9 => absurd h9 (by decide)) (fun _ => ?_)
            refine lv_lconst (v := lN 0) X.1 X.2.1 dX2_length_32 (by decide) ?_
            exact f_lret X hX hlo (⟨⟨_, _, _, by simp [mk3, hj, epj, hi, ek, hg, hr], hP⟩, _, rfl, fun h1 h2 h3 => by simp [hj, epj, hi, ek, hg, hr] at h3⟩) ⟨by decide, by decide⟩ dX2_length_33
      ·
        have hi : inI i 4 = false := gabF hi
        refine w_i (v' := nI 1) (by simp [mk3, hi]) ?_
        refine f_put (F := fun q => q = mo) (T := TX2) (N := 8) (ci := 2) X tyX2 tyX2_ok nmX2 uX2 (hP.at 0 rfl) rfl 0 (by decide) mw_464 rfl rfl (v := .int (nI 1)) (ty := .int) (by decide +kernel) rfl rfl (Nat.le_of_ble_eq_true rfl) (Or.inl rfl) hlo dX2_length_22 (fun H11 locs hpa hlo hat => ?_)
        have hX := hX.tra (rfl) hpa
        have hP := PP.cons hat (PP.exa (hP.sub [1, 2, 3] rfl : PP g [mla g ua U, mla g oa O, mza g ga q] _) hpa (fun z hz => by simp only [List.mem_cons, List.not_mem_nil, or_false] at hz; rcases hz with rfl | rfl | rfl <;> first | exact hM.1 | exact hM.2.1 | exact hM.2.2.1))
        have hP : PP g [(mo, .inr (2, [.int (nI 1), .long (lN x1), .long (lN y1), .ref ua, .ref oa, .ref ga, .long ab, .long be])), mla g ua U, mla g oa O, mza g ga q] H11 := hP
        refine lv_aload_n X.1 X.2.1 dX2_length_25 rfl (lv_at hl 0 rfl) ?_
        refine p_get (T := TX2) X uX2 (hP.at 0 rfl) rfl 0 (by decide) mw_464 rfl rfl dX2_length_26 ?_
        refine lv_if_le (tgt := 34) X.1 X.2.1 dX2_length_29 (by decide) (fun h9 => absurd h9 (by decide)) (fun _ => ?_)
        refine lv_lconst (v := lN 0) X.1 X.2.1 dX2_length_32 (by decide) ?_
        exact f_lret X hX hlo (⟨⟨_, _, _, by simp [mk3, hj, epj, hi], hP⟩, _, rfl, fun h1 h2 h3 => by simp [hj, epj, hi] at h1⟩) ⟨by decide, by decide⟩ dX2_length_33
    ·
      have hj : inI j 2 = false := inI_hi3 (n := 1) (by decide) hB3
      refine lv_iconst (v := nI 1) X.1 X.2.1 dX2_length_12 (by decide) ?_
      refine lv_goto (tgt := 22) X.1 X.2.1 dX2_length_13 (by decide) ?_
      refine f_put (F := fun q => q = mo) (T := TX2) (N := 8) (ci := 2) X tyX2 tyX2_ok nmX2 uX2 (hP.at 0 rfl) rfl 0 (by decide) mw_464 rfl rfl (v := .int (nI 1)) (ty := .int) (by decide +kernel) rfl rfl (Nat.le_of_ble_eq_true rfl) (Or.inl rfl) hlo dX2_length_22 (fun H12 locs hpa hlo hat => ?_)
      have hX := hX.tra (rfl) hpa
      have hP := PP.cons hat (PP.exa (hP.sub [1, 2, 3] rfl : PP g [mla g ua U, mla g oa O, mza g ga q] _) hpa (fun z hz => by simp only [List.mem_cons, List.not_mem_nil, or_false] at hz; rcases hz with rfl | rfl | rfl <;> first | exact hM.1 | exact hM.2.1 | exact hM.2.2.1))
      have hP : PP g [(mo, .inr (2, [.int (nI 1), .long (lN x1), .long (lN y1), .ref ua, .ref oa, .ref ga, .long ab, .long be])), mla g ua U, mla g oa O, mza g ga q] H12 := hP
      refine lv_aload_n X.1 X.2.1 dX2_length_25 rfl (lv_at hl 0 rfl) ?_
      refine p_get (T := TX2) X uX2 (hP.at 0 rfl) rfl 0 (by decide) mw_464 rfl rfl dX2_length_26 ?_
      refine lv_if_le (tgt := 34) X.1 X.2.1 dX2_length_29 (by decide) (fun h9 => absurd h9 (by decide)) (fun _ => ?_)
      refine lv_lconst (v := lN 0) X.1 X.2.1 dX2_length_32 (by decide) ?_
      exact f_lret X hX hlo (⟨⟨_, _, _, by simp [mk3, hj], hP⟩, _, rfl, fun h1 h2 h3 => by simp [hj] at h1⟩) ⟨by decide, by decide⟩ dX2_length_33
set_option maxHeartbeats 4000000 in
set_option maxRecDepth 100000 in
theorem c_X2_batten (l : Launch) (g : En) (mo ua oa ga : Nat) (cd : Int32) (ab be : Int64) (x1 y1 : Nat) (U O : Nat → Nat) (q : Nat → Rat) (i : Int32) (v0 : Int64) (hO : OK x1 y1 q) (hR : MR q U O) (hM : MD mo ua oa ga) : FM l yX2_batten cX2_batten 14 (some FieldType.int) { frames := 3, cells := 0, slots := 0, locals := 80 } g [.ref mo, .int i, .long v0] (fun H => MO g mo ua oa ga cd ab be x1 y1 U O q H) (fun q => q = mo) 0 0 (fun v H => mP g mo ua oa ga (mk3 2 3 (inI i 4) (!gab q (toN i)) (inL v0 1 10000)) x1 y1 U O q H ∧ rN (inI i 4) (!gab q (toN i)) (inL v0 1 10000) (isq (nu (sqr q (toN i) (pk x1 y1 q * q (toN i))) / (sqr q (toN i) (pk x1 y1 q * q (toN i))).den) / toL v0) v) := by
  refine FM.of (by decide) (Nat.le_of_ble_eq_true rfl) (fun p e s m below meth c ls X hP hl => ?_)
  have hl : lv_has ls 14 [(0, .ref mo), (1, .int i), (2, .long v0)] := hl
  have hX : hxf (fun q => q = mo) s.heap s.heap := hxf.rf
  have hlo : lok (fun q => q = mo) s.heap.size ([] : List Loc) := lok.nil
  have hP : PP g [(mo, .inr (2, [.int cd, .long (lN x1), .long (lN y1), .ref ua, .ref oa, .ref ga, .long ab, .long be])), mla g ua U, mla g oa O, mza g ga q] s.heap := hP
  refine lv_aload_n X.1 X.2.1 dX2_batten_0 rfl (lv_at hl 0 rfl) ?_
  refine lv_aload_n X.1 X.2.1 dX2_batten_1 rfl (lv_at hl 0 rfl) ?_
  refine lv_iload_n X.1 X.2.1 dX2_batten_2 rfl (lv_at hl 1 rfl) ?_
  refine p_callV (C := RX2) (b := mo) (As := [.int i]) (rest := [.ref mo]) X (c_X2_sideCode l g mo ua oa ga cd ab be x1 y1 U O q i) ⟨mw_544, mw_546, mw_27, mw_40, mw_547⟩ sgX2_sideCode ⟨rfl, rfl, ⟨by decide, by decide⟩, by decide, by decide⟩ (hP.at 0 rfl) rfl rfl (hP.sub [0, 1, 2, 3] rfl) hX.1 rfl hl.1 rfl (Nat.le_of_ble_eq_true rfl) dX2_batten_3 (fun v H1 hk2 hp => ?_)
  obtain rfl := hp
  have hX := hX.tr hk2
  have hP := PP.ext hP hk2
  refine W.eq (g2 := F0 m 6 ls [.int (nI (if inI i 4 then (if gab q (toN i) then 2 else 0) else 1)), .ref mo]) rfl ?_
  by_cases hi : inI i 4 = true
  ·
    obtain ⟨k, hk, rfl⟩ := inI_of hi (by decide)
    have ek : toN (nI k) = k := toN_k (by omega)
    by_cases hg : gab q k = true
    ·
      refine w_i (v' := nI 2) (by simp [mk3, hi, ek, hg]) ?_
      refine f_put (F := fun q => q = mo) (T := TX2) (N := 8) (ci := 2) X tyX2 tyX2_ok nmX2 uX2 (hP.at 0 rfl) rfl 0 (by decide) mw_464 rfl rfl (v := .int (nI 2)) (ty := .int) (by decide +kernel) rfl rfl (Nat.le_of_ble_eq_true rfl) (Or.inl rfl) hlo dX2_batten_6 (fun H3 locs hpa hlo hat => ?_)
      have hX := hX.tra (rfl) hpa
      have hP := PP.cons hat (PP.exa (hP.sub [1, 2, 3] rfl : PP g [mla g ua U, mla g oa O, mza g ga q] _) hpa (fun z hz => by simp only [List.mem_cons, List.not_mem_nil, or_false] at hz; rcases hz with rfl | rfl | rfl <;> first | exact hM.1 | exact hM.2.1 | exact hM.2.2.1))
      have hP : PP g [(mo, .inr (2, [.int (nI 2), .long (lN x1), .long (lN y1), .ref ua, .ref oa, .ref ga, .long ab, .long be])), mla g ua U, mla g oa O, mza g ga q] H3 := hP
      refine lv_aload_n X.1 X.2.1 dX2_batten_9 rfl (lv_at hl 0 rfl) ?_
      refine p_get (T := TX2) X uX2 (hP.at 0 rfl) rfl 0 (by decide) mw_464 rfl rfl dX2_batten_10 ?_
      refine lv_if_le (tgt := 18) X.1 X.2.1 dX2_batten_13 (by decide) (fun h9 => absurd h9 (by decide)) (fun _ => ?_)
      refine lv_iconst (v := nI 0) X.1 X.2.1 dX2_batten_16 (by decide) ?_
      exact f_iret X hX hlo (⟨⟨_, _, _, by simp [mk3, hi, ek, hg], hP⟩, _, rfl, fun h1 h2 h3 => by simp [hi, ek, hg] at h2⟩) ⟨by decide, by decide⟩ dX2_batten_17
    ·
      have hg : gab q k = false := gabF hg
      refine w_i (v' := nI 0) (by simp [mk3, hi, ek, hg]) ?_
      have bk := hO.2.2.1 k hk
      have pq := gab_pos bk hg
      have eR := hR k hk hg
      have bz := bd_pk hO
      have hz2 := pk_nat hO hk
      refine f_put (F := fun q => q = mo) (T := TX2) (N := 8) (ci := 2) X tyX2 tyX2_ok nmX2 uX2 (hP.at 0 rfl) rfl 0 (by decide) mw_464 rfl rfl (v := .int (nI 0)) (ty := .int) (by decide +kernel) rfl rfl (Nat.le_of_ble_eq_true rfl) (Or.inl rfl) hlo dX2_batten_6 (fun H4 locs hpa hlo hat => ?_)
      have hX := hX.tra (rfl) hpa
      have hP := PP.cons hat (PP.exa (hP.sub [1, 2, 3] rfl : PP g [mla g ua U, mla g oa O, mza g ga q] _) hpa (fun z hz => by simp only [List.mem_cons, List.not_mem_nil, or_false] at hz; rcases hz with rfl | rfl | rfl <;> first | exact hM.1 | exact hM.2.1 | exact hM.2.2.1))
      have hP : PP g [(mo, .inr (2, [.int (nI 0), .long (lN x1), .long (lN y1), .ref ua, .ref oa, .ref ga, .long ab, .long be])), mla g ua U, mla g oa O, mza g ga q] H4 := hP
      refine lv_aload_n X.1 X.2.1 dX2_batten_9 rfl (lv_at hl 0 rfl) ?_
      refine p_get (T := TX2) X uX2 (hP.at 0 rfl) rfl 0 (by decide) mw_464 rfl rfl dX2_batten_10 ?_
      refine lv_if_le (tgt := 18) X.1 X.2.1 dX2_batten_13 (by decide) (fun _ => ?_) (fun h9 => absurd (by decide) h9)
      refine lv_aload_n X.1 X.2.1 dX2_batten_18 rfl (lv_at hl 0 rfl) ?_
      refine lv_lload_n X.1 X.2.1 dX2_batten_19 rfl (lv_at hl 2 rfl) ?_
      refine lv_lconst (v := lN 1) X.1 X.2.1 dX2_batten_20 (by decide) ?_
      refine lv_ldc2 (v := 10000) X.1 X.2.1 X.2.2.2.1 (X.2.2.2.2.1 _ (List.mem_cons_of_mem _ mw_548)) dX2_batten_21 ?_
      refine w_l (v' := lN 10000) (by decide) ?_
      refine p_callS (As := [.long v0, .long (lN 1), .long (lN 10000)]) (rest := [.ref mo]) X (c_X2_isIn l g v0 1 10000 (by decide) (by decide)) ⟨mw_500, mw_501, mw_40, mw_502⟩ sgX2_isIn ⟨rfl, rfl, ⟨by decide, by decide⟩, by decide, by decide⟩ (trivial) hX.1 rfl hl.1 rfl (Nat.le_of_ble_eq_true rfl) dX2_batten_24 (fun v H5 hk6 hp => ?_)
      obtain rfl := hp
      have hX := hX.tr hk6
      have hP := PP.ext hP hk6
      refine W.eq (g2 := F0 m 27 ls [.int (bI (inL v0 1 10000)), .ref mo]) rfl ?_
      refine q_Beq X (tgt := 34) dX2_batten_27 (by decide) (fun hB7 => ?_) (fun hB7 => ?_)
      ·
        refine lv_iconst (v := nI 3) X.1 X.2.1 dX2_batten_34 (by decide) ?_
        refine f_put (F := fun q => q = mo) (T := TX2) (N := 8) (ci := 2) X tyX2 tyX2_ok nmX2 uX2 (hP.at 0 rfl) rfl 0 (by decide) mw_464 rfl rfl (v := .int (nI 3)) (ty := .int) (by decide +kernel) rfl rfl (Nat.le_of_ble_eq_true rfl) (Or.inl rfl) hlo dX2_batten_35 (fun H8 locs hpa hlo hat => ?_)
        have hX := hX.tra (rfl) hpa
        have hP := PP.cons hat (PP.exa (hP.sub [1, 2, 3] rfl : PP g [mla g ua U, mla g oa O, mza g ga q] _) hpa (fun z hz => by simp only [List.mem_cons, List.not_mem_nil, or_false] at hz; rcases hz with rfl | rfl | rfl <;> first | exact hM.1 | exact hM.2.1 | exact hM.2.2.1))
        have hP : PP g [(mo, .inr (2, [.int (nI 3), .long (lN x1), .long (lN y1), .ref ua, .ref oa, .ref ga, .long ab, .long be])), mla g ua U, mla g oa O, mza g ga q] H8 := hP
        refine lv_aload_n X.1 X.2.1 dX2_batten_38 rfl (lv_at hl 0 rfl) ?_
        refine p_get (T := TX2) X uX2 (hP.at 0 rfl) rfl 0 (by decide) mw_464 rfl rfl dX2_batten_39 ?_
        refine lv_if_le (tgt := 47) X.1 X.2.1 dX2_batten_42 (by decide) (fun h9 => absurd h9 (by decide)) (fun _ => ?_)
        refine lv_iconst (v := nI 0) X.1 X.2.1 dX2_batten_45 (by decide) ?_
        exact f_iret X hX hlo (⟨⟨_, _, _, by simp [mk3, hi, ek, hg, hB7], hP⟩, _, rfl, fun h1 h2 h3 => by simp [hi, ek, hg, hB7] at h3⟩) ⟨by decide, by decide⟩ dX2_batten_46
      ·
        have hr : inL v0 1 10000 = true := hB7
        obtain ⟨t, ht0, ht, rfl⟩ := inL_of hr (by decide)
        have eT : toL (lN t) = t := toL_k (by omega)
        refine lv_iconst (v := nI 0) X.1 X.2.1 dX2_batten_30 (by decide) ?_
        refine lv_goto (tgt := 35) X.1 X.2.1 dX2_batten_31 (by decide) ?_
        refine f_put (F := fun q => q = mo) (T := TX2) (N := 8) (ci := 2) X tyX2 tyX2_ok nmX2 uX2 (hP.at 0 rfl) rfl 0 (by decide) mw_464 rfl rfl (v := .int (nI 0)) (ty := .int) (by decide +kernel) rfl rfl (Nat.le_of_ble_eq_true rfl) (Or.inl rfl) hlo dX2_batten_35 (fun H9 locs hpa hlo hat => ?_)
        have hX := hX.tra (rfl) hpa
        have hP := PP.cons hat (PP.exa (hP.sub [1, 2, 3] rfl : PP g [mla g ua U, mla g oa O, mza g ga q] _) hpa (fun z hz => by simp only [List.mem_cons, List.not_mem_nil, or_false] at hz; rcases hz with rfl | rfl | rfl <;> first | exact hM.1 | exact hM.2.1 | exact hM.2.2.1))
        have hP : PP g [(mo, .inr (2, [.int (nI 0), .long (lN x1), .long (lN y1), .ref ua, .ref oa, .ref ga, .long ab, .long be])), mla g ua U, mla g oa O, mza g ga q] H9 := hP
        refine lv_aload_n X.1 X.2.1 dX2_batten_38 rfl (lv_at hl 0 rfl) ?_
        refine p_get (T := TX2) X uX2 (hP.at 0 rfl) rfl 0 (by decide) mw_464 rfl rfl dX2_batten_39 ?_
        refine lv_if_le (tgt := 47) X.1 X.2.1 dX2_batten_42 (by decide) (fun _ => ?_) (fun h9 => absurd (by decide) h9)
        refine lv_aload_n X.1 X.2.1 dX2_batten_47 rfl (lv_at hl 0 rfl) ?_
        refine f_callV (F := fun q => q = mo) (C := RX2) (b := mo) (As := []) (rest := []) X (c_X2_makePeak l g mo ua oa ga _ _ _ x1 y1 U O q hO hR hM) ⟨mw_594, mw_596, mw_33, mw_40, mw_597⟩ sgX2_makePeak ⟨rfl, rfl, ⟨by decide, by decide⟩, by decide, by decide⟩ (hP.at 0 rfl) rfl rfl (hP) hX.1 (fun q h => h) hlo rfl hl.1 rfl (Nat.le_of_ble_eq_true rfl) dX2_batten_48 (fun v H10 locs hk11 hlo hp => ?_)
        obtain ⟨rfl, hP⟩ := hp
        have hX := hX.trf (fun q h => h) hk11
        refine W.eq (g2 := F0 m 51 ls []) rfl ?_
        refine lv_aload_n X.1 X.2.1 dX2_batten_51 rfl (lv_at hl 0 rfl) ?_
        refine p_get (T := TX2) X uX2 (hP.at 0 rfl) rfl 6 (by decide) mw_470 rfl rfl dX2_batten_52 ?_
        refine lv_aload_n X.1 X.2.1 dX2_batten_55 rfl (lv_at hl 0 rfl) ?_
        refine p_get (T := TX2) X uX2 (hP.at 0 rfl) rfl 6 (by decide) mw_470 rfl rfl dX2_batten_56 ?_
        refine lv_lmul X.1 X.2.1 dX2_batten_59 ?_
        refine w_l (lN_mul _ _) ?_
        refine lv_aload_n X.1 X.2.1 dX2_batten_60 rfl (lv_at hl 0 rfl) ?_
        refine p_get (T := TX2) X uX2 (hP.at 0 rfl) rfl 3 (by decide) mw_467 rfl rfl dX2_batten_61 ?_
        refine lv_iload_n X.1 X.2.1 dX2_batten_64 rfl (lv_at hl 1 rfl) ?_
        refine f_lald X (hP.at 1 rfl) hk (by decide) dX2_batten_65 ?_
        refine w_l (v' := lN ((q k).den)) (by rw [(eR).2]) ?_
        refine lv_aload_n X.1 X.2.1 dX2_batten_66 rfl (lv_at hl 0 rfl) ?_
        refine p_get (T := TX2) X uX2 (hP.at 0 rfl) rfl 3 (by decide) mw_467 rfl rfl dX2_batten_67 ?_
        refine lv_iload_n X.1 X.2.1 dX2_batten_70 rfl (lv_at hl 1 rfl) ?_
        refine f_lald X (hP.at 1 rfl) hk (by decide) dX2_batten_71 ?_
        refine w_l (v' := lN ((q k).den)) (by rw [(eR).2]) ?_
        refine lv_lmul X.1 X.2.1 dX2_batten_72 ?_
        refine w_l (lN_mul _ _) ?_
        refine lv_aload_n X.1 X.2.1 dX2_batten_73 rfl (lv_at hl 0 rfl) ?_
        refine p_get (T := TX2) X uX2 (hP.at 0 rfl) rfl 4 (by decide) mw_468 rfl rfl dX2_batten_74 ?_
        refine lv_iload_n X.1 X.2.1 dX2_batten_77 rfl (lv_at hl 1 rfl) ?_
        refine f_lald X (hP.at 2 rfl) hk (by decide) dX2_batten_78 ?_
        refine w_l (v' := lN (nu (q k))) (by rw [(eR).1]) ?_
        refine lv_aload_n X.1 X.2.1 dX2_batten_79 rfl (lv_at hl 0 rfl) ?_
        refine p_get (T := TX2) X uX2 (hP.at 0 rfl) rfl 4 (by decide) mw_468 rfl rfl dX2_batten_80 ?_
        refine lv_iload_n X.1 X.2.1 dX2_batten_83 rfl (lv_at hl 1 rfl) ?_
        refine f_lald X (hP.at 2 rfl) hk (by decide) dX2_batten_84 ?_
        refine w_l (v' := lN (nu (q k))) (by rw [(eR).1]) ?_
        refine lv_lmul X.1 X.2.1 dX2_batten_85 ?_
        refine w_l (lN_mul _ _) ?_
        refine lv_ladd X.1 X.2.1 dX2_batten_86 ?_
        refine w_l (lN_add _ _) ?_
        refine lv_lmul X.1 X.2.1 dX2_batten_87 ?_
        refine w_l (lN_mul _ _) ?_
        refine lv_lstore (lv' := [(4, .long (lN (((nu (pk x1 y1 q)) * (nu (pk x1 y1 q))) * ((((q k).den) * ((q k).den)) + ((nu (q k)) * (nu (q k))))))), (0, .ref mo), (1, .int (nI k)), (2, .long (lN t))]) X.1 X.2.1 dX2_batten_88 hl (by decide) rfl (fun ls hl => ?_)
        refine lv_aload_n X.1 X.2.1 dX2_batten_90 rfl (lv_at hl 1 rfl) ?_
        refine p_get (T := TX2) X uX2 (hP.at 0 rfl) rfl 7 (by decide) mw_471 rfl rfl dX2_batten_91 ?_
        refine lv_aload_n X.1 X.2.1 dX2_batten_94 rfl (lv_at hl 1 rfl) ?_
        refine p_get (T := TX2) X uX2 (hP.at 0 rfl) rfl 3 (by decide) mw_467 rfl rfl dX2_batten_95 ?_
        refine lv_iload_n X.1 X.2.1 dX2_batten_98 rfl (lv_at hl 2 rfl) ?_
        refine f_lald X (hP.at 1 rfl) hk (by decide) dX2_batten_99 ?_
        refine w_l (v' := lN ((q k).den)) (by rw [(eR).2]) ?_
        refine lv_lmul X.1 X.2.1 dX2_batten_100 ?_
        refine w_l (lN_mul _ _) ?_
        refine lv_lload_n X.1 X.2.1 dX2_batten_101 rfl (lv_at hl 3 rfl) ?_
        refine lv_lmul X.1 X.2.1 dX2_batten_102 ?_
        refine w_l (lN_mul _ _) ?_
        refine lv_lstore (lv' := [(6, .long (lN ((((pk x1 y1 q).den) * ((q k).den)) * t))), (4, .long (lN (((nu (pk x1 y1 q)) * (nu (pk x1 y1 q))) * ((((q k).den) * ((q k).den)) + ((nu (q k)) * (nu (q k))))))), (0, .ref mo), (1, .int (nI k)), (2, .long (lN t))]) X.1 X.2.1 dX2_batten_103 hl (by decide) rfl (fun ls hl => ?_)
        refine lv_lconst (v := lN 0) X.1 X.2.1 dX2_batten_105 (by decide) ?_
        refine lv_lstore (lv' := [(8, .long (lN 0)), (6, .long (lN ((((pk x1 y1 q).den) * ((q k).den)) * t))), (4, .long (lN (((nu (pk x1 y1 q)) * (nu (pk x1 y1 q))) * ((((q k).den) * ((q k).den)) + ((nu (q k)) * (nu (q k))))))), (0, .ref mo), (1, .int (nI k)), (2, .long (lN t))]) X.1 X.2.1 dX2_batten_106 hl (by decide) rfl (fun ls hl => ?_)
        refine lv_bipush (v := nI 22) X.1 X.2.1 dX2_batten_108 (by decide) ?_
        refine lv_istore (lv' := [(10, .int (nI 22)), (8, .long (lN 0)), (6, .long (lN ((((pk x1 y1 q).den) * ((q k).den)) * t))), (4, .long (lN (((nu (pk x1 y1 q)) * (nu (pk x1 y1 q))) * ((((q k).den) * ((q k).den)) + ((nu (q k)) * (nu (q k))))))), (0, .ref mo), (1, .int (nI k)), (2, .long (lN t))]) X.1 X.2.1 dX2_batten_110 hl (by decide) rfl (fun ls hl => ?_)
        have hini := bat_b hz2 bk.2.2 (dn_pos (q k)) (nu_pos pq) (dn_pos (pk x1 y1 q)) (show 0 < t by omega)
        have hSS := sq_mkP pq bz.1
        have hd1 : 0 < (pk x1 y1 q).den * (q k).den := Nat.mul_pos (dn_pos _) (dn_pos _)
        have hdb : (pk x1 y1 q).den * (q k).den * t ≤ 800 * 20 * 10000 := Nat.mul_le_mul (Nat.mul_le_mul bz.2.2 bk.2.2) ht
        have hd0 : 0 < (pk x1 y1 q).den * (q k).den * t := Nat.mul_pos hd1 (by omega)
        have hq1 : (q k).den * (q k).den ≤ 20 * 20 := Nat.mul_le_mul bk.2.2 bk.2.2
        have hq2 : nu (q k) * nu (q k) ≤ 20 * 20 := Nat.mul_le_mul bk.2.1 bk.2.1
        have hNb : nu (pk x1 y1 q) * nu (pk x1 y1 q) * ((q k).den * (q k).den + nu (q k) * nu (q k)) ≤ 800000 * 800000 * 800 := Nat.mul_le_mul (Nat.mul_le_mul bz.2.1 bz.2.1) (by omega)
        have hFb := nu_fr_le (N := nu (pk x1 y1 q) * nu (pk x1 y1 q) * ((q k).den * (q k).den + nu (q k) * nu (q k))) (Nat.mul_pos hd1 hd1)
        rw [← hSS] at hFb
        have hbf := fun (n : Nat) h1 h2 => bat_fin (n := n) (t := t) hd1 (by omega) hSS (by omega) h1 h2
        generalize ((nu (pk x1 y1 q)) * (nu (pk x1 y1 q))) * ((((q k).den) * ((q k).den)) + ((nu (q k)) * (nu (q k)))) = N9 at hl hini hSS hNb hFb hbf
        generalize (((pk x1 y1 q).den) * ((q k).den)) * t = d9 at hl hini hd0 hdb hbf
        have hdb : d9 ≤ 400000000 := by omega
        have loop : ∀ (b0 c9 v9 : Nat), v9 = c9 * 2 ^ b0 → v9 + 2 ^ b0 ≤ 2 ^ 23 → v9 * d9 * v9 * d9 ≤ N9 → N9 < (v9 + 2 ^ b0) * d9 * (v9 + 2 ^ b0) * d9 → b0 ≤ 23 → ∀ (ls : Array Slot), lv_has ls 14 [(10, .int (bt b0)), (8, .long (lN v9)), (6, .long (lN d9)), (4, .long (lN N9)), (0, .ref mo), (1, .int (nI k)), (2, .long (lN t))] → W p l e { frames := 3, cells := 0, slots := 0, locals := 80 } s m ([.ref mo, .int (nI k), .long (lN t)] : List Value).toArray below meth c H10 locs 0 0 (MQ below (fQ (fun q => q = mo) (fun v H => mP g mo ua oa ga (mk3 2 3 (inI (nI k) 4) (!gab q (toN (nI k))) (inL (lN t) 1 10000)) x1 y1 U O q H ∧ rN (inI (nI k) 4) (!gab q (toN (nI k))) (inL (lN t) 1 10000) (isq (nu (sqr q (toN (nI k)) (pk x1 y1 q * q (toN (nI k)))) / (sqr q (toN (nI k)) (pk x1 y1 q * q (toN (nI k)))).den) / toL (lN t)) v)) ([.ref mo, .int (nI k), .long (lN t)] : List Value).toArray s 0 0 (fun q => (fun q => q = mo) q ∨ s.heap.size ≤ q)) (F0 m 112 ls []) := by
          intro b0
          induction b0 with
          | zero =>
            intro c9 v9 hv hb h1 h2 hb0 ls hl
            rw [Nat.pow_zero] at h2
            refine lv_iload X.1 X.2.1 dX2_batten_112 (lv_at hl 0 rfl) ?_
            refine lv_if_lt (tgt := 182) X.1 X.2.1 dX2_batten_114 (by decide) (fun hB301 => ?_) (fun hB301 => ?_)
            ·
              have hf1 := hbf v9 h1 h2
              refine lv_lload X.1 X.2.1 dX2_batten_182 (lv_at hl 1 rfl) ?_
              refine lv_l2i X.1 X.2.1 dX2_batten_184 (lN_i _) ?_
              exact f_iret X hX hlo (⟨⟨_, _, _, by simp [mk3, hi, ek, hg, hr], hP⟩, _, rfl, fun _ _ _ => by simp only [ek, eT]; rw [hf1]⟩) ⟨by decide, by decide⟩ dX2_batten_185
            ·
              exact absurd (show bt 0 < 0 by decide) hB301
          | succ b0 ih =>
            intro c9 v9 hv hb h1 h2 hb0 ls hl
            have hp : 2 ^ (b0 + 1) = 2 ^ b0 + 2 ^ b0 := by rw [Nat.pow_succ]; omega
            have hp0 : 0 < 2 ^ b0 := Nat.two_pow_pos b0
            have hmd : (v9 + 2 ^ b0) * d9 ≤ 2 ^ 23 * 400000000 := Nat.mul_le_mul (by omega) hdb
            have hv0 : v9 = 2 * c9 * 2 ^ b0 := by rw [hv, hp, ← Nat.two_mul, ← Nat.mul_assoc, Nat.mul_comm c9 2]
            have hv1 : v9 + 2 ^ b0 = (2 * c9 + 1) * 2 ^ b0 := by rw [Nat.add_mul, ← hv0, Nat.one_mul]
            have e9 : v9 + 2 ^ (b0 + 1) = v9 + 2 ^ b0 + 2 ^ b0 := by omega
            have hl : lv_has ls 14 [(10, .int (nI b0)), (8, .long (lN v9)), (6, .long (lN d9)), (4, .long (lN N9)), (0, .ref mo), (1, .int (nI k)), (2, .long (lN t))] := hl
            refine lv_iload X.1 X.2.1 dX2_batten_112 (lv_at hl 0 rfl) ?_
            refine lv_if_lt (tgt := 182) X.1 X.2.1 dX2_batten_114 (by decide) (fun hB301 => ?_) (fun hB301 => ?_)
            ·
              exact absurd hB301 (nI_pos (by omega))
            ·
              refine lv_lload X.1 X.2.1 dX2_batten_117 (lv_at hl 1 rfl) ?_
              refine lv_lconst (v := lN 1) X.1 X.2.1 dX2_batten_119 (by decide) ?_
              refine lv_iload X.1 X.2.1 dX2_batten_120 (lv_at hl 0 rfl) ?_
              refine lv_lshl (v := lN (1 * 2 ^ b0)) X.1 X.2.1 dX2_batten_122 (wb_shl 1 (by omega)) ?_
              refine w_l (v' := lN (2 ^ b0)) (by rw [Nat.one_mul]) ?_
              refine lv_lor X.1 X.2.1 dX2_batten_123 ?_
              refine w_l (v' := lN (v9 + 2 ^ b0)) (ba_or hv (by omega)) ?_
              refine lv_lstore (lv' := [(11, .long (lN (v9 + 2 ^ b0))), (10, .int (nI b0)), (8, .long (lN v9)), (6, .long (lN d9)), (4, .long (lN N9)), (0, .ref mo), (1, .int (nI k)), (2, .long (lN t))]) X.1 X.2.1 dX2_batten_124 hl (by decide) rfl (fun ls hl => ?_)
              refine lv_lload X.1 X.2.1 dX2_batten_126 (lv_at hl 0 rfl) ?_
              refine lv_lload X.1 X.2.1 dX2_batten_128 (lv_at hl 3 rfl) ?_
              refine lv_lmul X.1 X.2.1 dX2_batten_130 ?_
              refine w_l (lN_mul _ _) ?_
              refine lv_ldc2 (v := 3000000000) X.1 X.2.1 X.2.2.2.1 (X.2.2.2.2.1 _ (List.mem_cons_of_mem _ mw_581)) dX2_batten_131 ?_
              refine w_l (v' := lN 3000000000) (by decide) ?_
              refine q_Ngt X (by omega) (by omega) (tgt := 142) dX2_batten_134 dX2_batten_135 (by decide) (fun hB302 => ?_) (fun hB302 => ?_)
              ·
                have hbg : 3000000001 * 3000000001 ≤ (v9 + 2 ^ b0) * d9 * ((v9 + 2 ^ b0) * d9) := Nat.mul_le_mul (by omega) (by omega)
                rw [← Nat.mul_assoc] at hbg
                refine lv_iconst (v := nI 0) X.1 X.2.1 dX2_batten_142 (by decide) ?_
                refine lv_istore (lv' := [(13, .int (nI 0)), (11, .long (lN (v9 + 2 ^ b0))), (10, .int (nI b0)), (8, .long (lN v9)), (6, .long (lN d9)), (4, .long (lN N9)), (0, .ref mo), (1, .int (nI k)), (2, .long (lN t))]) X.1 X.2.1 dX2_batten_143 hl (by decide) rfl (fun ls hl => ?_)
                refine lv_iload X.1 X.2.1 dX2_batten_145 (lv_at hl 0 rfl) ?_
                refine lv_if_eq (tgt := 172) X.1 X.2.1 dX2_batten_147 (by decide) (fun _ => ?_) (fun h9 => absurd (by decide) h9)
                refine lv_lload X.1 X.2.1 dX2_batten_172 (lv_at hl 3 rfl) ?_
                refine lv_lstore (lv' := [(8, .long (lN v9)), (13, .int (nI 0)), (11, .long (lN (v9 + 2 ^ b0))), (10, .int (nI b0)), (6, .long (lN d9)), (4, .long (lN N9)), (0, .ref mo), (1, .int (nI k)), (2, .long (lN t))]) X.1 X.2.1 dX2_batten_174 hl (by decide) rfl (fun ls hl => ?_)
                refine lv_iinc (v := bt b0) (lv' := [(10, .int (bt b0)), (8, .long (lN v9)), (13, .int (nI 0)), (11, .long (lN (v9 + 2 ^ b0))), (6, .long (lN d9)), (4, .long (lN N9)), (0, .ref mo), (1, .int (nI k)), (2, .long (lN t))]) X.1 X.2.1 dX2_batten_176 hl (k := 3) rfl (bt_dec b0) (by decide) rfl (fun ls hl => ?_)
                refine lv_goto (tgt := 112) X.1 X.2.1 dX2_batten_179 (by decide) ?_
                exact ih _ _ hv0 (by omega) h1 (by omega) (by omega) ls (lv_sub hl [0, 1, 4, 5, 6, 7, 8] rfl)
              ·
                have hsm : (v9 + 2 ^ b0) * d9 * ((v9 + 2 ^ b0) * d9) ≤ 3000000000 * 3000000000 := Nat.mul_le_mul (by omega) (by omega)
                rw [← Nat.mul_assoc] at hsm
                refine lv_iconst (v := nI 1) X.1 X.2.1 dX2_batten_138 (by decide) ?_
                refine lv_goto (tgt := 143) X.1 X.2.1 dX2_batten_139 (by decide) ?_
                refine lv_istore (lv' := [(13, .int (nI 1)), (11, .long (lN (v9 + 2 ^ b0))), (10, .int (nI b0)), (8, .long (lN v9)), (6, .long (lN d9)), (4, .long (lN N9)), (0, .ref mo), (1, .int (nI k)), (2, .long (lN t))]) X.1 X.2.1 dX2_batten_143 hl (by decide) rfl (fun ls hl => ?_)
                refine lv_iload X.1 X.2.1 dX2_batten_145 (lv_at hl 0 rfl) ?_
                refine lv_if_eq (tgt := 172) X.1 X.2.1 dX2_batten_147 (by decide) (fun h9 => absurd h9 (by decide)) (fun _ => ?_)
                refine lv_lload X.1 X.2.1 dX2_batten_150 (lv_at hl 1 rfl) ?_
                refine lv_lload X.1 X.2.1 dX2_batten_152 (lv_at hl 4 rfl) ?_
                refine lv_lmul X.1 X.2.1 dX2_batten_154 ?_
                refine w_l (lN_mul _ _) ?_
                refine lv_lload X.1 X.2.1 dX2_batten_155 (lv_at hl 1 rfl) ?_
                refine lv_lmul X.1 X.2.1 dX2_batten_157 ?_
                refine w_l (lN_mul _ _) ?_
                refine lv_lload X.1 X.2.1 dX2_batten_158 (lv_at hl 4 rfl) ?_
                refine lv_lmul X.1 X.2.1 dX2_batten_160 ?_
                refine w_l (lN_mul _ _) ?_
                refine lv_lload X.1 X.2.1 dX2_batten_161 (lv_at hl 5 rfl) ?_
                refine q_Ngt X (by omega) (by omega) (tgt := 172) dX2_batten_163 dX2_batten_164 (by decide) (fun hB303 => ?_) (fun hB303 => ?_)
                ·
                  refine lv_lload X.1 X.2.1 dX2_batten_172 (lv_at hl 3 rfl) ?_
                  refine lv_lstore (lv' := [(8, .long (lN v9)), (13, .int (nI 1)), (11, .long (lN (v9 + 2 ^ b0))), (10, .int (nI b0)), (6, .long (lN d9)), (4, .long (lN N9)), (0, .ref mo), (1, .int (nI k)), (2, .long (lN t))]) X.1 X.2.1 dX2_batten_174 hl (by decide) rfl (fun ls hl => ?_)
                  refine lv_iinc (v := bt b0) (lv' := [(10, .int (bt b0)), (8, .long (lN v9)), (13, .int (nI 1)), (11, .long (lN (v9 + 2 ^ b0))), (6, .long (lN d9)), (4, .long (lN N9)), (0, .ref mo), (1, .int (nI k)), (2, .long (lN t))]) X.1 X.2.1 dX2_batten_176 hl (k := 3) rfl (bt_dec b0) (by decide) rfl (fun ls hl => ?_)
                  refine lv_goto (tgt := 112) X.1 X.2.1 dX2_batten_179 (by decide) ?_
                  exact ih _ _ hv0 (by omega) h1 (by omega) (by omega) ls (lv_sub hl [0, 1, 4, 5, 6, 7, 8] rfl)
                ·
                  refine lv_lload X.1 X.2.1 dX2_batten_167 (lv_at hl 1 rfl) ?_
                  refine lv_goto (tgt := 174) X.1 X.2.1 dX2_batten_169 (by decide) ?_
                  refine lv_lstore (lv' := [(8, .long (lN (v9 + 2 ^ b0))), (13, .int (nI 1)), (11, .long (lN (v9 + 2 ^ b0))), (10, .int (nI b0)), (6, .long (lN d9)), (4, .long (lN N9)), (0, .ref mo), (1, .int (nI k)), (2, .long (lN t))]) X.1 X.2.1 dX2_batten_174 hl (by decide) rfl (fun ls hl => ?_)
                  refine lv_iinc (v := bt b0) (lv' := [(10, .int (bt b0)), (8, .long (lN (v9 + 2 ^ b0))), (13, .int (nI 1)), (11, .long (lN (v9 + 2 ^ b0))), (6, .long (lN d9)), (4, .long (lN N9)), (0, .ref mo), (1, .int (nI k)), (2, .long (lN t))]) X.1 X.2.1 dX2_batten_176 hl (k := 3) rfl (bt_dec b0) (by decide) rfl (fun ls hl => ?_)
                  refine lv_goto (tgt := 112) X.1 X.2.1 dX2_batten_179 (by decide) ?_
                  exact ih _ _ hv1 (by omega) (by omega) (by rw [← e9]; exact h2) (by omega) ls (lv_sub hl [0, 1, 4, 5, 6, 7, 8] rfl)
        exact loop 23 0 0 (Nat.zero_mul _).symm (by decide) (by simp) hini (Nat.le_refl _) ls (lv_sub hl [0, 1, 2, 3, 4, 5, 6] rfl)
  ·
    have hi : inI i 4 = false := gabF hi
    refine w_i (v' := nI 1) (by simp [mk3, hi]) ?_
    refine f_put (F := fun q => q = mo) (T := TX2) (N := 8) (ci := 2) X tyX2 tyX2_ok nmX2 uX2 (hP.at 0 rfl) rfl 0 (by decide) mw_464 rfl rfl (v := .int (nI 1)) (ty := .int) (by decide +kernel) rfl rfl (Nat.le_of_ble_eq_true rfl) (Or.inl rfl) hlo dX2_batten_6 (fun H12 locs hpa hlo hat => ?_)
    have hX := hX.tra (rfl) hpa
    have hP := PP.cons hat (PP.exa (hP.sub [1, 2, 3] rfl : PP g [mla g ua U, mla g oa O, mza g ga q] _) hpa (fun z hz => by simp only [List.mem_cons, List.not_mem_nil, or_false] at hz; rcases hz with rfl | rfl | rfl <;> first | exact hM.1 | exact hM.2.1 | exact hM.2.2.1))
    have hP : PP g [(mo, .inr (2, [.int (nI 1), .long (lN x1), .long (lN y1), .ref ua, .ref oa, .ref ga, .long ab, .long be])), mla g ua U, mla g oa O, mza g ga q] H12 := hP
    refine lv_aload_n X.1 X.2.1 dX2_batten_9 rfl (lv_at hl 0 rfl) ?_
    refine p_get (T := TX2) X uX2 (hP.at 0 rfl) rfl 0 (by decide) mw_464 rfl rfl dX2_batten_10 ?_
    refine lv_if_le (tgt := 18) X.1 X.2.1 dX2_batten_13 (by decide) (fun h9 => absurd h9 (by decide)) (fun _ => ?_)
    refine lv_iconst (v := nI 0) X.1 X.2.1 dX2_batten_16 (by decide) ?_
    exact f_iret X hX hlo (⟨⟨_, _, _, by simp [mk3, hi], hP⟩, _, rfl, fun h1 h2 h3 => by simp [hi] at h1⟩) ⟨by decide, by decide⟩ dX2_batten_17
