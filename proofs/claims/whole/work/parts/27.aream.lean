theorem div_of {a b c : Rat} (hb : b ≠ 0) (h : a = c * b) : a / b = c := by rw [h]; grind
theorem mul_nz {a b : Rat} (ha : a ≠ 0) (hb : b ≠ 0) : a * b ≠ 0 := fun h => by rcases Rat.mul_eq_zero.mp h with h | h <;> contradiction
theorem ar_mk {z F x y P : Rat} (hz : 0 ≤ z) (hx : 0 < x) (hy : 0 < y) (hF : F = P * x) (hF0 : 0 ≤ F) : ((nu z * (F.den * nu x * y.den) + nu F * x.den * nu y * z.den : Nat) : Rat) / ((z.den * (F.den * nu x * y.den) : Nat) : Rat) = z + P * y := by
  have h1 := nu_mul hz
  have h2 := nu_mul (Rat.le_of_lt hx)
  have h3 := nu_mul (Rat.le_of_lt hy)
  have h4 := nu_mul hF0
  have d1 := dn_ne z
  have d2 := dn_ne x
  have d3 := dn_ne y
  have d4 := dn_ne F
  have h5 := Rat.ne_of_gt hx
  simp only [Rat.natCast_mul, Rat.natCast_add, h1, h2, h3, h4]
  generalize ((z.den : Nat) : Rat) = zd at *
  generalize ((x.den : Nat) : Rat) = xd at *
  generalize ((y.den : Nat) : Rat) = yd at *
  generalize ((F.den : Nat) : Rat) = Fd at *
  subst hF
  clear h1 h2 h3 h4 hz hx hy hF0
  exact div_of (mul_nz d1 (mul_nz (mul_nz d4 (mul_nz h5 d2)) d3)) (by grind)
theorem ar_end {F Z : Rat} (hF : 0 ≤ F) (hZ : 0 ≤ Z) : (((nu F : Nat) : Rat) / ((Z.den : Nat) : Rat)) * (((nu Z : Nat) : Rat) / ((F.den : Nat) : Rat)) = F * Z := by
  have h1 := nu_mul hF
  have h2 := nu_mul hZ
  have d1 := dn_ne F
  have d2 := dn_ne Z
  rw [h1, h2]
  grind
theorem bh1 (k : Nat) : (k + 1) % 4 = behind k := rfl
theorem bh3 (k : Nat) : (k + 3) % 4 = opp (behind k) := by unfold opp behind; omega
theorem bd_L {X Y : Nat} {q : Nat → Rat} (h : OK X Y q) (k : Nat) : bd (pk X Y q * bes q k) 640000000 320000 := bd_mul (bd_pk h) (bd_add (h.2.2.1 _ (behind_lt k)) (h.2.2.1 _ (opp_lt _)))
theorem L_le {X Y : Nat} {q : Nat → Rat} (h : OK X Y q) {k : Nat} (hk : k < 4) : pk X Y q * bes q k ≤ ((2 * slen X Y k : Nat) : Rat) := Rat.le_trans (pk_bes h hk) (Rat.natCast_le_natCast.mpr (by omega))
theorem L_eq {P a b : Rat} : 0 + P * a + P * b = P * (a + b) := by grind
set_option maxHeartbeats 4000000 in
set_option maxRecDepth 100000 in
theorem c_X2_area (l : Launch) (g : En) (mo ua oa ga : Nat) (cd : Int32) (ab be : Int64) (x1 y1 : Nat) (U O : Nat → Nat) (q : Nat → Rat) (i j : Int32) (hO : OK x1 y1 q) (hR : MR q U O) (hM : MD mo ua oa ga) : FM l yX2_area cX2_area 19 (some FieldType.long) { frames := 4, cells := 0, slots := 0, locals := 101 } g [.ref mo, .int i, .int j] (fun H => MO g mo ua oa ga cd ab be x1 y1 U O q H) (fun q => q = mo) 0 0 (fun v H => mP g mo ua oa ga (mk3 2 3 (inI i 4 && inI j 2) (!gab q (toN i)) (true)) x1 y1 U O q H ∧ rJ (inI i 4 && inI j 2) (!gab q (toN i)) (true) (prt (are x1 y1 q (toN i)) (toN j)) v) := by
  refine FM.of (by decide) (Nat.le_of_ble_eq_true rfl) (fun p e s m below meth c ls X hP hl => ?_)
  have hl : lv_has ls 19 [(0, .ref mo), (1, .int i), (2, .int j)] := hl
  have hX : hxf (fun q => q = mo) s.heap s.heap := hxf.rf
  have hlo : lok (fun q => q = mo) s.heap.size ([] : List Loc) := lok.nil
  have hP : PP g [(mo, .inr (2, [.int cd, .long (lN x1), .long (lN y1), .ref ua, .ref oa, .ref ga, .long ab, .long be])), mla g ua U, mla g oa O, mza g ga q] s.heap := hP
  refine lv_aload_n X.1 X.2.1 dX2_area_0 rfl (lv_at hl 0 rfl) ?_
  refine lv_iload_n X.1 X.2.1 dX2_area_1 rfl (lv_at hl 2 rfl) ?_
  refine lv_if_lt (tgt := 10) X.1 X.2.1 dX2_area_2 (by decide) (fun hB1 => ?_) (fun hB1 => ?_)
  ·
    have hj : inI j 2 = false := inI_lo hB1
    refine lv_iconst (v := nI 1) X.1 X.2.1 dX2_area_10 (by decide) ?_
    refine lv_goto (tgt := 19) X.1 X.2.1 dX2_area_11 (by decide) ?_
    refine f_put (F := fun q => q = mo) (T := TX2) (N := 8) (ci := 2) X tyX2 tyX2_ok nmX2 uX2 (hP.at 0 rfl) rfl 0 (by decide) mw_464 rfl rfl (v := .int (nI 1)) (ty := .int) (by decide +kernel) rfl rfl (Nat.le_of_ble_eq_true rfl) (Or.inl rfl) hlo dX2_area_19 (fun H2 locs hpa hlo hat => ?_)
    have hX := hX.tra (rfl) hpa
    have hP := PP.cons hat (PP.exa (hP.sub [1, 2, 3] rfl : PP g [mla g ua U, mla g oa O, mza g ga q] _) hpa (fun z hz => by simp only [List.mem_cons, List.not_mem_nil, or_false] at hz; rcases hz with rfl | rfl | rfl <;> first | exact hM.1 | exact hM.2.1 | exact hM.2.2.1))
    have hP : PP g [(mo, .inr (2, [.int (nI 1), .long (lN x1), .long (lN y1), .ref ua, .ref oa, .ref ga, .long ab, .long be])), mla g ua U, mla g oa O, mza g ga q] H2 := hP
    refine lv_aload_n X.1 X.2.1 dX2_area_22 rfl (lv_at hl 0 rfl) ?_
    refine p_get (T := TX2) X uX2 (hP.at 0 rfl) rfl 0 (by decide) mw_464 rfl rfl dX2_area_23 ?_
    refine lv_if_le (tgt := 31) X.1 X.2.1 dX2_area_26 (by decide) (fun h9 => absurd h9 (by decide)) (fun _ => ?_)
    refine lv_lconst (v := lN 0) X.1 X.2.1 dX2_area_29 (by decide) ?_
    exact f_lret X hX hlo (⟨⟨_, _, _, by simp [mk3, hj], hP⟩, _, rfl, fun h1 h2 h3 => by simp [hj] at h1⟩) ⟨by decide, by decide⟩ dX2_area_30
  ·
    refine lv_iload_n X.1 X.2.1 dX2_area_5 rfl (lv_at hl 2 rfl) ?_
    refine lv_iconst (v := nI 1) X.1 X.2.1 dX2_area_6 (by decide) ?_
    refine lv_icmp_le (tgt := 14) X.1 X.2.1 dX2_area_7 (by decide) (fun hB3 => ?_) (fun hB3 => ?_)
    ·
      have hj : inI j 2 = true := inI_in3 (n := 1) (by decide) hB1 hB3
      obtain ⟨pj, hpj, rfl⟩ := inI_of hj (by decide)
      have epj : toN (nI pj) = pj := toN_k (by omega)
      refine lv_aload_n X.1 X.2.1 dX2_area_14 rfl (lv_at hl 0 rfl) ?_
      refine lv_iload_n X.1 X.2.1 dX2_area_15 rfl (lv_at hl 1 rfl) ?_
      refine p_callV (C := RX2) (b := mo) (As := [.int i]) (rest := [.ref mo]) X (c_X2_sideCode l g mo ua oa ga cd ab be x1 y1 U O q i) ⟨mw_544, mw_546, mw_27, mw_40, mw_547⟩ sgX2_sideCode ⟨rfl, rfl, ⟨by decide, by decide⟩, by decide, by decide⟩ (hP.at 0 rfl) rfl rfl (hP.sub [0, 1, 2, 3] rfl) hX.1 rfl hl.1 rfl (Nat.le_of_ble_eq_true rfl) dX2_area_16 (fun v H4 hk5 hp => ?_)
      obtain rfl := hp
      have hX := hX.tr hk5
      have hP := PP.ext hP hk5
      refine W.eq (g2 := F0 m 19 ls [.int (nI (if inI i 4 then (if gab q (toN i) then 2 else 0) else 1)), .ref mo]) rfl ?_
      by_cases hi : inI i 4 = true
      ·
        obtain ⟨k, hk, rfl⟩ := inI_of hi (by decide)
        have ek : toN (nI k) = k := toN_k (by omega)
        by_cases hg : gab q k = true
        ·
          refine w_i (v' := nI 2) (by simp [mk3, hi, ek, hg]) ?_
          refine f_put (F := fun q => q = mo) (T := TX2) (N := 8) (ci := 2) X tyX2 tyX2_ok nmX2 uX2 (hP.at 0 rfl) rfl 0 (by decide) mw_464 rfl rfl (v := .int (nI 2)) (ty := .int) (by decide +kernel) rfl rfl (Nat.le_of_ble_eq_true rfl) (Or.inl rfl) hlo dX2_area_19 (fun H6 locs hpa hlo hat => ?_)
          have hX := hX.tra (rfl) hpa
          have hP := PP.cons hat (PP.exa (hP.sub [1, 2, 3] rfl : PP g [mla g ua U, mla g oa O, mza g ga q] _) hpa (fun z hz => by simp only [List.mem_cons, List.not_mem_nil, or_false] at hz; rcases hz with rfl | rfl | rfl <;> first | exact hM.1 | exact hM.2.1 | exact hM.2.2.1))
          have hP : PP g [(mo, .inr (2, [.int (nI 2), .long (lN x1), .long (lN y1), .ref ua, .ref oa, .ref ga, .long ab, .long be])), mla g ua U, mla g oa O, mza g ga q] H6 := hP
          refine lv_aload_n X.1 X.2.1 dX2_area_22 rfl (lv_at hl 0 rfl) ?_
          refine p_get (T := TX2) X uX2 (hP.at 0 rfl) rfl 0 (by decide) mw_464 rfl rfl dX2_area_23 ?_
          refine lv_if_le (tgt := 31) X.1 X.2.1 dX2_area_26 (by decide) (fun h9 => absurd h9 (by decide)) (fun _ => ?_)
          refine lv_lconst (v := lN 0) X.1 X.2.1 dX2_area_29 (by decide) ?_
          exact f_lret X hX hlo (⟨⟨_, _, _, by simp [mk3, hj, epj, hi, ek, hg], hP⟩, _, rfl, fun h1 h2 h3 => by simp [hj, epj, hi, ek, hg] at h2⟩) ⟨by decide, by decide⟩ dX2_area_30
        ·
          have hg : gab q k = false := gabF hg
          refine w_i (v' := nI 0) (by simp [mk3, hi, ek, hg]) ?_
          have bk := hO.2.2.1 k hk
          have pq := gab_pos bk hg
          have eR := hR k hk hg
          have bF := bd_in hO hk
          have hsl := slen_le hO k
          have bL := bd_L hO k
          have hLl := L_le hO hk
          have hLn := (le_nu bL.1).mp hLl
          have body : ∀ (c9 : Nat) (z : Rat), c9 < 4 → bd z 16000000 16000 → (∀ (ab be : Int64) (H : Heap) (locs : List Loc) (ls : Array Slot), hxf (fun q => q = mo) s.heap H → lok (fun q => q = mo) s.heap.size locs → MO g mo ua oa ga (nI 0) ab be x1 y1 U O q H → lv_has ls 19 [(11, .int (nI (c9 + 2))), (9, .long (lN ((z + pk x1 y1 q * q ((k + c9) % 4)).den))), (7, .long (lN (nu (z + pk x1 y1 q * q ((k + c9) % 4))))), (5, .long (lN ((pk x1 y1 q * q k).den))), (3, .long (lN (nu (pk x1 y1 q * q k)))), (0, .ref mo), (1, .int (nI k)), (2, .int (nI pj))] → W p l e { frames := 4, cells := 0, slots := 0, locals := 101 } s m ([.ref mo, .int (nI k), .int (nI pj)] : List Value).toArray below meth c H locs 0 0 (MQ below (fQ (fun q => q = mo) (fun v H => mP g mo ua oa ga (mk3 2 3 (inI (nI k) 4 && inI (nI pj) 2) (!gab q (toN (nI k))) (true)) x1 y1 U O q H ∧ rJ (inI (nI k) 4 && inI (nI pj) 2) (!gab q (toN (nI k))) (true) (prt (are x1 y1 q (toN (nI k))) (toN (nI pj))) v)) ([.ref mo, .int (nI k), .int (nI pj)] : List Value).toArray s 0 0 (fun q => (fun q => q = mo) q ∨ s.heap.size ≤ q)) (F0 m 56 ls [])) → ∀ (ab be : Int64) (H : Heap) (locs : List Loc) (ls : Array Slot), hxf (fun q => q = mo) s.heap H → lok (fun q => q = mo) s.heap.size locs → MO g mo ua oa ga (nI 0) ab be x1 y1 U O q H → lv_has ls 19 [(11, .int (nI c9)), (9, .long (lN ((z).den))), (7, .long (lN (nu (z)))), (5, .long (lN ((pk x1 y1 q * q k).den))), (3, .long (lN (nu (pk x1 y1 q * q k)))), (0, .ref mo), (1, .int (nI k)), (2, .int (nI pj))] → W p l e { frames := 4, cells := 0, slots := 0, locals := 101 } s m ([.ref mo, .int (nI k), .int (nI pj)] : List Value).toArray below meth c H locs 0 0 (MQ below (fQ (fun q => q = mo) (fun v H => mP g mo ua oa ga (mk3 2 3 (inI (nI k) 4 && inI (nI pj) 2) (!gab q (toN (nI k))) (true)) x1 y1 U O q H ∧ rJ (inI (nI k) 4 && inI (nI pj) 2) (!gab q (toN (nI k))) (true) (prt (are x1 y1 q (toN (nI k))) (toN (nI pj))) v)) ([.ref mo, .int (nI k), .int (nI pj)] : List Value).toArray s 0 0 (fun q => (fun q => q = mo) q ∨ s.heap.size ≤ q)) (F0 m 56 ls []) := by
            intro c9 z hc9 bz9 K9 ab be H locs ls hX hlo hP hl
            refine lv_iload X.1 X.2.1 dX2_area_56 (lv_at hl 0 rfl) ?_
            refine lv_iconst (v := nI 4) X.1 X.2.1 dX2_area_58 (by decide) ?_
            refine q_Ige X (by omega) (by omega) (tgt := 155) dX2_area_59 (by decide) (fun hB301 => ?_) (fun hB301 => ?_)
            ·
              exact absurd hB301 (by omega)
            ·
              refine lv_iload_n X.1 X.2.1 dX2_area_62 rfl (lv_at hl 6 rfl) ?_
              refine lv_iload X.1 X.2.1 dX2_area_63 (lv_at hl 0 rfl) ?_
              refine lv_iadd X.1 X.2.1 dX2_area_65 ?_
              refine w_i (nI_add _ _) ?_
              refine lv_iconst (v := nI 4) X.1 X.2.1 dX2_area_66 (by decide) ?_
              refine lv_irem X.1 X.2.1 dX2_area_67 (nI_ne0 (by omega) (by omega)) ?_
              refine w_i (pk_rem (by omega) (by omega) (by omega)) ?_
              refine lv_istore (lv' := [(12, .int (nI ((k + c9) % 4))), (11, .int (nI c9)), (9, .long (lN ((z).den))), (7, .long (lN (nu (z)))), (5, .long (lN ((pk x1 y1 q * q k).den))), (3, .long (lN (nu (pk x1 y1 q * q k)))), (0, .ref mo), (1, .int (nI k)), (2, .int (nI pj))]) X.1 X.2.1 dX2_area_68 hl (by decide) rfl (fun ls hl => ?_)
              refine lv_aload_n X.1 X.2.1 dX2_area_70 rfl (lv_at hl 6 rfl) ?_
              refine p_get (T := TX2) X uX2 (hP.at 0 rfl) rfl 5 (by decide) mw_469 rfl rfl dX2_area_71 ?_
              refine lv_iload X.1 X.2.1 dX2_area_74 (lv_at hl 0 rfl) ?_
              have hb4 : (k + c9) % 4 < 4 := Nat.mod_lt _ (by decide)
              refine f_zald X (hP.at 3 rfl) hb4 (by decide) dX2_area_76 ?_
              refine q_Bne X (tgt := 149) dX2_area_77 (by decide) (fun hB302 => ?_) (fun hB302 => ?_)
              ·
                refine lv_iinc (v := nI (c9 + 2)) (lv' := [(11, .int (nI (c9 + 2))), (12, .int (nI ((k + c9) % 4))), (9, .long (lN ((z).den))), (7, .long (lN (nu (z)))), (5, .long (lN ((pk x1 y1 q * q k).den))), (3, .long (lN (nu (pk x1 y1 q * q k)))), (0, .ref mo), (1, .int (nI k)), (2, .int (nI pj))]) X.1 X.2.1 dX2_area_149 hl (k := 1) rfl (nI_add c9 2) (by decide) rfl (fun ls hl => ?_)
                refine lv_goto (tgt := 56) X.1 X.2.1 dX2_area_152 (by decide) ?_
                exact K9 _ _ _ _ ls hX hlo hP (by rw [gab0 hB302, Rat.mul_zero, Rat.add_zero]; exact lv_sub hl [0, 2, 3, 4, 5, 6, 7, 8] rfl)
              ·
                have bb := hO.2.2.1 _ hb4
                have pb := gab_pos bb hB302
                have eB := hR _ hb4 hB302
                refine lv_lload_n X.1 X.2.1 dX2_area_80 rfl (lv_at hl 5 rfl) ?_
                refine lv_aload_n X.1 X.2.1 dX2_area_81 rfl (lv_at hl 6 rfl) ?_
                refine p_get (T := TX2) X uX2 (hP.at 0 rfl) rfl 3 (by decide) mw_467 rfl rfl dX2_area_82 ?_
                refine lv_iload_n X.1 X.2.1 dX2_area_85 rfl (lv_at hl 7 rfl) ?_
                refine f_lald X (hP.at 1 rfl) hk (by decide) dX2_area_86 ?_
                refine w_l (v' := lN ((q k).den)) (by rw [(eR).2]) ?_
                refine lv_lmul X.1 X.2.1 dX2_area_87 ?_
                refine w_l (lN_mul _ _) ?_
                refine lv_aload_n X.1 X.2.1 dX2_area_88 rfl (lv_at hl 6 rfl) ?_
                refine p_get (T := TX2) X uX2 (hP.at 0 rfl) rfl 4 (by decide) mw_468 rfl rfl dX2_area_89 ?_
                refine lv_iload X.1 X.2.1 dX2_area_92 (lv_at hl 0 rfl) ?_
                refine f_lald X (hP.at 2 rfl) hb4 (by decide) dX2_area_94 ?_
                refine w_l (v' := lN (nu (q ((k + c9) % 4)))) (by rw [(eB).1]) ?_
                refine lv_lmul X.1 X.2.1 dX2_area_95 ?_
                refine w_l (lN_mul _ _) ?_
                refine lv_lstore (lv' := [(13, .long (lN (((nu (pk x1 y1 q * q k)) * ((q k).den)) * (nu (q ((k + c9) % 4)))))), (12, .int (nI ((k + c9) % 4))), (11, .int (nI c9)), (9, .long (lN ((z).den))), (7, .long (lN (nu (z)))), (5, .long (lN ((pk x1 y1 q * q k).den))), (3, .long (lN (nu (pk x1 y1 q * q k)))), (0, .ref mo), (1, .int (nI k)), (2, .int (nI pj))]) X.1 X.2.1 dX2_area_96 hl (by decide) rfl (fun ls hl => ?_)
                refine lv_lload X.1 X.2.1 dX2_area_98 (lv_at hl 5 rfl) ?_
                refine lv_aload_n X.1 X.2.1 dX2_area_100 rfl (lv_at hl 7 rfl) ?_
                refine p_get (T := TX2) X uX2 (hP.at 0 rfl) rfl 4 (by decide) mw_468 rfl rfl dX2_area_101 ?_
                refine lv_iload_n X.1 X.2.1 dX2_area_104 rfl (lv_at hl 8 rfl) ?_
                refine f_lald X (hP.at 2 rfl) hk (by decide) dX2_area_105 ?_
                refine w_l (v' := lN (nu (q k))) (by rw [(eR).1]) ?_
                refine lv_lmul X.1 X.2.1 dX2_area_106 ?_
                refine w_l (lN_mul _ _) ?_
                refine lv_aload_n X.1 X.2.1 dX2_area_107 rfl (lv_at hl 7 rfl) ?_
                refine p_get (T := TX2) X uX2 (hP.at 0 rfl) rfl 3 (by decide) mw_467 rfl rfl dX2_area_108 ?_
                refine lv_iload X.1 X.2.1 dX2_area_111 (lv_at hl 1 rfl) ?_
                refine f_lald X (hP.at 1 rfl) hb4 (by decide) dX2_area_113 ?_
                refine w_l (v' := lN ((q ((k + c9) % 4)).den)) (by rw [(eB).2]) ?_
                refine lv_lmul X.1 X.2.1 dX2_area_114 ?_
                refine w_l (lN_mul _ _) ?_
                refine lv_lstore (lv' := [(15, .long (lN ((((pk x1 y1 q * q k).den) * (nu (q k))) * ((q ((k + c9) % 4)).den)))), (13, .long (lN (((nu (pk x1 y1 q * q k)) * ((q k).den)) * (nu (q ((k + c9) % 4)))))), (12, .int (nI ((k + c9) % 4))), (11, .int (nI c9)), (9, .long (lN ((z).den))), (7, .long (lN (nu (z)))), (5, .long (lN ((pk x1 y1 q * q k).den))), (3, .long (lN (nu (pk x1 y1 q * q k)))), (0, .ref mo), (1, .int (nI k)), (2, .int (nI pj))]) X.1 X.2.1 dX2_area_115 hl (by decide) rfl (fun ls hl => ?_)
                refine lv_aload_n X.1 X.2.1 dX2_area_117 rfl (lv_at hl 8 rfl) ?_
                refine lv_lload X.1 X.2.1 dX2_area_118 (lv_at hl 5 rfl) ?_
                refine lv_lload X.1 X.2.1 dX2_area_120 (lv_at hl 0 rfl) ?_
                refine lv_lmul X.1 X.2.1 dX2_area_122 ?_
                refine w_l (lN_mul _ _) ?_
                refine lv_lload X.1 X.2.1 dX2_area_123 (lv_at hl 1 rfl) ?_
                refine lv_lload X.1 X.2.1 dX2_area_125 (lv_at hl 4 rfl) ?_
                refine lv_lmul X.1 X.2.1 dX2_area_127 ?_
                refine w_l (lN_mul _ _) ?_
                refine lv_ladd X.1 X.2.1 dX2_area_128 ?_
                refine w_l (lN_add _ _) ?_
                refine lv_lload X.1 X.2.1 dX2_area_129 (lv_at hl 4 rfl) ?_
                refine lv_lload X.1 X.2.1 dX2_area_131 (lv_at hl 0 rfl) ?_
                refine lv_lmul X.1 X.2.1 dX2_area_133 ?_
                refine w_l (lN_mul _ _) ?_
                have hA : nu (pk x1 y1 q * q k) * (q k).den * nu (q ((k + c9) % 4)) ≤ 16000000 * 20 * 20 := Nat.mul_le_mul (Nat.mul_le_mul bF.2.1 bk.2.2) bb.2.1
                have hB9 : (pk x1 y1 q * q k).den * nu (q k) * (q ((k + c9) % 4)).den ≤ 16000 * 20 * 20 := Nat.mul_le_mul (Nat.mul_le_mul bF.2.2 bk.2.1) bb.2.2
                have hB0 : 0 < (pk x1 y1 q * q k).den * nu (q k) * (q ((k + c9) % 4)).den := Nat.mul_pos (Nat.mul_pos (dn_pos _) (nu_pos pq)) (dn_pos _)
                have hs1 : nu z * ((pk x1 y1 q * q k).den * nu (q k) * (q ((k + c9) % 4)).den) ≤ 16000000 * (16000 * 20 * 20) := Nat.mul_le_mul bz9.2.1 hB9
                have hs2 : nu (pk x1 y1 q * q k) * (q k).den * nu (q ((k + c9) % 4)) * z.den ≤ 16000000 * 20 * 20 * 16000 := Nat.mul_le_mul hA bz9.2.2
                refine f_callV (F := fun q => q = mo) (C := RX2) (b := mo) (As := [.long (lN (((nu (z)) * ((((pk x1 y1 q * q k).den) * (nu (q k))) * ((q ((k + c9) % 4)).den))) + ((((nu (pk x1 y1 q * q k)) * ((q k).den)) * (nu (q ((k + c9) % 4)))) * ((z).den)))), .long (lN (((z).den) * ((((pk x1 y1 q * q k).den) * (nu (q k))) * ((q ((k + c9) % 4)).den))))]) (rest := []) X (c_X2_put l g mo ua oa ga _ _ _ x1 y1 U O q (nu z * ((pk x1 y1 q * q k).den * nu (q k) * (q ((k + c9) % 4)).den) + nu (pk x1 y1 q * q k) * (q k).den * nu (q ((k + c9) % 4)) * z.den) (z.den * ((pk x1 y1 q * q k).den * nu (q k) * (q ((k + c9) % 4)).den)) hM (by omega) (mlt bz9.2.2 hB9 (by decide)) (Nat.mul_pos (dn_pos _) hB0)) ⟨mw_508, mw_510, mw_22, mw_40, mw_511⟩ sgX2_put ⟨rfl, rfl, ⟨by decide, by decide⟩, by decide, by decide⟩ (hP.at 0 rfl) rfl rfl (hP) hX.1 (fun q h => h) hlo rfl hl.1 rfl (Nat.le_of_ble_eq_true rfl) dX2_area_134 (fun v H303 locs hk304 hlo hp => ?_)
                obtain ⟨rfl, hP⟩ := hp
                have hX := hX.trf (fun q h => h) hk304
                refine W.eq (g2 := F0 m 137 ls []) rfl ?_
                rw [ar_mk bz9.1 pq pb rfl bF.1] at hP
                refine lv_aload_n X.1 X.2.1 dX2_area_137 rfl (lv_at hl 8 rfl) ?_
                refine p_get (T := TX2) X uX2 (hP.at 0 rfl) rfl 6 (by decide) mw_470 rfl rfl dX2_area_138 ?_
                refine lv_lstore (lv' := [(7, .long (lN (nu (z + pk x1 y1 q * q ((k + c9) % 4))))), (15, .long (lN ((((pk x1 y1 q * q k).den) * (nu (q k))) * ((q ((k + c9) % 4)).den)))), (13, .long (lN (((nu (pk x1 y1 q * q k)) * ((q k).den)) * (nu (q ((k + c9) % 4)))))), (12, .int (nI ((k + c9) % 4))), (11, .int (nI c9)), (9, .long (lN ((z).den))), (5, .long (lN ((pk x1 y1 q * q k).den))), (3, .long (lN (nu (pk x1 y1 q * q k)))), (0, .ref mo), (1, .int (nI k)), (2, .int (nI pj))]) X.1 X.2.1 dX2_area_141 hl (by decide) rfl (fun ls hl => ?_)
                refine lv_aload_n X.1 X.2.1 dX2_area_143 rfl (lv_at hl 8 rfl) ?_
                refine p_get (T := TX2) X uX2 (hP.at 0 rfl) rfl 7 (by decide) mw_471 rfl rfl dX2_area_144 ?_
                refine lv_lstore (lv' := [(9, .long (lN ((z + pk x1 y1 q * q ((k + c9) % 4)).den))), (7, .long (lN (nu (z + pk x1 y1 q * q ((k + c9) % 4))))), (15, .long (lN ((((pk x1 y1 q * q k).den) * (nu (q k))) * ((q ((k + c9) % 4)).den)))), (13, .long (lN (((nu (pk x1 y1 q * q k)) * ((q k).den)) * (nu (q ((k + c9) % 4)))))), (12, .int (nI ((k + c9) % 4))), (11, .int (nI c9)), (5, .long (lN ((pk x1 y1 q * q k).den))), (3, .long (lN (nu (pk x1 y1 q * q k)))), (0, .ref mo), (1, .int (nI k)), (2, .int (nI pj))]) X.1 X.2.1 dX2_area_147 hl (by decide) rfl (fun ls hl => ?_)
                refine lv_iinc (v := nI (c9 + 2)) (lv' := [(11, .int (nI (c9 + 2))), (9, .long (lN ((z + pk x1 y1 q * q ((k + c9) % 4)).den))), (7, .long (lN (nu (z + pk x1 y1 q * q ((k + c9) % 4))))), (15, .long (lN ((((pk x1 y1 q * q k).den) * (nu (q k))) * ((q ((k + c9) % 4)).den)))), (13, .long (lN (((nu (pk x1 y1 q * q k)) * ((q k).den)) * (nu (q ((k + c9) % 4)))))), (12, .int (nI ((k + c9) % 4))), (5, .long (lN ((pk x1 y1 q * q k).den))), (3, .long (lN (nu (pk x1 y1 q * q k)))), (0, .ref mo), (1, .int (nI k)), (2, .int (nI pj))]) X.1 X.2.1 dX2_area_149 hl (k := 5) rfl (nI_add c9 2) (by decide) rfl (fun ls hl => ?_)
                refine lv_goto (tgt := 56) X.1 X.2.1 dX2_area_152 (by decide) ?_
                exact K9 _ _ _ _ ls hX hlo hP (lv_sub hl [0, 1, 2, 6, 7, 8, 9, 10] rfl)
          have tail : ∀ (ab be : Int64) (H : Heap) (locs : List Loc) (ls : Array Slot), hxf (fun q => q = mo) s.heap H → lok (fun q => q = mo) s.heap.size locs → MO g mo ua oa ga (nI 0) ab be x1 y1 U O q H → lv_has ls 19 [(11, .int (nI 5)), (9, .long (lN ((pk x1 y1 q * bes q k).den))), (7, .long (lN (nu (pk x1 y1 q * bes q k)))), (5, .long (lN ((pk x1 y1 q * q k).den))), (3, .long (lN (nu (pk x1 y1 q * q k)))), (0, .ref mo), (1, .int (nI k)), (2, .int (nI pj))] → W p l e { frames := 4, cells := 0, slots := 0, locals := 101 } s m ([.ref mo, .int (nI k), .int (nI pj)] : List Value).toArray below meth c H locs 0 0 (MQ below (fQ (fun q => q = mo) (fun v H => mP g mo ua oa ga (mk3 2 3 (inI (nI k) 4 && inI (nI pj) 2) (!gab q (toN (nI k))) (true)) x1 y1 U O q H ∧ rJ (inI (nI k) 4 && inI (nI pj) 2) (!gab q (toN (nI k))) (true) (prt (are x1 y1 q (toN (nI k))) (toN (nI pj))) v)) ([.ref mo, .int (nI k), .int (nI pj)] : List Value).toArray s 0 0 (fun q => (fun q => q = mo) q ∨ s.heap.size ≤ q)) (F0 m 56 ls []) := by
            intro ab be H locs ls hX hlo hP hl
            have bZ := bd_sub bL hLl
            have hm9 : 2 * slen x1 y1 k * (pk x1 y1 q * bes q k).den ≤ 4000 * 320000 := Nat.mul_le_mul (by omega) bL.2.2
            have hm8 : 2 * slen x1 y1 k * 320000 ≤ 4000 * 320000 := Nat.mul_le_mul (by omega) (Nat.le_refl _)
            refine lv_iload X.1 X.2.1 dX2_area_56 (lv_at hl 0 rfl) ?_
            refine lv_iconst (v := nI 4) X.1 X.2.1 dX2_area_58 (by decide) ?_
            refine lv_icmp_ge (tgt := 155) X.1 X.2.1 dX2_area_59 (by decide) (fun _ => ?_) (fun h9 => absurd (by decide) h9)
            refine lv_aload_n X.1 X.2.1 dX2_area_155 rfl (lv_at hl 5 rfl) ?_
            refine lv_ldc2 (v := 2) X.1 X.2.1 X.2.2.2.1 (X.2.2.2.2.1 _ (List.mem_cons_of_mem _ mw_623)) dX2_area_156 ?_
            refine w_l (v' := lN 2) (by decide) ?_
            refine lv_aload_n X.1 X.2.1 dX2_area_159 rfl (lv_at hl 5 rfl) ?_
            refine lv_iload_n X.1 X.2.1 dX2_area_160 rfl (lv_at hl 6 rfl) ?_
            refine p_callV (C := RX2) (b := mo) (As := [.int (nI k)]) (rest := [.long (lN 2), .ref mo]) X (c_X2_width l g mo ua oa ga _ _ _ x1 y1 U O q k hk) ⟨mw_549, mw_551, mw_28, mw_40, mw_552⟩ sgX2_width ⟨rfl, rfl, ⟨by decide, by decide⟩, by decide, by decide⟩ (hP.at 0 rfl) rfl rfl (hP.sub [0, 1, 2, 3] rfl) hX.1 rfl hl.1 rfl (Nat.le_of_ble_eq_true rfl) dX2_area_161 (fun v H501 hk502 hp => ?_)
            obtain rfl := hp
            have hX := hX.tr hk502
            have hP := PP.ext hP hk502
            refine W.eq (g2 := F0 m 164 ls [.long (lN (slen x1 y1 k)), .long (lN 2), .ref mo]) rfl ?_
            refine lv_lmul X.1 X.2.1 dX2_area_164 ?_
            refine w_l (lN_mul _ _) ?_
            refine lv_lload X.1 X.2.1 dX2_area_165 (lv_at hl 1 rfl) ?_
            refine lv_lmul X.1 X.2.1 dX2_area_167 ?_
            refine w_l (lN_mul _ _) ?_
            refine lv_lload X.1 X.2.1 dX2_area_168 (lv_at hl 2 rfl) ?_
            refine lv_lsub X.1 X.2.1 dX2_area_170 ?_
            refine w_l (lN_sub hLn) ?_
            refine lv_lload X.1 X.2.1 dX2_area_171 (lv_at hl 1 rfl) ?_
            refine f_callV (F := fun q => q = mo) (C := RX2) (b := mo) (As := [.long (lN (((2 * (slen x1 y1 k)) * ((pk x1 y1 q * bes q k).den)) - (nu (pk x1 y1 q * bes q k)))), .long (lN ((pk x1 y1 q * bes q k).den))]) (rest := []) X (c_X2_put l g mo ua oa ga _ _ _ x1 y1 U O q (2 * slen x1 y1 k * (pk x1 y1 q * bes q k).den - nu (pk x1 y1 q * bes q k)) ((pk x1 y1 q * bes q k).den) hM (by omega) (by have := bL.2.2; omega) (dn_pos _)) ⟨mw_508, mw_510, mw_22, mw_40, mw_511⟩ sgX2_put ⟨rfl, rfl, ⟨by decide, by decide⟩, by decide, by decide⟩ (hP.at 0 rfl) rfl rfl (hP) hX.1 (fun q h => h) hlo rfl hl.1 rfl (Nat.le_of_ble_eq_true rfl) dX2_area_173 (fun v H503 locs hk504 hlo hp => ?_)
            obtain ⟨rfl, hP⟩ := hp
            have hX := hX.trf (fun q h => h) hk504
            refine W.eq (g2 := F0 m 176 ls []) rfl ?_
            rw [← sub_mk bL.1 hLn] at hP
            refine lv_aload_n X.1 X.2.1 dX2_area_176 rfl (lv_at hl 5 rfl) ?_
            refine p_get (T := TX2) X uX2 (hP.at 0 rfl) rfl 6 (by decide) mw_470 rfl rfl dX2_area_177 ?_
            refine lv_lstore (lv' := [(11, .long (lN (nu (((2 * slen x1 y1 k : Nat) : Rat) - pk x1 y1 q * bes q k)))), (9, .long (lN ((pk x1 y1 q * bes q k).den))), (7, .long (lN (nu (pk x1 y1 q * bes q k)))), (5, .long (lN ((pk x1 y1 q * q k).den))), (3, .long (lN (nu (pk x1 y1 q * q k)))), (0, .ref mo), (1, .int (nI k)), (2, .int (nI pj))]) X.1 X.2.1 dX2_area_180 hl (by decide) rfl (fun ls hl => ?_)
            refine lv_aload_n X.1 X.2.1 dX2_area_182 rfl (lv_at hl 5 rfl) ?_
            refine p_get (T := TX2) X uX2 (hP.at 0 rfl) rfl 7 (by decide) mw_471 rfl rfl dX2_area_183 ?_
            refine lv_lstore (lv' := [(13, .long (lN ((((2 * slen x1 y1 k : Nat) : Rat) - pk x1 y1 q * bes q k).den))), (11, .long (lN (nu (((2 * slen x1 y1 k : Nat) : Rat) - pk x1 y1 q * bes q k)))), (9, .long (lN ((pk x1 y1 q * bes q k).den))), (7, .long (lN (nu (pk x1 y1 q * bes q k)))), (5, .long (lN ((pk x1 y1 q * q k).den))), (3, .long (lN (nu (pk x1 y1 q * q k)))), (0, .ref mo), (1, .int (nI k)), (2, .int (nI pj))]) X.1 X.2.1 dX2_area_186 hl (by decide) rfl (fun ls hl => ?_)
            refine lv_aload_n X.1 X.2.1 dX2_area_188 rfl (lv_at hl 6 rfl) ?_
            refine lv_lload_n X.1 X.2.1 dX2_area_189 rfl (lv_at hl 5 rfl) ?_
            refine lv_lload X.1 X.2.1 dX2_area_190 (lv_at hl 0 rfl) ?_
            refine f_callV (F := fun q => q = mo) (C := RX2) (b := mo) (As := [.long (lN (nu (pk x1 y1 q * q k))), .long (lN ((((2 * slen x1 y1 k : Nat) : Rat) - pk x1 y1 q * bes q k).den))]) (rest := []) X (c_X2_put l g mo ua oa ga _ _ _ x1 y1 U O q (nu (pk x1 y1 q * q k)) ((((2 * slen x1 y1 k : Nat) : Rat) - pk x1 y1 q * bes q k).den) hM (by have := bF.2.1; omega) (by have := bZ.2.2; omega) (dn_pos _)) ⟨mw_508, mw_510, mw_22, mw_40, mw_511⟩ sgX2_put ⟨rfl, rfl, ⟨by decide, by decide⟩, by decide, by decide⟩ (hP.at 0 rfl) rfl rfl (hP) hX.1 (fun q h => h) hlo rfl hl.1 rfl (Nat.le_of_ble_eq_true rfl) dX2_area_192 (fun v H505 locs hk506 hlo hp => ?_)
            obtain ⟨rfl, hP⟩ := hp
            have hX := hX.trf (fun q h => h) hk506
            refine W.eq (g2 := F0 m 195 ls []) rfl ?_
            refine lv_aload_n X.1 X.2.1 dX2_area_195 rfl (lv_at hl 6 rfl) ?_
            refine p_get (T := TX2) X uX2 (hP.at 0 rfl) rfl 6 (by decide) mw_470 rfl rfl dX2_area_196 ?_
            refine lv_lstore (lv' := [(15, .long (lN (nu (((nu (pk x1 y1 q * q k) : Nat) : Rat) / (((((2 * slen x1 y1 k : Nat) : Rat) - pk x1 y1 q * bes q k).den : Nat) : Rat))))), (13, .long (lN ((((2 * slen x1 y1 k : Nat) : Rat) - pk x1 y1 q * bes q k).den))), (11, .long (lN (nu (((2 * slen x1 y1 k : Nat) : Rat) - pk x1 y1 q * bes q k)))), (9, .long (lN ((pk x1 y1 q * bes q k).den))), (7, .long (lN (nu (pk x1 y1 q * bes q k)))), (5, .long (lN ((pk x1 y1 q * q k).den))), (3, .long (lN (nu (pk x1 y1 q * q k)))), (0, .ref mo), (1, .int (nI k)), (2, .int (nI pj))]) X.1 X.2.1 dX2_area_199 hl (by decide) rfl (fun ls hl => ?_)
            refine lv_aload_n X.1 X.2.1 dX2_area_201 rfl (lv_at hl 7 rfl) ?_
            refine p_get (T := TX2) X uX2 (hP.at 0 rfl) rfl 7 (by decide) mw_471 rfl rfl dX2_area_202 ?_
            refine lv_lstore (lv' := [(17, .long (lN ((((nu (pk x1 y1 q * q k) : Nat) : Rat) / (((((2 * slen x1 y1 k : Nat) : Rat) - pk x1 y1 q * bes q k).den : Nat) : Rat)).den))), (15, .long (lN (nu (((nu (pk x1 y1 q * q k) : Nat) : Rat) / (((((2 * slen x1 y1 k : Nat) : Rat) - pk x1 y1 q * bes q k).den : Nat) : Rat))))), (13, .long (lN ((((2 * slen x1 y1 k : Nat) : Rat) - pk x1 y1 q * bes q k).den))), (11, .long (lN (nu (((2 * slen x1 y1 k : Nat) : Rat) - pk x1 y1 q * bes q k)))), (9, .long (lN ((pk x1 y1 q * bes q k).den))), (7, .long (lN (nu (pk x1 y1 q * bes q k)))), (5, .long (lN ((pk x1 y1 q * q k).den))), (3, .long (lN (nu (pk x1 y1 q * q k)))), (0, .ref mo), (1, .int (nI k)), (2, .int (nI pj))]) X.1 X.2.1 dX2_area_205 hl (by decide) rfl (fun ls hl => ?_)
            refine lv_aload_n X.1 X.2.1 dX2_area_207 rfl (lv_at hl 8 rfl) ?_
            refine lv_lload X.1 X.2.1 dX2_area_208 (lv_at hl 3 rfl) ?_
            refine lv_lload X.1 X.2.1 dX2_area_210 (lv_at hl 6 rfl) ?_
            refine f_callV (F := fun q => q = mo) (C := RX2) (b := mo) (As := [.long (lN (nu (((2 * slen x1 y1 k : Nat) : Rat) - pk x1 y1 q * bes q k))), .long (lN ((pk x1 y1 q * q k).den))]) (rest := []) X (c_X2_put l g mo ua oa ga _ _ _ x1 y1 U O q (nu (((2 * slen x1 y1 k : Nat) : Rat) - pk x1 y1 q * bes q k)) ((pk x1 y1 q * q k).den) hM (by have := bZ.2.1; omega) (by have := bF.2.2; omega) (dn_pos _)) ⟨mw_508, mw_510, mw_22, mw_40, mw_511⟩ sgX2_put ⟨rfl, rfl, ⟨by decide, by decide⟩, by decide, by decide⟩ (hP.at 0 rfl) rfl rfl (hP) hX.1 (fun q h => h) hlo rfl hl.1 rfl (Nat.le_of_ble_eq_true rfl) dX2_area_212 (fun v H507 locs hk508 hlo hp => ?_)
            obtain ⟨rfl, hP⟩ := hp
            have hX := hX.trf (fun q h => h) hk508
            refine W.eq (g2 := F0 m 215 ls []) rfl ?_
            refine lv_aload_n X.1 X.2.1 dX2_area_215 rfl (lv_at hl 8 rfl) ?_
            refine lv_lload X.1 X.2.1 dX2_area_216 (lv_at hl 1 rfl) ?_
            refine lv_aload_n X.1 X.2.1 dX2_area_218 rfl (lv_at hl 8 rfl) ?_
            refine p_get (T := TX2) X uX2 (hP.at 0 rfl) rfl 6 (by decide) mw_470 rfl rfl dX2_area_219 ?_
            refine lv_lmul X.1 X.2.1 dX2_area_222 ?_
            refine w_l (lN_mul _ _) ?_
            refine lv_lload X.1 X.2.1 dX2_area_223 (lv_at hl 0 rfl) ?_
            refine lv_aload_n X.1 X.2.1 dX2_area_225 rfl (lv_at hl 8 rfl) ?_
            refine p_get (T := TX2) X uX2 (hP.at 0 rfl) rfl 7 (by decide) mw_471 rfl rfl dX2_area_226 ?_
            refine lv_lmul X.1 X.2.1 dX2_area_229 ?_
            refine w_l (lN_mul _ _) ?_
            have b1 : bd (((nu (pk x1 y1 q * q k) : Nat) : Rat) / (((((2 * slen x1 y1 k : Nat) : Rat) - pk x1 y1 q * bes q k).den : Nat) : Rat)) 16000000 320000 := (bd_mk (dn_pos _)).mono bF.2.1 bZ.2.2
            have b2 : bd (((nu (((2 * slen x1 y1 k : Nat) : Rat) - pk x1 y1 q * bes q k) : Nat) : Rat) / (((pk x1 y1 q * q k).den : Nat) : Rat)) 1280000000 16000 := (bd_mk (dn_pos _)).mono (by have := bZ.2.1; omega) bF.2.2
            refine f_callV (F := fun q => q = mo) (C := RX2) (b := mo) (As := [.long (lN ((nu (((nu (pk x1 y1 q * q k) : Nat) : Rat) / (((((2 * slen x1 y1 k : Nat) : Rat) - pk x1 y1 q * bes q k).den : Nat) : Rat))) * (nu (((nu (((2 * slen x1 y1 k : Nat) : Rat) - pk x1 y1 q * bes q k) : Nat) : Rat) / (((pk x1 y1 q * q k).den : Nat) : Rat))))), .long (lN (((((nu (pk x1 y1 q * q k) : Nat) : Rat) / (((((2 * slen x1 y1 k : Nat) : Rat) - pk x1 y1 q * bes q k).den : Nat) : Rat)).den) * ((((nu (((2 * slen x1 y1 k : Nat) : Rat) - pk x1 y1 q * bes q k) : Nat) : Rat) / (((pk x1 y1 q * q k).den : Nat) : Rat)).den)))]) (rest := []) X (c_X2_put l g mo ua oa ga _ _ _ x1 y1 U O q (nu (((nu (pk x1 y1 q * q k) : Nat) : Rat) / (((((2 * slen x1 y1 k : Nat) : Rat) - pk x1 y1 q * bes q k).den : Nat) : Rat)) * nu (((nu (((2 * slen x1 y1 k : Nat) : Rat) - pk x1 y1 q * bes q k) : Nat) : Rat) / (((pk x1 y1 q * q k).den : Nat) : Rat))) ((((nu (pk x1 y1 q * q k) : Nat) : Rat) / (((((2 * slen x1 y1 k : Nat) : Rat) - pk x1 y1 q * bes q k).den : Nat) : Rat)).den * (((nu (((2 * slen x1 y1 k : Nat) : Rat) - pk x1 y1 q * bes q k) : Nat) : Rat) / (((pk x1 y1 q * q k).den : Nat) : Rat)).den) hM (mlt b1.2.1 b2.2.1 (by decide)) (mlt b1.2.2 b2.2.2 (by decide)) (Nat.mul_pos (dn_pos _) (dn_pos _))) ⟨mw_508, mw_510, mw_22, mw_40, mw_511⟩ sgX2_put ⟨rfl, rfl, ⟨by decide, by decide⟩, by decide, by decide⟩ (hP.at 0 rfl) rfl rfl (hP) hX.1 (fun q h => h) hlo rfl hl.1 rfl (Nat.le_of_ble_eq_true rfl) dX2_area_230 (fun v H509 locs hk510 hlo hp => ?_)
            obtain ⟨rfl, hP⟩ := hp
            have hX := hX.trf (fun q h => h) hk510
            refine W.eq (g2 := F0 m 233 ls []) rfl ?_
            rw [← mul_mk b1.1 b2.1, ar_end bF.1 bZ.1] at hP
            refine lv_aload_n X.1 X.2.1 dX2_area_233 rfl (lv_at hl 8 rfl) ?_
            refine lv_iload_n X.1 X.2.1 dX2_area_234 rfl (lv_at hl 10 rfl) ?_
            refine p_callV (C := RX2) (b := mo) (As := [.int (nI pj)]) (rest := []) X (c_X2_told l g mo ua oa ga _ x1 y1 U O q (are x1 y1 q k) pj hpj) ⟨mw_532, mw_534, mw_26, mw_40, mw_535⟩ sgX2_told ⟨rfl, rfl, ⟨by decide, by decide⟩, by decide, by decide⟩ (hP.at 0 rfl) rfl rfl (hP.sub [0, 1, 2, 3] rfl) hX.1 rfl hl.1 rfl (Nat.le_of_ble_eq_true rfl) dX2_area_235 (fun v H511 hk512 hp => ?_)
            obtain rfl := hp
            have hX := hX.tr hk512
            have hP := PP.ext hP hk512
            refine W.eq (g2 := F0 m 238 ls [.long (lN (prt (are x1 y1 q k) pj))]) rfl ?_
            exact f_lret X hX hlo (⟨⟨_, _, _, by simp [mk3, hj, epj, hi, ek, hg], hP⟩, _, rfl, fun _ _ _ => by simp only [ek, epj]⟩) ⟨by decide, by decide⟩ dX2_area_238
          refine f_put (F := fun q => q = mo) (T := TX2) (N := 8) (ci := 2) X tyX2 tyX2_ok nmX2 uX2 (hP.at 0 rfl) rfl 0 (by decide) mw_464 rfl rfl (v := .int (nI 0)) (ty := .int) (by decide +kernel) rfl rfl (Nat.le_of_ble_eq_true rfl) (Or.inl rfl) hlo dX2_area_19 (fun H7 locs hpa hlo hat => ?_)
          have hX := hX.tra (rfl) hpa
          have hP := PP.cons hat (PP.exa (hP.sub [1, 2, 3] rfl : PP g [mla g ua U, mla g oa O, mza g ga q] _) hpa (fun z hz => by simp only [List.mem_cons, List.not_mem_nil, or_false] at hz; rcases hz with rfl | rfl | rfl <;> first | exact hM.1 | exact hM.2.1 | exact hM.2.2.1))
          have hP : PP g [(mo, .inr (2, [.int (nI 0), .long (lN x1), .long (lN y1), .ref ua, .ref oa, .ref ga, .long ab, .long be])), mla g ua U, mla g oa O, mza g ga q] H7 := hP
          refine lv_aload_n X.1 X.2.1 dX2_area_22 rfl (lv_at hl 0 rfl) ?_
          refine p_get (T := TX2) X uX2 (hP.at 0 rfl) rfl 0 (by decide) mw_464 rfl rfl dX2_area_23 ?_
          refine lv_if_le (tgt := 31) X.1 X.2.1 dX2_area_26 (by decide) (fun _ => ?_) (fun h9 => absurd (by decide) h9)
          refine lv_aload_n X.1 X.2.1 dX2_area_31 rfl (lv_at hl 0 rfl) ?_
          refine lv_iload_n X.1 X.2.1 dX2_area_32 rfl (lv_at hl 1 rfl) ?_
          refine f_callV (F := fun q => q = mo) (C := RX2) (b := mo) (As := [.int (nI k)]) (rest := []) X (c_X2_makeFar l g mo ua oa ga _ _ _ x1 y1 U O q (k) hO hR hM hk) ⟨mw_610, mw_612, mw_36, mw_40, mw_613⟩ sgX2_makeFar ⟨rfl, rfl, ⟨by decide, by decide⟩, by decide, by decide⟩ (hP.at 0 rfl) rfl rfl (hP) hX.1 (fun q h => h) hlo rfl hl.1 rfl (Nat.le_of_ble_eq_true rfl) dX2_area_33 (fun v H8 locs hk9 hlo hp => ?_)
          obtain ⟨rfl, hP⟩ := hp
          have hX := hX.trf (fun q h => h) hk9
          refine W.eq (g2 := F0 m 36 ls []) rfl ?_
          refine lv_aload_n X.1 X.2.1 dX2_area_36 rfl (lv_at hl 0 rfl) ?_
          refine p_get (T := TX2) X uX2 (hP.at 0 rfl) rfl 6 (by decide) mw_470 rfl rfl dX2_area_37 ?_
          refine lv_lstore_n (lv' := [(3, .long (lN (nu (pk x1 y1 q * q k)))), (0, .ref mo), (1, .int (nI k)), (2, .int (nI pj))]) X.1 X.2.1 dX2_area_40 rfl hl (by decide) rfl (fun ls hl => ?_)
          refine lv_aload_n X.1 X.2.1 dX2_area_41 rfl (lv_at hl 1 rfl) ?_
          refine p_get (T := TX2) X uX2 (hP.at 0 rfl) rfl 7 (by decide) mw_471 rfl rfl dX2_area_42 ?_
          refine lv_lstore (lv' := [(5, .long (lN ((pk x1 y1 q * q k).den))), (3, .long (lN (nu (pk x1 y1 q * q k)))), (0, .ref mo), (1, .int (nI k)), (2, .int (nI pj))]) X.1 X.2.1 dX2_area_45 hl (by decide) rfl (fun ls hl => ?_)
          refine lv_lconst (v := lN 0) X.1 X.2.1 dX2_area_47 (by decide) ?_
          refine lv_lstore (lv' := [(7, .long (lN 0)), (5, .long (lN ((pk x1 y1 q * q k).den))), (3, .long (lN (nu (pk x1 y1 q * q k)))), (0, .ref mo), (1, .int (nI k)), (2, .int (nI pj))]) X.1 X.2.1 dX2_area_48 hl (by decide) rfl (fun ls hl => ?_)
          refine lv_lconst (v := lN 1) X.1 X.2.1 dX2_area_50 (by decide) ?_
          refine lv_lstore (lv' := [(9, .long (lN 1)), (7, .long (lN 0)), (5, .long (lN ((pk x1 y1 q * q k).den))), (3, .long (lN (nu (pk x1 y1 q * q k)))), (0, .ref mo), (1, .int (nI k)), (2, .int (nI pj))]) X.1 X.2.1 dX2_area_51 hl (by decide) rfl (fun ls hl => ?_)
          refine lv_iconst (v := nI 1) X.1 X.2.1 dX2_area_53 (by decide) ?_
          refine lv_istore (lv' := [(11, .int (nI 1)), (9, .long (lN 1)), (7, .long (lN 0)), (5, .long (lN ((pk x1 y1 q * q k).den))), (3, .long (lN (nu (pk x1 y1 q * q k)))), (0, .ref mo), (1, .int (nI k)), (2, .int (nI pj))]) X.1 X.2.1 dX2_area_54 hl (by decide) rfl (fun ls hl => ?_)
          exact body 1 0 (by decide) ⟨Rat.le_refl, by decide, by decide⟩ (fun ab be H locs ls hX hlo hP hl => body 3 _ (by decide) (by rw [Rat.zero_add]; exact bd_in hO (Nat.mod_lt _ (by decide))) (fun ab be H locs ls hX hlo hP hl => tail ab be H locs ls hX hlo hP (by rw [bh1, bh3, L_eq] at hl; exact hl)) ab be H locs ls hX hlo hP hl) _ _ _ _ ls hX hlo hP (lv_sub hl [0, 1, 2, 3, 4, 5, 6, 7] rfl)
      ·
        have hi : inI i 4 = false := gabF hi
        refine w_i (v' := nI 1) (by simp [mk3, hi]) ?_
        refine f_put (F := fun q => q = mo) (T := TX2) (N := 8) (ci := 2) X tyX2 tyX2_ok nmX2 uX2 (hP.at 0 rfl) rfl 0 (by decide) mw_464 rfl rfl (v := .int (nI 1)) (ty := .int) (by decide +kernel) rfl rfl (Nat.le_of_ble_eq_true rfl) (Or.inl rfl) hlo dX2_area_19 (fun H10 locs hpa hlo hat => ?_)
        have hX := hX.tra (rfl) hpa
        have hP := PP.cons hat (PP.exa (hP.sub [1, 2, 3] rfl : PP g [mla g ua U, mla g oa O, mza g ga q] _) hpa (fun z hz => by simp only [List.mem_cons, List.not_mem_nil, or_false] at hz; rcases hz with rfl | rfl | rfl <;> first | exact hM.1 | exact hM.2.1 | exact hM.2.2.1))
        have hP : PP g [(mo, .inr (2, [.int (nI 1), .long (lN x1), .long (lN y1), .ref ua, .ref oa, .ref ga, .long ab, .long be])), mla g ua U, mla g oa O, mza g ga q] H10 := hP
        refine lv_aload_n X.1 X.2.1 dX2_area_22 rfl (lv_at hl 0 rfl) ?_
        refine p_get (T := TX2) X uX2 (hP.at 0 rfl) rfl 0 (by decide) mw_464 rfl rfl dX2_area_23 ?_
        refine lv_if_le (tgt := 31) X.1 X.2.1 dX2_area_26 (by decide) (fun h9 => absurd h9 (by decide)) (fun _ => ?_)
        refine lv_lconst (v := lN 0) X.1 X.2.1 dX2_area_29 (by decide) ?_
        exact f_lret X hX hlo (⟨⟨_, _, _, by simp [mk3, hj, epj, hi], hP⟩, _, rfl, fun h1 h2 h3 => by simp [hj, epj, hi] at h1⟩) ⟨by decide, by decide⟩ dX2_area_30
    ·
      have hj : inI j 2 = false := inI_hi3 (n := 1) (by decide) hB3
      refine lv_iconst (v := nI 1) X.1 X.2.1 dX2_area_10 (by decide) ?_
      refine lv_goto (tgt := 19) X.1 X.2.1 dX2_area_11 (by decide) ?_
      refine f_put (F := fun q => q = mo) (T := TX2) (N := 8) (ci := 2) X tyX2 tyX2_ok nmX2 uX2 (hP.at 0 rfl) rfl 0 (by decide) mw_464 rfl rfl (v := .int (nI 1)) (ty := .int) (by decide +kernel) rfl rfl (Nat.le_of_ble_eq_true rfl) (Or.inl rfl) hlo dX2_area_19 (fun H11 locs hpa hlo hat => ?_)
      have hX := hX.tra (rfl) hpa
      have hP := PP.cons hat (PP.exa (hP.sub [1, 2, 3] rfl : PP g [mla g ua U, mla g oa O, mza g ga q] _) hpa (fun z hz => by simp only [List.mem_cons, List.not_mem_nil, or_false] at hz; rcases hz with rfl | rfl | rfl <;> first | exact hM.1 | exact hM.2.1 | exact hM.2.2.1))
      have hP : PP g [(mo, .inr (2, [.int (nI 1), .long (lN x1), .long (lN y1), .ref ua, .ref oa, .ref ga, .long ab, .long be])), mla g ua U, mla g oa O, mza g ga q] H11 := hP
      refine lv_aload_n X.1 X.2.1 dX2_area_22 rfl (lv_at hl 0 rfl) ?_
      refine p_get (T := TX2) X uX2 (hP.at 0 rfl) rfl 0 (by decide) mw_464 rfl rfl dX2_area_23 ?_
      refine lv_if_le (tgt := 31) X.1 X.2.1 dX2_area_26 (by decide) (fun h9 => absurd h9 (by decide)) (fun _ => ?_)
      refine lv_lconst (v := lN 0) X.1 X.2.1 dX2_area_29 (by decide) ?_
      exact f_lret X hX hlo (⟨⟨_, _, _, by simp [mk3, hj], hP⟩, _, rfl, fun h1 h2 h3 => by simp [hj] at h1⟩) ⟨by decide, by decide⟩ dX2_area_30
