set_option maxHeartbeats 4000000 in
set_option maxRecDepth 100000 in
theorem c_X1_goesAlongX (l : Launch) (g : En) (k : Nat) (hk : k < 4) : PM l yX1_goesAlongX cX1_goesAlongX 1 (some FieldType.boolean) { frames := 0, cells := 0, slots := 0, locals := 0 } g [.int (nI k)] (fun H => True) 0 0 (rB (alongX k)) := by
  refine PM.of (by decide) (Nat.le_of_ble_eq_true rfl) (fun p e s m below meth c ls X _ hl => ?_)
  have hl : lv_has ls 1 [(0, .int (nI k))] := hl
  have hX : hxt s.heap s.heap := hxt.rf
  refine lv_iload_n X.1 X.2.1 dX1_goesAlongX_0 rfl (lv_at hl 0 rfl) ?_
  refine q_Zeq X (by omega) (tgt := 9) dX1_goesAlongX_1 (by decide) (fun hB1 => ?_) (fun hB1 => ?_)
  ·
    subst hB1
    refine lv_iconst (v := nI 1) X.1 X.2.1 dX1_goesAlongX_9 (by decide) ?_
    refine lv_goto (tgt := 14) X.1 X.2.1 dX1_goesAlongX_10 (by decide) ?_
    refine w_i (v' := bI true) (by decide) ?_
    exact p_zret (v := true) X hX (rfl) ⟨by decide, by decide⟩ dX1_goesAlongX_14
  ·
    refine lv_iload_n X.1 X.2.1 dX1_goesAlongX_4 rfl (lv_at hl 0 rfl) ?_
    refine lv_iconst (v := nI 2) X.1 X.2.1 dX1_goesAlongX_5 (by decide) ?_
    refine q_Ine X (by omega) (by omega) (tgt := 13) dX1_goesAlongX_6 (by decide) (fun hB2 => ?_) (fun hB2 => ?_)
    ·
      refine lv_iconst (v := nI 0) X.1 X.2.1 dX1_goesAlongX_13 (by decide) ?_
      refine w_i (v' := bI false) (by decide) ?_
      exact p_zret (v := false) X hX (by rw [rB, show alongX k = false by simp [alongX, hB1, hB2]]; rfl) ⟨by decide, by decide⟩ dX1_goesAlongX_14
    ·
      subst hB2
      refine lv_iconst (v := nI 1) X.1 X.2.1 dX1_goesAlongX_9 (by decide) ?_
      refine lv_goto (tgt := 14) X.1 X.2.1 dX1_goesAlongX_10 (by decide) ?_
      refine w_i (v' := bI true) (by decide) ?_
      exact p_zret (v := true) X hX (rfl) ⟨by decide, by decide⟩ dX1_goesAlongX_14
set_option maxHeartbeats 4000000 in
set_option maxRecDepth 100000 in
theorem c_X1_opposite (l : Launch) (g : En) (k : Nat) (hk : k < 4) : PM l yX1_opposite cX1_opposite 1 (some FieldType.int) { frames := 0, cells := 0, slots := 0, locals := 0 } g [.int (nI k)] (fun H => True) 0 0 (rI (opp k)) := by
  refine PM.of (by decide) (Nat.le_of_ble_eq_true rfl) (fun p e s m below meth c ls X _ hl => ?_)
  have hl : lv_has ls 1 [(0, .int (nI k))] := hl
  have hX : hxt s.heap s.heap := hxt.rf
  refine lv_iload_n X.1 X.2.1 dX1_opposite_0 rfl (lv_at hl 0 rfl) ?_
  refine lv_iconst (v := nI 2) X.1 X.2.1 dX1_opposite_1 (by decide) ?_
  refine lv_iadd X.1 X.2.1 dX1_opposite_2 ?_
  refine w_i (nI_add _ _) ?_
  refine lv_iconst (v := nI 4) X.1 X.2.1 dX1_opposite_3 (by decide) ?_
  refine lv_irem X.1 X.2.1 dX1_opposite_4 (nI_ne0 (by omega) (by omega)) ?_
  refine w_i (pk_rem (by omega) (by omega) (by omega)) ?_
  exact p_iret X hX (rfl) ⟨by decide, by decide⟩ dX1_opposite_5
set_option maxHeartbeats 4000000 in
set_option maxRecDepth 100000 in
theorem c_X1_sideBehind (l : Launch) (g : En) (k : Nat) (hk : k < 4) : PM l yX1_sideBehind cX1_sideBehind 1 (some FieldType.int) { frames := 0, cells := 0, slots := 0, locals := 0 } g [.int (nI k)] (fun H => True) 0 0 (rI (behind k)) := by
  refine PM.of (by decide) (Nat.le_of_ble_eq_true rfl) (fun p e s m below meth c ls X _ hl => ?_)
  have hl : lv_has ls 1 [(0, .int (nI k))] := hl
  have hX : hxt s.heap s.heap := hxt.rf
  refine lv_iload_n X.1 X.2.1 dX1_sideBehind_0 rfl (lv_at hl 0 rfl) ?_
  refine lv_iconst (v := nI 1) X.1 X.2.1 dX1_sideBehind_1 (by decide) ?_
  refine lv_iadd X.1 X.2.1 dX1_sideBehind_2 ?_
  refine w_i (nI_add _ _) ?_
  refine lv_iconst (v := nI 4) X.1 X.2.1 dX1_sideBehind_3 (by decide) ?_
  refine lv_irem X.1 X.2.1 dX1_sideBehind_4 (nI_ne0 (by omega) (by omega)) ?_
  refine w_i (pk_rem (by omega) (by omega) (by omega)) ?_
  exact p_iret X hX (rfl) ⟨by decide, by decide⟩ dX1_sideBehind_5
set_option maxHeartbeats 4000000 in
set_option maxRecDepth 100000 in
theorem c_X1_sideLength (l : Launch) (g : En) (o r : Nat) (A : Nat → Nat) (x1 y1 : Nat) (q : Nat → Rat) (k : Nat) (hk : k < 4) : PM l yX1_sideLength cX1_sideLength 2 (some FieldType.long) { frames := 1, cells := 0, slots := 0, locals := 20 } g [.ref o, .int (nI k)] (fun H => RP g o r A x1 y1 q H) 0 0 (rL (slen x1 y1 k)) := by
  refine PM.of (by decide) (Nat.le_of_ble_eq_true rfl) (fun p e s m below meth c ls X hG hl => ?_)
  obtain ⟨hP, hF⟩ := hG
  have hl : lv_has ls 2 [(0, .ref o), (1, .int (nI k))] := hl
  have hX : hxt s.heap s.heap := hxt.rf
  have hP : PP g [ob o x1 y1 r, ar g r A] s.heap := hP
  refine lv_iload_n X.1 X.2.1 dX1_sideLength_0 rfl (lv_at hl 1 rfl) ?_
  refine p_callS (As := [.int (nI k)]) (rest := []) X (c_X1_goesAlongX l g k hk) ⟨mw_299, mw_300, mw_38, mw_301⟩ sgX1_goesAlongX ⟨rfl, rfl, ⟨by decide, by decide⟩, by decide, by decide⟩ (trivial) hX.1 rfl hl.1 rfl (Nat.le_of_ble_eq_true rfl) dX1_sideLength_1 (fun v H1 hk2 hp => ?_)
  obtain rfl := hp
  have hX := hX.tr hk2
  have hP := PP.ext hP hk2
  have hF := RF.ext hF hk2
  refine W.eq (g2 := F0 m 4 ls [.int (bI (alongX k))]) rfl ?_
  refine q_Beq X (tgt := 14) dX1_sideLength_4 (by decide) (fun hB3 => ?_) (fun hB3 => ?_)
  ·
    refine lv_aload_n X.1 X.2.1 dX1_sideLength_14 rfl (lv_at hl 0 rfl) ?_
    refine p_get (T := TX1) X uX1 (hP.at 0 rfl) rfl 1 (by decide) mw_78 rfl rfl dX1_sideLength_15 ?_
    exact p_lret X hX (by rw [rL, slen, if_neg (by rw [hB3]; decide)]) ⟨by decide, by decide⟩ dX1_sideLength_18
  ·
    refine lv_aload_n X.1 X.2.1 dX1_sideLength_7 rfl (lv_at hl 0 rfl) ?_
    refine p_get (T := TX1) X uX1 (hP.at 0 rfl) rfl 0 (by decide) mw_77 rfl rfl dX1_sideLength_8 ?_
    refine lv_goto (tgt := 18) X.1 X.2.1 dX1_sideLength_11 (by decide) ?_
    exact p_lret X hX (by rw [rL, slen, if_pos hB3]) ⟨by decide, by decide⟩ dX1_sideLength_18
set_option maxHeartbeats 4000000 in
set_option maxRecDepth 100000 in
theorem c_X1_wayToOpposite (l : Launch) (g : En) (o r : Nat) (A : Nat → Nat) (x1 y1 : Nat) (q : Nat → Rat) (k : Nat) (hk : k < 4) : PM l yX1_wayToOpposite cX1_wayToOpposite 2 (some FieldType.long) { frames := 1, cells := 0, slots := 0, locals := 20 } g [.ref o, .int (nI k)] (fun H => RP g o r A x1 y1 q H) 0 0 (rL (wayo x1 y1 k)) := by
  refine PM.of (by decide) (Nat.le_of_ble_eq_true rfl) (fun p e s m below meth c ls X hG hl => ?_)
  obtain ⟨hP, hF⟩ := hG
  have hl : lv_has ls 2 [(0, .ref o), (1, .int (nI k))] := hl
  have hX : hxt s.heap s.heap := hxt.rf
  have hP : PP g [ob o x1 y1 r, ar g r A] s.heap := hP
  refine lv_iload_n X.1 X.2.1 dX1_wayToOpposite_0 rfl (lv_at hl 1 rfl) ?_
  refine p_callS (As := [.int (nI k)]) (rest := []) X (c_X1_goesAlongX l g k hk) ⟨mw_299, mw_300, mw_38, mw_301⟩ sgX1_goesAlongX ⟨rfl, rfl, ⟨by decide, by decide⟩, by decide, by decide⟩ (trivial) hX.1 rfl hl.1 rfl (Nat.le_of_ble_eq_true rfl) dX1_wayToOpposite_1 (fun v H1 hk2 hp => ?_)
  obtain rfl := hp
  have hX := hX.tr hk2
  have hP := PP.ext hP hk2
  have hF := RF.ext hF hk2
  refine W.eq (g2 := F0 m 4 ls [.int (bI (alongX k))]) rfl ?_
  refine q_Beq X (tgt := 14) dX1_wayToOpposite_4 (by decide) (fun hB3 => ?_) (fun hB3 => ?_)
  ·
    refine lv_aload_n X.1 X.2.1 dX1_wayToOpposite_14 rfl (lv_at hl 0 rfl) ?_
    refine p_get (T := TX1) X uX1 (hP.at 0 rfl) rfl 0 (by decide) mw_77 rfl rfl dX1_wayToOpposite_15 ?_
    exact p_lret X hX (by rw [rL, wayo, if_neg (by rw [hB3]; decide)]) ⟨by decide, by decide⟩ dX1_wayToOpposite_18
  ·
    refine lv_aload_n X.1 X.2.1 dX1_wayToOpposite_7 rfl (lv_at hl 0 rfl) ?_
    refine p_get (T := TX1) X uX1 (hP.at 0 rfl) rfl 1 (by decide) mw_78 rfl rfl dX1_wayToOpposite_8 ?_
    refine lv_goto (tgt := 18) X.1 X.2.1 dX1_wayToOpposite_11 (by decide) ?_
    exact p_lret X hX (by rw [rL, wayo, if_pos hB3]) ⟨by decide, by decide⟩ dX1_wayToOpposite_18
set_option maxHeartbeats 4000000 in
set_option maxRecDepth 100000 in
theorem c_X1_isGable (l : Launch) (g : En) (o r : Nat) (A : Nat → Nat) (x1 y1 : Nat) (q : Nat → Rat) (k : Nat) (hk : k < 4) (hq : bd (q k) 20 20) : PM l yX1_isGable cX1_isGable 2 (some FieldType.boolean) { frames := 0, cells := 0, slots := 0, locals := 0 } g [.ref o, .int (nI k)] (fun H => RP g o r A x1 y1 q H) 0 0 (rB (gab q k)) := by
  refine PM.of (by decide) (Nat.le_of_ble_eq_true rfl) (fun p e s m below meth c ls X hG hl => ?_)
  obtain ⟨hP, hF⟩ := hG
  have hl : lv_has ls 2 [(0, .ref o), (1, .int (nI k))] := hl
  have hX : hxt s.heap s.heap := hxt.rf
  have hP : PP g [ob o x1 y1 r, ar g r A] s.heap := hP
  refine lv_aload_n X.1 X.2.1 dX1_isGable_0 rfl (lv_at hl 0 rfl) ?_
  refine p_get (T := TX1) X uX1 (hP.at 0 rfl) rfl 2 (by decide) mw_79 rfl rfl dX1_isGable_1 ?_
  refine lv_iload_n X.1 X.2.1 dX1_isGable_4 rfl (lv_at hl 1 rfl) ?_
  refine p_aald X (hP.at 1 rfl) hk (by decide) (r := A k) rfl dX1_isGable_5 ?_
  have hP := PP.cons (hF k hk) hP
  refine p_get (T := TX0) X uX0 (hP.at 0 rfl) rfl 0 (by decide) mw_69 rfl rfl dX1_isGable_6 ?_
  refine lv_lconst (v := lN 0) X.1 X.2.1 dX1_isGable_9 (by decide) ?_
  refine q_Nne X (by have := hq.2.1; omega) (by decide) (tgt := 18) dX1_isGable_10 dX1_isGable_11 (by decide) (fun hB1 => ?_) (fun hB1 => ?_)
  ·
    refine lv_iconst (v := nI 0) X.1 X.2.1 dX1_isGable_18 (by decide) ?_
    refine w_i (v' := bI false) (by decide) ?_
    exact p_zret (v := false) X hX (by rw [rB, gab, decide_eq_false (fun h => hB1 ((nu_eq0 hq.1).mpr h))]; rfl) ⟨by decide, by decide⟩ dX1_isGable_19
  ·
    refine lv_iconst (v := nI 1) X.1 X.2.1 dX1_isGable_14 (by decide) ?_
    refine lv_goto (tgt := 19) X.1 X.2.1 dX1_isGable_15 (by decide) ?_
    refine w_i (v' := bI true) (by decide) ?_
    exact p_zret (v := true) X hX (by rw [rB, gab, decide_eq_true ((nu_eq0 hq.1).mp hB1)]; rfl) ⟨by decide, by decide⟩ dX1_isGable_19
set_option maxHeartbeats 4000000 in
set_option maxRecDepth 100000 in
theorem c_X1_distanceFrom (l : Launch) (g : En) (o r : Nat) (A : Nat → Nat) (x1 y1 : Nat) (q : Nat → Rat) (k x y : Nat) (hk : k < 4) (hx : x ≤ x1) (hy : y ≤ y1) : PM l yX1_distanceFrom cX1_distanceFrom 6 (some FieldType.long) { frames := 0, cells := 0, slots := 0, locals := 0 } g [.ref o, .int (nI k), .long (lN x), .long (lN y)] (fun H => RP g o r A x1 y1 q H) 0 0 (rL (dst x1 y1 k x y)) := by
  refine PM.of (by decide) (Nat.le_of_ble_eq_true rfl) (fun p e s m below meth c ls X hG hl => ?_)
  obtain ⟨hP, hF⟩ := hG
  have hl : lv_has ls 6 [(0, .ref o), (1, .int (nI k)), (2, .long (lN x)), (4, .long (lN y))] := hl
  have hX : hxt s.heap s.heap := hxt.rf
  have hP : PP g [ob o x1 y1 r, ar g r A] s.heap := hP
  refine lv_iload_n X.1 X.2.1 dX1_distanceFrom_0 rfl (lv_at hl 1 rfl) ?_
  rcases (show k = 0 ∨ k = 1 ∨ k = 2 ∨ k = 3 by omega) with rfl | rfl | rfl | rfl
  ·
    refine lv_tableIn (tgt := 28) X.1 X.2.1 dX1_distanceFrom_1 (by decide) (by decide) rfl (by decide) ?_
    refine lv_lload X.1 X.2.1 dX1_distanceFrom_28 (lv_at hl 3 rfl) ?_
    exact p_lret X hX (rfl) ⟨by decide, by decide⟩ dX1_distanceFrom_30
  ·
    refine lv_tableIn (tgt := 31) X.1 X.2.1 dX1_distanceFrom_1 (by decide) (by decide) rfl (by decide) ?_
    refine lv_aload_n X.1 X.2.1 dX1_distanceFrom_31 rfl (lv_at hl 0 rfl) ?_
    refine p_get (T := TX1) X uX1 (hP.at 0 rfl) rfl 0 (by decide) mw_77 rfl rfl dX1_distanceFrom_32 ?_
    refine lv_lload_n X.1 X.2.1 dX1_distanceFrom_35 rfl (lv_at hl 2 rfl) ?_
    refine lv_lsub X.1 X.2.1 dX1_distanceFrom_36 ?_
    refine w_l (lN_sub hx) ?_
    exact p_lret X hX (rfl) ⟨by decide, by decide⟩ dX1_distanceFrom_37
  ·
    refine lv_tableIn (tgt := 38) X.1 X.2.1 dX1_distanceFrom_1 (by decide) (by decide) rfl (by decide) ?_
    refine lv_aload_n X.1 X.2.1 dX1_distanceFrom_38 rfl (lv_at hl 0 rfl) ?_
    refine p_get (T := TX1) X uX1 (hP.at 0 rfl) rfl 1 (by decide) mw_78 rfl rfl dX1_distanceFrom_39 ?_
    refine lv_lload X.1 X.2.1 dX1_distanceFrom_42 (lv_at hl 3 rfl) ?_
    refine lv_lsub X.1 X.2.1 dX1_distanceFrom_44 ?_
    refine w_l (lN_sub hy) ?_
    exact p_lret X hX (rfl) ⟨by decide, by decide⟩ dX1_distanceFrom_45
  ·
    refine lv_tableOut (tgt := 46) X.1 X.2.1 dX1_distanceFrom_1 (by decide) (by decide) ?_
    refine lv_lload_n X.1 X.2.1 dX1_distanceFrom_46 rfl (lv_at hl 2 rfl) ?_
    exact p_lret X hX (rfl) ⟨by decide, by decide⟩ dX1_distanceFrom_47
theorem hgt_mk {X Y x y k : Nat} {q : Nat → Rat} (h : 0 < q k) : hgt X Y q x y k = (((q k).den * dst X Y k x y : Nat) : Rat) / ((nu (q k) : Nat) : Rat) := by
  have h1 := nu_mul (Rat.le_of_lt h)
  have h3 := dn_ne (q k)
  have h4 := Rat.ne_of_gt h
  rw [hgt, Rat.natCast_mul, h1]
  grind
set_option maxHeartbeats 4000000 in
set_option maxRecDepth 100000 in
theorem c_X1_planeHeight (l : Launch) (g : En) (o r : Nat) (A : Nat → Nat) (x1 y1 : Nat) (q : Nat → Rat) (k x y : Nat) (hO : OK x1 y1 q) (hk : k < 4) (hx : x ≤ x1) (hy : y ≤ y1) (hg : gab q k = false) : PM l yX1_planeHeight cX1_planeHeight 6 (some (FieldType.object "RafterPlaces$Fraction")) { frames := 2, cells := 1, slots := 2, locals := 58 } g [.ref o, .int (nI k), .long (lN x), .long (lN y)] (fun H => RP g o r A x1 y1 q H) 1 2 (rF g (hgt x1 y1 q x y k)) := by
  refine PM.of (by decide) (Nat.le_of_ble_eq_true rfl) (fun p e s m below meth c ls X hG hl => ?_)
  obtain ⟨hP, hF⟩ := hG
  have hq := hO.2.2.1 k hk
  have hpq := gab_pos hq hg
  have hd := dst_le hO hx hy k
  have hl : lv_has ls 6 [(0, .ref o), (1, .int (nI k)), (2, .long (lN x)), (4, .long (lN y))] := hl
  have hX : hxt s.heap s.heap := hxt.rf
  have hP : PP g [ob o x1 y1 r, ar g r A] s.heap := hP
  refine p_new (C := RX0) (T := TX0) (N := 2) (ci := 0) X tyX0 tyX0_ok uX0 ⟨mw_58, mw_60, mw_39⟩ rfl [.long 0, .long 0] (fun j hj => by rcases (show j = 0 ∨ j = 1 by omega) with rfl | rfl <;> rfl) ⟨by decide, by decide⟩ dX1_planeHeight_0 (fun q1 H2 eq1 zq1 kq1 hq1 => ?_)
  have hX0 := hX
  have hX := hX.tr kq1
  have hP0 := hP
  have hP := PP.ext hP kq1
  have hF0 := hF
  have hF := RF.ext hF kq1
  refine lv_dup X.1 X.2.1 dX1_planeHeight_3 rfl ?_
  refine lv_aload_n X.1 X.2.1 dX1_planeHeight_4 rfl (lv_at hl 0 rfl) ?_
  refine p_get (T := TX1) X uX1 (hP.at 0 rfl) rfl 2 (by decide) mw_79 rfl rfl dX1_planeHeight_5 ?_
  refine lv_iload_n X.1 X.2.1 dX1_planeHeight_8 rfl (lv_at hl 1 rfl) ?_
  refine p_aald X (hP.at 1 rfl) hk (by decide) (r := A k) rfl dX1_planeHeight_9 ?_
  have hP := PP.cons (hF k hk) hP
  refine p_get (T := TX0) X uX0 (hP.at 0 rfl) rfl 1 (by decide) mw_71 rfl rfl dX1_planeHeight_10 ?_
  refine lv_aload_n X.1 X.2.1 dX1_planeHeight_13 rfl (lv_at hl 0 rfl) ?_
  refine lv_iload_n X.1 X.2.1 dX1_planeHeight_14 rfl (lv_at hl 1 rfl) ?_
  refine lv_lload_n X.1 X.2.1 dX1_planeHeight_15 rfl (lv_at hl 2 rfl) ?_
  refine lv_lload X.1 X.2.1 dX1_planeHeight_16 (lv_at hl 3 rfl) ?_
  refine p_callV (C := RX1) (b := o) (As := [.int (nI k), .long (lN x), .long (lN y)]) (rest := [.long (lN ((q k).den)), .ref q1, .ref q1]) X (c_X1_distanceFrom l g o r A x1 y1 q k x y hk hx hy) ⟨mw_263, mw_265, mw_8, mw_38, mw_266⟩ sgX1_distanceFrom ⟨rfl, rfl, ⟨by decide, by decide⟩, by decide, by decide⟩ (hP.at 1 rfl) rfl rfl (RP.of hP [1, 2] rfl hF) hX.1 rfl hl.1 rfl (Nat.le_of_ble_eq_true rfl) dX1_planeHeight_18 (fun v H3 hk4 hp => ?_)
  obtain rfl := hp
  have hX := hX.tr hk4
  have hP := PP.ext hP hk4
  have hF := RF.ext hF hk4
  have kq1 := kq1.tr hk4
  have hq1 := (PP.ext (PP.one hq1) hk4) 0 _ rfl
  have zq1 : q1 < H3.size := va_at.lt hq1
  refine W.eq (g2 := F0 m 21 ls [.long (lN (dst x1 y1 k x y)), .long (lN ((q k).den)), .ref q1, .ref q1]) rfl ?_
  refine lv_lmul X.1 X.2.1 dX1_planeHeight_21 ?_
  refine w_l (lN_mul _ _) ?_
  refine lv_aload_n X.1 X.2.1 dX1_planeHeight_22 rfl (lv_at hl 0 rfl) ?_
  refine p_get (T := TX1) X uX1 (hP.at 1 rfl) rfl 2 (by decide) mw_79 rfl rfl dX1_planeHeight_23 ?_
  refine lv_iload_n X.1 X.2.1 dX1_planeHeight_26 rfl (lv_at hl 1 rfl) ?_
  refine p_aald X (hP.at 2 rfl) hk (by decide) (r := A k) rfl dX1_planeHeight_27 ?_
  refine p_get (T := TX0) X uX0 (hP.at 0 rfl) rfl 0 (by decide) mw_69 rfl rfl dX1_planeHeight_28 ?_
  refine p_callI (b := q1) (As := [.long (lN (((q k).den) * (dst x1 y1 k x y))), .long (lN (nu (q k)))]) (rest := [.ref q1]) X (c_X0_init l g q1 ((q k).den * dst x1 y1 k x y) (nu (q k)) (nu_pos hpq) (mlt hq.2.2 hd (by decide)) (by have := hq.2.1; omega)) ⟨mw_61, mw_62, mw_39, mw_63⟩ rfl sgX0_init ⟨rfl, rfl, ⟨by decide, by decide⟩, by decide, by decide⟩ (PP.one hq1) hX.1 (by rw [eq1]; exact hX0.1) rfl hl.1 rfl (Nat.le_of_ble_eq_true rfl) dX1_planeHeight_31 (fun H5 hkq1 hp => ?_)
  have keq1 := kq1.init (Nat.le_of_eq eq1.symm) hkq1
  have hX := hX0.tr keq1
  rw [← hgt_mk hpq] at hp
  have hP := PP.cons hp (PP.ext hP0 keq1)
  have hF := RF.ext hF0 keq1
  refine W.eq (g2 := F0 m 34 ls [.ref q1]) rfl ?_
  exact p_aret X hX (⟨_, rfl, hP.at 0 rfl⟩) ⟨by decide, by decide⟩ dX1_planeHeight_34
set_option maxHeartbeats 4000000 in
set_option maxRecDepth 100000 in
theorem c_X1_isLower (l : Launch) (g : En) (o r : Nat) (A : Nat → Nat) (x1 y1 : Nat) (q : Nat → Rat) (k j x y : Nat) (hO : OK x1 y1 q) (hk : k < 4) (hj : j < 4) (hx : x ≤ x1) (hy : y ≤ y1) (hg : gab q k = false) (hgj : gab q j = false) : PM l yX1_isLower cX1_isLower 7 (some FieldType.boolean) { frames := 3, cells := 2, slots := 4, locals := 83 } g [.ref o, .int (nI k), .int (nI j), .long (lN x), .long (lN y)] (fun H => RP g o r A x1 y1 q H) 2 4 (rB (decide (hgt x1 y1 q x y k < hgt x1 y1 q x y j))) := by
  refine PM.of (by decide) (Nat.le_of_ble_eq_true rfl) (fun p e s m below meth c ls X hG hl => ?_)
  obtain ⟨hP, hF⟩ := hG
  have hl : lv_has ls 7 [(0, .ref o), (1, .int (nI k)), (2, .int (nI j)), (3, .long (lN x)), (5, .long (lN y))] := hl
  have hX : hxt s.heap s.heap := hxt.rf
  have hP : PP g [ob o x1 y1 r, ar g r A] s.heap := hP
  refine lv_aload_n X.1 X.2.1 dX1_isLower_0 rfl (lv_at hl 0 rfl) ?_
  refine lv_iload_n X.1 X.2.1 dX1_isLower_1 rfl (lv_at hl 1 rfl) ?_
  refine lv_lload_n X.1 X.2.1 dX1_isLower_2 rfl (lv_at hl 3 rfl) ?_
  refine lv_lload X.1 X.2.1 dX1_isLower_3 (lv_at hl 4 rfl) ?_
  refine p_callV (C := RX1) (b := o) (As := [.int (nI k), .long (lN x), .long (lN y)]) (rest := []) X (c_X1_planeHeight l g o r A x1 y1 q k x y hO hk hx hy hg) ⟨mw_259, mw_261, mw_7, mw_38, mw_262⟩ sgX1_planeHeight ⟨rfl, rfl, ⟨by decide, by decide⟩, by decide, by decide⟩ (hP.at 0 rfl) rfl rfl (RP.of hP [0, 1] rfl hF) hX.1 rfl hl.1 rfl (Nat.le_of_ble_eq_true rfl) dX1_isLower_5 (fun v H1 hk2 hp => ?_)
  obtain ⟨r3, rfl, hr3⟩ := hp
  have hX := hX.tr hk2
  have hP := PP.ext hP hk2
  have hF := RF.ext hF hk2
  have hP := PP.cons hr3 hP
  refine W.eq (g2 := F0 m 8 ls [.ref r3]) rfl ?_
  refine lv_aload_n X.1 X.2.1 dX1_isLower_8 rfl (lv_at hl 0 rfl) ?_
  refine lv_iload_n X.1 X.2.1 dX1_isLower_9 rfl (lv_at hl 2 rfl) ?_
  refine lv_lload_n X.1 X.2.1 dX1_isLower_10 rfl (lv_at hl 3 rfl) ?_
  refine lv_lload X.1 X.2.1 dX1_isLower_11 (lv_at hl 4 rfl) ?_
  refine p_callV (C := RX1) (b := o) (As := [.int (nI j), .long (lN x), .long (lN y)]) (rest := [.ref r3]) X (c_X1_planeHeight l g o r A x1 y1 q j x y hO hj hx hy hgj) ⟨mw_259, mw_261, mw_7, mw_38, mw_262⟩ sgX1_planeHeight ⟨rfl, rfl, ⟨by decide, by decide⟩, by decide, by decide⟩ (hP.at 1 rfl) rfl rfl (RP.of hP [1, 2] rfl hF) hX.1 rfl hl.1 rfl (Nat.le_of_ble_eq_true rfl) dX1_isLower_13 (fun v H4 hk5 hp => ?_)
  obtain ⟨r6, rfl, hr6⟩ := hp
  have hX := hX.tr hk5
  have hP := PP.ext hP hk5
  have hF := RF.ext hF hk5
  have hP := PP.cons hr6 hP
  refine W.eq (g2 := F0 m 16 ls [.ref r6, .ref r3]) rfl ?_
  refine p_callV (C := RX0) (b := r3) (As := [.ref r6]) (rest := []) X (b_less l g _ _ (bd_hgt hO hx hy hk hg) (bd_hgt hO hx hy hj hgj) (by decide) (by decide)) ⟨mw_267, mw_268, mw_269, mw_39, mw_270⟩ sgX0_isLess ⟨rfl, rfl, ⟨by decide, by decide⟩, by decide, by decide⟩ (hP.at 1 rfl) rfl rfl (hP.sub [1, 0] rfl) hX.1 rfl hl.1 rfl (Nat.le_of_ble_eq_true rfl) dX1_isLower_16 (fun v H7 hk8 hp => ?_)
  obtain rfl := hp
  have hX := hX.tr hk8
  have hP := PP.ext hP hk8
  have hF := RF.ext hF hk8
  refine W.eq (g2 := F0 m 19 ls [.int (bI (decide (hgt x1 y1 q x y k < hgt x1 y1 q x y j)))]) rfl ?_
  exact p_zret (v := decide (hgt x1 y1 q x y k < hgt x1 y1 q x y j)) X hX (rfl) ⟨by decide, by decide⟩ dX1_isLower_19
