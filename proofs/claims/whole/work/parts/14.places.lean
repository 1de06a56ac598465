set_option maxHeartbeats 4000000 in
set_option maxRecDepth 100000 in
theorem c_X1_lowestSide (l : Launch) (g : En) (o r : Nat) (A : Nat → Nat) (x1 y1 : Nat) (q : Nat → Rat) (x y : Nat) (hO : OK x1 y1 q) (hx : x ≤ x1) (hy : y ≤ y1) : PM l yX1_lowestSide cX1_lowestSide 7 (some FieldType.int) { frames := 4, cells := 6, slots := 12, locals := 109 } g [.ref o, .long (lN x), .long (lN y)] (fun H => RP g o r A x1 y1 q H) 6 12 (rI (lwp x1 y1 q x y 3)) := by
  refine PM.of (by decide) (Nat.le_of_ble_eq_true rfl) (fun p e s m below meth c ls X hG hl => ?_)
  obtain ⟨hP, hF⟩ := hG
  have hq := hO.2.2.1
  have hc4 : lwp x1 y1 q x y 3 < 4 := Nat.lt_of_le_of_lt (lwp_le _ _ _ _ _ _) (by decide)
  have L4 : ∀ (H : Heap) (ls : Array Slot), hxt s.heap H → PP g [ob o x1 y1 r, ar g r A] H → RF g A q H → lv_has ls 7 [(6, .int (nI 4)), (5, .int (nI (lwp x1 y1 q x y 3))), (0, .ref o), (1, .long (lN x)), (3, .long (lN y))] → W p l e { frames := 4, cells := 6, slots := 12, locals := 109 } s m ([.ref o, .long (lN x), .long (lN y)] : List Value).toArray below meth c H [] 6 12 (MQ below (pQ (rI (lwp x1 y1 q x y 3))) ([.ref o, .long (lN x), .long (lN y)] : List Value).toArray s 6 12 (fun q => s.heap.size ≤ q)) (F0 m 6 ls []) := by
    intro H ls hX hP hF hl
    refine lv_iload X.1 X.2.1 dX1_lowestSide_6 (lv_at hl 0 rfl) ?_
    refine lv_iconst (v := nI 4) X.1 X.2.1 dX1_lowestSide_8 (by decide) ?_
    refine q_Ige X (by omega) (by omega) (tgt := 53) dX1_lowestSide_9 (by decide) (fun hB101 => ?_) (fun hB101 => ?_)
    ·
      refine lv_iload X.1 X.2.1 dX1_lowestSide_53 (lv_at hl 1 rfl) ?_
      exact p_iret X hX (rfl) ⟨by decide, by decide⟩ dX1_lowestSide_55
    ·
      exact absurd hB101 (by decide)
  have hc3 : lwp x1 y1 q x y 2 < 4 := Nat.lt_of_le_of_lt (lwp_le _ _ _ _ _ _) (by decide)
  have L3 : ∀ (H : Heap) (ls : Array Slot), hxt s.heap H → PP g [ob o x1 y1 r, ar g r A] H → RF g A q H → lv_has ls 7 [(6, .int (nI 3)), (5, .int (nI (lwp x1 y1 q x y 2))), (0, .ref o), (1, .long (lN x)), (3, .long (lN y))] → W p l e { frames := 4, cells := 6, slots := 12, locals := 109 } s m ([.ref o, .long (lN x), .long (lN y)] : List Value).toArray below meth c H [] 4 8 (MQ below (pQ (rI (lwp x1 y1 q x y 3))) ([.ref o, .long (lN x), .long (lN y)] : List Value).toArray s 6 12 (fun q => s.heap.size ≤ q)) (F0 m 6 ls []) := by
    intro H ls hX hP hF hl
    refine lv_iload X.1 X.2.1 dX1_lowestSide_6 (lv_at hl 0 rfl) ?_
    refine lv_iconst (v := nI 4) X.1 X.2.1 dX1_lowestSide_8 (by decide) ?_
    refine q_Ige X (by omega) (by omega) (tgt := 53) dX1_lowestSide_9 (by decide) (fun hB101 => ?_) (fun hB101 => ?_)
    ·
      exact absurd hB101 (by decide)
    ·
      refine lv_aload_n X.1 X.2.1 dX1_lowestSide_12 rfl (lv_at hl 2 rfl) ?_
      refine lv_iload X.1 X.2.1 dX1_lowestSide_13 (lv_at hl 0 rfl) ?_
      refine p_callV (C := RX1) (b := o) (As := [.int (nI 3)]) (rest := []) X (c_X1_isGable l g o r A x1 y1 q 3 (by decide) (hq 3 (by decide))) ⟨mw_220, mw_222, mw_3, mw_38, mw_223⟩ sgX1_isGable ⟨rfl, rfl, ⟨by decide, by decide⟩, by decide, by decide⟩ (hP.at 0 rfl) rfl rfl (RP.of hP [0, 1] rfl hF) hX.1 rfl hl.1 rfl (Nat.le_of_ble_eq_true rfl) dX1_lowestSide_15 (fun v H102 hk103 hp => ?_)
      obtain rfl := hp
      have hX := hX.tr hk103
      have hP := PP.ext hP hk103
      have hF := RF.ext hF hk103
      refine W.eq (g2 := F0 m 18 ls [.int (bI (gab q 3))]) rfl ?_
      refine q_Bne X (tgt := 47) dX1_lowestSide_18 (by decide) (fun hB104 => ?_) (fun hB104 => ?_)
      ·
        refine lv_iinc (v := nI (3 + 1)) (lv' := [(6, .int (nI (3 + 1))), (5, .int (nI (lwp x1 y1 q x y 2))), (0, .ref o), (1, .long (lN x)), (3, .long (lN y))]) X.1 X.2.1 dX1_lowestSide_47 hl (k := 0) rfl (nI_1 _) (by decide) rfl (fun ls hl => ?_)
        refine lv_goto (tgt := 6) X.1 X.2.1 dX1_lowestSide_50 (by decide) ?_
        refine W.widen (k := 6) (n := 12) (by decide) (by decide) ?_
        have e9 : lwp x1 y1 q x y 3 = lwp x1 y1 q x y 2 := lwp_f (n := 2) (Or.inl hB104)
        exact L4 _ ls hX (hP.sub [0, 1] rfl) hF (by rw [e9]; exact lv_sub hl [0, 1, 2, 3, 4] rfl)
      ·
        refine lv_aload_n X.1 X.2.1 dX1_lowestSide_21 rfl (lv_at hl 2 rfl) ?_
        refine lv_iload X.1 X.2.1 dX1_lowestSide_22 (lv_at hl 1 rfl) ?_
        refine p_callV (C := RX1) (b := o) (As := [.int (nI (lwp x1 y1 q x y 2))]) (rest := []) X (c_X1_isGable l g o r A x1 y1 q (lwp x1 y1 q x y 2) hc3 (hq _ hc3)) ⟨mw_220, mw_222, mw_3, mw_38, mw_223⟩ sgX1_isGable ⟨rfl, rfl, ⟨by decide, by decide⟩, by decide, by decide⟩ (hP.at 0 rfl) rfl rfl (RP.of hP [0, 1] rfl hF) hX.1 rfl hl.1 rfl (Nat.le_of_ble_eq_true rfl) dX1_lowestSide_24 (fun v H105 hk106 hp => ?_)
        obtain rfl := hp
        have hX := hX.tr hk106
        have hP := PP.ext hP hk106
        have hF := RF.ext hF hk106
        refine W.eq (g2 := F0 m 27 ls [.int (bI (gab q (lwp x1 y1 q x y 2)))]) rfl ?_
        refine q_Bne X (tgt := 43) dX1_lowestSide_27 (by decide) (fun hB107 => ?_) (fun hB107 => ?_)
        ·
          refine lv_iload X.1 X.2.1 dX1_lowestSide_43 (lv_at hl 0 rfl) ?_
          refine lv_istore (lv' := [(5, .int (nI 3)), (6, .int (nI 3)), (0, .ref o), (1, .long (lN x)), (3, .long (lN y))]) X.1 X.2.1 dX1_lowestSide_45 hl (by decide) rfl (fun ls hl => ?_)
          refine lv_iinc (v := nI (3 + 1)) (lv' := [(6, .int (nI (3 + 1))), (5, .int (nI 3)), (0, .ref o), (1, .long (lN x)), (3, .long (lN y))]) X.1 X.2.1 dX1_lowestSide_47 hl (k := 1) rfl (nI_1 _) (by decide) rfl (fun ls hl => ?_)
          refine lv_goto (tgt := 6) X.1 X.2.1 dX1_lowestSide_50 (by decide) ?_
          refine W.widen (k := 6) (n := 12) (by decide) (by decide) ?_
          have e9 : lwp x1 y1 q x y 3 = 3 := lwp_t (n := 2) hB104 (Or.inl hB107)
          exact L4 _ ls hX (hP.sub [0, 1] rfl) hF (by rw [e9]; exact lv_sub hl [0, 1, 2, 3, 4] rfl)
        ·
          refine lv_aload_n X.1 X.2.1 dX1_lowestSide_30 rfl (lv_at hl 2 rfl) ?_
          refine lv_iload X.1 X.2.1 dX1_lowestSide_31 (lv_at hl 0 rfl) ?_
          refine lv_iload X.1 X.2.1 dX1_lowestSide_33 (lv_at hl 1 rfl) ?_
          refine lv_lload_n X.1 X.2.1 dX1_lowestSide_35 rfl (lv_at hl 3 rfl) ?_
          refine lv_lload_n X.1 X.2.1 dX1_lowestSide_36 rfl (lv_at hl 4 rfl) ?_
          refine p_callV (C := RX1) (b := o) (As := [.int (nI 3), .int (nI (lwp x1 y1 q x y 2)), .long (lN x), .long (lN y)]) (rest := []) X (c_X1_isLower l g o r A x1 y1 q 3 (lwp x1 y1 q x y 2) x y hO (by decide) hc3 hx hy hB104 hB107) ⟨mw_255, mw_257, mw_6, mw_38, mw_258⟩ sgX1_isLower ⟨rfl, rfl, ⟨by decide, by decide⟩, by decide, by decide⟩ (hP.at 0 rfl) rfl rfl (RP.of hP [0, 1] rfl hF) hX.1 rfl hl.1 rfl (Nat.le_of_ble_eq_true rfl) dX1_lowestSide_37 (fun v H108 hk109 hp => ?_)
          obtain rfl := hp
          have hX := hX.tr hk109
          have hP := PP.ext hP hk109
          have hF := RF.ext hF hk109
          refine W.eq (g2 := F0 m 40 ls [.int (bI (decide (hgt x1 y1 q x y 3 < hgt x1 y1 q x y (lwp x1 y1 q x y 2))))]) rfl ?_
          refine q_Beq X (tgt := 47) dX1_lowestSide_40 (by decide) (fun hB110 => ?_) (fun hB110 => ?_)
          ·
            refine lv_iinc (v := nI (3 + 1)) (lv' := [(6, .int (nI (3 + 1))), (5, .int (nI (lwp x1 y1 q x y 2))), (0, .ref o), (1, .long (lN x)), (3, .long (lN y))]) X.1 X.2.1 dX1_lowestSide_47 hl (k := 0) rfl (nI_1 _) (by decide) rfl (fun ls hl => ?_)
            refine lv_goto (tgt := 6) X.1 X.2.1 dX1_lowestSide_50 (by decide) ?_
            have e9 : lwp x1 y1 q x y 3 = lwp x1 y1 q x y 2 := lwp_f (n := 2) (Or.inr ⟨hB107, of_decide_eq_false hB110⟩)
            exact L4 _ ls hX (hP.sub [0, 1] rfl) hF (by rw [e9]; exact lv_sub hl [0, 1, 2, 3, 4] rfl)
          ·
            refine lv_iload X.1 X.2.1 dX1_lowestSide_43 (lv_at hl 0 rfl) ?_
            refine lv_istore (lv' := [(5, .int (nI 3)), (6, .int (nI 3)), (0, .ref o), (1, .long (lN x)), (3, .long (lN y))]) X.1 X.2.1 dX1_lowestSide_45 hl (by decide) rfl (fun ls hl => ?_)
            refine lv_iinc (v := nI (3 + 1)) (lv' := [(6, .int (nI (3 + 1))), (5, .int (nI 3)), (0, .ref o), (1, .long (lN x)), (3, .long (lN y))]) X.1 X.2.1 dX1_lowestSide_47 hl (k := 1) rfl (nI_1 _) (by decide) rfl (fun ls hl => ?_)
            refine lv_goto (tgt := 6) X.1 X.2.1 dX1_lowestSide_50 (by decide) ?_
            have e9 : lwp x1 y1 q x y 3 = 3 := lwp_t (n := 2) hB104 (Or.inr (of_decide_eq_true hB110))
            exact L4 _ ls hX (hP.sub [0, 1] rfl) hF (by rw [e9]; exact lv_sub hl [0, 1, 2, 3, 4] rfl)
  have hc2 : lwp x1 y1 q x y 1 < 4 := Nat.lt_of_le_of_lt (lwp_le _ _ _ _ _ _) (by decide)
  have L2 : ∀ (H : Heap) (ls : Array Slot), hxt s.heap H → PP g [ob o x1 y1 r, ar g r A] H → RF g A q H → lv_has ls 7 [(6, .int (nI 2)), (5, .int (nI (lwp x1 y1 q x y 1))), (0, .ref o), (1, .long (lN x)), (3, .long (lN y))] → W p l e { frames := 4, cells := 6, slots := 12, locals := 109 } s m ([.ref o, .long (lN x), .long (lN y)] : List Value).toArray below meth c H [] 2 4 (MQ below (pQ (rI (lwp x1 y1 q x y 3))) ([.ref o, .long (lN x), .long (lN y)] : List Value).toArray s 6 12 (fun q => s.heap.size ≤ q)) (F0 m 6 ls []) := by
    intro H ls hX hP hF hl
    refine lv_iload X.1 X.2.1 dX1_lowestSide_6 (lv_at hl 0 rfl) ?_
    refine lv_iconst (v := nI 4) X.1 X.2.1 dX1_lowestSide_8 (by decide) ?_
    refine q_Ige X (by omega) (by omega) (tgt := 53) dX1_lowestSide_9 (by decide) (fun hB101 => ?_) (fun hB101 => ?_)
    ·
      exact absurd hB101 (by decide)
    ·
      refine lv_aload_n X.1 X.2.1 dX1_lowestSide_12 rfl (lv_at hl 2 rfl) ?_
      refine lv_iload X.1 X.2.1 dX1_lowestSide_13 (lv_at hl 0 rfl) ?_
      refine p_callV (C := RX1) (b := o) (As := [.int (nI 2)]) (rest := []) X (c_X1_isGable l g o r A x1 y1 q 2 (by decide) (hq 2 (by decide))) ⟨mw_220, mw_222, mw_3, mw_38, mw_223⟩ sgX1_isGable ⟨rfl, rfl, ⟨by decide, by decide⟩, by decide, by decide⟩ (hP.at 0 rfl) rfl rfl (RP.of hP [0, 1] rfl hF) hX.1 rfl hl.1 rfl (Nat.le_of_ble_eq_true rfl) dX1_lowestSide_15 (fun v H102 hk103 hp => ?_)
      obtain rfl := hp
      have hX := hX.tr hk103
      have hP := PP.ext hP hk103
      have hF := RF.ext hF hk103
      refine W.eq (g2 := F0 m 18 ls [.int (bI (gab q 2))]) rfl ?_
      refine q_Bne X (tgt := 47) dX1_lowestSide_18 (by decide) (fun hB104 => ?_) (fun hB104 => ?_)
      ·
        refine lv_iinc (v := nI (2 + 1)) (lv' := [(6, .int (nI (2 + 1))), (5, .int (nI (lwp x1 y1 q x y 1))), (0, .ref o), (1, .long (lN x)), (3, .long (lN y))]) X.1 X.2.1 dX1_lowestSide_47 hl (k := 0) rfl (nI_1 _) (by decide) rfl (fun ls hl => ?_)
        refine lv_goto (tgt := 6) X.1 X.2.1 dX1_lowestSide_50 (by decide) ?_
        refine W.widen (k := 4) (n := 8) (by decide) (by decide) ?_
        have e9 : lwp x1 y1 q x y 2 = lwp x1 y1 q x y 1 := lwp_f (n := 1) (Or.inl hB104)
        exact L3 _ ls hX (hP.sub [0, 1] rfl) hF (by rw [e9]; exact lv_sub hl [0, 1, 2, 3, 4] rfl)
      ·
        refine lv_aload_n X.1 X.2.1 dX1_lowestSide_21 rfl (lv_at hl 2 rfl) ?_
        refine lv_iload X.1 X.2.1 dX1_lowestSide_22 (lv_at hl 1 rfl) ?_
        refine p_callV (C := RX1) (b := o) (As := [.int (nI (lwp x1 y1 q x y 1))]) (rest := []) X (c_X1_isGable l g o r A x1 y1 q (lwp x1 y1 q x y 1) hc2 (hq _ hc2)) ⟨mw_220, mw_222, mw_3, mw_38, mw_223⟩ sgX1_isGable ⟨rfl, rfl, ⟨by decide, by decide⟩, by decide, by decide⟩ (hP.at 0 rfl) rfl rfl (RP.of hP [0, 1] rfl hF) hX.1 rfl hl.1 rfl (Nat.le_of_ble_eq_true rfl) dX1_lowestSide_24 (fun v H105 hk106 hp => ?_)
        obtain rfl := hp
        have hX := hX.tr hk106
        have hP := PP.ext hP hk106
        have hF := RF.ext hF hk106
        refine W.eq (g2 := F0 m 27 ls [.int (bI (gab q (lwp x1 y1 q x y 1)))]) rfl ?_
        refine q_Bne X (tgt := 43) dX1_lowestSide_27 (by decide) (fun hB107 => ?_) (fun hB107 => ?_)
        ·
          refine lv_iload X.1 X.2.1 dX1_lowestSide_43 (lv_at hl 0 rfl) ?_
          refine lv_istore (lv' := [(5, .int (nI 2)), (6, .int (nI 2)), (0, .ref o), (1, .long (lN x)), (3, .long (lN y))]) X.1 X.2.1 dX1_lowestSide_45 hl (by decide) rfl (fun ls hl => ?_)
          refine lv_iinc (v := nI (2 + 1)) (lv' := [(6, .int (nI (2 + 1))), (5, .int (nI 2)), (0, .ref o), (1, .long (lN x)), (3, .long (lN y))]) X.1 X.2.1 dX1_lowestSide_47 hl (k := 1) rfl (nI_1 _) (by decide) rfl (fun ls hl => ?_)
          refine lv_goto (tgt := 6) X.1 X.2.1 dX1_lowestSide_50 (by decide) ?_
          refine W.widen (k := 4) (n := 8) (by decide) (by decide) ?_
          have e9 : lwp x1 y1 q x y 2 = 2 := lwp_t (n := 1) hB104 (Or.inl hB107)
          exact L3 _ ls hX (hP.sub [0, 1] rfl) hF (by rw [e9]; exact lv_sub hl [0, 1, 2, 3, 4] rfl)
        ·
          refine lv_aload_n X.1 X.2.1 dX1_lowestSide_30 rfl (lv_at hl 2 rfl) ?_
          refine lv_iload X.1 X.2.1 dX1_lowestSide_31 (lv_at hl 0 rfl) ?_
          refine lv_iload X.1 X.2.1 dX1_lowestSide_33 (lv_at hl 1 rfl) ?_
          refine lv_lload_n X.1 X.2.1 dX1_lowestSide_35 rfl (lv_at hl 3 rfl) ?_
          refine lv_lload_n X.1 X.2.1 dX1_lowestSide_36 rfl (lv_at hl 4 rfl) ?_
          refine p_callV (C := RX1) (b := o) (As := [.int (nI 2), .int (nI (lwp x1 y1 q x y 1)), .long (lN x), .long (lN y)]) (rest := []) X (c_X1_isLower l g o r A x1 y1 q 2 (lwp x1 y1 q x y 1) x y hO (by decide) hc2 hx hy hB104 hB107) ⟨mw_255, mw_257, mw_6, mw_38, mw_258⟩ sgX1_isLower ⟨rfl, rfl, ⟨by decide, by decide⟩, by decide, by decide⟩ (hP.at 0 rfl) rfl rfl (RP.of hP [0, 1] rfl hF) hX.1 rfl hl.1 rfl (Nat.le_of_ble_eq_true rfl) dX1_lowestSide_37 (fun v H108 hk109 hp => ?_)
          obtain rfl := hp
          have hX := hX.tr hk109
          have hP := PP.ext hP hk109
          have hF := RF.ext hF hk109
          refine W.eq (g2 := F0 m 40 ls [.int (bI (decide (hgt x1 y1 q x y 2 < hgt x1 y1 q x y (lwp x1 y1 q x y 1))))]) rfl ?_
          refine q_Beq X (tgt := 47) dX1_lowestSide_40 (by decide) (fun hB110 => ?_) (fun hB110 => ?_)
          ·
            refine lv_iinc (v := nI (2 + 1)) (lv' := [(6, .int (nI (2 + 1))), (5, .int (nI (lwp x1 y1 q x y 1))), (0, .ref o), (1, .long (lN x)), (3, .long (lN y))]) X.1 X.2.1 dX1_lowestSide_47 hl (k := 0) rfl (nI_1 _) (by decide) rfl (fun ls hl => ?_)
            refine lv_goto (tgt := 6) X.1 X.2.1 dX1_lowestSide_50 (by decide) ?_
            have e9 : lwp x1 y1 q x y 2 = lwp x1 y1 q x y 1 := lwp_f (n := 1) (Or.inr ⟨hB107, of_decide_eq_false hB110⟩)
            exact L3 _ ls hX (hP.sub [0, 1] rfl) hF (by rw [e9]; exact lv_sub hl [0, 1, 2, 3, 4] rfl)
          ·
            refine lv_iload X.1 X.2.1 dX1_lowestSide_43 (lv_at hl 0 rfl) ?_
            refine lv_istore (lv' := [(5, .int (nI 2)), (6, .int (nI 2)), (0, .ref o), (1, .long (lN x)), (3, .long (lN y))]) X.1 X.2.1 dX1_lowestSide_45 hl (by decide) rfl (fun ls hl => ?_)
            refine lv_iinc (v := nI (2 + 1)) (lv' := [(6, .int (nI (2 + 1))), (5, .int (nI 2)), (0, .ref o), (1, .long (lN x)), (3, .long (lN y))]) X.1 X.2.1 dX1_lowestSide_47 hl (k := 1) rfl (nI_1 _) (by decide) rfl (fun ls hl => ?_)
            refine lv_goto (tgt := 6) X.1 X.2.1 dX1_lowestSide_50 (by decide) ?_
            have e9 : lwp x1 y1 q x y 2 = 2 := lwp_t (n := 1) hB104 (Or.inr (of_decide_eq_true hB110))
            exact L3 _ ls hX (hP.sub [0, 1] rfl) hF (by rw [e9]; exact lv_sub hl [0, 1, 2, 3, 4] rfl)
  have hc1 : lwp x1 y1 q x y 0 < 4 := Nat.lt_of_le_of_lt (lwp_le _ _ _ _ _ _) (by decide)
  have L1 : ∀ (H : Heap) (ls : Array Slot), hxt s.heap H → PP g [ob o x1 y1 r, ar g r A] H → RF g A q H → lv_has ls 7 [(6, .int (nI 1)), (5, .int (nI (lwp x1 y1 q x y 0))), (0, .ref o), (1, .long (lN x)), (3, .long (lN y))] → W p l e { frames := 4, cells := 6, slots := 12, locals := 109 } s m ([.ref o, .long (lN x), .long (lN y)] : List Value).toArray below meth c H [] 0 0 (MQ below (pQ (rI (lwp x1 y1 q x y 3))) ([.ref o, .long (lN x), .long (lN y)] : List Value).toArray s 6 12 (fun q => s.heap.size ≤ q)) (F0 m 6 ls []) := by
    intro H ls hX hP hF hl
    refine lv_iload X.1 X.2.1 dX1_lowestSide_6 (lv_at hl 0 rfl) ?_
    refine lv_iconst (v := nI 4) X.1 X.2.1 dX1_lowestSide_8 (by decide) ?_
    refine q_Ige X (by omega) (by omega) (tgt := 53) dX1_lowestSide_9 (by decide) (fun hB101 => ?_) (fun hB101 => ?_)
    ·
      exact absurd hB101 (by decide)
    ·
      refine lv_aload_n X.1 X.2.1 dX1_lowestSide_12 rfl (lv_at hl 2 rfl) ?_
      refine lv_iload X.1 X.2.1 dX1_lowestSide_13 (lv_at hl 0 rfl) ?_
      refine p_callV (C := RX1) (b := o) (As := [.int (nI 1)]) (rest := []) X (c_X1_isGable l g o r A x1 y1 q 1 (by decide) (hq 1 (by decide))) ⟨mw_220, mw_222, mw_3, mw_38, mw_223⟩ sgX1_isGable ⟨rfl, rfl, ⟨by decide, by decide⟩, by decide, by decide⟩ (hP.at 0 rfl) rfl rfl (RP.of hP [0, 1] rfl hF) hX.1 rfl hl.1 rfl (Nat.le_of_ble_eq_true rfl) dX1_lowestSide_15 (fun v H102 hk103 hp => ?_)
      obtain rfl := hp
      have hX := hX.tr hk103
      have hP := PP.ext hP hk103
      have hF := RF.ext hF hk103
      refine W.eq (g2 := F0 m 18 ls [.int (bI (gab q 1))]) rfl ?_
      refine q_Bne X (tgt := 47) dX1_lowestSide_18 (by decide) (fun hB104 => ?_) (fun hB104 => ?_)
      ·
        refine lv_iinc (v := nI (1 + 1)) (lv' := [(6, .int (nI (1 + 1))), (5, .int (nI (lwp x1 y1 q x y 0))), (0, .ref o), (1, .long (lN x)), (3, .long (lN y))]) X.1 X.2.1 dX1_lowestSide_47 hl (k := 0) rfl (nI_1 _) (by decide) rfl (fun ls hl => ?_)
        refine lv_goto (tgt := 6) X.1 X.2.1 dX1_lowestSide_50 (by decide) ?_
        refine W.widen (k := 2) (n := 4) (by decide) (by decide) ?_
        have e9 : lwp x1 y1 q x y 1 = lwp x1 y1 q x y 0 := lwp_f (n := 0) (Or.inl hB104)
        exact L2 _ ls hX (hP.sub [0, 1] rfl) hF (by rw [e9]; exact lv_sub hl [0, 1, 2, 3, 4] rfl)
      ·
        refine lv_aload_n X.1 X.2.1 dX1_lowestSide_21 rfl (lv_at hl 2 rfl) ?_
        refine lv_iload X.1 X.2.1 dX1_lowestSide_22 (lv_at hl 1 rfl) ?_
        refine p_callV (C := RX1) (b := o) (As := [.int (nI (lwp x1 y1 q x y 0))]) (rest := []) X (c_X1_isGable l g o r A x1 y1 q (lwp x1 y1 q x y 0) hc1 (hq _ hc1)) ⟨mw_220, mw_222, mw_3, mw_38, mw_223⟩ sgX1_isGable ⟨rfl, rfl, ⟨by decide, by decide⟩, by decide, by decide⟩ (hP.at 0 rfl) rfl rfl (RP.of hP [0, 1] rfl hF) hX.1 rfl hl.1 rfl (Nat.le_of_ble_eq_true rfl) dX1_lowestSide_24 (fun v H105 hk106 hp => ?_)
        obtain rfl := hp
        have hX := hX.tr hk106
        have hP := PP.ext hP hk106
        have hF := RF.ext hF hk106
        refine W.eq (g2 := F0 m 27 ls [.int (bI (gab q (lwp x1 y1 q x y 0)))]) rfl ?_
        refine q_Bne X (tgt := 43) dX1_lowestSide_27 (by decide) (fun hB107 => ?_) (fun hB107 => ?_)
        ·
          refine lv_iload X.1 X.2.1 dX1_lowestSide_43 (lv_at hl 0 rfl) ?_
          refine lv_istore (lv' := [(5, .int (nI 1)), (6, .int (nI 1)), (0, .ref o), (1, .long (lN x)), (3, .long (lN y))]) X.1 X.2.1 dX1_lowestSide_45 hl (by decide) rfl (fun ls hl => ?_)
          refine lv_iinc (v := nI (1 + 1)) (lv' := [(6, .int (nI (1 + 1))), (5, .int (nI 1)), (0, .ref o), (1, .long (lN x)), (3, .long (lN y))]) X.1 X.2.1 dX1_lowestSide_47 hl (k := 1) rfl (nI_1 _) (by decide) rfl (fun ls hl => ?_)
          refine lv_goto (tgt := 6) X.1 X.2.1 dX1_lowestSide_50 (by decide) ?_
          refine W.widen (k := 2) (n := 4) (by decide) (by decide) ?_
          have e9 : lwp x1 y1 q x y 1 = 1 := lwp_t (n := 0) hB104 (Or.inl hB107)
          exact L2 _ ls hX (hP.sub [0, 1] rfl) hF (by rw [e9]; exact lv_sub hl [0, 1, 2, 3, 4] rfl)
        ·
          refine lv_aload_n X.1 X.2.1 dX1_lowestSide_30 rfl (lv_at hl 2 rfl) ?_
          refine lv_iload X.1 X.2.1 dX1_lowestSide_31 (lv_at hl 0 rfl) ?_
          refine lv_iload X.1 X.2.1 dX1_lowestSide_33 (lv_at hl 1 rfl) ?_
          refine lv_lload_n X.1 X.2.1 dX1_lowestSide_35 rfl (lv_at hl 3 rfl) ?_
          refine lv_lload_n X.1 X.2.1 dX1_lowestSide_36 rfl (lv_at hl 4 rfl) ?_
          refine p_callV (C := RX1) (b := o) (As := [.int (nI 1), .int (nI (lwp x1 y1 q x y 0)), .long (lN x), .long (lN y)]) (rest := []) X (c_X1_isLower l g o r A x1 y1 q 1 (lwp x1 y1 q x y 0) x y hO (by decide) hc1 hx hy hB104 hB107) ⟨mw_255, mw_257, mw_6, mw_38, mw_258⟩ sgX1_isLower ⟨rfl, rfl, ⟨by decide, by decide⟩, by decide, by decide⟩ (hP.at 0 rfl) rfl rfl (RP.of hP [0, 1] rfl hF) hX.1 rfl hl.1 rfl (Nat.le_of_ble_eq_true rfl) dX1_lowestSide_37 (fun v H108 hk109 hp => ?_)
          obtain rfl := hp
          have hX := hX.tr hk109
          have hP := PP.ext hP hk109
          have hF := RF.ext hF hk109
          refine W.eq (g2 := F0 m 40 ls [.int (bI (decide (hgt x1 y1 q x y 1 < hgt x1 y1 q x y (lwp x1 y1 q x y 0))))]) rfl ?_
          refine q_Beq X (tgt := 47) dX1_lowestSide_40 (by decide) (fun hB110 => ?_) (fun hB110 => ?_)
          ·
            refine lv_iinc (v := nI (1 + 1)) (lv' := [(6, .int (nI (1 + 1))), (5, .int (nI (lwp x1 y1 q x y 0))), (0, .ref o), (1, .long (lN x)), (3, .long (lN y))]) X.1 X.2.1 dX1_lowestSide_47 hl (k := 0) rfl (nI_1 _) (by decide) rfl (fun ls hl => ?_)
            refine lv_goto (tgt := 6) X.1 X.2.1 dX1_lowestSide_50 (by decide) ?_
            have e9 : lwp x1 y1 q x y 1 = lwp x1 y1 q x y 0 := lwp_f (n := 0) (Or.inr ⟨hB107, of_decide_eq_false hB110⟩)
            exact L2 _ ls hX (hP.sub [0, 1] rfl) hF (by rw [e9]; exact lv_sub hl [0, 1, 2, 3, 4] rfl)
          ·
            refine lv_iload X.1 X.2.1 dX1_lowestSide_43 (lv_at hl 0 rfl) ?_
            refine lv_istore (lv' := [(5, .int (nI 1)), (6, .int (nI 1)), (0, .ref o), (1, .long (lN x)), (3, .long (lN y))]) X.1 X.2.1 dX1_lowestSide_45 hl (by decide) rfl (fun ls hl => ?_)
            refine lv_iinc (v := nI (1 + 1)) (lv' := [(6, .int (nI (1 + 1))), (5, .int (nI 1)), (0, .ref o), (1, .long (lN x)), (3, .long (lN y))]) X.1 X.2.1 dX1_lowestSide_47 hl (k := 1) rfl (nI_1 _) (by decide) rfl (fun ls hl => ?_)
            refine lv_goto (tgt := 6) X.1 X.2.1 dX1_lowestSide_50 (by decide) ?_
            have e9 : lwp x1 y1 q x y 1 = 1 := lwp_t (n := 0) hB104 (Or.inr (of_decide_eq_true hB110))
            exact L2 _ ls hX (hP.sub [0, 1] rfl) hF (by rw [e9]; exact lv_sub hl [0, 1, 2, 3, 4] rfl)
  have hl : lv_has ls 7 [(0, .ref o), (1, .long (lN x)), (3, .long (lN y))] := hl
  have hX : hxt s.heap s.heap := hxt.rf
  have hP : PP g [ob o x1 y1 r, ar g r A] s.heap := hP
  refine lv_iconst (v := nI 0) X.1 X.2.1 dX1_lowestSide_0 (by decide) ?_
  refine lv_istore (lv' := [(5, .int (nI 0)), (0, .ref o), (1, .long (lN x)), (3, .long (lN y))]) X.1 X.2.1 dX1_lowestSide_1 hl (by decide) rfl (fun ls hl => ?_)
  refine lv_iconst (v := nI 1) X.1 X.2.1 dX1_lowestSide_3 (by decide) ?_
  refine lv_istore (lv' := [(6, .int (nI 1)), (5, .int (nI 0)), (0, .ref o), (1, .long (lN x)), (3, .long (lN y))]) X.1 X.2.1 dX1_lowestSide_4 hl (by decide) rfl (fun ls hl => ?_)
  exact L1 _ ls hX hP hF (lv_sub hl [0, 1, 2, 3, 4] rfl)
set_option maxHeartbeats 4000000 in
set_option maxRecDepth 100000 in
theorem c_X1_limitBy (l : Launch) (g : En) (o r : Nat) (A : Nat → Nat) (x1 y1 : Nat) (q : Nat → Rat) (j k t : Nat) (hO : OK x1 y1 q) (hj : j < 4) (hk : k < 4) (ht : t ≤ slen x1 y1 k) (hg : gab q k = false) (hgo : j = opp k ∨ gab q j = false) : PM l yX1_limitBy cX1_limitBy 9 (some (FieldType.object "RafterPlaces$Fraction")) { frames := 3, cells := 3, slots := 6, locals := 80 } g [.ref o, .int (nI j), .int (nI k), .long (lN t)] (fun H => RP g o r A x1 y1 q H) 3 6 (rF g (lim x1 y1 q k t j)) := by
  refine PM.of (by decide) (Nat.le_of_ble_eq_true rfl) (fun p e s m below meth c ls X hG hl => ?_)
  obtain ⟨hP, hF⟩ := hG
  have b1 := hO.2.2.1 k hk
  have b2 := hO.2.2.1 j hj
  have p1 := gab_pos b1 hg
  have hsl := slen_le hO k
  have hwl := wayo_le hO k
  have hop := opp_lt k
  have hl : lv_has ls 9 [(0, .ref o), (1, .int (nI j)), (2, .int (nI k)), (3, .long (lN t))] := hl
  have hX : hxt s.heap s.heap := hxt.rf
  have hP : PP g [ob o x1 y1 r, ar g r A] s.heap := hP
  refine lv_aload_n X.1 X.2.1 dX1_limitBy_0 rfl (lv_at hl 0 rfl) ?_
  refine p_get (T := TX1) X uX1 (hP.at 0 rfl) rfl 2 (by decide) mw_79 rfl rfl dX1_limitBy_1 ?_
  refine lv_iload_n X.1 X.2.1 dX1_limitBy_4 rfl (lv_at hl 2 rfl) ?_
  refine p_aald X (hP.at 1 rfl) hk (by decide) (r := A k) rfl dX1_limitBy_5 ?_
  have hP := PP.cons (hF k hk) hP
  refine lv_astore (lv' := [(5, .ref (A k)), (0, .ref o), (1, .int (nI j)), (2, .int (nI k)), (3, .long (lN t))]) X.1 X.2.1 dX1_limitBy_6 hl (by decide) rfl (fun ls hl => ?_)
  refine lv_iload_n X.1 X.2.1 dX1_limitBy_8 rfl (lv_at hl 2 rfl) ?_
  refine lv_iload_n X.1 X.2.1 dX1_limitBy_9 rfl (lv_at hl 3 rfl) ?_
  refine p_callS (As := [.int (nI k)]) (rest := [.int (nI j)]) X (c_X1_opposite l g k hk) ⟨mw_321, mw_322, mw_38, mw_323⟩ sgX1_opposite ⟨rfl, rfl, ⟨by decide, by decide⟩, by decide, by decide⟩ (trivial) hX.1 rfl hl.1 rfl (Nat.le_of_ble_eq_true rfl) dX1_limitBy_10 (fun v H1 hk2 hp => ?_)
  obtain rfl := hp
  have hX := hX.tr hk2
  have hP := PP.ext hP hk2
  have hF := RF.ext hF hk2
  refine W.eq (g2 := F0 m 13 ls [.int (nI (opp k)), .int (nI j)]) rfl ?_
  refine q_Ine X (by omega) (by omega) (tgt := 41) dX1_limitBy_13 (by decide) (fun hB3 => ?_) (fun hB3 => ?_)
  ·
    have p2 : 0 < q j := gab_pos b2 (hgo.resolve_left hB3)
    refine lv_iload_n X.1 X.2.1 dX1_limitBy_41 rfl (lv_at hl 2 rfl) ?_
    refine q_Zeq X (by omega) (tgt := 50) dX1_limitBy_42 (by decide) (fun hB4 => ?_) (fun hB4 => ?_)
    ·
      refine lv_iconst (v := nI 1) X.1 X.2.1 dX1_limitBy_50 (by decide) ?_
      refine lv_goto (tgt := 55) X.1 X.2.1 dX1_limitBy_51 (by decide) ?_
      refine lv_istore (lv' := [(6, .int (nI 1)), (5, .ref (A k)), (0, .ref o), (1, .int (nI j)), (2, .int (nI k)), (3, .long (lN t))]) X.1 X.2.1 dX1_limitBy_55 hl (by decide) rfl (fun ls hl => ?_)
      refine lv_iload X.1 X.2.1 dX1_limitBy_57 (lv_at hl 0 rfl) ?_
      refine q_Zeq X (by omega) (tgt := 66) dX1_limitBy_59 (by decide) (fun hB5 => ?_) (fun hB5 => ?_)
      ·
        exact absurd hB5 (by decide)
      ·
        refine lv_lload_n X.1 X.2.1 dX1_limitBy_62 rfl (lv_at hl 5 rfl) ?_
        refine lv_goto (tgt := 73) X.1 X.2.1 dX1_limitBy_63 (by decide) ?_
        refine lv_lstore (lv' := [(7, .long (lN t)), (6, .int (nI 1)), (5, .ref (A k)), (0, .ref o), (1, .int (nI j)), (2, .int (nI k)), (3, .long (lN t))]) X.1 X.2.1 dX1_limitBy_73 hl (by decide) rfl (fun ls hl => ?_)
        refine lv_aload X.1 X.2.1 dX1_limitBy_75 (lv_at hl 2 rfl) ?_
        refine lv_aload_n X.1 X.2.1 dX1_limitBy_77 rfl (lv_at hl 3 rfl) ?_
        refine p_get (T := TX1) X uX1 (hP.at 1 rfl) rfl 2 (by decide) mw_79 rfl rfl dX1_limitBy_78 ?_
        refine lv_iload_n X.1 X.2.1 dX1_limitBy_81 rfl (lv_at hl 4 rfl) ?_
        have eL : lim x1 y1 q k t j = q k / q j * ((t : Nat) : Rat) := by rw [lim, if_neg hB3, if_pos (Or.inl hB4)]
        have hv : t ≤ 2000 := by omega
        refine p_aald X (hP.at 2 rfl) hj (by decide) (r := A j) rfl dX1_limitBy_82 ?_
        have hP := PP.cons (hF j hj) hP
        refine p_callV (C := RX0) (b := A k) (As := [.ref (A j)]) (rest := []) X (b_div l g _ _ b1 b2 p2 (by decide) (by decide)) ⟨mw_334, mw_335, mw_336, mw_39, mw_337⟩ sgX0_dividedBy ⟨rfl, rfl, ⟨by decide, by decide⟩, by decide, by decide⟩ (hP.at 1 rfl) rfl rfl (hP.sub [1, 0] rfl) hX.1 rfl hl.1 rfl (Nat.le_of_ble_eq_true rfl) dX1_limitBy_83 (fun v H6 hk7 hp => ?_)
        obtain ⟨r8, rfl, hr8⟩ := hp
        have hX := hX.tr hk7
        have hP := PP.ext hP hk7
        have hF := RF.ext hF hk7
        have hP := PP.cons hr8 hP
        refine W.eq (g2 := F0 m 86 ls [.ref r8]) rfl ?_
        refine lv_lload X.1 X.2.1 dX1_limitBy_86 (lv_at hl 0 rfl) ?_
        refine p_callV (C := RX0) (b := r8) (As := [.long (lN t)]) (rest := []) X (b_timesn l g _ (bd_div b1 b2 p2) hv (by decide) (by decide)) ⟨mw_342, mw_343, mw_344, mw_39, mw_345⟩ sgX0_times_ ⟨rfl, rfl, ⟨by decide, by decide⟩, by decide, by decide⟩ (hP.at 0 rfl) rfl rfl (hP.sub [0] rfl) hX.1 rfl hl.1 rfl (Nat.le_of_ble_eq_true rfl) dX1_limitBy_88 (fun v H9 hk10 hp => ?_)
        obtain ⟨r11, rfl, hr11⟩ := hp
        have hX := hX.tr hk10
        have hP := PP.ext hP hk10
        have hF := RF.ext hF hk10
        have hP := PP.cons hr11 hP
        refine W.eq (g2 := F0 m 91 ls [.ref r11]) rfl ?_
        rw [← eL] at hP
        exact p_aret X hX (⟨_, rfl, hP.at 0 rfl⟩) ⟨by decide, by decide⟩ dX1_limitBy_91
    ·
      refine lv_iload_n X.1 X.2.1 dX1_limitBy_45 rfl (lv_at hl 2 rfl) ?_
      refine lv_iconst (v := nI 3) X.1 X.2.1 dX1_limitBy_46 (by decide) ?_
      refine q_Ine X (by omega) (by omega) (tgt := 54) dX1_limitBy_47 (by decide) (fun hB12 => ?_) (fun hB12 => ?_)
      ·
        refine lv_iconst (v := nI 0) X.1 X.2.1 dX1_limitBy_54 (by decide) ?_
        refine lv_istore (lv' := [(6, .int (nI 0)), (5, .ref (A k)), (0, .ref o), (1, .int (nI j)), (2, .int (nI k)), (3, .long (lN t))]) X.1 X.2.1 dX1_limitBy_55 hl (by decide) rfl (fun ls hl => ?_)
        refine lv_iload X.1 X.2.1 dX1_limitBy_57 (lv_at hl 0 rfl) ?_
        refine q_Zeq X (by omega) (tgt := 66) dX1_limitBy_59 (by decide) (fun hB13 => ?_) (fun hB13 => ?_)
        ·
          refine lv_aload_n X.1 X.2.1 dX1_limitBy_66 rfl (lv_at hl 2 rfl) ?_
          refine lv_iload_n X.1 X.2.1 dX1_limitBy_67 rfl (lv_at hl 4 rfl) ?_
          refine p_callV (C := RX1) (b := o) (As := [.int (nI k)]) (rest := []) X (c_X1_sideLength l g o r A x1 y1 q k hk) ⟨mw_295, mw_297, mw_10, mw_38, mw_298⟩ sgX1_sideLength ⟨rfl, rfl, ⟨by decide, by decide⟩, by decide, by decide⟩ (hP.at 1 rfl) rfl rfl (RP.of hP [1, 2] rfl hF) hX.1 rfl hl.1 rfl (Nat.le_of_ble_eq_true rfl) dX1_limitBy_68 (fun v H14 hk15 hp => ?_)
          obtain rfl := hp
          have hX := hX.tr hk15
          have hP := PP.ext hP hk15
          have hF := RF.ext hF hk15
          refine W.eq (g2 := F0 m 71 ls [.long (lN (slen x1 y1 k))]) rfl ?_
          refine lv_lload_n X.1 X.2.1 dX1_limitBy_71 rfl (lv_at hl 5 rfl) ?_
          refine lv_lsub X.1 X.2.1 dX1_limitBy_72 ?_
          refine w_l (lN_sub ht) ?_
          refine lv_lstore (lv' := [(7, .long (lN ((slen x1 y1 k) - t))), (6, .int (nI 0)), (5, .ref (A k)), (0, .ref o), (1, .int (nI j)), (2, .int (nI k)), (3, .long (lN t))]) X.1 X.2.1 dX1_limitBy_73 hl (by decide) rfl (fun ls hl => ?_)
          have eL : lim x1 y1 q k t j = q k / q j * ((slen x1 y1 k - t : Nat) : Rat) := by rw [lim, if_neg hB3, if_neg (by omega)]
          have hv : slen x1 y1 k - t ≤ 2000 := by omega
          refine lv_aload X.1 X.2.1 dX1_limitBy_75 (lv_at hl 2 rfl) ?_
          refine lv_aload_n X.1 X.2.1 dX1_limitBy_77 rfl (lv_at hl 3 rfl) ?_
          refine p_get (T := TX1) X uX1 (hP.at 1 rfl) rfl 2 (by decide) mw_79 rfl rfl dX1_limitBy_78 ?_
          refine lv_iload_n X.1 X.2.1 dX1_limitBy_81 rfl (lv_at hl 4 rfl) ?_
          refine p_aald X (hP.at 2 rfl) hj (by decide) (r := A j) rfl dX1_limitBy_82 ?_
          have hP := PP.cons (hF j hj) hP
          refine p_callV (C := RX0) (b := A k) (As := [.ref (A j)]) (rest := []) X (b_div l g _ _ b1 b2 p2 (by decide) (by decide)) ⟨mw_334, mw_335, mw_336, mw_39, mw_337⟩ sgX0_dividedBy ⟨rfl, rfl, ⟨by decide, by decide⟩, by decide, by decide⟩ (hP.at 1 rfl) rfl rfl (hP.sub [1, 0] rfl) hX.1 rfl hl.1 rfl (Nat.le_of_ble_eq_true rfl) dX1_limitBy_83 (fun v H16 hk17 hp => ?_)
          obtain ⟨r18, rfl, hr18⟩ := hp
          have hX := hX.tr hk17
          have hP := PP.ext hP hk17
          have hF := RF.ext hF hk17
          have hP := PP.cons hr18 hP
          refine W.eq (g2 := F0 m 86 ls [.ref r18]) rfl ?_
          refine lv_lload X.1 X.2.1 dX1_limitBy_86 (lv_at hl 0 rfl) ?_
          refine p_callV (C := RX0) (b := r18) (As := [.long (lN ((slen x1 y1 k) - t))]) (rest := []) X (b_timesn l g _ (bd_div b1 b2 p2) hv (by decide) (by decide)) ⟨mw_342, mw_343, mw_344, mw_39, mw_345⟩ sgX0_times_ ⟨rfl, rfl, ⟨by decide, by decide⟩, by decide, by decide⟩ (hP.at 0 rfl) rfl rfl (hP.sub [0] rfl) hX.1 rfl hl.1 rfl (Nat.le_of_ble_eq_true rfl) dX1_limitBy_88 (fun v H19 hk20 hp => ?_)
          obtain ⟨r21, rfl, hr21⟩ := hp
          have hX := hX.tr hk20
          have hP := PP.ext hP hk20
          have hF := RF.ext hF hk20
          have hP := PP.cons hr21 hP
          refine W.eq (g2 := F0 m 91 ls [.ref r21]) rfl ?_
          rw [← eL] at hP
          exact p_aret X hX (⟨_, rfl, hP.at 0 rfl⟩) ⟨by decide, by decide⟩ dX1_limitBy_91
        ·
          exact absurd hB13 (by decide)
      ·
        refine lv_iconst (v := nI 1) X.1 X.2.1 dX1_limitBy_50 (by decide) ?_
        refine lv_goto (tgt := 55) X.1 X.2.1 dX1_limitBy_51 (by decide) ?_
        refine lv_istore (lv' := [(6, .int (nI 1)), (5, .ref (A k)), (0, .ref o), (1, .int (nI j)), (2, .int (nI k)), (3, .long (lN t))]) X.1 X.2.1 dX1_limitBy_55 hl (by decide) rfl (fun ls hl => ?_)
        refine lv_iload X.1 X.2.1 dX1_limitBy_57 (lv_at hl 0 rfl) ?_
        refine q_Zeq X (by omega) (tgt := 66) dX1_limitBy_59 (by decide) (fun hB22 => ?_) (fun hB22 => ?_)
        ·
          exact absurd hB22 (by decide)
        ·
          refine lv_lload_n X.1 X.2.1 dX1_limitBy_62 rfl (lv_at hl 5 rfl) ?_
          refine lv_goto (tgt := 73) X.1 X.2.1 dX1_limitBy_63 (by decide) ?_
          refine lv_lstore (lv' := [(7, .long (lN t)), (6, .int (nI 1)), (5, .ref (A k)), (0, .ref o), (1, .int (nI j)), (2, .int (nI k)), (3, .long (lN t))]) X.1 X.2.1 dX1_limitBy_73 hl (by decide) rfl (fun ls hl => ?_)
          refine lv_aload X.1 X.2.1 dX1_limitBy_75 (lv_at hl 2 rfl) ?_
          refine lv_aload_n X.1 X.2.1 dX1_limitBy_77 rfl (lv_at hl 3 rfl) ?_
          refine p_get (T := TX1) X uX1 (hP.at 1 rfl) rfl 2 (by decide) mw_79 rfl rfl dX1_limitBy_78 ?_
          refine lv_iload_n X.1 X.2.1 dX1_limitBy_81 rfl (lv_at hl 4 rfl) ?_
          have eL : lim x1 y1 q k t j = q k / q j * ((t : Nat) : Rat) := by rw [lim, if_neg hB3, if_pos (Or.inr hB12)]
          have hv : t ≤ 2000 := by omega
          refine p_aald X (hP.at 2 rfl) hj (by decide) (r := A j) rfl dX1_limitBy_82 ?_
          have hP := PP.cons (hF j hj) hP
          refine p_callV (C := RX0) (b := A k) (As := [.ref (A j)]) (rest := []) X (b_div l g _ _ b1 b2 p2 (by decide) (by decide)) ⟨mw_334, mw_335, mw_336, mw_39, mw_337⟩ sgX0_dividedBy ⟨rfl, rfl, ⟨by decide, by decide⟩, by decide, by decide⟩ (hP.at 1 rfl) rfl rfl (hP.sub [1, 0] rfl) hX.1 rfl hl.1 rfl (Nat.le_of_ble_eq_true rfl) dX1_limitBy_83 (fun v H23 hk24 hp => ?_)
          obtain ⟨r25, rfl, hr25⟩ := hp
          have hX := hX.tr hk24
          have hP := PP.ext hP hk24
          have hF := RF.ext hF hk24
          have hP := PP.cons hr25 hP
          refine W.eq (g2 := F0 m 86 ls [.ref r25]) rfl ?_
          refine lv_lload X.1 X.2.1 dX1_limitBy_86 (lv_at hl 0 rfl) ?_
          refine p_callV (C := RX0) (b := r25) (As := [.long (lN t)]) (rest := []) X (b_timesn l g _ (bd_div b1 b2 p2) hv (by decide) (by decide)) ⟨mw_342, mw_343, mw_344, mw_39, mw_345⟩ sgX0_times_ ⟨rfl, rfl, ⟨by decide, by decide⟩, by decide, by decide⟩ (hP.at 0 rfl) rfl rfl (hP.sub [0] rfl) hX.1 rfl hl.1 rfl (Nat.le_of_ble_eq_true rfl) dX1_limitBy_88 (fun v H26 hk27 hp => ?_)
          obtain ⟨r28, rfl, hr28⟩ := hp
          have hX := hX.tr hk27
          have hP := PP.ext hP hk27
          have hF := RF.ext hF hk27
          have hP := PP.cons hr28 hP
          refine W.eq (g2 := F0 m 91 ls [.ref r28]) rfl ?_
          rw [← eL] at hP
          exact p_aret X hX (⟨_, rfl, hP.at 0 rfl⟩) ⟨by decide, by decide⟩ dX1_limitBy_91
  ·
    have b3 := bd_add b1 b2
    have p3 : 0 < q k + q j := by have := b2.1; grind
    have eL : lim x1 y1 q k t j = q k / (q k + q j) * ((wayo x1 y1 k : Nat) : Rat) := by rw [lim, if_pos hB3]
    refine lv_aload X.1 X.2.1 dX1_limitBy_16 (lv_at hl 0 rfl) ?_
    refine lv_aload X.1 X.2.1 dX1_limitBy_18 (lv_at hl 0 rfl) ?_
    refine lv_aload_n X.1 X.2.1 dX1_limitBy_20 rfl (lv_at hl 1 rfl) ?_
    refine p_get (T := TX1) X uX1 (hP.at 1 rfl) rfl 2 (by decide) mw_79 rfl rfl dX1_limitBy_21 ?_
    refine lv_iload_n X.1 X.2.1 dX1_limitBy_24 rfl (lv_at hl 2 rfl) ?_
    refine p_aald X (hP.at 2 rfl) hj (by decide) (r := A j) rfl dX1_limitBy_25 ?_
    have hP := PP.cons (hF j hj) hP
    refine p_callV (C := RX0) (b := A k) (As := [.ref (A j)]) (rest := [.ref (A k)]) X (b_plus l g _ _ b1 b2 (by decide) (by decide)) ⟨mw_328, mw_329, mw_330, mw_39, mw_331⟩ sgX0_plus ⟨rfl, rfl, ⟨by decide, by decide⟩, by decide, by decide⟩ (hP.at 1 rfl) rfl rfl (hP.sub [1, 0] rfl) hX.1 rfl hl.1 rfl (Nat.le_of_ble_eq_true rfl) dX1_limitBy_26 (fun v H29 hk30 hp => ?_)
    obtain ⟨r31, rfl, hr31⟩ := hp
    have hX := hX.tr hk30
    have hP := PP.ext hP hk30
    have hF := RF.ext hF hk30
    have hP := PP.cons hr31 hP
    refine W.eq (g2 := F0 m 29 ls [.ref r31, .ref (A k)]) rfl ?_
    refine p_callV (C := RX0) (b := A k) (As := [.ref r31]) (rest := []) X (b_div l g _ _ b1 b3 p3 (by decide) (by decide)) ⟨mw_334, mw_335, mw_336, mw_39, mw_337⟩ sgX0_dividedBy ⟨rfl, rfl, ⟨by decide, by decide⟩, by decide, by decide⟩ (hP.at 2 rfl) rfl rfl (hP.sub [2, 0] rfl) hX.1 rfl hl.1 rfl (Nat.le_of_ble_eq_true rfl) dX1_limitBy_29 (fun v H32 hk33 hp => ?_)
    obtain ⟨r34, rfl, hr34⟩ := hp
    have hX := hX.tr hk33
    have hP := PP.ext hP hk33
    have hF := RF.ext hF hk33
    have hP := PP.cons hr34 hP
    refine W.eq (g2 := F0 m 32 ls [.ref r34]) rfl ?_
    refine lv_aload_n X.1 X.2.1 dX1_limitBy_32 rfl (lv_at hl 1 rfl) ?_
    refine lv_iload_n X.1 X.2.1 dX1_limitBy_33 rfl (lv_at hl 3 rfl) ?_
    refine p_callV (C := RX1) (b := o) (As := [.int (nI k)]) (rest := [.ref r34]) X (c_X1_wayToOpposite l g o r A x1 y1 q k hk) ⟨mw_338, mw_340, mw_15, mw_38, mw_341⟩ sgX1_wayToOpposite ⟨rfl, rfl, ⟨by decide, by decide⟩, by decide, by decide⟩ (hP.at 4 rfl) rfl rfl (RP.of hP [4, 5] rfl hF) hX.1 rfl hl.1 rfl (Nat.le_of_ble_eq_true rfl) dX1_limitBy_34 (fun v H35 hk36 hp => ?_)
    obtain rfl := hp
    have hX := hX.tr hk36
    have hP := PP.ext hP hk36
    have hF := RF.ext hF hk36
    refine W.eq (g2 := F0 m 37 ls [.long (lN (wayo x1 y1 k)), .ref r34]) rfl ?_
    refine p_callV (C := RX0) (b := r34) (As := [.long (lN (wayo x1 y1 k))]) (rest := []) X (b_timesn l g _ (bd_div b1 b3 p3) hwl (by decide) (by decide)) ⟨mw_342, mw_343, mw_344, mw_39, mw_345⟩ sgX0_times_ ⟨rfl, rfl, ⟨by decide, by decide⟩, by decide, by decide⟩ (hP.at 0 rfl) rfl rfl (hP.sub [0] rfl) hX.1 rfl hl.1 rfl (Nat.le_of_ble_eq_true rfl) dX1_limitBy_37 (fun v H37 hk38 hp => ?_)
    obtain ⟨r39, rfl, hr39⟩ := hp
    have hX := hX.tr hk38
    have hP := PP.ext hP hk38
    have hF := RF.ext hF hk38
    have hP := PP.cons hr39 hP
    refine W.eq (g2 := F0 m 40 ls [.ref r39]) rfl ?_
    rw [← eL] at hP
    exact p_aret X hX (⟨_, rfl, hP.at 0 rfl⟩) ⟨by decide, by decide⟩ dX1_limitBy_40
set_option maxHeartbeats 4000000 in
set_option maxRecDepth 100000 in
theorem c_X1_endingSide (l : Launch) (g : En) (o r : Nat) (A : Nat → Nat) (x1 y1 : Nat) (q : Nat → Rat) (k t : Nat) (hO : OK x1 y1 q) (hk : k < 4) (ht : t ≤ slen x1 y1 k) (hg : gab q k = false) : PM l yX1_endingSide cX1_endingSide 8 (some FieldType.int) { frames := 4, cells := 15, slots := 30, locals := 108 } g [.ref o, .int (nI k), .long (lN t)] (fun H => RP g o r A x1 y1 q H) 15 30 (rI (enp x1 y1 q k t 4)) := by
  refine PM.of (by decide) (Nat.le_of_ble_eq_true rfl) (fun p e s m below meth c ls X hG hl => ?_)
  obtain ⟨hP, hF⟩ := hG
  have hq := hO.2.2.1
  have hop := opp_lt k
  have hok := enp_ok x1 y1 q k t
  have L4 : ∀ (nr : Nat) (H : Heap) (ls : Array Slot), hxt s.heap H → PP g [fq nr (lim x1 y1 q k t (enp x1 y1 q k t 4)), ob o x1 y1 r, ar g r A] H → RF g A q H → lv_has ls 8 [(6, .int (nI 4)), (4, .int (nI (enp x1 y1 q k t 4))), (5, .ref nr), (0, .ref o), (1, .int (nI k)), (2, .long (lN t))] → W p l e { frames := 4, cells := 15, slots := 30, locals := 108 } s m ([.ref o, .int (nI k), .long (lN t)] : List Value).toArray below meth c H [] 15 30 (MQ below (pQ (rI (enp x1 y1 q k t 4))) ([.ref o, .int (nI k), .long (lN t)] : List Value).toArray s 15 30 (fun q => s.heap.size ≤ q)) (F0 m 19 ls []) := by
    intro nr H ls hX hP hF hl
    refine lv_iload X.1 X.2.1 dX1_endingSide_19 (lv_at hl 0 rfl) ?_
    refine lv_iconst (v := nI 4) X.1 X.2.1 dX1_endingSide_21 (by decide) ?_
    refine q_Ige X (by omega) (by omega) (tgt := 103) dX1_endingSide_22 (by decide) (fun hB101 => ?_) (fun hB101 => ?_)
    ·
      refine lv_iload X.1 X.2.1 dX1_endingSide_103 (lv_at hl 1 rfl) ?_
      exact p_iret X hX (rfl) ⟨by decide, by decide⟩ dX1_endingSide_105
    ·
      exact absurd hB101 (by decide)
  have L3 : ∀ (nr : Nat) (H : Heap) (ls : Array Slot), hxt s.heap H → PP g [fq nr (lim x1 y1 q k t (enp x1 y1 q k t 3)), ob o x1 y1 r, ar g r A] H → RF g A q H → lv_has ls 8 [(6, .int (nI 3)), (4, .int (nI (enp x1 y1 q k t 3))), (5, .ref nr), (0, .ref o), (1, .int (nI k)), (2, .long (lN t))] → W p l e { frames := 4, cells := 15, slots := 30, locals := 108 } s m ([.ref o, .int (nI k), .long (lN t)] : List Value).toArray below meth c H [] 12 24 (MQ below (pQ (rI (enp x1 y1 q k t 4))) ([.ref o, .int (nI k), .long (lN t)] : List Value).toArray s 15 30 (fun q => s.heap.size ≤ q)) (F0 m 19 ls []) := by
    intro nr H ls hX hP hF hl
    refine lv_iload X.1 X.2.1 dX1_endingSide_19 (lv_at hl 0 rfl) ?_
    refine lv_iconst (v := nI 4) X.1 X.2.1 dX1_endingSide_21 (by decide) ?_
    obtain ⟨hc, hc2⟩ := hok 3 (by decide)
    have bc := bd_lim hO hk hc ht hg hc2
    refine q_Ige X (by omega) (by omega) (tgt := 103) dX1_endingSide_22 (by decide) (fun hB101 => ?_) (fun hB101 => ?_)
    ·
      exact absurd hB101 (by decide)
    ·
      refine lv_iload X.1 X.2.1 dX1_endingSide_25 (lv_at hl 0 rfl) ?_
      refine lv_iload_n X.1 X.2.1 dX1_endingSide_27 rfl (lv_at hl 4 rfl) ?_
      refine q_Ieq X (by omega) (by omega) (tgt := 97) dX1_endingSide_28 (by decide) (fun hB102 => ?_) (fun hB102 => ?_)
      ·
        refine lv_iinc (v := nI (3 + 1)) (lv' := [(6, .int (nI (3 + 1))), (4, .int (nI (enp x1 y1 q k t 3))), (5, .ref nr), (0, .ref o), (1, .int (nI k)), (2, .long (lN t))]) X.1 X.2.1 dX1_endingSide_97 hl (k := 0) rfl (nI_1 _) (by decide) rfl (fun ls hl => ?_)
        refine lv_goto (tgt := 19) X.1 X.2.1 dX1_endingSide_100 (by decide) ?_
        refine W.widen (k := 15) (n := 30) (by decide) (by decide) ?_
        have e9 : enp x1 y1 q k t 4 = enp x1 y1 q k t 3 := enp_no (Or.inl hB102)
        exact L4 nr _ ls hX (by rw [e9]; exact hP.sub [0, 1, 2] rfl) hF (by rw [e9]; exact lv_sub hl [0, 1, 2, 3, 4, 5] rfl)
      ·
        refine lv_iload X.1 X.2.1 dX1_endingSide_31 (lv_at hl 0 rfl) ?_
        refine lv_iload_n X.1 X.2.1 dX1_endingSide_33 rfl (lv_at hl 4 rfl) ?_
        refine p_callS (As := [.int (nI k)]) (rest := [.int (nI 3)]) X (c_X1_opposite l g k hk) ⟨mw_321, mw_322, mw_38, mw_323⟩ sgX1_opposite ⟨rfl, rfl, ⟨by decide, by decide⟩, by decide, by decide⟩ (trivial) hX.1 rfl hl.1 rfl (Nat.le_of_ble_eq_true rfl) dX1_endingSide_34 (fun v H103 hk104 hp => ?_)
        obtain rfl := hp
        have hX := hX.tr hk104
        have hP := PP.ext hP hk104
        have hF := RF.ext hF hk104
        refine W.eq (g2 := F0 m 37 ls [.int (nI (opp k)), .int (nI 3)]) rfl ?_
        refine q_Ieq X (by omega) (by omega) (tgt := 97) dX1_endingSide_37 (by decide) (fun hB105 => ?_) (fun hB105 => ?_)
        ·
          refine lv_iinc (v := nI (3 + 1)) (lv' := [(6, .int (nI (3 + 1))), (4, .int (nI (enp x1 y1 q k t 3))), (5, .ref nr), (0, .ref o), (1, .int (nI k)), (2, .long (lN t))]) X.1 X.2.1 dX1_endingSide_97 hl (k := 0) rfl (nI_1 _) (by decide) rfl (fun ls hl => ?_)
          refine lv_goto (tgt := 19) X.1 X.2.1 dX1_endingSide_100 (by decide) ?_
          refine W.widen (k := 15) (n := 30) (by decide) (by decide) ?_
          have e9 : enp x1 y1 q k t 4 = enp x1 y1 q k t 3 := enp_no (Or.inr (Or.inl hB105))
          exact L4 nr _ ls hX (by rw [e9]; exact hP.sub [0, 1, 2] rfl) hF (by rw [e9]; exact lv_sub hl [0, 1, 2, 3, 4, 5] rfl)
        ·
          refine lv_aload_n X.1 X.2.1 dX1_endingSide_40 rfl (lv_at hl 3 rfl) ?_
          refine lv_iload X.1 X.2.1 dX1_endingSide_41 (lv_at hl 0 rfl) ?_
          refine p_callV (C := RX1) (b := o) (As := [.int (nI 3)]) (rest := []) X (c_X1_isGable l g o r A x1 y1 q 3 (by decide) (hq 3 (by decide))) ⟨mw_220, mw_222, mw_3, mw_38, mw_223⟩ sgX1_isGable ⟨rfl, rfl, ⟨by decide, by decide⟩, by decide, by decide⟩ (hP.at 1 rfl) rfl rfl (RP.of hP [1, 2] rfl hF) hX.1 rfl hl.1 rfl (Nat.le_of_ble_eq_true rfl) dX1_endingSide_43 (fun v H106 hk107 hp => ?_)
          obtain rfl := hp
          have hX := hX.tr hk107
          have hP := PP.ext hP hk107
          have hF := RF.ext hF hk107
          refine W.eq (g2 := F0 m 46 ls [.int (bI (gab q 3))]) rfl ?_
          refine q_Beq X (tgt := 52) dX1_endingSide_46 (by decide) (fun hB108 => ?_) (fun hB108 => ?_)
          ·
            refine lv_aload_n X.1 X.2.1 dX1_endingSide_52 rfl (lv_at hl 3 rfl) ?_
            refine lv_iload X.1 X.2.1 dX1_endingSide_53 (lv_at hl 0 rfl) ?_
            refine lv_iload_n X.1 X.2.1 dX1_endingSide_55 rfl (lv_at hl 4 rfl) ?_
            refine lv_lload_n X.1 X.2.1 dX1_endingSide_56 rfl (lv_at hl 5 rfl) ?_
            have bn := bd_lim hO hk (show 3 < 4 by decide) ht hg (Or.inr hB108)
            refine p_callV (C := RX1) (b := o) (As := [.int (nI 3), .int (nI k), .long (lN t)]) (rest := []) X (c_X1_limitBy l g o r A x1 y1 q 3 k t hO (by decide) hk ht hg (Or.inr hB108)) ⟨mw_324, mw_326, mw_14, mw_38, mw_327⟩ sgX1_limitBy ⟨rfl, rfl, ⟨by decide, by decide⟩, by decide, by decide⟩ (hP.at 1 rfl) rfl rfl (RP.of hP [1, 2] rfl hF) hX.1 rfl hl.1 rfl (Nat.le_of_ble_eq_true rfl) dX1_endingSide_57 (fun v H109 hk110 hp => ?_)
            obtain ⟨r111, rfl, hr111⟩ := hp
            have hX := hX.tr hk110
            have hP := PP.ext hP hk110
            have hF := RF.ext hF hk110
            have hP := PP.cons hr111 hP
            refine W.eq (g2 := F0 m 60 ls [.ref r111]) rfl ?_
            refine lv_astore (lv' := [(7, .ref r111), (6, .int (nI 3)), (4, .int (nI (enp x1 y1 q k t 3))), (5, .ref nr), (0, .ref o), (1, .int (nI k)), (2, .long (lN t))]) X.1 X.2.1 dX1_endingSide_60 hl (by decide) rfl (fun ls hl => ?_)
            refine lv_aload X.1 X.2.1 dX1_endingSide_62 (lv_at hl 0 rfl) ?_
            refine lv_aload X.1 X.2.1 dX1_endingSide_64 (lv_at hl 3 rfl) ?_
            refine p_callV (C := RX0) (b := r111) (As := [.ref nr]) (rest := []) X (b_less l g _ _ bn bc (by decide) (by decide)) ⟨mw_267, mw_268, mw_269, mw_39, mw_270⟩ sgX0_isLess ⟨rfl, rfl, ⟨by decide, by decide⟩, by decide, by decide⟩ (hP.at 0 rfl) rfl rfl (hP.sub [0, 1] rfl) hX.1 rfl hl.1 rfl (Nat.le_of_ble_eq_true rfl) dX1_endingSide_66 (fun v H112 hk113 hp => ?_)
            obtain rfl := hp
            have hX := hX.tr hk113
            have hP := PP.ext hP hk113
            have hF := RF.ext hF hk113
            refine W.eq (g2 := F0 m 69 ls [.int (bI (decide (lim x1 y1 q k t 3 < lim x1 y1 q k t (enp x1 y1 q k t 3))))]) rfl ?_
            refine q_Bne X (tgt := 89) dX1_endingSide_69 (by decide) (fun hB114 => ?_) (fun hB114 => ?_)
            ·
              refine lv_iload X.1 X.2.1 dX1_endingSide_89 (lv_at hl 1 rfl) ?_
              refine lv_istore (lv' := [(4, .int (nI 3)), (7, .ref r111), (6, .int (nI 3)), (5, .ref nr), (0, .ref o), (1, .int (nI k)), (2, .long (lN t))]) X.1 X.2.1 dX1_endingSide_91 hl (by decide) rfl (fun ls hl => ?_)
              refine lv_aload X.1 X.2.1 dX1_endingSide_93 (lv_at hl 1 rfl) ?_
              refine lv_astore (lv' := [(5, .ref r111), (4, .int (nI 3)), (7, .ref r111), (6, .int (nI 3)), (0, .ref o), (1, .int (nI k)), (2, .long (lN t))]) X.1 X.2.1 dX1_endingSide_95 hl (by decide) rfl (fun ls hl => ?_)
              refine lv_iinc (v := nI (3 + 1)) (lv' := [(6, .int (nI (3 + 1))), (5, .ref r111), (4, .int (nI 3)), (7, .ref r111), (0, .ref o), (1, .int (nI k)), (2, .long (lN t))]) X.1 X.2.1 dX1_endingSide_97 hl (k := 3) rfl (nI_1 _) (by decide) rfl (fun ls hl => ?_)
              refine lv_goto (tgt := 19) X.1 X.2.1 dX1_endingSide_100 (by decide) ?_
              have e9 : enp x1 y1 q k t 4 = 3 := enp_yes hB102 hB105 hB108 (Or.inl (of_decide_eq_true hB114))
              exact L4 r111 _ ls hX (by rw [e9]; exact hP.sub [0, 2, 3] rfl) hF (by rw [e9]; exact lv_sub hl [0, 2, 1, 4, 5, 6] rfl)
            ·
              refine lv_aload X.1 X.2.1 dX1_endingSide_72 (lv_at hl 0 rfl) ?_
              refine lv_aload X.1 X.2.1 dX1_endingSide_74 (lv_at hl 3 rfl) ?_
              refine p_callV (C := RX0) (b := r111) (As := [.ref nr]) (rest := []) X (b_same l g _ _ bn bc (by decide) (by decide) (by decide) (by decide)) ⟨mw_204, mw_205, mw_206, mw_39, mw_207⟩ sgX0_isSame ⟨rfl, rfl, ⟨by decide, by decide⟩, by decide, by decide⟩ (hP.at 0 rfl) rfl rfl (hP.sub [0, 1] rfl) hX.1 rfl hl.1 rfl (Nat.le_of_ble_eq_true rfl) dX1_endingSide_76 (fun v H115 hk116 hp => ?_)
              obtain rfl := hp
              have hX := hX.tr hk116
              have hP := PP.ext hP hk116
              have hF := RF.ext hF hk116
              refine W.eq (g2 := F0 m 79 ls [.int (bI (decide (lim x1 y1 q k t 3 = lim x1 y1 q k t (enp x1 y1 q k t 3))))]) rfl ?_
              refine q_Beq X (tgt := 97) dX1_endingSide_79 (by decide) (fun hB117 => ?_) (fun hB117 => ?_)
              ·
                refine lv_iinc (v := nI (3 + 1)) (lv' := [(6, .int (nI (3 + 1))), (7, .ref r111), (4, .int (nI (enp x1 y1 q k t 3))), (5, .ref nr), (0, .ref o), (1, .int (nI k)), (2, .long (lN t))]) X.1 X.2.1 dX1_endingSide_97 hl (k := 1) rfl (nI_1 _) (by decide) rfl (fun ls hl => ?_)
                refine lv_goto (tgt := 19) X.1 X.2.1 dX1_endingSide_100 (by decide) ?_
                have e9 : enp x1 y1 q k t 4 = enp x1 y1 q k t 3 := enp_no (Or.inr (Or.inr (Or.inr ⟨of_decide_eq_false hB114, fun h9 => absurd h9 (of_decide_eq_false hB117)⟩)))
                exact L4 nr _ ls hX (by rw [e9]; exact hP.sub [1, 2, 3] rfl) hF (by rw [e9]; exact lv_sub hl [0, 2, 3, 4, 5, 6] rfl)
              ·
                refine lv_iload X.1 X.2.1 dX1_endingSide_82 (lv_at hl 1 rfl) ?_
                refine lv_iload X.1 X.2.1 dX1_endingSide_84 (lv_at hl 2 rfl) ?_
                refine q_Ige X (by omega) (by omega) (tgt := 97) dX1_endingSide_86 (by decide) (fun hB118 => ?_) (fun hB118 => ?_)
                ·
                  refine lv_iinc (v := nI (3 + 1)) (lv' := [(6, .int (nI (3 + 1))), (7, .ref r111), (4, .int (nI (enp x1 y1 q k t 3))), (5, .ref nr), (0, .ref o), (1, .int (nI k)), (2, .long (lN t))]) X.1 X.2.1 dX1_endingSide_97 hl (k := 1) rfl (nI_1 _) (by decide) rfl (fun ls hl => ?_)
                  refine lv_goto (tgt := 19) X.1 X.2.1 dX1_endingSide_100 (by decide) ?_
                  have e9 : enp x1 y1 q k t 4 = enp x1 y1 q k t 3 := enp_no (Or.inr (Or.inr (Or.inr ⟨of_decide_eq_false hB114, fun _ => hB118⟩)))
                  exact L4 nr _ ls hX (by rw [e9]; exact hP.sub [1, 2, 3] rfl) hF (by rw [e9]; exact lv_sub hl [0, 2, 3, 4, 5, 6] rfl)
                ·
                  refine lv_iload X.1 X.2.1 dX1_endingSide_89 (lv_at hl 1 rfl) ?_
                  refine lv_istore (lv' := [(4, .int (nI 3)), (7, .ref r111), (6, .int (nI 3)), (5, .ref nr), (0, .ref o), (1, .int (nI k)), (2, .long (lN t))]) X.1 X.2.1 dX1_endingSide_91 hl (by decide) rfl (fun ls hl => ?_)
                  refine lv_aload X.1 X.2.1 dX1_endingSide_93 (lv_at hl 1 rfl) ?_
                  refine lv_astore (lv' := [(5, .ref r111), (4, .int (nI 3)), (7, .ref r111), (6, .int (nI 3)), (0, .ref o), (1, .int (nI k)), (2, .long (lN t))]) X.1 X.2.1 dX1_endingSide_95 hl (by decide) rfl (fun ls hl => ?_)
                  refine lv_iinc (v := nI (3 + 1)) (lv' := [(6, .int (nI (3 + 1))), (5, .ref r111), (4, .int (nI 3)), (7, .ref r111), (0, .ref o), (1, .int (nI k)), (2, .long (lN t))]) X.1 X.2.1 dX1_endingSide_97 hl (k := 3) rfl (nI_1 _) (by decide) rfl (fun ls hl => ?_)
                  refine lv_goto (tgt := 19) X.1 X.2.1 dX1_endingSide_100 (by decide) ?_
                  have e9 : enp x1 y1 q k t 4 = 3 := enp_yes hB102 hB105 hB108 (Or.inr ⟨of_decide_eq_true hB117, hB118⟩)
                  exact L4 r111 _ ls hX (by rw [e9]; exact hP.sub [0, 2, 3] rfl) hF (by rw [e9]; exact lv_sub hl [0, 2, 1, 4, 5, 6] rfl)
          ·
            refine lv_goto (tgt := 97) X.1 X.2.1 dX1_endingSide_49 (by decide) ?_
            refine lv_iinc (v := nI (3 + 1)) (lv' := [(6, .int (nI (3 + 1))), (4, .int (nI (enp x1 y1 q k t 3))), (5, .ref nr), (0, .ref o), (1, .int (nI k)), (2, .long (lN t))]) X.1 X.2.1 dX1_endingSide_97 hl (k := 0) rfl (nI_1 _) (by decide) rfl (fun ls hl => ?_)
            refine lv_goto (tgt := 19) X.1 X.2.1 dX1_endingSide_100 (by decide) ?_
            refine W.widen (k := 15) (n := 30) (by decide) (by decide) ?_
            have e9 : enp x1 y1 q k t 4 = enp x1 y1 q k t 3 := enp_no (Or.inr (Or.inr (Or.inl hB108)))
            exact L4 nr _ ls hX (by rw [e9]; exact hP.sub [0, 1, 2] rfl) hF (by rw [e9]; exact lv_sub hl [0, 1, 2, 3, 4, 5] rfl)
  have L2 : ∀ (nr : Nat) (H : Heap) (ls : Array Slot), hxt s.heap H → PP g [fq nr (lim x1 y1 q k t (enp x1 y1 q k t 2)), ob o x1 y1 r, ar g r A] H → RF g A q H → lv_has ls 8 [(6, .int (nI 2)), (4, .int (nI (enp x1 y1 q k t 2))), (5, .ref nr), (0, .ref o), (1, .int (nI k)), (2, .long (lN t))] → W p l e { frames := 4, cells := 15, slots := 30, locals := 108 } s m ([.ref o, .int (nI k), .long (lN t)] : List Value).toArray below meth c H [] 9 18 (MQ below (pQ (rI (enp x1 y1 q k t 4))) ([.ref o, .int (nI k), .long (lN t)] : List Value).toArray s 15 30 (fun q => s.heap.size ≤ q)) (F0 m 19 ls []) := by
    intro nr H ls hX hP hF hl
    refine lv_iload X.1 X.2.1 dX1_endingSide_19 (lv_at hl 0 rfl) ?_
    refine lv_iconst (v := nI 4) X.1 X.2.1 dX1_endingSide_21 (by decide) ?_
    obtain ⟨hc, hc2⟩ := hok 2 (by decide)
    have bc := bd_lim hO hk hc ht hg hc2
    refine q_Ige X (by omega) (by omega) (tgt := 103) dX1_endingSide_22 (by decide) (fun hB101 => ?_) (fun hB101 => ?_)
    ·
      exact absurd hB101 (by decide)
    ·
      refine lv_iload X.1 X.2.1 dX1_endingSide_25 (lv_at hl 0 rfl) ?_
      refine lv_iload_n X.1 X.2.1 dX1_endingSide_27 rfl (lv_at hl 4 rfl) ?_
      refine q_Ieq X (by omega) (by omega) (tgt := 97) dX1_endingSide_28 (by decide) (fun hB102 => ?_) (fun hB102 => ?_)
      ·
        refine lv_iinc (v := nI (2 + 1)) (lv' := [(6, .int (nI (2 + 1))), (4, .int (nI (enp x1 y1 q k t 2))), (5, .ref nr), (0, .ref o), (1, .int (nI k)), (2, .long (lN t))]) X.1 X.2.1 dX1_endingSide_97 hl (k := 0) rfl (nI_1 _) (by decide) rfl (fun ls hl => ?_)
        refine lv_goto (tgt := 19) X.1 X.2.1 dX1_endingSide_100 (by decide) ?_
        refine W.widen (k := 12) (n := 24) (by decide) (by decide) ?_
        have e9 : enp x1 y1 q k t 3 = enp x1 y1 q k t 2 := enp_no (Or.inl hB102)
        exact L3 nr _ ls hX (by rw [e9]; exact hP.sub [0, 1, 2] rfl) hF (by rw [e9]; exact lv_sub hl [0, 1, 2, 3, 4, 5] rfl)
      ·
        refine lv_iload X.1 X.2.1 dX1_endingSide_31 (lv_at hl 0 rfl) ?_
        refine lv_iload_n X.1 X.2.1 dX1_endingSide_33 rfl (lv_at hl 4 rfl) ?_
        refine p_callS (As := [.int (nI k)]) (rest := [.int (nI 2)]) X (c_X1_opposite l g k hk) ⟨mw_321, mw_322, mw_38, mw_323⟩ sgX1_opposite ⟨rfl, rfl, ⟨by decide, by decide⟩, by decide, by decide⟩ (trivial) hX.1 rfl hl.1 rfl (Nat.le_of_ble_eq_true rfl) dX1_endingSide_34 (fun v H103 hk104 hp => ?_)
        obtain rfl := hp
        have hX := hX.tr hk104
        have hP := PP.ext hP hk104
        have hF := RF.ext hF hk104
        refine W.eq (g2 := F0 m 37 ls [.int (nI (opp k)), .int (nI 2)]) rfl ?_
        refine q_Ieq X (by omega) (by omega) (tgt := 97) dX1_endingSide_37 (by decide) (fun hB105 => ?_) (fun hB105 => ?_)
        ·
          refine lv_iinc (v := nI (2 + 1)) (lv' := [(6, .int (nI (2 + 1))), (4, .int (nI (enp x1 y1 q k t 2))), (5, .ref nr), (0, .ref o), (1, .int (nI k)), (2, .long (lN t))]) X.1 X.2.1 dX1_endingSide_97 hl (k := 0) rfl (nI_1 _) (by decide) rfl (fun ls hl => ?_)
          refine lv_goto (tgt := 19) X.1 X.2.1 dX1_endingSide_100 (by decide) ?_
          refine W.widen (k := 12) (n := 24) (by decide) (by decide) ?_
          have e9 : enp x1 y1 q k t 3 = enp x1 y1 q k t 2 := enp_no (Or.inr (Or.inl hB105))
          exact L3 nr _ ls hX (by rw [e9]; exact hP.sub [0, 1, 2] rfl) hF (by rw [e9]; exact lv_sub hl [0, 1, 2, 3, 4, 5] rfl)
        ·
          refine lv_aload_n X.1 X.2.1 dX1_endingSide_40 rfl (lv_at hl 3 rfl) ?_
          refine lv_iload X.1 X.2.1 dX1_endingSide_41 (lv_at hl 0 rfl) ?_
          refine p_callV (C := RX1) (b := o) (As := [.int (nI 2)]) (rest := []) X (c_X1_isGable l g o r A x1 y1 q 2 (by decide) (hq 2 (by decide))) ⟨mw_220, mw_222, mw_3, mw_38, mw_223⟩ sgX1_isGable ⟨rfl, rfl, ⟨by decide, by decide⟩, by decide, by decide⟩ (hP.at 1 rfl) rfl rfl (RP.of hP [1, 2] rfl hF) hX.1 rfl hl.1 rfl (Nat.le_of_ble_eq_true rfl) dX1_endingSide_43 (fun v H106 hk107 hp => ?_)
          obtain rfl := hp
          have hX := hX.tr hk107
          have hP := PP.ext hP hk107
          have hF := RF.ext hF hk107
          refine W.eq (g2 := F0 m 46 ls [.int (bI (gab q 2))]) rfl ?_
          refine q_Beq X (tgt := 52) dX1_endingSide_46 (by decide) (fun hB108 => ?_) (fun hB108 => ?_)
          ·
            refine lv_aload_n X.1 X.2.1 dX1_endingSide_52 rfl (lv_at hl 3 rfl) ?_
            refine lv_iload X.1 X.2.1 dX1_endingSide_53 (lv_at hl 0 rfl) ?_
            refine lv_iload_n X.1 X.2.1 dX1_endingSide_55 rfl (lv_at hl 4 rfl) ?_
            refine lv_lload_n X.1 X.2.1 dX1_endingSide_56 rfl (lv_at hl 5 rfl) ?_
            have bn := bd_lim hO hk (show 2 < 4 by decide) ht hg (Or.inr hB108)
            refine p_callV (C := RX1) (b := o) (As := [.int (nI 2), .int (nI k), .long (lN t)]) (rest := []) X (c_X1_limitBy l g o r A x1 y1 q 2 k t hO (by decide) hk ht hg (Or.inr hB108)) ⟨mw_324, mw_326, mw_14, mw_38, mw_327⟩ sgX1_limitBy ⟨rfl, rfl, ⟨by decide, by decide⟩, by decide, by decide⟩ (hP.at 1 rfl) rfl rfl (RP.of hP [1, 2] rfl hF) hX.1 rfl hl.1 rfl (Nat.le_of_ble_eq_true rfl) dX1_endingSide_57 (fun v H109 hk110 hp => ?_)
            obtain ⟨r111, rfl, hr111⟩ := hp
            have hX := hX.tr hk110
            have hP := PP.ext hP hk110
            have hF := RF.ext hF hk110
            have hP := PP.cons hr111 hP
            refine W.eq (g2 := F0 m 60 ls [.ref r111]) rfl ?_
            refine lv_astore (lv' := [(7, .ref r111), (6, .int (nI 2)), (4, .int (nI (enp x1 y1 q k t 2))), (5, .ref nr), (0, .ref o), (1, .int (nI k)), (2, .long (lN t))]) X.1 X.2.1 dX1_endingSide_60 hl (by decide) rfl (fun ls hl => ?_)
            refine lv_aload X.1 X.2.1 dX1_endingSide_62 (lv_at hl 0 rfl) ?_
            refine lv_aload X.1 X.2.1 dX1_endingSide_64 (lv_at hl 3 rfl) ?_
            refine p_callV (C := RX0) (b := r111) (As := [.ref nr]) (rest := []) X (b_less l g _ _ bn bc (by decide) (by decide)) ⟨mw_267, mw_268, mw_269, mw_39, mw_270⟩ sgX0_isLess ⟨rfl, rfl, ⟨by decide, by decide⟩, by decide, by decide⟩ (hP.at 0 rfl) rfl rfl (hP.sub [0, 1] rfl) hX.1 rfl hl.1 rfl (Nat.le_of_ble_eq_true rfl) dX1_endingSide_66 (fun v H112 hk113 hp => ?_)
            obtain rfl := hp
            have hX := hX.tr hk113
            have hP := PP.ext hP hk113
            have hF := RF.ext hF hk113
            refine W.eq (g2 := F0 m 69 ls [.int (bI (decide (lim x1 y1 q k t 2 < lim x1 y1 q k t (enp x1 y1 q k t 2))))]) rfl ?_
            refine q_Bne X (tgt := 89) dX1_endingSide_69 (by decide) (fun hB114 => ?_) (fun hB114 => ?_)
            ·
              refine lv_iload X.1 X.2.1 dX1_endingSide_89 (lv_at hl 1 rfl) ?_
              refine lv_istore (lv' := [(4, .int (nI 2)), (7, .ref r111), (6, .int (nI 2)), (5, .ref nr), (0, .ref o), (1, .int (nI k)), (2, .long (lN t))]) X.1 X.2.1 dX1_endingSide_91 hl (by decide) rfl (fun ls hl => ?_)
              refine lv_aload X.1 X.2.1 dX1_endingSide_93 (lv_at hl 1 rfl) ?_
              refine lv_astore (lv' := [(5, .ref r111), (4, .int (nI 2)), (7, .ref r111), (6, .int (nI 2)), (0, .ref o), (1, .int (nI k)), (2, .long (lN t))]) X.1 X.2.1 dX1_endingSide_95 hl (by decide) rfl (fun ls hl => ?_)
              refine lv_iinc (v := nI (2 + 1)) (lv' := [(6, .int (nI (2 + 1))), (5, .ref r111), (4, .int (nI 2)), (7, .ref r111), (0, .ref o), (1, .int (nI k)), (2, .long (lN t))]) X.1 X.2.1 dX1_endingSide_97 hl (k := 3) rfl (nI_1 _) (by decide) rfl (fun ls hl => ?_)
              refine lv_goto (tgt := 19) X.1 X.2.1 dX1_endingSide_100 (by decide) ?_
              have e9 : enp x1 y1 q k t 3 = 2 := enp_yes hB102 hB105 hB108 (Or.inl (of_decide_eq_true hB114))
              exact L3 r111 _ ls hX (by rw [e9]; exact hP.sub [0, 2, 3] rfl) hF (by rw [e9]; exact lv_sub hl [0, 2, 1, 4, 5, 6] rfl)
            ·
              refine lv_aload X.1 X.2.1 dX1_endingSide_72 (lv_at hl 0 rfl) ?_
              refine lv_aload X.1 X.2.1 dX1_endingSide_74 (lv_at hl 3 rfl) ?_
              refine p_callV (C := RX0) (b := r111) (As := [.ref nr]) (rest := []) X (b_same l g _ _ bn bc (by decide) (by decide) (by decide) (by decide)) ⟨mw_204, mw_205, mw_206, mw_39, mw_207⟩ sgX0_isSame ⟨rfl, rfl, ⟨by decide, by decide⟩, by decide, by decide⟩ (hP.at 0 rfl) rfl rfl (hP.sub [0, 1] rfl) hX.1 rfl hl.1 rfl (Nat.le_of_ble_eq_true rfl) dX1_endingSide_76 (fun v H115 hk116 hp => ?_)
              obtain rfl := hp
              have hX := hX.tr hk116
              have hP := PP.ext hP hk116
              have hF := RF.ext hF hk116
              refine W.eq (g2 := F0 m 79 ls [.int (bI (decide (lim x1 y1 q k t 2 = lim x1 y1 q k t (enp x1 y1 q k t 2))))]) rfl ?_
              refine q_Beq X (tgt := 97) dX1_endingSide_79 (by decide) (fun hB117 => ?_) (fun hB117 => ?_)
              ·
                refine lv_iinc (v := nI (2 + 1)) (lv' := [(6, .int (nI (2 + 1))), (7, .ref r111), (4, .int (nI (enp x1 y1 q k t 2))), (5, .ref nr), (0, .ref o), (1, .int (nI k)), (2, .long (lN t))]) X.1 X.2.1 dX1_endingSide_97 hl (k := 1) rfl (nI_1 _) (by decide) rfl (fun ls hl => ?_)
                refine lv_goto (tgt := 19) X.1 X.2.1 dX1_endingSide_100 (by decide) ?_
                have e9 : enp x1 y1 q k t 3 = enp x1 y1 q k t 2 := enp_no (Or.inr (Or.inr (Or.inr ⟨of_decide_eq_false hB114, fun h9 => absurd h9 (of_decide_eq_false hB117)⟩)))
                exact L3 nr _ ls hX (by rw [e9]; exact hP.sub [1, 2, 3] rfl) hF (by rw [e9]; exact lv_sub hl [0, 2, 3, 4, 5, 6] rfl)
              ·
                refine lv_iload X.1 X.2.1 dX1_endingSide_82 (lv_at hl 1 rfl) ?_
                refine lv_iload X.1 X.2.1 dX1_endingSide_84 (lv_at hl 2 rfl) ?_
                refine q_Ige X (by omega) (by omega) (tgt := 97) dX1_endingSide_86 (by decide) (fun hB118 => ?_) (fun hB118 => ?_)
                ·
                  refine lv_iinc (v := nI (2 + 1)) (lv' := [(6, .int (nI (2 + 1))), (7, .ref r111), (4, .int (nI (enp x1 y1 q k t 2))), (5, .ref nr), (0, .ref o), (1, .int (nI k)), (2, .long (lN t))]) X.1 X.2.1 dX1_endingSide_97 hl (k := 1) rfl (nI_1 _) (by decide) rfl (fun ls hl => ?_)
                  refine lv_goto (tgt := 19) X.1 X.2.1 dX1_endingSide_100 (by decide) ?_
                  have e9 : enp x1 y1 q k t 3 = enp x1 y1 q k t 2 := enp_no (Or.inr (Or.inr (Or.inr ⟨of_decide_eq_false hB114, fun _ => hB118⟩)))
                  exact L3 nr _ ls hX (by rw [e9]; exact hP.sub [1, 2, 3] rfl) hF (by rw [e9]; exact lv_sub hl [0, 2, 3, 4, 5, 6] rfl)
                ·
                  refine lv_iload X.1 X.2.1 dX1_endingSide_89 (lv_at hl 1 rfl) ?_
                  refine lv_istore (lv' := [(4, .int (nI 2)), (7, .ref r111), (6, .int (nI 2)), (5, .ref nr), (0, .ref o), (1, .int (nI k)), (2, .long (lN t))]) X.1 X.2.1 dX1_endingSide_91 hl (by decide) rfl (fun ls hl => ?_)
                  refine lv_aload X.1 X.2.1 dX1_endingSide_93 (lv_at hl 1 rfl) ?_
                  refine lv_astore (lv' := [(5, .ref r111), (4, .int (nI 2)), (7, .ref r111), (6, .int (nI 2)), (0, .ref o), (1, .int (nI k)), (2, .long (lN t))]) X.1 X.2.1 dX1_endingSide_95 hl (by decide) rfl (fun ls hl => ?_)
                  refine lv_iinc (v := nI (2 + 1)) (lv' := [(6, .int (nI (2 + 1))), (5, .ref r111), (4, .int (nI 2)), (7, .ref r111), (0, .ref o), (1, .int (nI k)), (2, .long (lN t))]) X.1 X.2.1 dX1_endingSide_97 hl (k := 3) rfl (nI_1 _) (by decide) rfl (fun ls hl => ?_)
                  refine lv_goto (tgt := 19) X.1 X.2.1 dX1_endingSide_100 (by decide) ?_
                  have e9 : enp x1 y1 q k t 3 = 2 := enp_yes hB102 hB105 hB108 (Or.inr ⟨of_decide_eq_true hB117, hB118⟩)
                  exact L3 r111 _ ls hX (by rw [e9]; exact hP.sub [0, 2, 3] rfl) hF (by rw [e9]; exact lv_sub hl [0, 2, 1, 4, 5, 6] rfl)
          ·
            refine lv_goto (tgt := 97) X.1 X.2.1 dX1_endingSide_49 (by decide) ?_
            refine lv_iinc (v := nI (2 + 1)) (lv' := [(6, .int (nI (2 + 1))), (4, .int (nI (enp x1 y1 q k t 2))), (5, .ref nr), (0, .ref o), (1, .int (nI k)), (2, .long (lN t))]) X.1 X.2.1 dX1_endingSide_97 hl (k := 0) rfl (nI_1 _) (by decide) rfl (fun ls hl => ?_)
            refine lv_goto (tgt := 19) X.1 X.2.1 dX1_endingSide_100 (by decide) ?_
            refine W.widen (k := 12) (n := 24) (by decide) (by decide) ?_
            have e9 : enp x1 y1 q k t 3 = enp x1 y1 q k t 2 := enp_no (Or.inr (Or.inr (Or.inl hB108)))
            exact L3 nr _ ls hX (by rw [e9]; exact hP.sub [0, 1, 2] rfl) hF (by rw [e9]; exact lv_sub hl [0, 1, 2, 3, 4, 5] rfl)
  have L1 : ∀ (nr : Nat) (H : Heap) (ls : Array Slot), hxt s.heap H → PP g [fq nr (lim x1 y1 q k t (enp x1 y1 q k t 1)), ob o x1 y1 r, ar g r A] H → RF g A q H → lv_has ls 8 [(6, .int (nI 1)), (4, .int (nI (enp x1 y1 q k t 1))), (5, .ref nr), (0, .ref o), (1, .int (nI k)), (2, .long (lN t))] → W p l e { frames := 4, cells := 15, slots := 30, locals := 108 } s m ([.ref o, .int (nI k), .long (lN t)] : List Value).toArray below meth c H [] 6 12 (MQ below (pQ (rI (enp x1 y1 q k t 4))) ([.ref o, .int (nI k), .long (lN t)] : List Value).toArray s 15 30 (fun q => s.heap.size ≤ q)) (F0 m 19 ls []) := by
    intro nr H ls hX hP hF hl
    refine lv_iload X.1 X.2.1 dX1_endingSide_19 (lv_at hl 0 rfl) ?_
    refine lv_iconst (v := nI 4) X.1 X.2.1 dX1_endingSide_21 (by decide) ?_
    obtain ⟨hc, hc2⟩ := hok 1 (by decide)
    have bc := bd_lim hO hk hc ht hg hc2
    refine q_Ige X (by omega) (by omega) (tgt := 103) dX1_endingSide_22 (by decide) (fun hB101 => ?_) (fun hB101 => ?_)
    ·
      exact absurd hB101 (by decide)
    ·
      refine lv_iload X.1 X.2.1 dX1_endingSide_25 (lv_at hl 0 rfl) ?_
      refine lv_iload_n X.1 X.2.1 dX1_endingSide_27 rfl (lv_at hl 4 rfl) ?_
      refine q_Ieq X (by omega) (by omega) (tgt := 97) dX1_endingSide_28 (by decide) (fun hB102 => ?_) (fun hB102 => ?_)
      ·
        refine lv_iinc (v := nI (1 + 1)) (lv' := [(6, .int (nI (1 + 1))), (4, .int (nI (enp x1 y1 q k t 1))), (5, .ref nr), (0, .ref o), (1, .int (nI k)), (2, .long (lN t))]) X.1 X.2.1 dX1_endingSide_97 hl (k := 0) rfl (nI_1 _) (by decide) rfl (fun ls hl => ?_)
        refine lv_goto (tgt := 19) X.1 X.2.1 dX1_endingSide_100 (by decide) ?_
        refine W.widen (k := 9) (n := 18) (by decide) (by decide) ?_
        have e9 : enp x1 y1 q k t 2 = enp x1 y1 q k t 1 := enp_no (Or.inl hB102)
        exact L2 nr _ ls hX (by rw [e9]; exact hP.sub [0, 1, 2] rfl) hF (by rw [e9]; exact lv_sub hl [0, 1, 2, 3, 4, 5] rfl)
      ·
        refine lv_iload X.1 X.2.1 dX1_endingSide_31 (lv_at hl 0 rfl) ?_
        refine lv_iload_n X.1 X.2.1 dX1_endingSide_33 rfl (lv_at hl 4 rfl) ?_
        refine p_callS (As := [.int (nI k)]) (rest := [.int (nI 1)]) X (c_X1_opposite l g k hk) ⟨mw_321, mw_322, mw_38, mw_323⟩ sgX1_opposite ⟨rfl, rfl, ⟨by decide, by decide⟩, by decide, by decide⟩ (trivial) hX.1 rfl hl.1 rfl (Nat.le_of_ble_eq_true rfl) dX1_endingSide_34 (fun v H103 hk104 hp => ?_)
        obtain rfl := hp
        have hX := hX.tr hk104
        have hP := PP.ext hP hk104
        have hF := RF.ext hF hk104
        refine W.eq (g2 := F0 m 37 ls [.int (nI (opp k)), .int (nI 1)]) rfl ?_
        refine q_Ieq X (by omega) (by omega) (tgt := 97) dX1_endingSide_37 (by decide) (fun hB105 => ?_) (fun hB105 => ?_)
        ·
          refine lv_iinc (v := nI (1 + 1)) (lv' := [(6, .int (nI (1 + 1))), (4, .int (nI (enp x1 y1 q k t 1))), (5, .ref nr), (0, .ref o), (1, .int (nI k)), (2, .long (lN t))]) X.1 X.2.1 dX1_endingSide_97 hl (k := 0) rfl (nI_1 _) (by decide) rfl (fun ls hl => ?_)
          refine lv_goto (tgt := 19) X.1 X.2.1 dX1_endingSide_100 (by decide) ?_
          refine W.widen (k := 9) (n := 18) (by decide) (by decide) ?_
          have e9 : enp x1 y1 q k t 2 = enp x1 y1 q k t 1 := enp_no (Or.inr (Or.inl hB105))
          exact L2 nr _ ls hX (by rw [e9]; exact hP.sub [0, 1, 2] rfl) hF (by rw [e9]; exact lv_sub hl [0, 1, 2, 3, 4, 5] rfl)
        ·
          refine lv_aload_n X.1 X.2.1 dX1_endingSide_40 rfl (lv_at hl 3 rfl) ?_
          refine lv_iload X.1 X.2.1 dX1_endingSide_41 (lv_at hl 0 rfl) ?_
          refine p_callV (C := RX1) (b := o) (As := [.int (nI 1)]) (rest := []) X (c_X1_isGable l g o r A x1 y1 q 1 (by decide) (hq 1 (by decide))) ⟨mw_220, mw_222, mw_3, mw_38, mw_223⟩ sgX1_isGable ⟨rfl, rfl, ⟨by decide, by decide⟩, by decide, by decide⟩ (hP.at 1 rfl) rfl rfl (RP.of hP [1, 2] rfl hF) hX.1 rfl hl.1 rfl (Nat.le_of_ble_eq_true rfl) dX1_endingSide_43 (fun v H106 hk107 hp => ?_)
          obtain rfl := hp
          have hX := hX.tr hk107
          have hP := PP.ext hP hk107
          have hF := RF.ext hF hk107
          refine W.eq (g2 := F0 m 46 ls [.int (bI (gab q 1))]) rfl ?_
          refine q_Beq X (tgt := 52) dX1_endingSide_46 (by decide) (fun hB108 => ?_) (fun hB108 => ?_)
          ·
            refine lv_aload_n X.1 X.2.1 dX1_endingSide_52 rfl (lv_at hl 3 rfl) ?_
            refine lv_iload X.1 X.2.1 dX1_endingSide_53 (lv_at hl 0 rfl) ?_
            refine lv_iload_n X.1 X.2.1 dX1_endingSide_55 rfl (lv_at hl 4 rfl) ?_
            refine lv_lload_n X.1 X.2.1 dX1_endingSide_56 rfl (lv_at hl 5 rfl) ?_
            have bn := bd_lim hO hk (show 1 < 4 by decide) ht hg (Or.inr hB108)
            refine p_callV (C := RX1) (b := o) (As := [.int (nI 1), .int (nI k), .long (lN t)]) (rest := []) X (c_X1_limitBy l g o r A x1 y1 q 1 k t hO (by decide) hk ht hg (Or.inr hB108)) ⟨mw_324, mw_326, mw_14, mw_38, mw_327⟩ sgX1_limitBy ⟨rfl, rfl, ⟨by decide, by decide⟩, by decide, by decide⟩ (hP.at 1 rfl) rfl rfl (RP.of hP [1, 2] rfl hF) hX.1 rfl hl.1 rfl (Nat.le_of_ble_eq_true rfl) dX1_endingSide_57 (fun v H109 hk110 hp => ?_)
            obtain ⟨r111, rfl, hr111⟩ := hp
            have hX := hX.tr hk110
            have hP := PP.ext hP hk110
            have hF := RF.ext hF hk110
            have hP := PP.cons hr111 hP
            refine W.eq (g2 := F0 m 60 ls [.ref r111]) rfl ?_
            refine lv_astore (lv' := [(7, .ref r111), (6, .int (nI 1)), (4, .int (nI (enp x1 y1 q k t 1))), (5, .ref nr), (0, .ref o), (1, .int (nI k)), (2, .long (lN t))]) X.1 X.2.1 dX1_endingSide_60 hl (by decide) rfl (fun ls hl => ?_)
            refine lv_aload X.1 X.2.1 dX1_endingSide_62 (lv_at hl 0 rfl) ?_
            refine lv_aload X.1 X.2.1 dX1_endingSide_64 (lv_at hl 3 rfl) ?_
            refine p_callV (C := RX0) (b := r111) (As := [.ref nr]) (rest := []) X (b_less l g _ _ bn bc (by decide) (by decide)) ⟨mw_267, mw_268, mw_269, mw_39, mw_270⟩ sgX0_isLess ⟨rfl, rfl, ⟨by decide, by decide⟩, by decide, by decide⟩ (hP.at 0 rfl) rfl rfl (hP.sub [0, 1] rfl) hX.1 rfl hl.1 rfl (Nat.le_of_ble_eq_true rfl) dX1_endingSide_66 (fun v H112 hk113 hp => ?_)
            obtain rfl := hp
            have hX := hX.tr hk113
            have hP := PP.ext hP hk113
            have hF := RF.ext hF hk113
            refine W.eq (g2 := F0 m 69 ls [.int (bI (decide (lim x1 y1 q k t 1 < lim x1 y1 q k t (enp x1 y1 q k t 1))))]) rfl ?_
            refine q_Bne X (tgt := 89) dX1_endingSide_69 (by decide) (fun hB114 => ?_) (fun hB114 => ?_)
            ·
              refine lv_iload X.1 X.2.1 dX1_endingSide_89 (lv_at hl 1 rfl) ?_
              refine lv_istore (lv' := [(4, .int (nI 1)), (7, .ref r111), (6, .int (nI 1)), (5, .ref nr), (0, .ref o), (1, .int (nI k)), (2, .long (lN t))]) X.1 X.2.1 dX1_endingSide_91 hl (by decide) rfl (fun ls hl => ?_)
              refine lv_aload X.1 X.2.1 dX1_endingSide_93 (lv_at hl 1 rfl) ?_
              refine lv_astore (lv' := [(5, .ref r111), (4, .int (nI 1)), (7, .ref r111), (6, .int (nI 1)), (0, .ref o), (1, .int (nI k)), (2, .long (lN t))]) X.1 X.2.1 dX1_endingSide_95 hl (by decide) rfl (fun ls hl => ?_)
              refine lv_iinc (v := nI (1 + 1)) (lv' := [(6, .int (nI (1 + 1))), (5, .ref r111), (4, .int (nI 1)), (7, .ref r111), (0, .ref o), (1, .int (nI k)), (2, .long (lN t))]) X.1 X.2.1 dX1_endingSide_97 hl (k := 3) rfl (nI_1 _) (by decide) rfl (fun ls hl => ?_)
              refine lv_goto (tgt := 19) X.1 X.2.1 dX1_endingSide_100 (by decide) ?_
              have e9 : enp x1 y1 q k t 2 = 1 := enp_yes hB102 hB105 hB108 (Or.inl (of_decide_eq_true hB114))
              exact L2 r111 _ ls hX (by rw [e9]; exact hP.sub [0, 2, 3] rfl) hF (by rw [e9]; exact lv_sub hl [0, 2, 1, 4, 5, 6] rfl)
            ·
              refine lv_aload X.1 X.2.1 dX1_endingSide_72 (lv_at hl 0 rfl) ?_
              refine lv_aload X.1 X.2.1 dX1_endingSide_74 (lv_at hl 3 rfl) ?_
              refine p_callV (C := RX0) (b := r111) (As := [.ref nr]) (rest := []) X (b_same l g _ _ bn bc (by decide) (by decide) (by decide) (by decide)) ⟨mw_204, mw_205, mw_206, mw_39, mw_207⟩ sgX0_isSame ⟨rfl, rfl, ⟨by decide, by decide⟩, by decide, by decide⟩ (hP.at 0 rfl) rfl rfl (hP.sub [0, 1] rfl) hX.1 rfl hl.1 rfl (Nat.le_of_ble_eq_true rfl) dX1_endingSide_76 (fun v H115 hk116 hp => ?_)
              obtain rfl := hp
              have hX := hX.tr hk116
              have hP := PP.ext hP hk116
              have hF := RF.ext hF hk116
              refine W.eq (g2 := F0 m 79 ls [.int (bI (decide (lim x1 y1 q k t 1 = lim x1 y1 q k t (enp x1 y1 q k t 1))))]) rfl ?_
              refine q_Beq X (tgt := 97) dX1_endingSide_79 (by decide) (fun hB117 => ?_) (fun hB117 => ?_)
              ·
                refine lv_iinc (v := nI (1 + 1)) (lv' := [(6, .int (nI (1 + 1))), (7, .ref r111), (4, .int (nI (enp x1 y1 q k t 1))), (5, .ref nr), (0, .ref o), (1, .int (nI k)), (2, .long (lN t))]) X.1 X.2.1 dX1_endingSide_97 hl (k := 1) rfl (nI_1 _) (by decide) rfl (fun ls hl => ?_)
                refine lv_goto (tgt := 19) X.1 X.2.1 dX1_endingSide_100 (by decide) ?_
                have e9 : enp x1 y1 q k t 2 = enp x1 y1 q k t 1 := enp_no (Or.inr (Or.inr (Or.inr ⟨of_decide_eq_false hB114, fun h9 => absurd h9 (of_decide_eq_false hB117)⟩)))
                exact L2 nr _ ls hX (by rw [e9]; exact hP.sub [1, 2, 3] rfl) hF (by rw [e9]; exact lv_sub hl [0, 2, 3, 4, 5, 6] rfl)
              ·
                refine lv_iload X.1 X.2.1 dX1_endingSide_82 (lv_at hl 1 rfl) ?_
                refine lv_iload X.1 X.2.1 dX1_endingSide_84 (lv_at hl 2 rfl) ?_
                refine q_Ige X (by omega) (by omega) (tgt := 97) dX1_endingSide_86 (by decide) (fun hB118 => ?_) (fun hB118 => ?_)
                ·
                  refine lv_iinc (v := nI (1 + 1)) (lv' := [(6, .int (nI (1 + 1))), (7, .ref r111), (4, .int (nI (enp x1 y1 q k t 1))), (5, .ref nr), (0, .ref o), (1, .int (nI k)), (2, .long (lN t))]) X.1 X.2.1 dX1_endingSide_97 hl (k := 1) rfl (nI_1 _) (by decide) rfl (fun ls hl => ?_)
                  refine lv_goto (tgt := 19) X.1 X.2.1 dX1_endingSide_100 (by decide) ?_
                  have e9 : enp x1 y1 q k t 2 = enp x1 y1 q k t 1 := enp_no (Or.inr (Or.inr (Or.inr ⟨of_decide_eq_false hB114, fun _ => hB118⟩)))
                  exact L2 nr _ ls hX (by rw [e9]; exact hP.sub [1, 2, 3] rfl) hF (by rw [e9]; exact lv_sub hl [0, 2, 3, 4, 5, 6] rfl)
                ·
                  refine lv_iload X.1 X.2.1 dX1_endingSide_89 (lv_at hl 1 rfl) ?_
                  refine lv_istore (lv' := [(4, .int (nI 1)), (7, .ref r111), (6, .int (nI 1)), (5, .ref nr), (0, .ref o), (1, .int (nI k)), (2, .long (lN t))]) X.1 X.2.1 dX1_endingSide_91 hl (by decide) rfl (fun ls hl => ?_)
                  refine lv_aload X.1 X.2.1 dX1_endingSide_93 (lv_at hl 1 rfl) ?_
                  refine lv_astore (lv' := [(5, .ref r111), (4, .int (nI 1)), (7, .ref r111), (6, .int (nI 1)), (0, .ref o), (1, .int (nI k)), (2, .long (lN t))]) X.1 X.2.1 dX1_endingSide_95 hl (by decide) rfl (fun ls hl => ?_)
                  refine lv_iinc (v := nI (1 + 1)) (lv' := [(6, .int (nI (1 + 1))), (5, .ref r111), (4, .int (nI 1)), (7, .ref r111), (0, .ref o), (1, .int (nI k)), (2, .long (lN t))]) X.1 X.2.1 dX1_endingSide_97 hl (k := 3) rfl (nI_1 _) (by decide) rfl (fun ls hl => ?_)
                  refine lv_goto (tgt := 19) X.1 X.2.1 dX1_endingSide_100 (by decide) ?_
                  have e9 : enp x1 y1 q k t 2 = 1 := enp_yes hB102 hB105 hB108 (Or.inr ⟨of_decide_eq_true hB117, hB118⟩)
                  exact L2 r111 _ ls hX (by rw [e9]; exact hP.sub [0, 2, 3] rfl) hF (by rw [e9]; exact lv_sub hl [0, 2, 1, 4, 5, 6] rfl)
          ·
            refine lv_goto (tgt := 97) X.1 X.2.1 dX1_endingSide_49 (by decide) ?_
            refine lv_iinc (v := nI (1 + 1)) (lv' := [(6, .int (nI (1 + 1))), (4, .int (nI (enp x1 y1 q k t 1))), (5, .ref nr), (0, .ref o), (1, .int (nI k)), (2, .long (lN t))]) X.1 X.2.1 dX1_endingSide_97 hl (k := 0) rfl (nI_1 _) (by decide) rfl (fun ls hl => ?_)
            refine lv_goto (tgt := 19) X.1 X.2.1 dX1_endingSide_100 (by decide) ?_
            refine W.widen (k := 9) (n := 18) (by decide) (by decide) ?_
            have e9 : enp x1 y1 q k t 2 = enp x1 y1 q k t 1 := enp_no (Or.inr (Or.inr (Or.inl hB108)))
            exact L2 nr _ ls hX (by rw [e9]; exact hP.sub [0, 1, 2] rfl) hF (by rw [e9]; exact lv_sub hl [0, 1, 2, 3, 4, 5] rfl)
  have L0 : ∀ (nr : Nat) (H : Heap) (ls : Array Slot), hxt s.heap H → PP g [fq nr (lim x1 y1 q k t (enp x1 y1 q k t 0)), ob o x1 y1 r, ar g r A] H → RF g A q H → lv_has ls 8 [(6, .int (nI 0)), (4, .int (nI (enp x1 y1 q k t 0))), (5, .ref nr), (0, .ref o), (1, .int (nI k)), (2, .long (lN t))] → W p l e { frames := 4, cells := 15, slots := 30, locals := 108 } s m ([.ref o, .int (nI k), .long (lN t)] : List Value).toArray below meth c H [] 3 6 (MQ below (pQ (rI (enp x1 y1 q k t 4))) ([.ref o, .int (nI k), .long (lN t)] : List Value).toArray s 15 30 (fun q => s.heap.size ≤ q)) (F0 m 19 ls []) := by
    intro nr H ls hX hP hF hl
    refine lv_iload X.1 X.2.1 dX1_endingSide_19 (lv_at hl 0 rfl) ?_
    refine lv_iconst (v := nI 4) X.1 X.2.1 dX1_endingSide_21 (by decide) ?_
    obtain ⟨hc, hc2⟩ := hok 0 (by decide)
    have bc := bd_lim hO hk hc ht hg hc2
    refine q_Ige X (by omega) (by omega) (tgt := 103) dX1_endingSide_22 (by decide) (fun hB101 => ?_) (fun hB101 => ?_)
    ·
      exact absurd hB101 (by decide)
    ·
      refine lv_iload X.1 X.2.1 dX1_endingSide_25 (lv_at hl 0 rfl) ?_
      refine lv_iload_n X.1 X.2.1 dX1_endingSide_27 rfl (lv_at hl 4 rfl) ?_
      refine q_Ieq X (by omega) (by omega) (tgt := 97) dX1_endingSide_28 (by decide) (fun hB102 => ?_) (fun hB102 => ?_)
      ·
        refine lv_iinc (v := nI (0 + 1)) (lv' := [(6, .int (nI (0 + 1))), (4, .int (nI (enp x1 y1 q k t 0))), (5, .ref nr), (0, .ref o), (1, .int (nI k)), (2, .long (lN t))]) X.1 X.2.1 dX1_endingSide_97 hl (k := 0) rfl (nI_1 _) (by decide) rfl (fun ls hl => ?_)
        refine lv_goto (tgt := 19) X.1 X.2.1 dX1_endingSide_100 (by decide) ?_
        refine W.widen (k := 6) (n := 12) (by decide) (by decide) ?_
        have e9 : enp x1 y1 q k t 1 = enp x1 y1 q k t 0 := enp_no (Or.inl hB102)
        exact L1 nr _ ls hX (by rw [e9]; exact hP.sub [0, 1, 2] rfl) hF (by rw [e9]; exact lv_sub hl [0, 1, 2, 3, 4, 5] rfl)
      ·
        refine lv_iload X.1 X.2.1 dX1_endingSide_31 (lv_at hl 0 rfl) ?_
        refine lv_iload_n X.1 X.2.1 dX1_endingSide_33 rfl (lv_at hl 4 rfl) ?_
        refine p_callS (As := [.int (nI k)]) (rest := [.int (nI 0)]) X (c_X1_opposite l g k hk) ⟨mw_321, mw_322, mw_38, mw_323⟩ sgX1_opposite ⟨rfl, rfl, ⟨by decide, by decide⟩, by decide, by decide⟩ (trivial) hX.1 rfl hl.1 rfl (Nat.le_of_ble_eq_true rfl) dX1_endingSide_34 (fun v H103 hk104 hp => ?_)
        obtain rfl := hp
        have hX := hX.tr hk104
        have hP := PP.ext hP hk104
        have hF := RF.ext hF hk104
        refine W.eq (g2 := F0 m 37 ls [.int (nI (opp k)), .int (nI 0)]) rfl ?_
        refine q_Ieq X (by omega) (by omega) (tgt := 97) dX1_endingSide_37 (by decide) (fun hB105 => ?_) (fun hB105 => ?_)
        ·
          refine lv_iinc (v := nI (0 + 1)) (lv' := [(6, .int (nI (0 + 1))), (4, .int (nI (enp x1 y1 q k t 0))), (5, .ref nr), (0, .ref o), (1, .int (nI k)), (2, .long (lN t))]) X.1 X.2.1 dX1_endingSide_97 hl (k := 0) rfl (nI_1 _) (by decide) rfl (fun ls hl => ?_)
          refine lv_goto (tgt := 19) X.1 X.2.1 dX1_endingSide_100 (by decide) ?_
          refine W.widen (k := 6) (n := 12) (by decide) (by decide) ?_
          have e9 : enp x1 y1 q k t 1 = enp x1 y1 q k t 0 := enp_no (Or.inr (Or.inl hB105))
          exact L1 nr _ ls hX (by rw [e9]; exact hP.sub [0, 1, 2] rfl) hF (by rw [e9]; exact lv_sub hl [0, 1, 2, 3, 4, 5] rfl)
        ·
          refine lv_aload_n X.1 X.2.1 dX1_endingSide_40 rfl (lv_at hl 3 rfl) ?_
          refine lv_iload X.1 X.2.1 dX1_endingSide_41 (lv_at hl 0 rfl) ?_
          refine p_callV (C := RX1) (b := o) (As := [.int (nI 0)]) (rest := []) X (c_X1_isGable l g o r A x1 y1 q 0 (by decide) (hq 0 (by decide))) ⟨mw_220, mw_222, mw_3, mw_38, mw_223⟩ sgX1_isGable ⟨rfl, rfl, ⟨by decide, by decide⟩, by decide, by decide⟩ (hP.at 1 rfl) rfl rfl (RP.of hP [1, 2] rfl hF) hX.1 rfl hl.1 rfl (Nat.le_of_ble_eq_true rfl) dX1_endingSide_43 (fun v H106 hk107 hp => ?_)
          obtain rfl := hp
          have hX := hX.tr hk107
          have hP := PP.ext hP hk107
          have hF := RF.ext hF hk107
          refine W.eq (g2 := F0 m 46 ls [.int (bI (gab q 0))]) rfl ?_
          refine q_Beq X (tgt := 52) dX1_endingSide_46 (by decide) (fun hB108 => ?_) (fun hB108 => ?_)
          ·
            refine lv_aload_n X.1 X.2.1 dX1_endingSide_52 rfl (lv_at hl 3 rfl) ?_
            refine lv_iload X.1 X.2.1 dX1_endingSide_53 (lv_at hl 0 rfl) ?_
            refine lv_iload_n X.1 X.2.1 dX1_endingSide_55 rfl (lv_at hl 4 rfl) ?_
            refine lv_lload_n X.1 X.2.1 dX1_endingSide_56 rfl (lv_at hl 5 rfl) ?_
            have bn := bd_lim hO hk (show 0 < 4 by decide) ht hg (Or.inr hB108)
            refine p_callV (C := RX1) (b := o) (As := [.int (nI 0), .int (nI k), .long (lN t)]) (rest := []) X (c_X1_limitBy l g o r A x1 y1 q 0 k t hO (by decide) hk ht hg (Or.inr hB108)) ⟨mw_324, mw_326, mw_14, mw_38, mw_327⟩ sgX1_limitBy ⟨rfl, rfl, ⟨by decide, by decide⟩, by decide, by decide⟩ (hP.at 1 rfl) rfl rfl (RP.of hP [1, 2] rfl hF) hX.1 rfl hl.1 rfl (Nat.le_of_ble_eq_true rfl) dX1_endingSide_57 (fun v H109 hk110 hp => ?_)
            obtain ⟨r111, rfl, hr111⟩ := hp
            have hX := hX.tr hk110
            have hP := PP.ext hP hk110
            have hF := RF.ext hF hk110
            have hP := PP.cons hr111 hP
            refine W.eq (g2 := F0 m 60 ls [.ref r111]) rfl ?_
            refine lv_astore (lv' := [(7, .ref r111), (6, .int (nI 0)), (4, .int (nI (enp x1 y1 q k t 0))), (5, .ref nr), (0, .ref o), (1, .int (nI k)), (2, .long (lN t))]) X.1 X.2.1 dX1_endingSide_60 hl (by decide) rfl (fun ls hl => ?_)
            refine lv_aload X.1 X.2.1 dX1_endingSide_62 (lv_at hl 0 rfl) ?_
            refine lv_aload X.1 X.2.1 dX1_endingSide_64 (lv_at hl 3 rfl) ?_
            refine p_callV (C := RX0) (b := r111) (As := [.ref nr]) (rest := []) X (b_less l g _ _ bn bc (by decide) (by decide)) ⟨mw_267, mw_268, mw_269, mw_39, mw_270⟩ sgX0_isLess ⟨rfl, rfl, ⟨by decide, by decide⟩, by decide, by decide⟩ (hP.at 0 rfl) rfl rfl (hP.sub [0, 1] rfl) hX.1 rfl hl.1 rfl (Nat.le_of_ble_eq_true rfl) dX1_endingSide_66 (fun v H112 hk113 hp => ?_)
            obtain rfl := hp
            have hX := hX.tr hk113
            have hP := PP.ext hP hk113
            have hF := RF.ext hF hk113
            refine W.eq (g2 := F0 m 69 ls [.int (bI (decide (lim x1 y1 q k t 0 < lim x1 y1 q k t (enp x1 y1 q k t 0))))]) rfl ?_
            refine q_Bne X (tgt := 89) dX1_endingSide_69 (by decide) (fun hB114 => ?_) (fun hB114 => ?_)
            ·
              refine lv_iload X.1 X.2.1 dX1_endingSide_89 (lv_at hl 1 rfl) ?_
              refine lv_istore (lv' := [(4, .int (nI 0)), (7, .ref r111), (6, .int (nI 0)), (5, .ref nr), (0, .ref o), (1, .int (nI k)), (2, .long (lN t))]) X.1 X.2.1 dX1_endingSide_91 hl (by decide) rfl (fun ls hl => ?_)
              refine lv_aload X.1 X.2.1 dX1_endingSide_93 (lv_at hl 1 rfl) ?_
              refine lv_astore (lv' := [(5, .ref r111), (4, .int (nI 0)), (7, .ref r111), (6, .int (nI 0)), (0, .ref o), (1, .int (nI k)), (2, .long (lN t))]) X.1 X.2.1 dX1_endingSide_95 hl (by decide) rfl (fun ls hl => ?_)
              refine lv_iinc (v := nI (0 + 1)) (lv' := [(6, .int (nI (0 + 1))), (5, .ref r111), (4, .int (nI 0)), (7, .ref r111), (0, .ref o), (1, .int (nI k)), (2, .long (lN t))]) X.1 X.2.1 dX1_endingSide_97 hl (k := 3) rfl (nI_1 _) (by decide) rfl (fun ls hl => ?_)
              refine lv_goto (tgt := 19) X.1 X.2.1 dX1_endingSide_100 (by decide) ?_
              have e9 : enp x1 y1 q k t 1 = 0 := enp_yes hB102 hB105 hB108 (Or.inl (of_decide_eq_true hB114))
              exact L1 r111 _ ls hX (by rw [e9]; exact hP.sub [0, 2, 3] rfl) hF (by rw [e9]; exact lv_sub hl [0, 2, 1, 4, 5, 6] rfl)
            ·
              refine lv_aload X.1 X.2.1 dX1_endingSide_72 (lv_at hl 0 rfl) ?_
              refine lv_aload X.1 X.2.1 dX1_endingSide_74 (lv_at hl 3 rfl) ?_
              refine p_callV (C := RX0) (b := r111) (As := [.ref nr]) (rest := []) X (b_same l g _ _ bn bc (by decide) (by decide) (by decide) (by decide)) ⟨mw_204, mw_205, mw_206, mw_39, mw_207⟩ sgX0_isSame ⟨rfl, rfl, ⟨by decide, by decide⟩, by decide, by decide⟩ (hP.at 0 rfl) rfl rfl (hP.sub [0, 1] rfl) hX.1 rfl hl.1 rfl (Nat.le_of_ble_eq_true rfl) dX1_endingSide_76 (fun v H115 hk116 hp => ?_)
              obtain rfl := hp
              have hX := hX.tr hk116
              have hP := PP.ext hP hk116
              have hF := RF.ext hF hk116
              refine W.eq (g2 := F0 m 79 ls [.int (bI (decide (lim x1 y1 q k t 0 = lim x1 y1 q k t (enp x1 y1 q k t 0))))]) rfl ?_
              refine q_Beq X (tgt := 97) dX1_endingSide_79 (by decide) (fun hB117 => ?_) (fun hB117 => ?_)
              ·
                refine lv_iinc (v := nI (0 + 1)) (lv' := [(6, .int (nI (0 + 1))), (7, .ref r111), (4, .int (nI (enp x1 y1 q k t 0))), (5, .ref nr), (0, .ref o), (1, .int (nI k)), (2, .long (lN t))]) X.1 X.2.1 dX1_endingSide_97 hl (k := 1) rfl (nI_1 _) (by decide) rfl (fun ls hl => ?_)
                refine lv_goto (tgt := 19) X.1 X.2.1 dX1_endingSide_100 (by decide) ?_
                have e9 : enp x1 y1 q k t 1 = enp x1 y1 q k t 0 := enp_no (Or.inr (Or.inr (Or.inr ⟨of_decide_eq_false hB114, fun h9 => absurd h9 (of_decide_eq_false hB117)⟩)))
                exact L1 nr _ ls hX (by rw [e9]; exact hP.sub [1, 2, 3] rfl) hF (by rw [e9]; exact lv_sub hl [0, 2, 3, 4, 5, 6] rfl)
              ·
                refine lv_iload X.1 X.2.1 dX1_endingSide_82 (lv_at hl 1 rfl) ?_
                refine lv_iload X.1 X.2.1 dX1_endingSide_84 (lv_at hl 2 rfl) ?_
                refine q_Ige X (by omega) (by omega) (tgt := 97) dX1_endingSide_86 (by decide) (fun hB118 => ?_) (fun hB118 => ?_)
                ·
                  refine lv_iinc (v := nI (0 + 1)) (lv' := [(6, .int (nI (0 + 1))), (7, .ref r111), (4, .int (nI (enp x1 y1 q k t 0))), (5, .ref nr), (0, .ref o), (1, .int (nI k)), (2, .long (lN t))]) X.1 X.2.1 dX1_endingSide_97 hl (k := 1) rfl (nI_1 _) (by decide) rfl (fun ls hl => ?_)
                  refine lv_goto (tgt := 19) X.1 X.2.1 dX1_endingSide_100 (by decide) ?_
                  have e9 : enp x1 y1 q k t 1 = enp x1 y1 q k t 0 := enp_no (Or.inr (Or.inr (Or.inr ⟨of_decide_eq_false hB114, fun _ => hB118⟩)))
                  exact L1 nr _ ls hX (by rw [e9]; exact hP.sub [1, 2, 3] rfl) hF (by rw [e9]; exact lv_sub hl [0, 2, 3, 4, 5, 6] rfl)
                ·
                  refine lv_iload X.1 X.2.1 dX1_endingSide_89 (lv_at hl 1 rfl) ?_
                  refine lv_istore (lv' := [(4, .int (nI 0)), (7, .ref r111), (6, .int (nI 0)), (5, .ref nr), (0, .ref o), (1, .int (nI k)), (2, .long (lN t))]) X.1 X.2.1 dX1_endingSide_91 hl (by decide) rfl (fun ls hl => ?_)
                  refine lv_aload X.1 X.2.1 dX1_endingSide_93 (lv_at hl 1 rfl) ?_
                  refine lv_astore (lv' := [(5, .ref r111), (4, .int (nI 0)), (7, .ref r111), (6, .int (nI 0)), (0, .ref o), (1, .int (nI k)), (2, .long (lN t))]) X.1 X.2.1 dX1_endingSide_95 hl (by decide) rfl (fun ls hl => ?_)
                  refine lv_iinc (v := nI (0 + 1)) (lv' := [(6, .int (nI (0 + 1))), (5, .ref r111), (4, .int (nI 0)), (7, .ref r111), (0, .ref o), (1, .int (nI k)), (2, .long (lN t))]) X.1 X.2.1 dX1_endingSide_97 hl (k := 3) rfl (nI_1 _) (by decide) rfl (fun ls hl => ?_)
                  refine lv_goto (tgt := 19) X.1 X.2.1 dX1_endingSide_100 (by decide) ?_
                  have e9 : enp x1 y1 q k t 1 = 0 := enp_yes hB102 hB105 hB108 (Or.inr ⟨of_decide_eq_true hB117, hB118⟩)
                  exact L1 r111 _ ls hX (by rw [e9]; exact hP.sub [0, 2, 3] rfl) hF (by rw [e9]; exact lv_sub hl [0, 2, 1, 4, 5, 6] rfl)
          ·
            refine lv_goto (tgt := 97) X.1 X.2.1 dX1_endingSide_49 (by decide) ?_
            refine lv_iinc (v := nI (0 + 1)) (lv' := [(6, .int (nI (0 + 1))), (4, .int (nI (enp x1 y1 q k t 0))), (5, .ref nr), (0, .ref o), (1, .int (nI k)), (2, .long (lN t))]) X.1 X.2.1 dX1_endingSide_97 hl (k := 0) rfl (nI_1 _) (by decide) rfl (fun ls hl => ?_)
            refine lv_goto (tgt := 19) X.1 X.2.1 dX1_endingSide_100 (by decide) ?_
            refine W.widen (k := 6) (n := 12) (by decide) (by decide) ?_
            have e9 : enp x1 y1 q k t 1 = enp x1 y1 q k t 0 := enp_no (Or.inr (Or.inr (Or.inl hB108)))
            exact L1 nr _ ls hX (by rw [e9]; exact hP.sub [0, 1, 2] rfl) hF (by rw [e9]; exact lv_sub hl [0, 1, 2, 3, 4, 5] rfl)
  have hl : lv_has ls 8 [(0, .ref o), (1, .int (nI k)), (2, .long (lN t))] := hl
  have hX : hxt s.heap s.heap := hxt.rf
  have hP : PP g [ob o x1 y1 r, ar g r A] s.heap := hP
  refine lv_iload_n X.1 X.2.1 dX1_endingSide_0 rfl (lv_at hl 1 rfl) ?_
  refine p_callS (As := [.int (nI k)]) (rest := []) X (c_X1_opposite l g k hk) ⟨mw_321, mw_322, mw_38, mw_323⟩ sgX1_opposite ⟨rfl, rfl, ⟨by decide, by decide⟩, by decide, by decide⟩ (trivial) hX.1 rfl hl.1 rfl (Nat.le_of_ble_eq_true rfl) dX1_endingSide_1 (fun v H1 hk2 hp => ?_)
  obtain rfl := hp
  have hX := hX.tr hk2
  have hP := PP.ext hP hk2
  have hF := RF.ext hF hk2
  refine W.eq (g2 := F0 m 4 ls [.int (nI (opp k))]) rfl ?_
  refine lv_istore (lv' := [(4, .int (nI (opp k))), (0, .ref o), (1, .int (nI k)), (2, .long (lN t))]) X.1 X.2.1 dX1_endingSide_4 hl (by decide) rfl (fun ls hl => ?_)
  refine lv_aload_n X.1 X.2.1 dX1_endingSide_6 rfl (lv_at hl 1 rfl) ?_
  refine lv_iload X.1 X.2.1 dX1_endingSide_7 (lv_at hl 0 rfl) ?_
  refine lv_iload_n X.1 X.2.1 dX1_endingSide_9 rfl (lv_at hl 2 rfl) ?_
  refine lv_lload_n X.1 X.2.1 dX1_endingSide_10 rfl (lv_at hl 3 rfl) ?_
  refine p_callV (C := RX1) (b := o) (As := [.int (nI (opp k)), .int (nI k), .long (lN t)]) (rest := []) X (c_X1_limitBy l g o r A x1 y1 q (opp k) k t hO hop hk ht hg (Or.inl rfl)) ⟨mw_324, mw_326, mw_14, mw_38, mw_327⟩ sgX1_limitBy ⟨rfl, rfl, ⟨by decide, by decide⟩, by decide, by decide⟩ (hP.at 0 rfl) rfl rfl (RP.of hP [0, 1] rfl hF) hX.1 rfl hl.1 rfl (Nat.le_of_ble_eq_true rfl) dX1_endingSide_11 (fun v H3 hk4 hp => ?_)
  obtain ⟨r5, rfl, hr5⟩ := hp
  have hX := hX.tr hk4
  have hP := PP.ext hP hk4
  have hF := RF.ext hF hk4
  have hP := PP.cons hr5 hP
  refine W.eq (g2 := F0 m 14 ls [.ref r5]) rfl ?_
  refine lv_astore (lv' := [(5, .ref r5), (4, .int (nI (opp k))), (0, .ref o), (1, .int (nI k)), (2, .long (lN t))]) X.1 X.2.1 dX1_endingSide_14 hl (by decide) rfl (fun ls hl => ?_)
  refine lv_iconst (v := nI 0) X.1 X.2.1 dX1_endingSide_16 (by decide) ?_
  refine lv_istore (lv' := [(6, .int (nI 0)), (5, .ref r5), (4, .int (nI (opp k))), (0, .ref o), (1, .int (nI k)), (2, .long (lN t))]) X.1 X.2.1 dX1_endingSide_17 hl (by decide) rfl (fun ls hl => ?_)
  exact L0 r5 _ ls hX hP hF (lv_sub hl [0, 2, 1, 3, 4, 5] rfl)
theorem enp4 {x1 y1 : Nat} {q : Nat → Rat} (k t : Nat) : enp x1 y1 q k t 4 < 4 ∧ (enp x1 y1 q k t 4 = opp k ∨ gab q (enp x1 y1 q k t 4) = false) := enp_ok x1 y1 q k t 4 (by decide)
def raf (x1 y1 : Nat) (q : Nat → Rat) (k t : Nat) : Rat := lim x1 y1 q k t (enp x1 y1 q k t 4)
theorem bd_raf {x1 y1 : Nat} {q : Nat → Rat} (hO : OK x1 y1 q) {k t : Nat} (hk : k < 4) (ht : t ≤ slen x1 y1 k) (hg : gab q k = false) : bd (raf x1 y1 q k t) 16000000 16000 := bd_lim hO hk (enp4 k t).1 ht hg (enp4 k t).2
set_option maxHeartbeats 4000000 in
set_option maxRecDepth 100000 in
theorem c_X1_rafterEnd (l : Launch) (g : En) (o r : Nat) (A : Nat → Nat) (x1 y1 : Nat) (q : Nat → Rat) (k t : Nat) (hO : OK x1 y1 q) (hk : k < 4) (ht : t ≤ slen x1 y1 k) (hg : gab q k = false) : PM l yX1_rafterEnd cX1_rafterEnd 4 (some (FieldType.object "RafterPlaces$Fraction")) { frames := 5, cells := 18, slots := 36, locals := 135 } g [.ref o, .int (nI k), .long (lN t)] (fun H => RP g o r A x1 y1 q H) 18 36 (rF g (raf x1 y1 q k t)) := by
  refine PM.of (by decide) (Nat.le_of_ble_eq_true rfl) (fun p e s m below meth c ls X hG hl => ?_)
  obtain ⟨hP, hF⟩ := hG
  have hl : lv_has ls 4 [(0, .ref o), (1, .int (nI k)), (2, .long (lN t))] := hl
  have hX : hxt s.heap s.heap := hxt.rf
  have hP : PP g [ob o x1 y1 r, ar g r A] s.heap := hP
  refine lv_aload_n X.1 X.2.1 dX1_rafterEnd_0 rfl (lv_at hl 0 rfl) ?_
  refine lv_aload_n X.1 X.2.1 dX1_rafterEnd_1 rfl (lv_at hl 0 rfl) ?_
  refine lv_iload_n X.1 X.2.1 dX1_rafterEnd_2 rfl (lv_at hl 1 rfl) ?_
  refine lv_lload_n X.1 X.2.1 dX1_rafterEnd_3 rfl (lv_at hl 2 rfl) ?_
  refine p_callV (C := RX1) (b := o) (As := [.int (nI k), .long (lN t)]) (rest := [.ref o]) X (c_X1_endingSide l g o r A x1 y1 q k t hO hk ht hg) ⟨mw_317, mw_319, mw_13, mw_38, mw_320⟩ sgX1_endingSide ⟨rfl, rfl, ⟨by decide, by decide⟩, by decide, by decide⟩ (hP.at 0 rfl) rfl rfl (RP.of hP [0, 1] rfl hF) hX.1 rfl hl.1 rfl (Nat.le_of_ble_eq_true rfl) dX1_rafterEnd_4 (fun v H1 hk2 hp => ?_)
  obtain rfl := hp
  have hX := hX.tr hk2
  have hP := PP.ext hP hk2
  have hF := RF.ext hF hk2
  refine W.eq (g2 := F0 m 7 ls [.int (nI (enp x1 y1 q k t 4)), .ref o]) rfl ?_
  refine lv_iload_n X.1 X.2.1 dX1_rafterEnd_7 rfl (lv_at hl 1 rfl) ?_
  refine lv_lload_n X.1 X.2.1 dX1_rafterEnd_8 rfl (lv_at hl 2 rfl) ?_
  refine p_callV (C := RX1) (b := o) (As := [.int (nI (enp x1 y1 q k t 4)), .int (nI k), .long (lN t)]) (rest := []) X (c_X1_limitBy l g o r A x1 y1 q (enp x1 y1 q k t 4) k t hO (enp4 k t).1 hk ht hg (enp4 k t).2) ⟨mw_324, mw_326, mw_14, mw_38, mw_327⟩ sgX1_limitBy ⟨rfl, rfl, ⟨by decide, by decide⟩, by decide, by decide⟩ (hP.at 0 rfl) rfl rfl (RP.of hP [0, 1] rfl hF) hX.1 rfl hl.1 rfl (Nat.le_of_ble_eq_true rfl) dX1_rafterEnd_9 (fun v H3 hk4 hp => ?_)
  obtain ⟨r5, rfl, hr5⟩ := hp
  have hX := hX.tr hk4
  have hP := PP.ext hP hk4
  have hF := RF.ext hF hk4
  have hP := PP.cons hr5 hP
  refine W.eq (g2 := F0 m 12 ls [.ref r5]) rfl ?_
  exact p_aret X hX (⟨_, rfl, hP.at 0 rfl⟩) ⟨by decide, by decide⟩ dX1_rafterEnd_12
set_option maxHeartbeats 4000000 in
set_option maxRecDepth 100000 in
theorem c_X1_squareAlongSlope (l : Launch) (g : En) (o r : Nat) (A : Nat → Nat) (x1 y1 : Nat) (q : Nat → Rat) (k b : Nat) (z : Rat) (hO : OK x1 y1 q) (hk : k < 4) (hg : gab q k = false) (hz : bd z 16000000 16000) : PM l yX1_squareAlongSlope cX1_squareAlongSlope 4 (some (FieldType.object "RafterPlaces$Fraction")) { frames := 3, cells := 6, slots := 12, locals := 79 } g [.ref o, .int (nI k), .ref b] (fun H => RP g o r A x1 y1 q H ∧ va_at g.1 cl0 (fq b z) H) 6 12 (rF g (sqr q k z)) := by
  refine PM.of (by decide) (Nat.le_of_ble_eq_true rfl) (fun p e s m below meth c ls X hG hl => ?_)
  obtain ⟨⟨hP, hF⟩, hz0⟩ := hG
  have hP := PP.cons hz0 hP
  have b1 := hO.2.2.1 k hk
  have p1 := gab_pos b1 hg
  have b2 := bd_inv b1 p1
  have b3 := bd_mul b2 b2
  have b4 := bd_add b3 (bd_nat 1)
  have b5 := bd_mul b4 hz
  have hl : lv_has ls 4 [(0, .ref o), (1, .int (nI k)), (2, .ref b)] := hl
  have hX : hxt s.heap s.heap := hxt.rf
  have hP : PP g [fq b z, ob o x1 y1 r, ar g r A] s.heap := hP
  refine lv_aload_n X.1 X.2.1 dX1_squareAlongSlope_0 rfl (lv_at hl 0 rfl) ?_
  refine p_get (T := TX1) X uX1 (hP.at 1 rfl) rfl 2 (by decide) mw_79 rfl rfl dX1_squareAlongSlope_1 ?_
  refine lv_iload_n X.1 X.2.1 dX1_squareAlongSlope_4 rfl (lv_at hl 1 rfl) ?_
  refine p_aald X (hP.at 2 rfl) hk (by decide) (r := A k) rfl dX1_squareAlongSlope_5 ?_
  have hP := PP.cons (hF k hk) hP
  refine p_callV (C := RX0) (b := A k) (As := []) (rest := []) X (b_inv l g _ b1 p1 (by decide) (by decide)) ⟨mw_364, mw_365, mw_366, mw_39, mw_367⟩ sgX0_inverse ⟨rfl, rfl, ⟨by decide, by decide⟩, by decide, by decide⟩ (hP.at 0 rfl) rfl rfl (hP.sub [0] rfl) hX.1 rfl hl.1 rfl (Nat.le_of_ble_eq_true rfl) dX1_squareAlongSlope_6 (fun v H1 hk2 hp => ?_)
  obtain ⟨r3, rfl, hr3⟩ := hp
  have hX := hX.tr hk2
  have hP := PP.ext hP hk2
  have hF := RF.ext hF hk2
  have hP := PP.cons hr3 hP
  refine W.eq (g2 := F0 m 9 ls [.ref r3]) rfl ?_
  refine lv_astore_n (lv' := [(3, .ref r3), (0, .ref o), (1, .int (nI k)), (2, .ref b)]) X.1 X.2.1 dX1_squareAlongSlope_9 rfl hl (by decide) rfl (fun ls hl => ?_)
  refine lv_aload_n X.1 X.2.1 dX1_squareAlongSlope_10 rfl (lv_at hl 0 rfl) ?_
  refine lv_aload_n X.1 X.2.1 dX1_squareAlongSlope_11 rfl (lv_at hl 0 rfl) ?_
  refine p_callV (C := RX0) (b := r3) (As := [.ref r3]) (rest := []) X (b_times l g _ _ b2 b2 (by decide) (by decide)) ⟨mw_368, mw_369, mw_370, mw_39, mw_371⟩ sgX0_times ⟨rfl, rfl, ⟨by decide, by decide⟩, by decide, by decide⟩ (hP.at 0 rfl) rfl rfl (hP.sub [0, 0] rfl) hX.1 rfl hl.1 rfl (Nat.le_of_ble_eq_true rfl) dX1_squareAlongSlope_12 (fun v H4 hk5 hp => ?_)
  obtain ⟨r6, rfl, hr6⟩ := hp
  have hX := hX.tr hk5
  have hP := PP.ext hP hk5
  have hF := RF.ext hF hk5
  have hP := PP.cons hr6 hP
  refine W.eq (g2 := F0 m 15 ls [.ref r6]) rfl ?_
  refine p_new (C := RX0) (T := TX0) (N := 2) (ci := 0) X tyX0 tyX0_ok uX0 ⟨mw_58, mw_60, mw_39⟩ rfl [.long 0, .long 0] (fun j hj => by rcases (show j = 0 ∨ j = 1 by omega) with rfl | rfl <;> rfl) ⟨by decide, by decide⟩ dX1_squareAlongSlope_15 (fun q7 H8 eq7 zq7 kq7 hq7 => ?_)
  have hX0 := hX
  have hX := hX.tr kq7
  have hP0 := hP
  have hP := PP.ext hP kq7
  have hF0 := hF
  have hF := RF.ext hF kq7
  refine lv_dup X.1 X.2.1 dX1_squareAlongSlope_18 rfl ?_
  refine lv_lconst (v := lN 1) X.1 X.2.1 dX1_squareAlongSlope_19 (by decide) ?_
  refine lv_lconst (v := lN 1) X.1 X.2.1 dX1_squareAlongSlope_20 (by decide) ?_
  refine p_callI (b := q7) (As := [.long (lN 1), .long (lN 1)]) (rest := [.ref q7, .ref r6]) X (c_X0_init l g q7 1 1 (by decide) (by decide) (by decide)) ⟨mw_61, mw_62, mw_39, mw_63⟩ rfl sgX0_init ⟨rfl, rfl, ⟨by decide, by decide⟩, by decide, by decide⟩ (PP.one hq7) hX.1 (by rw [eq7]; exact hX0.1) rfl hl.1 rfl (Nat.le_of_ble_eq_true rfl) dX1_squareAlongSlope_21 (fun H9 hkq7 hp => ?_)
  have keq7 := kq7.init (Nat.le_of_eq eq7.symm) hkq7
  have hX := hX0.tr keq7
  rw [show ((1 : Nat) : Rat) / ((1 : Nat) : Rat) = ((1 : Nat) : Rat) by decide +kernel] at hp
  have hP := PP.cons hp (PP.ext hP0 keq7)
  have hF := RF.ext hF0 keq7
  refine W.eq (g2 := F0 m 24 ls [.ref q7, .ref r6]) rfl ?_
  refine p_callV (C := RX0) (b := r6) (As := [.ref q7]) (rest := []) X (b_plus l g _ _ b3 (bd_nat 1) (by decide) (by decide)) ⟨mw_328, mw_329, mw_330, mw_39, mw_331⟩ sgX0_plus ⟨rfl, rfl, ⟨by decide, by decide⟩, by decide, by decide⟩ (hP.at 1 rfl) rfl rfl (hP.sub [1, 0] rfl) hX.1 rfl hl.1 rfl (Nat.le_of_ble_eq_true rfl) dX1_squareAlongSlope_24 (fun v H10 hk11 hp => ?_)
  obtain ⟨r12, rfl, hr12⟩ := hp
  have hX := hX.tr hk11
  have hP := PP.ext hP hk11
  have hF := RF.ext hF hk11
  have hP := PP.cons hr12 hP
  refine W.eq (g2 := F0 m 27 ls [.ref r12]) rfl ?_
  refine lv_aload_n X.1 X.2.1 dX1_squareAlongSlope_27 rfl (lv_at hl 3 rfl) ?_
  refine p_callV (C := RX0) (b := r12) (As := [.ref b]) (rest := []) X (b_times l g _ _ b4 hz (by decide) (by decide)) ⟨mw_368, mw_369, mw_370, mw_39, mw_371⟩ sgX0_times ⟨rfl, rfl, ⟨by decide, by decide⟩, by decide, by decide⟩ (hP.at 0 rfl) rfl rfl (hP.sub [0, 5] rfl) hX.1 rfl hl.1 rfl (Nat.le_of_ble_eq_true rfl) dX1_squareAlongSlope_28 (fun v H13 hk14 hp => ?_)
  obtain ⟨r15, rfl, hr15⟩ := hp
  have hX := hX.tr hk14
  have hP := PP.ext hP hk14
  have hF := RF.ext hF hk14
  have hP := PP.cons hr15 hP
  refine W.eq (g2 := F0 m 31 ls [.ref r15]) rfl ?_
  refine lv_aload_n X.1 X.2.1 dX1_squareAlongSlope_31 rfl (lv_at hl 3 rfl) ?_
  refine p_callV (C := RX0) (b := r15) (As := [.ref b]) (rest := []) X (b_times l g _ _ b5 hz (by decide) (by decide)) ⟨mw_368, mw_369, mw_370, mw_39, mw_371⟩ sgX0_times ⟨rfl, rfl, ⟨by decide, by decide⟩, by decide, by decide⟩ (hP.at 0 rfl) rfl rfl (hP.sub [0, 6] rfl) hX.1 rfl hl.1 rfl (Nat.le_of_ble_eq_true rfl) dX1_squareAlongSlope_32 (fun v H16 hk17 hp => ?_)
  obtain ⟨r18, rfl, hr18⟩ := hp
  have hX := hX.tr hk17
  have hP := PP.ext hP hk17
  have hF := RF.ext hF hk17
  have hP := PP.cons hr18 hP
  refine W.eq (g2 := F0 m 35 ls [.ref r18]) rfl ?_
  exact p_aret X hX (⟨_, rfl, hP.at 0 rfl⟩) ⟨by decide, by decide⟩ dX1_squareAlongSlope_35
set_option maxHeartbeats 4000000 in
set_option maxRecDepth 100000 in
theorem c_X1_cutTangent (l : Launch) (g : En) (o r : Nat) (A : Nat → Nat) (x1 y1 : Nat) (q : Nat → Rat) (k t cu : Nat) (hO : OK x1 y1 q) (hk : k < 4) (ht : t ≤ slen x1 y1 k) (hg : gab q k = false) (hcu : cu < 3) : PM l yX1_cutTangent cX1_cutTangent 7 (some (FieldType.object "RafterPlaces$Fraction")) { frames := 5, cells := 16, slots := 32, locals := 135 } g [.ref o, .int (nI k), .long (lN t), .int (nI cu)] (fun H => RP g o r A x1 y1 q H) 16 32 (rF g (tng x1 y1 q k t cu)) := by
  refine PM.of (by decide) (Nat.le_of_ble_eq_true rfl) (fun p e s m below meth c ls X hG hl => ?_)
  obtain ⟨hP, hF⟩ := hG
  have b1 := hO.2.2.1 k hk
  have p1 := gab_pos b1 hg
  have hop := opp_lt k
  obtain ⟨he, he2⟩ := enp4 (x1 := x1) (y1 := y1) (q := q) k t
  have hl : lv_has ls 7 [(0, .ref o), (1, .int (nI k)), (2, .long (lN t)), (4, .int (nI cu))] := hl
  have hX : hxt s.heap s.heap := hxt.rf
  have hP : PP g [ob o x1 y1 r, ar g r A] s.heap := hP
  refine lv_aload_n X.1 X.2.1 dX1_cutTangent_0 rfl (lv_at hl 0 rfl) ?_
  refine p_get (T := TX1) X uX1 (hP.at 0 rfl) rfl 2 (by decide) mw_79 rfl rfl dX1_cutTangent_1 ?_
  refine lv_iload_n X.1 X.2.1 dX1_cutTangent_4 rfl (lv_at hl 1 rfl) ?_
  refine p_aald X (hP.at 1 rfl) hk (by decide) (r := A k) rfl dX1_cutTangent_5 ?_
  have hP := PP.cons (hF k hk) hP
  refine lv_astore (lv' := [(5, .ref (A k)), (0, .ref o), (1, .int (nI k)), (2, .long (lN t)), (4, .int (nI cu))]) X.1 X.2.1 dX1_cutTangent_6 hl (by decide) rfl (fun ls hl => ?_)
  refine lv_iload X.1 X.2.1 dX1_cutTangent_8 (lv_at hl 4 rfl) ?_
  refine q_Zne X (by omega) (tgt := 19) dX1_cutTangent_10 (by decide) (fun hB1 => ?_) (fun hB1 => ?_)
  ·
    refine lv_iload X.1 X.2.1 dX1_cutTangent_19 (lv_at hl 4 rfl) ?_
    refine lv_iconst (v := nI 1) X.1 X.2.1 dX1_cutTangent_21 (by decide) ?_
    refine q_Ine X (by omega) (by omega) (tgt := 28) dX1_cutTangent_22 (by decide) (fun hB2 => ?_) (fun hB2 => ?_)
    ·
      refine lv_aload_n X.1 X.2.1 dX1_cutTangent_28 rfl (lv_at hl 1 rfl) ?_
      refine lv_iload_n X.1 X.2.1 dX1_cutTangent_29 rfl (lv_at hl 2 rfl) ?_
      refine lv_lload_n X.1 X.2.1 dX1_cutTangent_30 rfl (lv_at hl 3 rfl) ?_
      refine p_callV (C := RX1) (b := o) (As := [.int (nI k), .long (lN t)]) (rest := []) X (c_X1_endingSide l g o r A x1 y1 q k t hO hk ht hg) ⟨mw_317, mw_319, mw_13, mw_38, mw_320⟩ sgX1_endingSide ⟨rfl, rfl, ⟨by decide, by decide⟩, by decide, by decide⟩ (hP.at 1 rfl) rfl rfl (RP.of hP [1, 2] rfl hF) hX.1 rfl hl.1 rfl (Nat.le_of_ble_eq_true rfl) dX1_cutTangent_31 (fun v H3 hk4 hp => ?_)
      obtain rfl := hp
      have hX := hX.tr hk4
      have hP := PP.ext hP hk4
      have hF := RF.ext hF hk4
      refine W.eq (g2 := F0 m 34 ls [.int (nI (enp x1 y1 q k t 4))]) rfl ?_
      refine lv_istore (lv' := [(6, .int (nI (enp x1 y1 q k t 4))), (5, .ref (A k)), (0, .ref o), (1, .int (nI k)), (2, .long (lN t)), (4, .int (nI cu))]) X.1 X.2.1 dX1_cutTangent_34 hl (by decide) rfl (fun ls hl => ?_)
      refine lv_iload X.1 X.2.1 dX1_cutTangent_36 (lv_at hl 0 rfl) ?_
      refine lv_iload_n X.1 X.2.1 dX1_cutTangent_38 rfl (lv_at hl 3 rfl) ?_
      refine p_callS (As := [.int (nI k)]) (rest := [.int (nI (enp x1 y1 q k t 4))]) X (c_X1_opposite l g k hk) ⟨mw_321, mw_322, mw_38, mw_323⟩ sgX1_opposite ⟨rfl, rfl, ⟨by decide, by decide⟩, by decide, by decide⟩ (trivial) hX.1 rfl hl.1 rfl (Nat.le_of_ble_eq_true rfl) dX1_cutTangent_39 (fun v H5 hk6 hp => ?_)
      obtain rfl := hp
      have hX := hX.tr hk6
      have hP := PP.ext hP hk6
      have hF := RF.ext hF hk6
      refine W.eq (g2 := F0 m 42 ls [.int (nI (opp k)), .int (nI (enp x1 y1 q k t 4))]) rfl ?_
      refine q_Ine X (by omega) (by omega) (tgt := 55) dX1_cutTangent_42 (by decide) (fun hB7 => ?_) (fun hB7 => ?_)
      ·
        have b2 := hO.2.2.1 _ he
        refine lv_aload_n X.1 X.2.1 dX1_cutTangent_55 rfl (lv_at hl 2 rfl) ?_
        refine p_get (T := TX1) X uX1 (hP.at 1 rfl) rfl 2 (by decide) mw_79 rfl rfl dX1_cutTangent_56 ?_
        refine lv_iload X.1 X.2.1 dX1_cutTangent_59 (lv_at hl 0 rfl) ?_
        refine p_aald X (hP.at 2 rfl) he (by decide) (r := A (enp x1 y1 q k t 4)) rfl dX1_cutTangent_61 ?_
        have hP := PP.cons (hF (enp x1 y1 q k t 4) he) hP
        refine lv_aload X.1 X.2.1 dX1_cutTangent_62 (lv_at hl 1 rfl) ?_
        refine p_callV (C := RX0) (b := A (enp x1 y1 q k t 4)) (As := [.ref (A k)]) (rest := []) X (b_div l g _ _ b2 b1 p1 (by decide) (by decide)) ⟨mw_334, mw_335, mw_336, mw_39, mw_337⟩ sgX0_dividedBy ⟨rfl, rfl, ⟨by decide, by decide⟩, by decide, by decide⟩ (hP.at 0 rfl) rfl rfl (hP.sub [0, 1] rfl) hX.1 rfl hl.1 rfl (Nat.le_of_ble_eq_true rfl) dX1_cutTangent_64 (fun v H8 hk9 hp => ?_)
        obtain ⟨r10, rfl, hr10⟩ := hp
        have hX := hX.tr hk9
        have hP := PP.ext hP hk9
        have hF := RF.ext hF hk9
        have hP := PP.cons hr10 hP
        refine W.eq (g2 := F0 m 67 ls [.ref r10]) rfl ?_
        exact p_aret X hX (⟨_, rfl, by rw [tng, if_neg hB1, if_neg hB2, if_neg hB7]; exact hP.at 0 rfl⟩) ⟨by decide, by decide⟩ dX1_cutTangent_67
      ·
        refine p_new (C := RX0) (T := TX0) (N := 2) (ci := 0) X tyX0 tyX0_ok uX0 ⟨mw_58, mw_60, mw_39⟩ rfl [.long 0, .long 0] (fun j hj => by rcases (show j = 0 ∨ j = 1 by omega) with rfl | rfl <;> rfl) ⟨by decide, by decide⟩ dX1_cutTangent_45 (fun q11 H12 eq11 zq11 kq11 hq11 => ?_)
        have hX0 := hX
        have hX := hX.tr kq11
        have hP0 := hP
        have hP := PP.ext hP kq11
        have hF0 := hF
        have hF := RF.ext hF kq11
        refine lv_dup X.1 X.2.1 dX1_cutTangent_48 rfl ?_
        refine lv_lconst (v := lN 0) X.1 X.2.1 dX1_cutTangent_49 (by decide) ?_
        refine lv_lconst (v := lN 1) X.1 X.2.1 dX1_cutTangent_50 (by decide) ?_
        refine p_callI (b := q11) (As := [.long (lN 0), .long (lN 1)]) (rest := [.ref q11]) X (c_X0_init l g q11 0 1 (by decide) (by decide) (by decide)) ⟨mw_61, mw_62, mw_39, mw_63⟩ rfl sgX0_init ⟨rfl, rfl, ⟨by decide, by decide⟩, by decide, by decide⟩ (PP.one hq11) hX.1 (by rw [eq11]; exact hX0.1) rfl hl.1 rfl (Nat.le_of_ble_eq_true rfl) dX1_cutTangent_51 (fun H13 hkq11 hp => ?_)
        have keq11 := kq11.init (Nat.le_of_eq eq11.symm) hkq11
        have hX := hX0.tr keq11
        rw [show ((0 : Nat) : Rat) / ((1 : Nat) : Rat) = (0 : Rat) by decide +kernel] at hp
        have hP := PP.cons hp (PP.ext hP0 keq11)
        have hF := RF.ext hF0 keq11
        refine W.eq (g2 := F0 m 54 ls [.ref q11]) rfl ?_
        exact p_aret X hX (⟨_, rfl, by rw [tng, if_neg hB1, if_neg hB2, if_pos hB7]; exact hP.at 0 rfl⟩) ⟨by decide, by decide⟩ dX1_cutTangent_54
    ·
      refine lv_aload X.1 X.2.1 dX1_cutTangent_25 (lv_at hl 0 rfl) ?_
      exact p_aret X hX (⟨_, rfl, by rw [tng, if_neg hB1, if_pos hB2]; exact hP.at 0 rfl⟩) ⟨by decide, by decide⟩ dX1_cutTangent_27
  ·
    refine lv_aload X.1 X.2.1 dX1_cutTangent_13 (lv_at hl 0 rfl) ?_
    refine p_callV (C := RX0) (b := A k) (As := []) (rest := []) X (b_inv l g _ b1 p1 (by decide) (by decide)) ⟨mw_364, mw_365, mw_366, mw_39, mw_367⟩ sgX0_inverse ⟨rfl, rfl, ⟨by decide, by decide⟩, by decide, by decide⟩ (hP.at 0 rfl) rfl rfl (hP.sub [0] rfl) hX.1 rfl hl.1 rfl (Nat.le_of_ble_eq_true rfl) dX1_cutTangent_15 (fun v H14 hk15 hp => ?_)
    obtain ⟨r16, rfl, hr16⟩ := hp
    have hX := hX.tr hk15
    have hP := PP.ext hP hk15
    have hF := RF.ext hF hk15
    have hP := PP.cons hr16 hP
    refine W.eq (g2 := F0 m 18 ls [.ref r16]) rfl ?_
    exact p_aret X hX (⟨_, rfl, by rw [tng, if_pos hB1]; exact hP.at 0 rfl⟩) ⟨by decide, by decide⟩ dX1_cutTangent_18
set_option maxHeartbeats 4000000 in
set_option maxRecDepth 100000 in
theorem c_X1_peakHeight (l : Launch) (g : En) (o r : Nat) (A : Nat → Nat) (x1 y1 : Nat) (q : Nat → Rat) (hO : OK x1 y1 q) : PM l yX1_peakHeight cX1_peakHeight 5 (some (FieldType.object "RafterPlaces$Fraction")) { frames := 3, cells := 6, slots := 12, locals := 80 } g [.ref o] (fun H => RP g o r A x1 y1 q H) 6 12 (rF g (pk x1 y1 q)) := by
  refine PM.of (by decide) (Nat.le_of_ble_eq_true rfl) (fun p e s m below meth c ls X hG hl => ?_)
  obtain ⟨hP, hF⟩ := hG
  have b := hO.2.2.1
  have b1 := bd_s31 hO
  have b2 := bd_s02 hO
  have hX2 := hO.1.2
  have hY2 := hO.2.1.2
  have hl : lv_has ls 5 [(0, .ref o)] := hl
  have hX : hxt s.heap s.heap := hxt.rf
  have hP : PP g [ob o x1 y1 r, ar g r A] s.heap := hP
  refine lv_aload_n X.1 X.2.1 dX1_peakHeight_0 rfl (lv_at hl 0 rfl) ?_
  refine p_get (T := TX1) X uX1 (hP.at 0 rfl) rfl 2 (by decide) mw_79 rfl rfl dX1_peakHeight_1 ?_
  refine lv_iconst (v := nI 3) X.1 X.2.1 dX1_peakHeight_4 (by decide) ?_
  refine p_aald X (hP.at 1 rfl) (by decide) (by decide) (r := A 3) rfl dX1_peakHeight_5 ?_
  have hP := PP.cons (hF 3 (by decide)) hP
  refine lv_aload_n X.1 X.2.1 dX1_peakHeight_6 rfl (lv_at hl 0 rfl) ?_
  refine p_get (T := TX1) X uX1 (hP.at 1 rfl) rfl 2 (by decide) mw_79 rfl rfl dX1_peakHeight_7 ?_
  refine lv_iconst (v := nI 1) X.1 X.2.1 dX1_peakHeight_10 (by decide) ?_
  refine p_aald X (hP.at 2 rfl) (by decide) (by decide) (r := A 1) rfl dX1_peakHeight_11 ?_
  have hP := PP.cons (hF 1 (by decide)) hP
  refine p_callV (C := RX0) (b := A 3) (As := [.ref (A 1)]) (rest := []) X (b_plus l g _ _ (b 3 (by decide)) (b 1 (by decide)) (by decide) (by decide)) ⟨mw_328, mw_329, mw_330, mw_39, mw_331⟩ sgX0_plus ⟨rfl, rfl, ⟨by decide, by decide⟩, by decide, by decide⟩ (hP.at 1 rfl) rfl rfl (hP.sub [1, 0] rfl) hX.1 rfl hl.1 rfl (Nat.le_of_ble_eq_true rfl) dX1_peakHeight_12 (fun v H1 hk2 hp => ?_)
  obtain ⟨r3, rfl, hr3⟩ := hp
  have hX := hX.tr hk2
  have hP := PP.ext hP hk2
  have hF := RF.ext hF hk2
  have hP := PP.cons hr3 hP
  refine W.eq (g2 := F0 m 15 ls [.ref r3]) rfl ?_
  refine lv_astore_n (lv' := [(1, .ref r3), (0, .ref o)]) X.1 X.2.1 dX1_peakHeight_15 rfl hl (by decide) rfl (fun ls hl => ?_)
  refine lv_aload_n X.1 X.2.1 dX1_peakHeight_16 rfl (lv_at hl 1 rfl) ?_
  refine p_get (T := TX1) X uX1 (hP.at 3 rfl) rfl 2 (by decide) mw_79 rfl rfl dX1_peakHeight_17 ?_
  refine lv_iconst (v := nI 0) X.1 X.2.1 dX1_peakHeight_20 (by decide) ?_
  refine p_aald X (hP.at 4 rfl) (by decide) (by decide) (r := A 0) rfl dX1_peakHeight_21 ?_
  have hP := PP.cons (hF 0 (by decide)) hP
  refine lv_aload_n X.1 X.2.1 dX1_peakHeight_22 rfl (lv_at hl 1 rfl) ?_
  refine p_get (T := TX1) X uX1 (hP.at 4 rfl) rfl 2 (by decide) mw_79 rfl rfl dX1_peakHeight_23 ?_
  refine lv_iconst (v := nI 2) X.1 X.2.1 dX1_peakHeight_26 (by decide) ?_
  refine p_aald X (hP.at 5 rfl) (by decide) (by decide) (r := A 2) rfl dX1_peakHeight_27 ?_
  have hP := PP.cons (hF 2 (by decide)) hP
  refine p_callV (C := RX0) (b := A 0) (As := [.ref (A 2)]) (rest := []) X (b_plus l g _ _ (b 0 (by decide)) (b 2 (by decide)) (by decide) (by decide)) ⟨mw_328, mw_329, mw_330, mw_39, mw_331⟩ sgX0_plus ⟨rfl, rfl, ⟨by decide, by decide⟩, by decide, by decide⟩ (hP.at 1 rfl) rfl rfl (hP.sub [1, 0] rfl) hX.1 rfl hl.1 rfl (Nat.le_of_ble_eq_true rfl) dX1_peakHeight_28 (fun v H4 hk5 hp => ?_)
  obtain ⟨r6, rfl, hr6⟩ := hp
  have hX := hX.tr hk5
  have hP := PP.ext hP hk5
  have hF := RF.ext hF hk5
  have hP := PP.cons hr6 hP
  refine W.eq (g2 := F0 m 31 ls [.ref r6]) rfl ?_
  refine lv_astore_n (lv' := [(2, .ref r6), (1, .ref r3), (0, .ref o)]) X.1 X.2.1 dX1_peakHeight_31 rfl hl (by decide) rfl (fun ls hl => ?_)
  refine lv_aload_n X.1 X.2.1 dX1_peakHeight_32 rfl (lv_at hl 1 rfl) ?_
  refine p_get (T := TX0) X uX0 (hP.at 3 rfl) rfl 0 (by decide) mw_69 rfl rfl dX1_peakHeight_33 ?_
  refine lv_lconst (v := lN 0) X.1 X.2.1 dX1_peakHeight_36 (by decide) ?_
  refine q_Nne X (by have := b1.2.1; omega) (by decide) (tgt := 53) dX1_peakHeight_37 dX1_peakHeight_38 (by decide) (fun hB7 => ?_) (fun hB7 => ?_)
  ·
    have e0 : ¬ q 3 + q 1 = 0 := fun h9 => hB7 ((nu_eq0 b1.1).mpr h9)
    have p1 := pos_of b1.1 e0
    refine lv_aload_n X.1 X.2.1 dX1_peakHeight_53 rfl (lv_at hl 1 rfl) ?_
    refine p_callV (C := RX0) (b := r3) (As := []) (rest := []) X (b_inv l g _ b1 p1 (by decide) (by decide)) ⟨mw_364, mw_365, mw_366, mw_39, mw_367⟩ sgX0_inverse ⟨rfl, rfl, ⟨by decide, by decide⟩, by decide, by decide⟩ (hP.at 3 rfl) rfl rfl (hP.sub [3] rfl) hX.1 rfl hl.1 rfl (Nat.le_of_ble_eq_true rfl) dX1_peakHeight_54 (fun v H8 hk9 hp => ?_)
    obtain ⟨r10, rfl, hr10⟩ := hp
    have hX := hX.tr hk9
    have hP := PP.ext hP hk9
    have hF := RF.ext hF hk9
    have hP := PP.cons hr10 hP
    refine W.eq (g2 := F0 m 57 ls [.ref r10]) rfl ?_
    refine lv_aload_n X.1 X.2.1 dX1_peakHeight_57 rfl (lv_at hl 2 rfl) ?_
    refine p_get (T := TX1) X uX1 (hP.at 7 rfl) rfl 0 (by decide) mw_77 rfl rfl dX1_peakHeight_58 ?_
    refine p_callV (C := RX0) (b := r10) (As := [.long (lN x1)]) (rest := []) X (b_timesn l g _ (bd_inv b1 p1) hX2 (by decide) (by decide)) ⟨mw_342, mw_343, mw_344, mw_39, mw_345⟩ sgX0_times_ ⟨rfl, rfl, ⟨by decide, by decide⟩, by decide, by decide⟩ (hP.at 0 rfl) rfl rfl (hP.sub [0] rfl) hX.1 rfl hl.1 rfl (Nat.le_of_ble_eq_true rfl) dX1_peakHeight_61 (fun v H11 hk12 hp => ?_)
    obtain ⟨r13, rfl, hr13⟩ := hp
    have hX := hX.tr hk12
    have hP := PP.ext hP hk12
    have hF := RF.ext hF hk12
    have hP := PP.cons hr13 hP
    refine W.eq (g2 := F0 m 64 ls [.ref r13]) rfl ?_
    refine lv_astore_n (lv' := [(3, .ref r13), (2, .ref r6), (1, .ref r3), (0, .ref o)]) X.1 X.2.1 dX1_peakHeight_64 rfl hl (by decide) rfl (fun ls hl => ?_)
    refine lv_aload_n X.1 X.2.1 dX1_peakHeight_65 rfl (lv_at hl 1 rfl) ?_
    refine p_get (T := TX0) X uX0 (hP.at 2 rfl) rfl 0 (by decide) mw_69 rfl rfl dX1_peakHeight_66 ?_
    refine lv_lconst (v := lN 0) X.1 X.2.1 dX1_peakHeight_69 (by decide) ?_
    refine q_Nne X (by have := b2.2.1; omega) (by decide) (tgt := 76) dX1_peakHeight_70 dX1_peakHeight_71 (by decide) (fun hB14 => ?_) (fun hB14 => ?_)
    ·
      have e2 : ¬ q 0 + q 2 = 0 := fun h9 => hB14 ((nu_eq0 b2.1).mpr h9)
      have p2 := pos_of b2.1 e2
      refine lv_aload_n X.1 X.2.1 dX1_peakHeight_76 rfl (lv_at hl 1 rfl) ?_
      refine p_callV (C := RX0) (b := r6) (As := []) (rest := []) X (b_inv l g _ b2 p2 (by decide) (by decide)) ⟨mw_364, mw_365, mw_366, mw_39, mw_367⟩ sgX0_inverse ⟨rfl, rfl, ⟨by decide, by decide⟩, by decide, by decide⟩ (hP.at 2 rfl) rfl rfl (hP.sub [2] rfl) hX.1 rfl hl.1 rfl (Nat.le_of_ble_eq_true rfl) dX1_peakHeight_77 (fun v H15 hk16 hp => ?_)
      obtain ⟨r17, rfl, hr17⟩ := hp
      have hX := hX.tr hk16
      have hP := PP.ext hP hk16
      have hF := RF.ext hF hk16
      have hP := PP.cons hr17 hP
      refine W.eq (g2 := F0 m 80 ls [.ref r17]) rfl ?_
      refine lv_aload_n X.1 X.2.1 dX1_peakHeight_80 rfl (lv_at hl 3 rfl) ?_
      refine p_get (T := TX1) X uX1 (hP.at 9 rfl) rfl 1 (by decide) mw_78 rfl rfl dX1_peakHeight_81 ?_
      refine p_callV (C := RX0) (b := r17) (As := [.long (lN y1)]) (rest := []) X (b_timesn l g _ (bd_inv b2 p2) hY2 (by decide) (by decide)) ⟨mw_342, mw_343, mw_344, mw_39, mw_345⟩ sgX0_times_ ⟨rfl, rfl, ⟨by decide, by decide⟩, by decide, by decide⟩ (hP.at 0 rfl) rfl rfl (hP.sub [0] rfl) hX.1 rfl hl.1 rfl (Nat.le_of_ble_eq_true rfl) dX1_peakHeight_84 (fun v H18 hk19 hp => ?_)
      obtain ⟨r20, rfl, hr20⟩ := hp
      have hX := hX.tr hk19
      have hP := PP.ext hP hk19
      have hF := RF.ext hF hk19
      have hP := PP.cons hr20 hP
      refine W.eq (g2 := F0 m 87 ls [.ref r20]) rfl ?_
      refine lv_astore (lv' := [(4, .ref r20), (3, .ref r13), (2, .ref r6), (1, .ref r3), (0, .ref o)]) X.1 X.2.1 dX1_peakHeight_87 hl (by decide) rfl (fun ls hl => ?_)
      refine lv_aload_n X.1 X.2.1 dX1_peakHeight_89 rfl (lv_at hl 1 rfl) ?_
      refine lv_aload X.1 X.2.1 dX1_peakHeight_90 (lv_at hl 0 rfl) ?_
      refine p_callV (C := RX0) (b := r13) (As := [.ref r20]) (rest := []) X (b_less l g _ _ (bd_px hO p1) (bd_py hO p2) (by decide) (by decide)) ⟨mw_267, mw_268, mw_269, mw_39, mw_270⟩ sgX0_isLess ⟨rfl, rfl, ⟨by decide, by decide⟩, by decide, by decide⟩ (hP.at 2 rfl) rfl rfl (hP.sub [2, 0] rfl) hX.1 rfl hl.1 rfl (Nat.le_of_ble_eq_true rfl) dX1_peakHeight_92 (fun v H21 hk22 hp => ?_)
      obtain rfl := hp
      have hX := hX.tr hk22
      have hP := PP.ext hP hk22
      have hF := RF.ext hF hk22
      refine W.eq (g2 := F0 m 95 ls [.int (bI (decide ((q 3 + q 1)⁻¹ * (x1 : Rat) < (q 0 + q 2)⁻¹ * (y1 : Rat))))]) rfl ?_
      refine q_Beq X (tgt := 102) dX1_peakHeight_95 (by decide) (fun hB23 => ?_) (fun hB23 => ?_)
      ·
        refine lv_aload X.1 X.2.1 dX1_peakHeight_102 (lv_at hl 0 rfl) ?_
        exact p_aret X hX (⟨_, rfl, by rw [pk, if_neg e0, if_neg e2, if_neg (of_decide_eq_false hB23)]; exact hP.at 0 rfl⟩) ⟨by decide, by decide⟩ dX1_peakHeight_104
      ·
        refine lv_aload_n X.1 X.2.1 dX1_peakHeight_98 rfl (lv_at hl 1 rfl) ?_
        refine lv_goto (tgt := 104) X.1 X.2.1 dX1_peakHeight_99 (by decide) ?_
        exact p_aret X hX (⟨_, rfl, by rw [pk, if_neg e0, if_neg e2, if_pos (of_decide_eq_true hB23)]; exact hP.at 2 rfl⟩) ⟨by decide, by decide⟩ dX1_peakHeight_104
    ·
      have e2 : q 0 + q 2 = 0 := (nu_eq0 b2.1).mp hB14
      refine lv_aload_n X.1 X.2.1 dX1_peakHeight_74 rfl (lv_at hl 0 rfl) ?_
      exact p_aret X hX (⟨_, rfl, by rw [pk, if_neg e0, if_pos e2]; exact hP.at 0 rfl⟩) ⟨by decide, by decide⟩ dX1_peakHeight_75
  ·
    have e0 : q 3 + q 1 = 0 := (nu_eq0 b1.1).mp hB7
    have p2 := hO.pos e0
    refine lv_aload_n X.1 X.2.1 dX1_peakHeight_41 rfl (lv_at hl 0 rfl) ?_
    refine p_callV (C := RX0) (b := r6) (As := []) (rest := []) X (b_inv l g _ b2 p2 (by decide) (by decide)) ⟨mw_364, mw_365, mw_366, mw_39, mw_367⟩ sgX0_inverse ⟨rfl, rfl, ⟨by decide, by decide⟩, by decide, by decide⟩ (hP.at 0 rfl) rfl rfl (hP.sub [0] rfl) hX.1 rfl hl.1 rfl (Nat.le_of_ble_eq_true rfl) dX1_peakHeight_42 (fun v H24 hk25 hp => ?_)
    obtain ⟨r26, rfl, hr26⟩ := hp
    have hX := hX.tr hk25
    have hP := PP.ext hP hk25
    have hF := RF.ext hF hk25
    have hP := PP.cons hr26 hP
    refine W.eq (g2 := F0 m 45 ls [.ref r26]) rfl ?_
    refine lv_aload_n X.1 X.2.1 dX1_peakHeight_45 rfl (lv_at hl 2 rfl) ?_
    refine p_get (T := TX1) X uX1 (hP.at 7 rfl) rfl 1 (by decide) mw_78 rfl rfl dX1_peakHeight_46 ?_
    refine p_callV (C := RX0) (b := r26) (As := [.long (lN y1)]) (rest := []) X (b_timesn l g _ (bd_inv b2 p2) hY2 (by decide) (by decide)) ⟨mw_342, mw_343, mw_344, mw_39, mw_345⟩ sgX0_times_ ⟨rfl, rfl, ⟨by decide, by decide⟩, by decide, by decide⟩ (hP.at 0 rfl) rfl rfl (hP.sub [0] rfl) hX.1 rfl hl.1 rfl (Nat.le_of_ble_eq_true rfl) dX1_peakHeight_49 (fun v H27 hk28 hp => ?_)
    obtain ⟨r29, rfl, hr29⟩ := hp
    have hX := hX.tr hk28
    have hP := PP.ext hP hk28
    have hF := RF.ext hF hk28
    have hP := PP.cons hr29 hP
    refine W.eq (g2 := F0 m 52 ls [.ref r29]) rfl ?_
    exact p_aret X hX (⟨_, rfl, by rw [pk, if_pos e0]; exact hP.at 0 rfl⟩) ⟨by decide, by decide⟩ dX1_peakHeight_52
set_option maxHeartbeats 4000000 in
set_option maxRecDepth 100000 in
theorem c_X1_inAtPeak (l : Launch) (g : En) (o r : Nat) (A : Nat → Nat) (x1 y1 : Nat) (q : Nat → Rat) (k : Nat) (hO : OK x1 y1 q) (hk : k < 4) : PM l yX1_inAtPeak cX1_inAtPeak 2 (some (FieldType.object "RafterPlaces$Fraction")) { frames := 4, cells := 7, slots := 14, locals := 104 } g [.ref o, .int (nI k)] (fun H => RP g o r A x1 y1 q H) 7 14 (rF g (pk x1 y1 q * q k)) := by
  refine PM.of (by decide) (Nat.le_of_ble_eq_true rfl) (fun p e s m below meth c ls X hG hl => ?_)
  obtain ⟨hP, hF⟩ := hG
  have hl : lv_has ls 2 [(0, .ref o), (1, .int (nI k))] := hl
  have hX : hxt s.heap s.heap := hxt.rf
  have hP : PP g [ob o x1 y1 r, ar g r A] s.heap := hP
  refine lv_aload_n X.1 X.2.1 dX1_inAtPeak_0 rfl (lv_at hl 0 rfl) ?_
  refine p_callV (C := RX1) (b := o) (As := []) (rest := []) X (c_X1_peakHeight l g o r A x1 y1 q hO) ⟨mw_411, mw_413, mw_19, mw_38, mw_414⟩ sgX1_peakHeight ⟨rfl, rfl, ⟨by decide, by decide⟩, by decide, by decide⟩ (hP.at 0 rfl) rfl rfl (RP.of hP [0, 1] rfl hF) hX.1 rfl hl.1 rfl (Nat.le_of_ble_eq_true rfl) dX1_inAtPeak_1 (fun v H1 hk2 hp => ?_)
  obtain ⟨r3, rfl, hr3⟩ := hp
  have hX := hX.tr hk2
  have hP := PP.ext hP hk2
  have hF := RF.ext hF hk2
  have hP := PP.cons hr3 hP
  refine W.eq (g2 := F0 m 4 ls [.ref r3]) rfl ?_
  refine lv_aload_n X.1 X.2.1 dX1_inAtPeak_4 rfl (lv_at hl 0 rfl) ?_
  refine p_get (T := TX1) X uX1 (hP.at 1 rfl) rfl 2 (by decide) mw_79 rfl rfl dX1_inAtPeak_5 ?_
  refine lv_iload_n X.1 X.2.1 dX1_inAtPeak_8 rfl (lv_at hl 1 rfl) ?_
  refine p_aald X (hP.at 2 rfl) hk (by decide) (r := A k) rfl dX1_inAtPeak_9 ?_
  have hP := PP.cons (hF k hk) hP
  refine p_callV (C := RX0) (b := r3) (As := [.ref (A k)]) (rest := []) X (b_times l g _ _ (bd_pk hO) (hO.2.2.1 k hk) (by decide) (by decide)) ⟨mw_368, mw_369, mw_370, mw_39, mw_371⟩ sgX0_times ⟨rfl, rfl, ⟨by decide, by decide⟩, by decide, by decide⟩ (hP.at 1 rfl) rfl rfl (hP.sub [1, 0] rfl) hX.1 rfl hl.1 rfl (Nat.le_of_ble_eq_true rfl) dX1_inAtPeak_10 (fun v H4 hk5 hp => ?_)
  obtain ⟨r6, rfl, hr6⟩ := hp
  have hX := hX.tr hk5
  have hP := PP.ext hP hk5
  have hF := RF.ext hF hk5
  have hP := PP.cons hr6 hP
  refine W.eq (g2 := F0 m 13 ls [.ref r6]) rfl ?_
  exact p_aret X hX (⟨_, rfl, hP.at 0 rfl⟩) ⟨by decide, by decide⟩ dX1_inAtPeak_13
set_option maxHeartbeats 4000000 in
set_option maxRecDepth 100000 in
theorem c_X1_ridgeBound (l : Launch) (g : En) (o r : Nat) (A : Nat → Nat) (x1 y1 : Nat) (q : Nat → Rat) (k : Nat) (hO : OK x1 y1 q) (hk : k < 4) : PM l yX1_ridgeBound cX1_ridgeBound 2 (some (FieldType.object "RafterPlaces$Fraction")) { frames := 5, cells := 8, slots := 16, locals := 125 } g [.ref o, .int (nI k)] (fun H => RP g o r A x1 y1 q H) 8 16 (rF g (rdg x1 y1 q k)) := by
  refine PM.of (by decide) (Nat.le_of_ble_eq_true rfl) (fun p e s m below meth c ls X hG hl => ?_)
  obtain ⟨hP, hF⟩ := hG
  have hX2 := hO.1.2
  have hY2 := hO.2.1.2
  have hl : lv_has ls 2 [(0, .ref o), (1, .int (nI k))] := hl
  have hX : hxt s.heap s.heap := hxt.rf
  have hP : PP g [ob o x1 y1 r, ar g r A] s.heap := hP
  refine lv_iload_n X.1 X.2.1 dX1_ridgeBound_0 rfl (lv_at hl 1 rfl) ?_
  rcases (show k = 0 ∨ k = 1 ∨ k = 2 ∨ k = 3 by omega) with rfl | rfl | rfl | rfl
  ·
    refine lv_tableIn (tgt := 28) X.1 X.2.1 dX1_ridgeBound_1 (by decide) (by decide) rfl (by decide) ?_
    refine lv_aload_n X.1 X.2.1 dX1_ridgeBound_28 rfl (lv_at hl 0 rfl) ?_
    refine lv_iconst (v := nI 3) X.1 X.2.1 dX1_ridgeBound_29 (by decide) ?_
    refine p_callV (C := RX1) (b := o) (As := [.int (nI 3)]) (rest := []) X (c_X1_inAtPeak l g o r A x1 y1 q 3 hO (by decide)) ⟨mw_407, mw_409, mw_18, mw_38, mw_410⟩ sgX1_inAtPeak ⟨rfl, rfl, ⟨by decide, by decide⟩, by decide, by decide⟩ (hP.at 0 rfl) rfl rfl (RP.of hP [0, 1] rfl hF) hX.1 rfl hl.1 rfl (Nat.le_of_ble_eq_true rfl) dX1_ridgeBound_30 (fun v H1 hk2 hp => ?_)
    obtain ⟨r3, rfl, hr3⟩ := hp
    have hX := hX.tr hk2
    have hP := PP.ext hP hk2
    have hF := RF.ext hF hk2
    have hP := PP.cons hr3 hP
    refine W.eq (g2 := F0 m 33 ls [.ref r3]) rfl ?_
    exact p_aret X hX (⟨_, rfl, hP.at 0 rfl⟩) ⟨by decide, by decide⟩ dX1_ridgeBound_33
  ·
    refine lv_tableIn (tgt := 34) X.1 X.2.1 dX1_ridgeBound_1 (by decide) (by decide) rfl (by decide) ?_
    refine lv_aload_n X.1 X.2.1 dX1_ridgeBound_34 rfl (lv_at hl 0 rfl) ?_
    refine lv_iconst (v := nI 1) X.1 X.2.1 dX1_ridgeBound_35 (by decide) ?_
    refine p_callV (C := RX1) (b := o) (As := [.int (nI 1)]) (rest := []) X (c_X1_inAtPeak l g o r A x1 y1 q 1 hO (by decide)) ⟨mw_407, mw_409, mw_18, mw_38, mw_410⟩ sgX1_inAtPeak ⟨rfl, rfl, ⟨by decide, by decide⟩, by decide, by decide⟩ (hP.at 0 rfl) rfl rfl (RP.of hP [0, 1] rfl hF) hX.1 rfl hl.1 rfl (Nat.le_of_ble_eq_true rfl) dX1_ridgeBound_36 (fun v H4 hk5 hp => ?_)
    obtain ⟨r6, rfl, hr6⟩ := hp
    have hX := hX.tr hk5
    have hP := PP.ext hP hk5
    have hF := RF.ext hF hk5
    have hP := PP.cons hr6 hP
    refine W.eq (g2 := F0 m 39 ls [.ref r6]) rfl ?_
    refine lv_aload_n X.1 X.2.1 dX1_ridgeBound_39 rfl (lv_at hl 0 rfl) ?_
    refine p_get (T := TX1) X uX1 (hP.at 1 rfl) rfl 0 (by decide) mw_77 rfl rfl dX1_ridgeBound_40 ?_
    refine p_callV (C := RX0) (b := r6) (As := [.long (lN x1)]) (rest := []) X (b_sub l g _ (bd_in hO (k := 1) (by decide)) (pk_side hO (k := 1) (by decide)) hX2 (by decide) (by decide)) ⟨mw_433, mw_434, mw_435, mw_39, mw_436⟩ sgX0_takenFrom ⟨rfl, rfl, ⟨by decide, by decide⟩, by decide, by decide⟩ (hP.at 0 rfl) rfl rfl (hP.sub [0] rfl) hX.1 rfl hl.1 rfl (Nat.le_of_ble_eq_true rfl) dX1_ridgeBound_43 (fun v H7 hk8 hp => ?_)
    obtain ⟨r9, rfl, hr9⟩ := hp
    have hX := hX.tr hk8
    have hP := PP.ext hP hk8
    have hF := RF.ext hF hk8
    have hP := PP.cons hr9 hP
    refine W.eq (g2 := F0 m 46 ls [.ref r9]) rfl ?_
    exact p_aret X hX (⟨_, rfl, hP.at 0 rfl⟩) ⟨by decide, by decide⟩ dX1_ridgeBound_46
  ·
    refine lv_tableIn (tgt := 47) X.1 X.2.1 dX1_ridgeBound_1 (by decide) (by decide) rfl (by decide) ?_
    refine lv_aload_n X.1 X.2.1 dX1_ridgeBound_47 rfl (lv_at hl 0 rfl) ?_
    refine lv_iconst (v := nI 0) X.1 X.2.1 dX1_ridgeBound_48 (by decide) ?_
    refine p_callV (C := RX1) (b := o) (As := [.int (nI 0)]) (rest := []) X (c_X1_inAtPeak l g o r A x1 y1 q 0 hO (by decide)) ⟨mw_407, mw_409, mw_18, mw_38, mw_410⟩ sgX1_inAtPeak ⟨rfl, rfl, ⟨by decide, by decide⟩, by decide, by decide⟩ (hP.at 0 rfl) rfl rfl (RP.of hP [0, 1] rfl hF) hX.1 rfl hl.1 rfl (Nat.le_of_ble_eq_true rfl) dX1_ridgeBound_49 (fun v H10 hk11 hp => ?_)
    obtain ⟨r12, rfl, hr12⟩ := hp
    have hX := hX.tr hk11
    have hP := PP.ext hP hk11
    have hF := RF.ext hF hk11
    have hP := PP.cons hr12 hP
    refine W.eq (g2 := F0 m 52 ls [.ref r12]) rfl ?_
    exact p_aret X hX (⟨_, rfl, hP.at 0 rfl⟩) ⟨by decide, by decide⟩ dX1_ridgeBound_52
  ·
    refine lv_tableOut (tgt := 53) X.1 X.2.1 dX1_ridgeBound_1 (by decide) (by decide) ?_
    refine lv_aload_n X.1 X.2.1 dX1_ridgeBound_53 rfl (lv_at hl 0 rfl) ?_
    refine lv_iconst (v := nI 2) X.1 X.2.1 dX1_ridgeBound_54 (by decide) ?_
    refine p_callV (C := RX1) (b := o) (As := [.int (nI 2)]) (rest := []) X (c_X1_inAtPeak l g o r A x1 y1 q 2 hO (by decide)) ⟨mw_407, mw_409, mw_18, mw_38, mw_410⟩ sgX1_inAtPeak ⟨rfl, rfl, ⟨by decide, by decide⟩, by decide, by decide⟩ (hP.at 0 rfl) rfl rfl (RP.of hP [0, 1] rfl hF) hX.1 rfl hl.1 rfl (Nat.le_of_ble_eq_true rfl) dX1_ridgeBound_55 (fun v H13 hk14 hp => ?_)
    obtain ⟨r15, rfl, hr15⟩ := hp
    have hX := hX.tr hk14
    have hP := PP.ext hP hk14
    have hF := RF.ext hF hk14
    have hP := PP.cons hr15 hP
    refine W.eq (g2 := F0 m 58 ls [.ref r15]) rfl ?_
    refine lv_aload_n X.1 X.2.1 dX1_ridgeBound_58 rfl (lv_at hl 0 rfl) ?_
    refine p_get (T := TX1) X uX1 (hP.at 1 rfl) rfl 1 (by decide) mw_78 rfl rfl dX1_ridgeBound_59 ?_
    refine p_callV (C := RX0) (b := r15) (As := [.long (lN y1)]) (rest := []) X (b_sub l g _ (bd_in hO (k := 2) (by decide)) (pk_side hO (k := 2) (by decide)) hY2 (by decide) (by decide)) ⟨mw_433, mw_434, mw_435, mw_39, mw_436⟩ sgX0_takenFrom ⟨rfl, rfl, ⟨by decide, by decide⟩, by decide, by decide⟩ (hP.at 0 rfl) rfl rfl (hP.sub [0] rfl) hX.1 rfl hl.1 rfl (Nat.le_of_ble_eq_true rfl) dX1_ridgeBound_62 (fun v H16 hk17 hp => ?_)
    obtain ⟨r18, rfl, hr18⟩ := hp
    have hX := hX.tr hk17
    have hP := PP.ext hP hk17
    have hF := RF.ext hF hk17
    have hP := PP.cons hr18 hP
    refine W.eq (g2 := F0 m 65 ls [.ref r18]) rfl ?_
    exact p_aret X hX (⟨_, rfl, hP.at 0 rfl⟩) ⟨by decide, by decide⟩ dX1_ridgeBound_65
set_option maxHeartbeats 4000000 in
set_option maxRecDepth 100000 in
theorem c_X1_twiceArea (l : Launch) (g : En) (o r : Nat) (A : Nat → Nat) (x1 y1 : Nat) (q : Nat → Rat) (k : Nat) (hO : OK x1 y1 q) (hk : k < 4) : PM l yX1_twiceArea cX1_twiceArea 5 (some (FieldType.object "RafterPlaces$Fraction")) { frames := 4, cells := 11, slots := 22, locals := 104 } g [.ref o, .int (nI k)] (fun H => RP g o r A x1 y1 q H) 11 22 (rF g (are x1 y1 q k)) := by
  refine PM.of (by decide) (Nat.le_of_ble_eq_true rfl) (fun p e s m below meth c ls X hG hl => ?_)
  obtain ⟨hP, hF⟩ := hG
  have b := hO.2.2.1
  have hb1 := behind_lt k
  have hb2 := opp_lt (behind k)
  have hsl := slen_le hO k
  have bb := bd_add (b _ hb1) (b _ hb2)
  have bp := bd_mul (bd_pk hO) bb
  have hle : pk x1 y1 q * (q (behind k) + q (opp (behind k))) ≤ ((2 * slen x1 y1 k : Nat) : Rat) := Rat.le_trans (pk_bes hO hk) (Rat.natCast_le_natCast.mpr (by omega))
  have bs := bd_sub bp hle
  have hl : lv_has ls 5 [(0, .ref o), (1, .int (nI k))] := hl
  have hX : hxt s.heap s.heap := hxt.rf
  have hP : PP g [ob o x1 y1 r, ar g r A] s.heap := hP
  refine lv_aload_n X.1 X.2.1 dX1_twiceArea_0 rfl (lv_at hl 0 rfl) ?_
  refine p_callV (C := RX1) (b := o) (As := []) (rest := []) X (c_X1_peakHeight l g o r A x1 y1 q hO) ⟨mw_411, mw_413, mw_19, mw_38, mw_414⟩ sgX1_peakHeight ⟨rfl, rfl, ⟨by decide, by decide⟩, by decide, by decide⟩ (hP.at 0 rfl) rfl rfl (RP.of hP [0, 1] rfl hF) hX.1 rfl hl.1 rfl (Nat.le_of_ble_eq_true rfl) dX1_twiceArea_1 (fun v H1 hk2 hp => ?_)
  obtain ⟨r3, rfl, hr3⟩ := hp
  have hX := hX.tr hk2
  have hP := PP.ext hP hk2
  have hF := RF.ext hF hk2
  have hP := PP.cons hr3 hP
  refine W.eq (g2 := F0 m 4 ls [.ref r3]) rfl ?_
  refine lv_astore_n (lv' := [(2, .ref r3), (0, .ref o), (1, .int (nI k))]) X.1 X.2.1 dX1_twiceArea_4 rfl hl (by decide) rfl (fun ls hl => ?_)
  refine lv_aload_n X.1 X.2.1 dX1_twiceArea_5 rfl (lv_at hl 1 rfl) ?_
  refine p_get (T := TX1) X uX1 (hP.at 1 rfl) rfl 2 (by decide) mw_79 rfl rfl dX1_twiceArea_6 ?_
  refine lv_iload_n X.1 X.2.1 dX1_twiceArea_9 rfl (lv_at hl 2 rfl) ?_
  refine p_callS (As := [.int (nI k)]) (rest := [.ref r]) X (c_X1_sideBehind l g k hk) ⟨mw_404, mw_405, mw_38, mw_406⟩ sgX1_sideBehind ⟨rfl, rfl, ⟨by decide, by decide⟩, by decide, by decide⟩ (trivial) hX.1 rfl hl.1 rfl (Nat.le_of_ble_eq_true rfl) dX1_twiceArea_10 (fun v H4 hk5 hp => ?_)
  obtain rfl := hp
  have hX := hX.tr hk5
  have hP := PP.ext hP hk5
  have hF := RF.ext hF hk5
  refine W.eq (g2 := F0 m 13 ls [.int (nI (behind k)), .ref r]) rfl ?_
  refine p_aald X (hP.at 2 rfl) hb1 (by decide) (r := A (behind k)) rfl dX1_twiceArea_13 ?_
  have hP := PP.cons (hF (behind k) hb1) hP
  refine lv_aload_n X.1 X.2.1 dX1_twiceArea_14 rfl (lv_at hl 1 rfl) ?_
  refine p_get (T := TX1) X uX1 (hP.at 2 rfl) rfl 2 (by decide) mw_79 rfl rfl dX1_twiceArea_15 ?_
  refine lv_iload_n X.1 X.2.1 dX1_twiceArea_18 rfl (lv_at hl 2 rfl) ?_
  refine p_callS (As := [.int (nI k)]) (rest := [.ref r, .ref (A (behind k))]) X (c_X1_sideBehind l g k hk) ⟨mw_404, mw_405, mw_38, mw_406⟩ sgX1_sideBehind ⟨rfl, rfl, ⟨by decide, by decide⟩, by decide, by decide⟩ (trivial) hX.1 rfl hl.1 rfl (Nat.le_of_ble_eq_true rfl) dX1_twiceArea_19 (fun v H6 hk7 hp => ?_)
  obtain rfl := hp
  have hX := hX.tr hk7
  have hP := PP.ext hP hk7
  have hF := RF.ext hF hk7
  refine W.eq (g2 := F0 m 22 ls [.int (nI (behind k)), .ref r, .ref (A (behind k))]) rfl ?_
  refine p_callS (As := [.int (nI (behind k))]) (rest := [.ref r, .ref (A (behind k))]) X (c_X1_opposite l g (behind k) hb1) ⟨mw_321, mw_322, mw_38, mw_323⟩ sgX1_opposite ⟨rfl, rfl, ⟨by decide, by decide⟩, by decide, by decide⟩ (trivial) hX.1 rfl hl.1 rfl (Nat.le_of_ble_eq_true rfl) dX1_twiceArea_22 (fun v H8 hk9 hp => ?_)
  obtain rfl := hp
  have hX := hX.tr hk9
  have hP := PP.ext hP hk9
  have hF := RF.ext hF hk9
  refine W.eq (g2 := F0 m 25 ls [.int (nI (opp (behind k))), .ref r, .ref (A (behind k))]) rfl ?_
  refine p_aald X (hP.at 3 rfl) hb2 (by decide) (r := A (opp (behind k))) rfl dX1_twiceArea_25 ?_
  have hP := PP.cons (hF (opp (behind k)) hb2) hP
  refine p_callV (C := RX0) (b := A (behind k)) (As := [.ref (A (opp (behind k)))]) (rest := []) X (b_plus l g _ _ (b _ hb1) (b _ hb2) (by decide) (by decide)) ⟨mw_328, mw_329, mw_330, mw_39, mw_331⟩ sgX0_plus ⟨rfl, rfl, ⟨by decide, by decide⟩, by decide, by decide⟩ (hP.at 1 rfl) rfl rfl (hP.sub [1, 0] rfl) hX.1 rfl hl.1 rfl (Nat.le_of_ble_eq_true rfl) dX1_twiceArea_26 (fun v H10 hk11 hp => ?_)
  obtain ⟨r12, rfl, hr12⟩ := hp
  have hX := hX.tr hk11
  have hP := PP.ext hP hk11
  have hF := RF.ext hF hk11
  have hP := PP.cons hr12 hP
  refine W.eq (g2 := F0 m 29 ls [.ref r12]) rfl ?_
  refine lv_astore_n (lv' := [(3, .ref r12), (2, .ref r3), (0, .ref o), (1, .int (nI k))]) X.1 X.2.1 dX1_twiceArea_29 rfl hl (by decide) rfl (fun ls hl => ?_)
  refine lv_aload_n X.1 X.2.1 dX1_twiceArea_30 rfl (lv_at hl 1 rfl) ?_
  refine lv_aload_n X.1 X.2.1 dX1_twiceArea_31 rfl (lv_at hl 0 rfl) ?_
  refine p_callV (C := RX0) (b := r3) (As := [.ref r12]) (rest := []) X (b_times l g _ _ (bd_pk hO) bb (by decide) (by decide)) ⟨mw_368, mw_369, mw_370, mw_39, mw_371⟩ sgX0_times ⟨rfl, rfl, ⟨by decide, by decide⟩, by decide, by decide⟩ (hP.at 3 rfl) rfl rfl (hP.sub [3, 0] rfl) hX.1 rfl hl.1 rfl (Nat.le_of_ble_eq_true rfl) dX1_twiceArea_32 (fun v H13 hk14 hp => ?_)
  obtain ⟨r15, rfl, hr15⟩ := hp
  have hX := hX.tr hk14
  have hP := PP.ext hP hk14
  have hF := RF.ext hF hk14
  have hP := PP.cons hr15 hP
  refine W.eq (g2 := F0 m 35 ls [.ref r15]) rfl ?_
  refine lv_ldc2 (v := 2) X.1 X.2.1 X.2.2.2.1 (X.2.2.2.2.1 _ (List.mem_cons_of_mem _ mw_448)) dX1_twiceArea_35 ?_
  refine w_l (v' := lN 2) (by decide) ?_
  refine lv_aload_n X.1 X.2.1 dX1_twiceArea_38 rfl (lv_at hl 2 rfl) ?_
  refine lv_iload_n X.1 X.2.1 dX1_twiceArea_39 rfl (lv_at hl 3 rfl) ?_
  refine p_callV (C := RX1) (b := o) (As := [.int (nI k)]) (rest := [.long (lN 2), .ref r15]) X (c_X1_sideLength l g o r A x1 y1 q k hk) ⟨mw_295, mw_297, mw_10, mw_38, mw_298⟩ sgX1_sideLength ⟨rfl, rfl, ⟨by decide, by decide⟩, by decide, by decide⟩ (hP.at 5 rfl) rfl rfl (RP.of hP [5, 6] rfl hF) hX.1 rfl hl.1 rfl (Nat.le_of_ble_eq_true rfl) dX1_twiceArea_40 (fun v H16 hk17 hp => ?_)
  obtain rfl := hp
  have hX := hX.tr hk17
  have hP := PP.ext hP hk17
  have hF := RF.ext hF hk17
  refine W.eq (g2 := F0 m 43 ls [.long (lN (slen x1 y1 k)), .long (lN 2), .ref r15]) rfl ?_
  refine lv_lmul X.1 X.2.1 dX1_twiceArea_43 ?_
  refine w_l (lN_mul _ _) ?_
  refine p_callV (C := RX0) (b := r15) (As := [.long (lN (2 * (slen x1 y1 k)))]) (rest := []) X (b_sub l g _ bp hle (show 2 * slen x1 y1 k ≤ 4000 by omega) (by decide) (by decide)) ⟨mw_433, mw_434, mw_435, mw_39, mw_436⟩ sgX0_takenFrom ⟨rfl, rfl, ⟨by decide, by decide⟩, by decide, by decide⟩ (hP.at 0 rfl) rfl rfl (hP.sub [0] rfl) hX.1 rfl hl.1 rfl (Nat.le_of_ble_eq_true rfl) dX1_twiceArea_44 (fun v H18 hk19 hp => ?_)
  obtain ⟨r20, rfl, hr20⟩ := hp
  have hX := hX.tr hk19
  have hP := PP.ext hP hk19
  have hF := RF.ext hF hk19
  have hP := PP.cons hr20 hP
  refine W.eq (g2 := F0 m 47 ls [.ref r20]) rfl ?_
  refine lv_astore (lv' := [(4, .ref r20), (3, .ref r12), (2, .ref r3), (0, .ref o), (1, .int (nI k))]) X.1 X.2.1 dX1_twiceArea_47 hl (by decide) rfl (fun ls hl => ?_)
  refine lv_aload_n X.1 X.2.1 dX1_twiceArea_49 rfl (lv_at hl 2 rfl) ?_
  refine lv_aload_n X.1 X.2.1 dX1_twiceArea_50 rfl (lv_at hl 3 rfl) ?_
  refine p_get (T := TX1) X uX1 (hP.at 6 rfl) rfl 2 (by decide) mw_79 rfl rfl dX1_twiceArea_51 ?_
  refine lv_iload_n X.1 X.2.1 dX1_twiceArea_54 rfl (lv_at hl 4 rfl) ?_
  refine p_aald X (hP.at 7 rfl) hk (by decide) (r := A k) rfl dX1_twiceArea_55 ?_
  have hP := PP.cons (hF k hk) hP
  refine p_callV (C := RX0) (b := r3) (As := [.ref (A k)]) (rest := []) X (b_times l g _ _ (bd_pk hO) (b k hk) (by decide) (by decide)) ⟨mw_368, mw_369, mw_370, mw_39, mw_371⟩ sgX0_times ⟨rfl, rfl, ⟨by decide, by decide⟩, by decide, by decide⟩ (hP.at 6 rfl) rfl rfl (hP.sub [6, 0] rfl) hX.1 rfl hl.1 rfl (Nat.le_of_ble_eq_true rfl) dX1_twiceArea_56 (fun v H21 hk22 hp => ?_)
  obtain ⟨r23, rfl, hr23⟩ := hp
  have hX := hX.tr hk22
  have hP := PP.ext hP hk22
  have hF := RF.ext hF hk22
  have hP := PP.cons hr23 hP
  refine W.eq (g2 := F0 m 59 ls [.ref r23]) rfl ?_
  refine lv_aload X.1 X.2.1 dX1_twiceArea_59 (lv_at hl 0 rfl) ?_
  have bs2 : bd (((2 * slen x1 y1 k : Nat) : Rat) - pk x1 y1 q * (q (behind k) + q (opp (behind k)))) 1280000000 320000 := bs.mono (by omega) (by decide)
  refine p_callV (C := RX0) (b := r23) (As := [.ref r20]) (rest := []) X (b_times l g _ _ (bd_in hO hk) bs2 (by decide) (by decide)) ⟨mw_368, mw_369, mw_370, mw_39, mw_371⟩ sgX0_times ⟨rfl, rfl, ⟨by decide, by decide⟩, by decide, by decide⟩ (hP.at 0 rfl) rfl rfl (hP.sub [0, 2] rfl) hX.1 rfl hl.1 rfl (Nat.le_of_ble_eq_true rfl) dX1_twiceArea_61 (fun v H24 hk25 hp => ?_)
  obtain ⟨r26, rfl, hr26⟩ := hp
  have hX := hX.tr hk25
  have hP := PP.ext hP hk25
  have hF := RF.ext hF hk25
  have hP := PP.cons hr26 hP
  refine W.eq (g2 := F0 m 64 ls [.ref r26]) rfl ?_
  exact p_aret X hX (⟨_, rfl, hP.at 0 rfl⟩) ⟨by decide, by decide⟩ dX1_twiceArea_64
