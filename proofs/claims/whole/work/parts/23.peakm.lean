theorem hgt_U {X Y x y k : Nat} {q : Nat → Rat} {U O : Nat → Nat} (h : 0 < q k) (e : O k = nu (q k) ∧ U k = (q k).den) : ((U k * dst X Y k x y : Nat) : Rat) / ((O k : Nat) : Rat) = hgt X Y q x y k := by rw [e.1, e.2, hgt_mk h]
theorem tp1 {x : Rat} (hx : 0 < x) (d : Nat) : ((d * x.den : Nat) : Rat) / ((nu x : Nat) : Rat) = x⁻¹ * (d : Rat) := by
  have h1 := nu_mul (Rat.le_of_lt hx)
  have h3 := dn_ne x
  have h4 := Rat.ne_of_gt hx
  rw [Rat.natCast_mul, h1]
  grind
theorem tp2 {x y : Rat} (hx : 0 < x) (hy : 0 < y) (d : Nat) : ((d * x.den * y.den : Nat) : Rat) / ((x.den * nu y + y.den * nu x : Nat) : Rat) = (x + y)⁻¹ * (d : Rat) := by
  have h1 := nu_mul (Rat.le_of_lt hx)
  have h2 := nu_mul (Rat.le_of_lt hy)
  have h3 := dn_ne x
  have h4 := dn_ne y
  have h5 : x + y ≠ 0 := by grind
  rw [Rat.natCast_mul, Rat.natCast_mul, Rat.natCast_add, Rat.natCast_mul, Rat.natCast_mul, h1, h2]
  grind
theorem ed2 {x y : Rat} (hx : 0 < x) (hy : 0 < y) (d : Nat) : ((d * y.den * nu x : Nat) : Rat) / ((x.den * nu y + y.den * nu x : Nat) : Rat) = x / (x + y) * (d : Rat) := by
  have h1 := nu_mul (Rat.le_of_lt hx)
  have h2 := nu_mul (Rat.le_of_lt hy)
  have h3 := dn_ne x
  have h4 := dn_ne y
  have h5 : x + y ≠ 0 := by grind
  rw [Rat.natCast_mul, Rat.natCast_mul, Rat.natCast_add, Rat.natCast_mul, Rat.natCast_mul, h1, h2]
  grind
theorem ed3 {x y : Rat} (hx : 0 < x) (hy : 0 < y) (d : Nat) : ((y.den * d * nu x : Nat) : Rat) / ((nu y * x.den : Nat) : Rat) = x / y * (d : Rat) := by
  have h1 := nu_mul (Rat.le_of_lt hx)
  have h2 := nu_mul (Rat.le_of_lt hy)
  have h3 := dn_ne x
  have h4 := dn_ne y
  rw [Rat.natCast_mul, Rat.natCast_mul, Rat.natCast_mul, h1, h2]
  grind
theorem ed1 {x : Rat} (hx : 0 < x) (d : Nat) : ((d : Nat) : Rat) / ((1 : Nat) : Rat) = x / (x + 0) * (d : Rat) := by
  have h4 := Rat.ne_of_gt hx
  have h5 : ((1 : Nat) : Rat) = 1 := rfl
  rw [h5]
  grind
theorem gab0 {q : Nat → Rat} {k : Nat} (h : gab q k = true) : q k = 0 := of_decide_eq_true h
theorem notF {b : Bool} (h : (!b) = false) : b = true := by cases b <;> first | rfl | cases h
theorem notT {b : Bool} (h : (!b) = true) : b = false := by cases b <;> first | rfl | cases h
theorem gabF {b : Bool} (h : ¬ b = true) : b = false := by simpa using h
set_option maxHeartbeats 4000000 in
set_option maxRecDepth 100000 in
theorem c_X2_lowest (l : Launch) (g : En) (mo ua oa ga : Nat) (cd : Int32) (ab be : Int64) (x1 y1 : Nat) (U O : Nat → Nat) (q : Nat → Rat) (x y : Nat) (hO : OK x1 y1 q) (hR : MR q U O) (hM : MD mo ua oa ga) (hx : x ≤ x1) (hy : y ≤ y1) : FM l yX2_lowest cX2_lowest 9 (some FieldType.int) { frames := 1, cells := 0, slots := 0, locals := 30 } g [.ref mo, .long (lN x), .long (lN y)] (fun H => MO g mo ua oa ga cd ab be x1 y1 U O q H) (fun q => q = mo) 0 0 (fun v H => v = some (.int (nI (lwp x1 y1 q x y 3))) ∧ MO g mo ua oa ga cd (lN (nu (hgt x1 y1 q x y (lwp x1 y1 q x y 3)))) (lN (hgt x1 y1 q x y (lwp x1 y1 q x y 3)).den) x1 y1 U O q H) := by
  refine FM.of (by decide) (Nat.le_of_ble_eq_true rfl) (fun p e s m below meth c ls X hP hl => ?_)
  have hb := hO.2.2.1
  have LA4 : ∀ (ab be : Int64) (H : Heap) (locs : List Loc) (ls : Array Slot), hxf (fun q => q = mo) s.heap H → lok (fun q => q = mo) s.heap.size locs → MO g mo ua oa ga cd ab be x1 y1 U O q H → lv_has ls 9 [(6, .int (nI 4)), (5, .int (-1)), (0, .ref mo), (1, .long (lN x)), (3, .long (lN y))] → gab q 0 = true → gab q 1 = true → gab q 2 = true → gab q 3 = true → W p l e { frames := 1, cells := 0, slots := 0, locals := 30 } s m ([.ref mo, .long (lN x), .long (lN y)] : List Value).toArray below meth c H locs 0 0 (MQ below (fQ (fun q => q = mo) (fun v H => v = some (.int (nI (lwp x1 y1 q x y 3))) ∧ MO g mo ua oa ga cd (lN (nu (hgt x1 y1 q x y (lwp x1 y1 q x y 3)))) (lN (hgt x1 y1 q x y (lwp x1 y1 q x y 3)).den) x1 y1 U O q H)) ([.ref mo, .long (lN x), .long (lN y)] : List Value).toArray s 0 0 (fun q => (fun q => q = mo) q ∨ s.heap.size ≤ q)) (F0 m 6 ls []) := by
    intro ab be H locs ls hX hlo hP hl t0 t1 t2 t3
    obtain ⟨k9, hk9, hne⟩ := hO.2.2.2
    exact absurd (show gab q k9 = true by rcases (show k9 = 0 ∨ k9 = 1 ∨ k9 = 2 ∨ k9 = 3 by omega) with rfl | rfl | rfl | rfl <;> assumption) (by rw [gab, decide_eq_false hne]; decide)
  have LB4 : ∀ (H : Heap) (locs : List Loc) (ls : Array Slot), hxf (fun q => q = mo) s.heap H → lok (fun q => q = mo) s.heap.size locs → MO g mo ua oa ga cd (lN (nu (hgt x1 y1 q x y (lwp x1 y1 q x y 3)))) (lN (hgt x1 y1 q x y (lwp x1 y1 q x y 3)).den) x1 y1 U O q H → lv_has ls 9 [(6, .int (nI 4)), (5, .int (nI (lwp x1 y1 q x y 3))), (0, .ref mo), (1, .long (lN x)), (3, .long (lN y))] → gab q (lwp x1 y1 q x y 3) = false → W p l e { frames := 1, cells := 0, slots := 0, locals := 30 } s m ([.ref mo, .long (lN x), .long (lN y)] : List Value).toArray below meth c H locs 0 0 (MQ below (fQ (fun q => q = mo) (fun v H => v = some (.int (nI (lwp x1 y1 q x y 3))) ∧ MO g mo ua oa ga cd (lN (nu (hgt x1 y1 q x y (lwp x1 y1 q x y 3)))) (lN (hgt x1 y1 q x y (lwp x1 y1 q x y 3)).den) x1 y1 U O q H)) ([.ref mo, .long (lN x), .long (lN y)] : List Value).toArray s 0 0 (fun q => (fun q => q = mo) q ∨ s.heap.size ≤ q)) (F0 m 6 ls []) := by
    intro H locs ls hX hlo hP hl tB
    refine lv_iload X.1 X.2.1 dX2_lowest_6 (lv_at hl 0 rfl) ?_
    refine lv_iconst (v := nI 4) X.1 X.2.1 dX2_lowest_8 (by decide) ?_
    refine lv_icmp_ge (tgt := 91) X.1 X.2.1 dX2_lowest_9 (by decide) (fun _ => ?_) (fun h9 => absurd (by decide) h9)
    refine lv_iload X.1 X.2.1 dX2_lowest_91 (lv_at hl 1 rfl) ?_
    exact f_iret X hX hlo (⟨rfl, hP⟩) ⟨by decide, by decide⟩ dX2_lowest_93
  have LA3 : ∀ (ab be : Int64) (H : Heap) (locs : List Loc) (ls : Array Slot), hxf (fun q => q = mo) s.heap H → lok (fun q => q = mo) s.heap.size locs → MO g mo ua oa ga cd ab be x1 y1 U O q H → lv_has ls 9 [(6, .int (nI 3)), (5, .int (-1)), (0, .ref mo), (1, .long (lN x)), (3, .long (lN y))] → gab q 0 = true → gab q 1 = true → gab q 2 = true → W p l e { frames := 1, cells := 0, slots := 0, locals := 30 } s m ([.ref mo, .long (lN x), .long (lN y)] : List Value).toArray below meth c H locs 0 0 (MQ below (fQ (fun q => q = mo) (fun v H => v = some (.int (nI (lwp x1 y1 q x y 3))) ∧ MO g mo ua oa ga cd (lN (nu (hgt x1 y1 q x y (lwp x1 y1 q x y 3)))) (lN (hgt x1 y1 q x y (lwp x1 y1 q x y 3)).den) x1 y1 U O q H)) ([.ref mo, .long (lN x), .long (lN y)] : List Value).toArray s 0 0 (fun q => (fun q => q = mo) q ∨ s.heap.size ≤ q)) (F0 m 6 ls []) := by
    intro ab be H locs ls hX hlo hP hl t0 t1 t2
    refine lv_iload X.1 X.2.1 dX2_lowest_6 (lv_at hl 0 rfl) ?_
    refine lv_iconst (v := nI 4) X.1 X.2.1 dX2_lowest_8 (by decide) ?_
    refine lv_icmp_ge (tgt := 91) X.1 X.2.1 dX2_lowest_9 (by decide) (fun h9 => absurd h9 (by decide)) (fun _ => ?_)
    refine lv_aload_n X.1 X.2.1 dX2_lowest_12 rfl (lv_at hl 2 rfl) ?_
    refine p_get (T := TX2) X uX2 (hP.at 0 rfl) rfl 5 (by decide) mw_469 rfl rfl dX2_lowest_13 ?_
    refine lv_iload X.1 X.2.1 dX2_lowest_16 (lv_at hl 0 rfl) ?_
    refine f_zald X (hP.at 3 rfl) (by decide) (by decide) dX2_lowest_18 ?_
    refine q_Bne X (tgt := 85) dX2_lowest_19 (by decide) (fun hB101 => ?_) (fun hB101 => ?_)
    ·
      refine lv_iinc (v := nI (3 + 1)) (lv' := [(6, .int (nI (3 + 1))), (5, .int (-1)), (0, .ref mo), (1, .long (lN x)), (3, .long (lN y))]) X.1 X.2.1 dX2_lowest_85 hl (k := 0) rfl (nI_1 _) (by decide) rfl (fun ls hl => ?_)
      refine lv_goto (tgt := 6) X.1 X.2.1 dX2_lowest_88 (by decide) ?_
      exact LA4 _ _ _ _ ls hX hlo hP (lv_sub hl [0, 1, 2, 3, 4] rfl) t0 t1 t2 hB101
    ·
      have pq := gab_pos (hb 3 (by decide)) hB101
      have eR := hR 3 (by decide) hB101
      have hds := dst_le hO hx hy 3
      have hb1 := (hb 3 (by decide)).2.1
      have hb2 := (hb 3 (by decide)).2.2
      have hUn : U 3 ≤ 20 := by rw [eR.2]; exact hb2
      have hOn : O 3 ≤ 20 := by rw [eR.1]; exact hb1
      have hO0 : 0 < O 3 := by rw [eR.1]; exact nu_pos pq
      have hA9 : U 3 * dst x1 y1 3 x y ≤ 20 * 2000 := Nat.mul_le_mul hUn hds
      refine lv_aload_n X.1 X.2.1 dX2_lowest_22 rfl (lv_at hl 2 rfl) ?_
      refine p_get (T := TX2) X uX2 (hP.at 0 rfl) rfl 3 (by decide) mw_467 rfl rfl dX2_lowest_23 ?_
      refine lv_iload X.1 X.2.1 dX2_lowest_26 (lv_at hl 0 rfl) ?_
      refine f_lald X (hP.at 1 rfl) (by decide) (by decide) dX2_lowest_28 ?_
      refine lv_aload_n X.1 X.2.1 dX2_lowest_29 rfl (lv_at hl 2 rfl) ?_
      refine lv_iload X.1 X.2.1 dX2_lowest_30 (lv_at hl 0 rfl) ?_
      refine lv_lload_n X.1 X.2.1 dX2_lowest_32 rfl (lv_at hl 3 rfl) ?_
      refine lv_lload_n X.1 X.2.1 dX2_lowest_33 rfl (lv_at hl 4 rfl) ?_
      refine p_callV (C := RX2) (b := mo) (As := [.int (nI 3), .long (lN x), .long (lN y)]) (rest := [.long (lN (U 3))]) X (c_X2_far l g mo ua oa ga cd _ _ x1 y1 U O q 3 x y (by decide) hx hy) ⟨mw_528, mw_530, mw_25, mw_40, mw_531⟩ sgX2_far ⟨rfl, rfl, ⟨by decide, by decide⟩, by decide, by decide⟩ (hP.at 0 rfl) rfl rfl (hP.sub [0, 1, 2, 3] rfl) hX.1 rfl hl.1 rfl (Nat.le_of_ble_eq_true rfl) dX2_lowest_34 (fun v H102 hk103 hp => ?_)
      obtain rfl := hp
      have hX := hX.tr hk103
      have hP := PP.ext hP hk103
      refine W.eq (g2 := F0 m 37 ls [.long (lN (dst x1 y1 3 x y)), .long (lN (U 3))]) rfl ?_
      refine lv_lmul X.1 X.2.1 dX2_lowest_37 ?_
      refine w_l (lN_mul _ _) ?_
      refine lv_lstore (lv' := [(7, .long (lN ((U 3) * (dst x1 y1 3 x y)))), (6, .int (nI 3)), (5, .int (-1)), (0, .ref mo), (1, .long (lN x)), (3, .long (lN y))]) X.1 X.2.1 dX2_lowest_38 hl (by decide) rfl (fun ls hl => ?_)
      refine lv_iload X.1 X.2.1 dX2_lowest_40 (lv_at hl 2 rfl) ?_
      refine lv_if_lt (tgt := 68) X.1 X.2.1 dX2_lowest_42 (by decide) (fun hB104 => ?_) (fun hB104 => ?_)
      ·
        refine lv_aload_n X.1 X.2.1 dX2_lowest_68 rfl (lv_at hl 3 rfl) ?_
        refine lv_lload X.1 X.2.1 dX2_lowest_69 (lv_at hl 0 rfl) ?_
        refine lv_aload_n X.1 X.2.1 dX2_lowest_71 rfl (lv_at hl 3 rfl) ?_
        refine p_get (T := TX2) X uX2 (hP.at 0 rfl) rfl 4 (by decide) mw_468 rfl rfl dX2_lowest_72 ?_
        refine lv_iload X.1 X.2.1 dX2_lowest_75 (lv_at hl 1 rfl) ?_
        refine f_lald X (hP.at 2 rfl) (by decide) (by decide) dX2_lowest_77 ?_
        refine f_callV (F := fun q => q = mo) (C := RX2) (b := mo) (As := [.long (lN ((U 3) * (dst x1 y1 3 x y))), .long (lN (O 3))]) (rest := []) X (c_X2_put l g mo ua oa ga cd _ _ x1 y1 U O q (U 3 * dst x1 y1 3 x y) (O 3) hM (by omega) (by omega) hO0) ⟨mw_508, mw_510, mw_22, mw_40, mw_511⟩ sgX2_put ⟨rfl, rfl, ⟨by decide, by decide⟩, by decide, by decide⟩ (hP.at 0 rfl) rfl rfl (hP) hX.1 (fun q h => h) hlo rfl hl.1 rfl (Nat.le_of_ble_eq_true rfl) dX2_lowest_78 (fun v H105 locs hk106 hlo hp => ?_)
        obtain ⟨rfl, hP⟩ := hp
        have hX := hX.trf (fun q h => h) hk106
        refine W.eq (g2 := F0 m 81 ls []) rfl ?_
        rw [hgt_U pq eR] at hP
        refine lv_iload X.1 X.2.1 dX2_lowest_81 (lv_at hl 1 rfl) ?_
        refine lv_istore (lv' := [(5, .int (nI 3)), (7, .long (lN ((U 3) * (dst x1 y1 3 x y)))), (6, .int (nI 3)), (0, .ref mo), (1, .long (lN x)), (3, .long (lN y))]) X.1 X.2.1 dX2_lowest_83 hl (by decide) rfl (fun ls hl => ?_)
        refine lv_iinc (v := nI (3 + 1)) (lv' := [(6, .int (nI (3 + 1))), (5, .int (nI 3)), (7, .long (lN ((U 3) * (dst x1 y1 3 x y)))), (0, .ref mo), (1, .long (lN x)), (3, .long (lN y))]) X.1 X.2.1 dX2_lowest_85 hl (k := 2) rfl (nI_1 _) (by decide) rfl (fun ls hl => ?_)
        refine lv_goto (tgt := 6) X.1 X.2.1 dX2_lowest_88 (by decide) ?_
        have e9 : lwp x1 y1 q x y 3 = 3 := lwp_t (n := 2) hB101 (Or.inl (show gab q (lwp x1 y1 q x y 2) = true by have h8 := lwp_le x1 y1 q x y 2; generalize lwp x1 y1 q x y 2 = c9 at h8 ⊢; rcases (show c9 = 0 ∨ c9 = 1 ∨ c9 = 2 by omega) with rfl | rfl | rfl <;> assumption))
        exact LB4 _ _ ls hX hlo (by rw [e9]; exact hP) (by rw [e9]; exact lv_sub hl [0, 1, 3, 4, 5] rfl) (by rw [e9]; exact hB101)
      ·
        exact absurd (by decide) hB104
  have LB3 : ∀ (H : Heap) (locs : List Loc) (ls : Array Slot), hxf (fun q => q = mo) s.heap H → lok (fun q => q = mo) s.heap.size locs → MO g mo ua oa ga cd (lN (nu (hgt x1 y1 q x y (lwp x1 y1 q x y 2)))) (lN (hgt x1 y1 q x y (lwp x1 y1 q x y 2)).den) x1 y1 U O q H → lv_has ls 9 [(6, .int (nI 3)), (5, .int (nI (lwp x1 y1 q x y 2))), (0, .ref mo), (1, .long (lN x)), (3, .long (lN y))] → gab q (lwp x1 y1 q x y 2) = false → W p l e { frames := 1, cells := 0, slots := 0, locals := 30 } s m ([.ref mo, .long (lN x), .long (lN y)] : List Value).toArray below meth c H locs 0 0 (MQ below (fQ (fun q => q = mo) (fun v H => v = some (.int (nI (lwp x1 y1 q x y 3))) ∧ MO g mo ua oa ga cd (lN (nu (hgt x1 y1 q x y (lwp x1 y1 q x y 3)))) (lN (hgt x1 y1 q x y (lwp x1 y1 q x y 3)).den) x1 y1 U O q H)) ([.ref mo, .long (lN x), .long (lN y)] : List Value).toArray s 0 0 (fun q => (fun q => q = mo) q ∨ s.heap.size ≤ q)) (F0 m 6 ls []) := by
    intro H locs ls hX hlo hP hl tB
    refine lv_iload X.1 X.2.1 dX2_lowest_6 (lv_at hl 0 rfl) ?_
    refine lv_iconst (v := nI 4) X.1 X.2.1 dX2_lowest_8 (by decide) ?_
    refine lv_icmp_ge (tgt := 91) X.1 X.2.1 dX2_lowest_9 (by decide) (fun h9 => absurd h9 (by decide)) (fun _ => ?_)
    refine lv_aload_n X.1 X.2.1 dX2_lowest_12 rfl (lv_at hl 2 rfl) ?_
    refine p_get (T := TX2) X uX2 (hP.at 0 rfl) rfl 5 (by decide) mw_469 rfl rfl dX2_lowest_13 ?_
    refine lv_iload X.1 X.2.1 dX2_lowest_16 (lv_at hl 0 rfl) ?_
    refine f_zald X (hP.at 3 rfl) (by decide) (by decide) dX2_lowest_18 ?_
    refine q_Bne X (tgt := 85) dX2_lowest_19 (by decide) (fun hB101 => ?_) (fun hB101 => ?_)
    ·
      refine lv_iinc (v := nI (3 + 1)) (lv' := [(6, .int (nI (3 + 1))), (5, .int (nI (lwp x1 y1 q x y 2))), (0, .ref mo), (1, .long (lN x)), (3, .long (lN y))]) X.1 X.2.1 dX2_lowest_85 hl (k := 0) rfl (nI_1 _) (by decide) rfl (fun ls hl => ?_)
      refine lv_goto (tgt := 6) X.1 X.2.1 dX2_lowest_88 (by decide) ?_
      have e9 : lwp x1 y1 q x y 3 = lwp x1 y1 q x y 2 := lwp_f (n := 2) (Or.inl hB101)
      exact LB4 _ _ ls hX hlo (by rw [e9]; exact hP) (by rw [e9]; exact lv_sub hl [0, 1, 2, 3, 4] rfl) (by rw [e9]; exact tB)
    ·
      have pq := gab_pos (hb 3 (by decide)) hB101
      have eR := hR 3 (by decide) hB101
      have hds := dst_le hO hx hy 3
      have hb1 := (hb 3 (by decide)).2.1
      have hb2 := (hb 3 (by decide)).2.2
      have hUn : U 3 ≤ 20 := by rw [eR.2]; exact hb2
      have hOn : O 3 ≤ 20 := by rw [eR.1]; exact hb1
      have hO0 : 0 < O 3 := by rw [eR.1]; exact nu_pos pq
      have hA9 : U 3 * dst x1 y1 3 x y ≤ 20 * 2000 := Nat.mul_le_mul hUn hds
      refine lv_aload_n X.1 X.2.1 dX2_lowest_22 rfl (lv_at hl 2 rfl) ?_
      refine p_get (T := TX2) X uX2 (hP.at 0 rfl) rfl 3 (by decide) mw_467 rfl rfl dX2_lowest_23 ?_
      refine lv_iload X.1 X.2.1 dX2_lowest_26 (lv_at hl 0 rfl) ?_
      refine f_lald X (hP.at 1 rfl) (by decide) (by decide) dX2_lowest_28 ?_
      refine lv_aload_n X.1 X.2.1 dX2_lowest_29 rfl (lv_at hl 2 rfl) ?_
      refine lv_iload X.1 X.2.1 dX2_lowest_30 (lv_at hl 0 rfl) ?_
      refine lv_lload_n X.1 X.2.1 dX2_lowest_32 rfl (lv_at hl 3 rfl) ?_
      refine lv_lload_n X.1 X.2.1 dX2_lowest_33 rfl (lv_at hl 4 rfl) ?_
      refine p_callV (C := RX2) (b := mo) (As := [.int (nI 3), .long (lN x), .long (lN y)]) (rest := [.long (lN (U 3))]) X (c_X2_far l g mo ua oa ga cd _ _ x1 y1 U O q 3 x y (by decide) hx hy) ⟨mw_528, mw_530, mw_25, mw_40, mw_531⟩ sgX2_far ⟨rfl, rfl, ⟨by decide, by decide⟩, by decide, by decide⟩ (hP.at 0 rfl) rfl rfl (hP.sub [0, 1, 2, 3] rfl) hX.1 rfl hl.1 rfl (Nat.le_of_ble_eq_true rfl) dX2_lowest_34 (fun v H102 hk103 hp => ?_)
      obtain rfl := hp
      have hX := hX.tr hk103
      have hP := PP.ext hP hk103
      refine W.eq (g2 := F0 m 37 ls [.long (lN (dst x1 y1 3 x y)), .long (lN (U 3))]) rfl ?_
      refine lv_lmul X.1 X.2.1 dX2_lowest_37 ?_
      refine w_l (lN_mul _ _) ?_
      refine lv_lstore (lv' := [(7, .long (lN ((U 3) * (dst x1 y1 3 x y)))), (6, .int (nI 3)), (5, .int (nI (lwp x1 y1 q x y 2))), (0, .ref mo), (1, .long (lN x)), (3, .long (lN y))]) X.1 X.2.1 dX2_lowest_38 hl (by decide) rfl (fun ls hl => ?_)
      refine lv_iload X.1 X.2.1 dX2_lowest_40 (lv_at hl 2 rfl) ?_
      have hcl : lwp x1 y1 q x y 2 < 4 := Nat.lt_of_le_of_lt (lwp_le _ _ _ _ _ _) (by decide)
      have bz := bd_hgt hO hx hy hcl tB
      have hlt := lt_frac (a := U 3 * dst x1 y1 3 x y) (b := O 3) hO0 bz.1
      rw [hgt_U pq eR] at hlt
      have hm1 : (U 3 * dst x1 y1 3 x y) * (hgt x1 y1 q x y (lwp x1 y1 q x y 2)).den ≤ 40000 * 20 := Nat.mul_le_mul hA9 bz.2.2
      have hm2 : nu (hgt x1 y1 q x y (lwp x1 y1 q x y 2)) * O 3 ≤ 40000 * 20 := Nat.mul_le_mul bz.2.1 hOn
      refine lv_if_lt (tgt := 68) X.1 X.2.1 dX2_lowest_42 (by decide) (fun hB104 => ?_) (fun hB104 => ?_)
      ·
        exact absurd hB104 (nI_pos (by omega))
      ·
        refine lv_lload X.1 X.2.1 dX2_lowest_45 (lv_at hl 0 rfl) ?_
        refine lv_aload_n X.1 X.2.1 dX2_lowest_47 rfl (lv_at hl 3 rfl) ?_
        refine p_get (T := TX2) X uX2 (hP.at 0 rfl) rfl 7 (by decide) mw_471 rfl rfl dX2_lowest_48 ?_
        refine lv_lmul X.1 X.2.1 dX2_lowest_51 ?_
        refine w_l (lN_mul _ _) ?_
        refine lv_aload_n X.1 X.2.1 dX2_lowest_52 rfl (lv_at hl 3 rfl) ?_
        refine p_get (T := TX2) X uX2 (hP.at 0 rfl) rfl 6 (by decide) mw_470 rfl rfl dX2_lowest_53 ?_
        refine lv_aload_n X.1 X.2.1 dX2_lowest_56 rfl (lv_at hl 3 rfl) ?_
        refine p_get (T := TX2) X uX2 (hP.at 0 rfl) rfl 4 (by decide) mw_468 rfl rfl dX2_lowest_57 ?_
        refine lv_iload X.1 X.2.1 dX2_lowest_60 (lv_at hl 1 rfl) ?_
        refine f_lald X (hP.at 2 rfl) (by decide) (by decide) dX2_lowest_62 ?_
        refine lv_lmul X.1 X.2.1 dX2_lowest_63 ?_
        refine w_l (lN_mul _ _) ?_
        refine q_Nge X (by omega) (by omega) (tgt := 85) dX2_lowest_64 dX2_lowest_65 (by decide) (fun hB105 => ?_) (fun hB105 => ?_)
        ·
          refine lv_iinc (v := nI (3 + 1)) (lv' := [(6, .int (nI (3 + 1))), (7, .long (lN ((U 3) * (dst x1 y1 3 x y)))), (5, .int (nI (lwp x1 y1 q x y 2))), (0, .ref mo), (1, .long (lN x)), (3, .long (lN y))]) X.1 X.2.1 dX2_lowest_85 hl (k := 1) rfl (nI_1 _) (by decide) rfl (fun ls hl => ?_)
          refine lv_goto (tgt := 6) X.1 X.2.1 dX2_lowest_88 (by decide) ?_
          have e9 : lwp x1 y1 q x y 3 = lwp x1 y1 q x y 2 := lwp_f (n := 2) (Or.inr ⟨tB, fun h8 => by have := hlt.mp h8; omega⟩)
          exact LB4 _ _ ls hX hlo (by rw [e9]; exact hP) (by rw [e9]; exact lv_sub hl [0, 2, 3, 4, 5] rfl) (by rw [e9]; exact tB)
        ·
          refine lv_aload_n X.1 X.2.1 dX2_lowest_68 rfl (lv_at hl 3 rfl) ?_
          refine lv_lload X.1 X.2.1 dX2_lowest_69 (lv_at hl 0 rfl) ?_
          refine lv_aload_n X.1 X.2.1 dX2_lowest_71 rfl (lv_at hl 3 rfl) ?_
          refine p_get (T := TX2) X uX2 (hP.at 0 rfl) rfl 4 (by decide) mw_468 rfl rfl dX2_lowest_72 ?_
          refine lv_iload X.1 X.2.1 dX2_lowest_75 (lv_at hl 1 rfl) ?_
          refine f_lald X (hP.at 2 rfl) (by decide) (by decide) dX2_lowest_77 ?_
          refine f_callV (F := fun q => q = mo) (C := RX2) (b := mo) (As := [.long (lN ((U 3) * (dst x1 y1 3 x y))), .long (lN (O 3))]) (rest := []) X (c_X2_put l g mo ua oa ga cd _ _ x1 y1 U O q (U 3 * dst x1 y1 3 x y) (O 3) hM (by omega) (by omega) hO0) ⟨mw_508, mw_510, mw_22, mw_40, mw_511⟩ sgX2_put ⟨rfl, rfl, ⟨by decide, by decide⟩, by decide, by decide⟩ (hP.at 0 rfl) rfl rfl (hP) hX.1 (fun q h => h) hlo rfl hl.1 rfl (Nat.le_of_ble_eq_true rfl) dX2_lowest_78 (fun v H106 locs hk107 hlo hp => ?_)
          obtain ⟨rfl, hP⟩ := hp
          have hX := hX.trf (fun q h => h) hk107
          refine W.eq (g2 := F0 m 81 ls []) rfl ?_
          rw [hgt_U pq eR] at hP
          refine lv_iload X.1 X.2.1 dX2_lowest_81 (lv_at hl 1 rfl) ?_
          refine lv_istore (lv' := [(5, .int (nI 3)), (7, .long (lN ((U 3) * (dst x1 y1 3 x y)))), (6, .int (nI 3)), (0, .ref mo), (1, .long (lN x)), (3, .long (lN y))]) X.1 X.2.1 dX2_lowest_83 hl (by decide) rfl (fun ls hl => ?_)
          refine lv_iinc (v := nI (3 + 1)) (lv' := [(6, .int (nI (3 + 1))), (5, .int (nI 3)), (7, .long (lN ((U 3) * (dst x1 y1 3 x y)))), (0, .ref mo), (1, .long (lN x)), (3, .long (lN y))]) X.1 X.2.1 dX2_lowest_85 hl (k := 2) rfl (nI_1 _) (by decide) rfl (fun ls hl => ?_)
          refine lv_goto (tgt := 6) X.1 X.2.1 dX2_lowest_88 (by decide) ?_
          have e9 : lwp x1 y1 q x y 3 = 3 := lwp_t (n := 2) hB101 (Or.inr (hlt.mpr hB105))
          exact LB4 _ _ ls hX hlo (by rw [e9]; exact hP) (by rw [e9]; exact lv_sub hl [0, 1, 3, 4, 5] rfl) (by rw [e9]; exact hB101)
  have LA2 : ∀ (ab be : Int64) (H : Heap) (locs : List Loc) (ls : Array Slot), hxf (fun q => q = mo) s.heap H → lok (fun q => q = mo) s.heap.size locs → MO g mo ua oa ga cd ab be x1 y1 U O q H → lv_has ls 9 [(6, .int (nI 2)), (5, .int (-1)), (0, .ref mo), (1, .long (lN x)), (3, .long (lN y))] → gab q 0 = true → gab q 1 = true → W p l e { frames := 1, cells := 0, slots := 0, locals := 30 } s m ([.ref mo, .long (lN x), .long (lN y)] : List Value).toArray below meth c H locs 0 0 (MQ below (fQ (fun q => q = mo) (fun v H => v = some (.int (nI (lwp x1 y1 q x y 3))) ∧ MO g mo ua oa ga cd (lN (nu (hgt x1 y1 q x y (lwp x1 y1 q x y 3)))) (lN (hgt x1 y1 q x y (lwp x1 y1 q x y 3)).den) x1 y1 U O q H)) ([.ref mo, .long (lN x), .long (lN y)] : List Value).toArray s 0 0 (fun q => (fun q => q = mo) q ∨ s.heap.size ≤ q)) (F0 m 6 ls []) := by
    intro ab be H locs ls hX hlo hP hl t0 t1
    refine lv_iload X.1 X.2.1 dX2_lowest_6 (lv_at hl 0 rfl) ?_
    refine lv_iconst (v := nI 4) X.1 X.2.1 dX2_lowest_8 (by decide) ?_
    refine lv_icmp_ge (tgt := 91) X.1 X.2.1 dX2_lowest_9 (by decide) (fun h9 => absurd h9 (by decide)) (fun _ => ?_)
    refine lv_aload_n X.1 X.2.1 dX2_lowest_12 rfl (lv_at hl 2 rfl) ?_
    refine p_get (T := TX2) X uX2 (hP.at 0 rfl) rfl 5 (by decide) mw_469 rfl rfl dX2_lowest_13 ?_
    refine lv_iload X.1 X.2.1 dX2_lowest_16 (lv_at hl 0 rfl) ?_
    refine f_zald X (hP.at 3 rfl) (by decide) (by decide) dX2_lowest_18 ?_
    refine q_Bne X (tgt := 85) dX2_lowest_19 (by decide) (fun hB101 => ?_) (fun hB101 => ?_)
    ·
      refine lv_iinc (v := nI (2 + 1)) (lv' := [(6, .int (nI (2 + 1))), (5, .int (-1)), (0, .ref mo), (1, .long (lN x)), (3, .long (lN y))]) X.1 X.2.1 dX2_lowest_85 hl (k := 0) rfl (nI_1 _) (by decide) rfl (fun ls hl => ?_)
      refine lv_goto (tgt := 6) X.1 X.2.1 dX2_lowest_88 (by decide) ?_
      exact LA3 _ _ _ _ ls hX hlo hP (lv_sub hl [0, 1, 2, 3, 4] rfl) t0 t1 hB101
    ·
      have pq := gab_pos (hb 2 (by decide)) hB101
      have eR := hR 2 (by decide) hB101
      have hds := dst_le hO hx hy 2
      have hb1 := (hb 2 (by decide)).2.1
      have hb2 := (hb 2 (by decide)).2.2
      have hUn : U 2 ≤ 20 := by rw [eR.2]; exact hb2
      have hOn : O 2 ≤ 20 := by rw [eR.1]; exact hb1
      have hO0 : 0 < O 2 := by rw [eR.1]; exact nu_pos pq
      have hA9 : U 2 * dst x1 y1 2 x y ≤ 20 * 2000 := Nat.mul_le_mul hUn hds
      refine lv_aload_n X.1 X.2.1 dX2_lowest_22 rfl (lv_at hl 2 rfl) ?_
      refine p_get (T := TX2) X uX2 (hP.at 0 rfl) rfl 3 (by decide) mw_467 rfl rfl dX2_lowest_23 ?_
      refine lv_iload X.1 X.2.1 dX2_lowest_26 (lv_at hl 0 rfl) ?_
      refine f_lald X (hP.at 1 rfl) (by decide) (by decide) dX2_lowest_28 ?_
      refine lv_aload_n X.1 X.2.1 dX2_lowest_29 rfl (lv_at hl 2 rfl) ?_
      refine lv_iload X.1 X.2.1 dX2_lowest_30 (lv_at hl 0 rfl) ?_
      refine lv_lload_n X.1 X.2.1 dX2_lowest_32 rfl (lv_at hl 3 rfl) ?_
      refine lv_lload_n X.1 X.2.1 dX2_lowest_33 rfl (lv_at hl 4 rfl) ?_
      refine p_callV (C := RX2) (b := mo) (As := [.int (nI 2), .long (lN x), .long (lN y)]) (rest := [.long (lN (U 2))]) X (c_X2_far l g mo ua oa ga cd _ _ x1 y1 U O q 2 x y (by decide) hx hy) ⟨mw_528, mw_530, mw_25, mw_40, mw_531⟩ sgX2_far ⟨rfl, rfl, ⟨by decide, by decide⟩, by decide, by decide⟩ (hP.at 0 rfl) rfl rfl (hP.sub [0, 1, 2, 3] rfl) hX.1 rfl hl.1 rfl (Nat.le_of_ble_eq_true rfl) dX2_lowest_34 (fun v H102 hk103 hp => ?_)
      obtain rfl := hp
      have hX := hX.tr hk103
      have hP := PP.ext hP hk103
      refine W.eq (g2 := F0 m 37 ls [.long (lN (dst x1 y1 2 x y)), .long (lN (U 2))]) rfl ?_
      refine lv_lmul X.1 X.2.1 dX2_lowest_37 ?_
      refine w_l (lN_mul _ _) ?_
      refine lv_lstore (lv' := [(7, .long (lN ((U 2) * (dst x1 y1 2 x y)))), (6, .int (nI 2)), (5, .int (-1)), (0, .ref mo), (1, .long (lN x)), (3, .long (lN y))]) X.1 X.2.1 dX2_lowest_38 hl (by decide) rfl (fun ls hl => ?_)
      refine lv_iload X.1 X.2.1 dX2_lowest_40 (lv_at hl 2 rfl) ?_
      refine lv_if_lt (tgt := 68) X.1 X.2.1 dX2_lowest_42 (by decide) (fun hB104 => ?_) (fun hB104 => ?_)
      ·
        refine lv_aload_n X.1 X.2.1 dX2_lowest_68 rfl (lv_at hl 3 rfl) ?_
        refine lv_lload X.1 X.2.1 dX2_lowest_69 (lv_at hl 0 rfl) ?_
        refine lv_aload_n X.1 X.2.1 dX2_lowest_71 rfl (lv_at hl 3 rfl) ?_
        refine p_get (T := TX2) X uX2 (hP.at 0 rfl) rfl 4 (by decide) mw_468 rfl rfl dX2_lowest_72 ?_
        refine lv_iload X.1 X.2.1 dX2_lowest_75 (lv_at hl 1 rfl) ?_
        refine f_lald X (hP.at 2 rfl) (by decide) (by decide) dX2_lowest_77 ?_
        refine f_callV (F := fun q => q = mo) (C := RX2) (b := mo) (As := [.long (lN ((U 2) * (dst x1 y1 2 x y))), .long (lN (O 2))]) (rest := []) X (c_X2_put l g mo ua oa ga cd _ _ x1 y1 U O q (U 2 * dst x1 y1 2 x y) (O 2) hM (by omega) (by omega) hO0) ⟨mw_508, mw_510, mw_22, mw_40, mw_511⟩ sgX2_put ⟨rfl, rfl, ⟨by decide, by decide⟩, by decide, by decide⟩ (hP.at 0 rfl) rfl rfl (hP) hX.1 (fun q h => h) hlo rfl hl.1 rfl (Nat.le_of_ble_eq_true rfl) dX2_lowest_78 (fun v H105 locs hk106 hlo hp => ?_)
        obtain ⟨rfl, hP⟩ := hp
        have hX := hX.trf (fun q h => h) hk106
        refine W.eq (g2 := F0 m 81 ls []) rfl ?_
        rw [hgt_U pq eR] at hP
        refine lv_iload X.1 X.2.1 dX2_lowest_81 (lv_at hl 1 rfl) ?_
        refine lv_istore (lv' := [(5, .int (nI 2)), (7, .long (lN ((U 2) * (dst x1 y1 2 x y)))), (6, .int (nI 2)), (0, .ref mo), (1, .long (lN x)), (3, .long (lN y))]) X.1 X.2.1 dX2_lowest_83 hl (by decide) rfl (fun ls hl => ?_)
        refine lv_iinc (v := nI (2 + 1)) (lv' := [(6, .int (nI (2 + 1))), (5, .int (nI 2)), (7, .long (lN ((U 2) * (dst x1 y1 2 x y)))), (0, .ref mo), (1, .long (lN x)), (3, .long (lN y))]) X.1 X.2.1 dX2_lowest_85 hl (k := 2) rfl (nI_1 _) (by decide) rfl (fun ls hl => ?_)
        refine lv_goto (tgt := 6) X.1 X.2.1 dX2_lowest_88 (by decide) ?_
        have e9 : lwp x1 y1 q x y 2 = 2 := lwp_t (n := 1) hB101 (Or.inl (show gab q (lwp x1 y1 q x y 1) = true by have h8 := lwp_le x1 y1 q x y 1; generalize lwp x1 y1 q x y 1 = c9 at h8 ⊢; rcases (show c9 = 0 ∨ c9 = 1 by omega) with rfl | rfl <;> assumption))
        exact LB3 _ _ ls hX hlo (by rw [e9]; exact hP) (by rw [e9]; exact lv_sub hl [0, 1, 3, 4, 5] rfl) (by rw [e9]; exact hB101)
      ·
        exact absurd (by decide) hB104
  have LB2 : ∀ (H : Heap) (locs : List Loc) (ls : Array Slot), hxf (fun q => q = mo) s.heap H → lok (fun q => q = mo) s.heap.size locs → MO g mo ua oa ga cd (lN (nu (hgt x1 y1 q x y (lwp x1 y1 q x y 1)))) (lN (hgt x1 y1 q x y (lwp x1 y1 q x y 1)).den) x1 y1 U O q H → lv_has ls 9 [(6, .int (nI 2)), (5, .int (nI (lwp x1 y1 q x y 1))), (0, .ref mo), (1, .long (lN x)), (3, .long (lN y))] → gab q (lwp x1 y1 q x y 1) = false → W p l e { frames := 1, cells := 0, slots := 0, locals := 30 } s m ([.ref mo, .long (lN x), .long (lN y)] : List Value).toArray below meth c H locs 0 0 (MQ below (fQ (fun q => q = mo) (fun v H => v = some (.int (nI (lwp x1 y1 q x y 3))) ∧ MO g mo ua oa ga cd (lN (nu (hgt x1 y1 q x y (lwp x1 y1 q x y 3)))) (lN (hgt x1 y1 q x y (lwp x1 y1 q x y 3)).den) x1 y1 U O q H)) ([.ref mo, .long (lN x), .long (lN y)] : List Value).toArray s 0 0 (fun q => (fun q => q = mo) q ∨ s.heap.size ≤ q)) (F0 m 6 ls []) := by
    intro H locs ls hX hlo hP hl tB
    refine lv_iload X.1 X.2.1 dX2_lowest_6 (lv_at hl 0 rfl) ?_
    refine lv_iconst (v := nI 4) X.1 X.2.1 dX2_lowest_8 (by decide) ?_
    refine lv_icmp_ge (tgt := 91) X.1 X.2.1 dX2_lowest_9 (by decide) (fun h9 => absurd h9 (by decide)) (fun _ => ?_)
    refine lv_aload_n X.1 X.2.1 dX2_lowest_12 rfl (lv_at hl 2 rfl) ?_
    refine p_get (T := TX2) X uX2 (hP.at 0 rfl) rfl 5 (by decide) mw_469 rfl rfl dX2_lowest_13 ?_
    refine lv_iload X.1 X.2.1 dX2_lowest_16 (lv_at hl 0 rfl) ?_
    refine f_zald X (hP.at 3 rfl) (by decide) (by decide) dX2_lowest_18 ?_
    refine q_Bne X (tgt := 85) dX2_lowest_19 (by decide) (fun hB101 => ?_) (fun hB101 => ?_)
    ·
      refine lv_iinc (v := nI (2 + 1)) (lv' := [(6, .int (nI (2 + 1))), (5, .int (nI (lwp x1 y1 q x y 1))), (0, .ref mo), (1, .long (lN x)), (3, .long (lN y))]) X.1 X.2.1 dX2_lowest_85 hl (k := 0) rfl (nI_1 _) (by decide) rfl (fun ls hl => ?_)
      refine lv_goto (tgt := 6) X.1 X.2.1 dX2_lowest_88 (by decide) ?_
      have e9 : lwp x1 y1 q x y 2 = lwp x1 y1 q x y 1 := lwp_f (n := 1) (Or.inl hB101)
      exact LB3 _ _ ls hX hlo (by rw [e9]; exact hP) (by rw [e9]; exact lv_sub hl [0, 1, 2, 3, 4] rfl) (by rw [e9]; exact tB)
    ·
      have pq := gab_pos (hb 2 (by decide)) hB101
      have eR := hR 2 (by decide) hB101
      have hds := dst_le hO hx hy 2
      have hb1 := (hb 2 (by decide)).2.1
      have hb2 := (hb 2 (by decide)).2.2
      have hUn : U 2 ≤ 20 := by rw [eR.2]; exact hb2
      have hOn : O 2 ≤ 20 := by rw [eR.1]; exact hb1
      have hO0 : 0 < O 2 := by rw [eR.1]; exact nu_pos pq
      have hA9 : U 2 * dst x1 y1 2 x y ≤ 20 * 2000 := Nat.mul_le_mul hUn hds
      refine lv_aload_n X.1 X.2.1 dX2_lowest_22 rfl (lv_at hl 2 rfl) ?_
      refine p_get (T := TX2) X uX2 (hP.at 0 rfl) rfl 3 (by decide) mw_467 rfl rfl dX2_lowest_23 ?_
      refine lv_iload X.1 X.2.1 dX2_lowest_26 (lv_at hl 0 rfl) ?_
      refine f_lald X (hP.at 1 rfl) (by decide) (by decide) dX2_lowest_28 ?_
      refine lv_aload_n X.1 X.2.1 dX2_lowest_29 rfl (lv_at hl 2 rfl) ?_
      refine lv_iload X.1 X.2.1 dX2_lowest_30 (lv_at hl 0 rfl) ?_
      refine lv_lload_n X.1 X.2.1 dX2_lowest_32 rfl (lv_at hl 3 rfl) ?_
      refine lv_lload_n X.1 X.2.1 dX2_lowest_33 rfl (lv_at hl 4 rfl) ?_
      refine p_callV (C := RX2) (b := mo) (As := [.int (nI 2), .long (lN x), .long (lN y)]) (rest := [.long (lN (U 2))]) X (c_X2_far l g mo ua oa ga cd _ _ x1 y1 U O q 2 x y (by decide) hx hy) ⟨mw_528, mw_530, mw_25, mw_40, mw_531⟩ sgX2_far ⟨rfl, rfl, ⟨by decide, by decide⟩, by decide, by decide⟩ (hP.at 0 rfl) rfl rfl (hP.sub [0, 1, 2, 3] rfl) hX.1 rfl hl.1 rfl (Nat.le_of_ble_eq_true rfl) dX2_lowest_34 (fun v H102 hk103 hp => ?_)
      obtain rfl := hp
      have hX := hX.tr hk103
      have hP := PP.ext hP hk103
      refine W.eq (g2 := F0 m 37 ls [.long (lN (dst x1 y1 2 x y)), .long (lN (U 2))]) rfl ?_
      refine lv_lmul X.1 X.2.1 dX2_lowest_37 ?_
      refine w_l (lN_mul _ _) ?_
      refine lv_lstore (lv' := [(7, .long (lN ((U 2) * (dst x1 y1 2 x y)))), (6, .int (nI 2)), (5, .int (nI (lwp x1 y1 q x y 1))), (0, .ref mo), (1, .long (lN x)), (3, .long (lN y))]) X.1 X.2.1 dX2_lowest_38 hl (by decide) rfl (fun ls hl => ?_)
      refine lv_iload X.1 X.2.1 dX2_lowest_40 (lv_at hl 2 rfl) ?_
      have hcl : lwp x1 y1 q x y 1 < 4 := Nat.lt_of_le_of_lt (lwp_le _ _ _ _ _ _) (by decide)
      have bz := bd_hgt hO hx hy hcl tB
      have hlt := lt_frac (a := U 2 * dst x1 y1 2 x y) (b := O 2) hO0 bz.1
      rw [hgt_U pq eR] at hlt
      have hm1 : (U 2 * dst x1 y1 2 x y) * (hgt x1 y1 q x y (lwp x1 y1 q x y 1)).den ≤ 40000 * 20 := Nat.mul_le_mul hA9 bz.2.2
      have hm2 : nu (hgt x1 y1 q x y (lwp x1 y1 q x y 1)) * O 2 ≤ 40000 * 20 := Nat.mul_le_mul bz.2.1 hOn
      refine lv_if_lt (tgt := 68) X.1 X.2.1 dX2_lowest_42 (by decide) (fun hB104 => ?_) (fun hB104 => ?_)
      ·
        exact absurd hB104 (nI_pos (by omega))
      ·
        refine lv_lload X.1 X.2.1 dX2_lowest_45 (lv_at hl 0 rfl) ?_
        refine lv_aload_n X.1 X.2.1 dX2_lowest_47 rfl (lv_at hl 3 rfl) ?_
        refine p_get (T := TX2) X uX2 (hP.at 0 rfl) rfl 7 (by decide) mw_471 rfl rfl dX2_lowest_48 ?_
        refine lv_lmul X.1 X.2.1 dX2_lowest_51 ?_
        refine w_l (lN_mul _ _) ?_
        refine lv_aload_n X.1 X.2.1 dX2_lowest_52 rfl (lv_at hl 3 rfl) ?_
        refine p_get (T := TX2) X uX2 (hP.at 0 rfl) rfl 6 (by decide) mw_470 rfl rfl dX2_lowest_53 ?_
        refine lv_aload_n X.1 X.2.1 dX2_lowest_56 rfl (lv_at hl 3 rfl) ?_
        refine p_get (T := TX2) X uX2 (hP.at 0 rfl) rfl 4 (by decide) mw_468 rfl rfl dX2_lowest_57 ?_
        refine lv_iload X.1 X.2.1 dX2_lowest_60 (lv_at hl 1 rfl) ?_
        refine f_lald X (hP.at 2 rfl) (by decide) (by decide) dX2_lowest_62 ?_
        refine lv_lmul X.1 X.2.1 dX2_lowest_63 ?_
        refine w_l (lN_mul _ _) ?_
        refine q_Nge X (by omega) (by omega) (tgt := 85) dX2_lowest_64 dX2_lowest_65 (by decide) (fun hB105 => ?_) (fun hB105 => ?_)
        ·
          refine lv_iinc (v := nI (2 + 1)) (lv' := [(6, .int (nI (2 + 1))), (7, .long (lN ((U 2) * (dst x1 y1 2 x y)))), (5, .int (nI (lwp x1 y1 q x y 1))), (0, .ref mo), (1, .long (lN x)), (3, .long (lN y))]) X.1 X.2.1 dX2_lowest_85 hl (k := 1) rfl (nI_1 _) (by decide) rfl (fun ls hl => ?_)
          refine lv_goto (tgt := 6) X.1 X.2.1 dX2_lowest_88 (by decide) ?_
          have e9 : lwp x1 y1 q x y 2 = lwp x1 y1 q x y 1 := lwp_f (n := 1) (Or.inr ⟨tB, fun h8 => by have := hlt.mp h8; omega⟩)
          exact LB3 _ _ ls hX hlo (by rw [e9]; exact hP) (by rw [e9]; exact lv_sub hl [0, 2, 3, 4, 5] rfl) (by rw [e9]; exact tB)
        ·
          refine lv_aload_n X.1 X.2.1 dX2_lowest_68 rfl (lv_at hl 3 rfl) ?_
          refine lv_lload X.1 X.2.1 dX2_lowest_69 (lv_at hl 0 rfl) ?_
          refine lv_aload_n X.1 X.2.1 dX2_lowest_71 rfl (lv_at hl 3 rfl) ?_
          refine p_get (T := TX2) X uX2 (hP.at 0 rfl) rfl 4 (by decide) mw_468 rfl rfl dX2_lowest_72 ?_
          refine lv_iload X.1 X.2.1 dX2_lowest_75 (lv_at hl 1 rfl) ?_
          refine f_lald X (hP.at 2 rfl) (by decide) (by decide) dX2_lowest_77 ?_
          refine f_callV (F := fun q => q = mo) (C := RX2) (b := mo) (As := [.long (lN ((U 2) * (dst x1 y1 2 x y))), .long (lN (O 2))]) (rest := []) X (c_X2_put l g mo ua oa ga cd _ _ x1 y1 U O q (U 2 * dst x1 y1 2 x y) (O 2) hM (by omega) (by omega) hO0) ⟨mw_508, mw_510, mw_22, mw_40, mw_511⟩ sgX2_put ⟨rfl, rfl, ⟨by decide, by decide⟩, by decide, by decide⟩ (hP.at 0 rfl) rfl rfl (hP) hX.1 (fun q h => h) hlo rfl hl.1 rfl (Nat.le_of_ble_eq_true rfl) dX2_lowest_78 (fun v H106 locs hk107 hlo hp => ?_)
          obtain ⟨rfl, hP⟩ := hp
          have hX := hX.trf (fun q h => h) hk107
          refine W.eq (g2 := F0 m 81 ls []) rfl ?_
          rw [hgt_U pq eR] at hP
          refine lv_iload X.1 X.2.1 dX2_lowest_81 (lv_at hl 1 rfl) ?_
          refine lv_istore (lv' := [(5, .int (nI 2)), (7, .long (lN ((U 2) * (dst x1 y1 2 x y)))), (6, .int (nI 2)), (0, .ref mo), (1, .long (lN x)), (3, .long (lN y))]) X.1 X.2.1 dX2_lowest_83 hl (by decide) rfl (fun ls hl => ?_)
          refine lv_iinc (v := nI (2 + 1)) (lv' := [(6, .int (nI (2 + 1))), (5, .int (nI 2)), (7, .long (lN ((U 2) * (dst x1 y1 2 x y)))), (0, .ref mo), (1, .long (lN x)), (3, .long (lN y))]) X.1 X.2.1 dX2_lowest_85 hl (k := 2) rfl (nI_1 _) (by decide) rfl (fun ls hl => ?_)
          refine lv_goto (tgt := 6) X.1 X.2.1 dX2_lowest_88 (by decide) ?_
          have e9 : lwp x1 y1 q x y 2 = 2 := lwp_t (n := 1) hB101 (Or.inr (hlt.mpr hB105))
          exact LB3 _ _ ls hX hlo (by rw [e9]; exact hP) (by rw [e9]; exact lv_sub hl [0, 1, 3, 4, 5] rfl) (by rw [e9]; exact hB101)
  have LA1 : ∀ (ab be : Int64) (H : Heap) (locs : List Loc) (ls : Array Slot), hxf (fun q => q = mo) s.heap H → lok (fun q => q = mo) s.heap.size locs → MO g mo ua oa ga cd ab be x1 y1 U O q H → lv_has ls 9 [(6, .int (nI 1)), (5, .int (-1)), (0, .ref mo), (1, .long (lN x)), (3, .long (lN y))] → gab q 0 = true → W p l e { frames := 1, cells := 0, slots := 0, locals := 30 } s m ([.ref mo, .long (lN x), .long (lN y)] : List Value).toArray below meth c H locs 0 0 (MQ below (fQ (fun q => q = mo) (fun v H => v = some (.int (nI (lwp x1 y1 q x y 3))) ∧ MO g mo ua oa ga cd (lN (nu (hgt x1 y1 q x y (lwp x1 y1 q x y 3)))) (lN (hgt x1 y1 q x y (lwp x1 y1 q x y 3)).den) x1 y1 U O q H)) ([.ref mo, .long (lN x), .long (lN y)] : List Value).toArray s 0 0 (fun q => (fun q => q = mo) q ∨ s.heap.size ≤ q)) (F0 m 6 ls []) := by
    intro ab be H locs ls hX hlo hP hl t0
    refine lv_iload X.1 X.2.1 dX2_lowest_6 (lv_at hl 0 rfl) ?_
    refine lv_iconst (v := nI 4) X.1 X.2.1 dX2_lowest_8 (by decide) ?_
    refine lv_icmp_ge (tgt := 91) X.1 X.2.1 dX2_lowest_9 (by decide) (fun h9 => absurd h9 (by decide)) (fun _ => ?_)
    refine lv_aload_n X.1 X.2.1 dX2_lowest_12 rfl (lv_at hl 2 rfl) ?_
    refine p_get (T := TX2) X uX2 (hP.at 0 rfl) rfl 5 (by decide) mw_469 rfl rfl dX2_lowest_13 ?_
    refine lv_iload X.1 X.2.1 dX2_lowest_16 (lv_at hl 0 rfl) ?_
    refine f_zald X (hP.at 3 rfl) (by decide) (by decide) dX2_lowest_18 ?_
    refine q_Bne X (tgt := 85) dX2_lowest_19 (by decide) (fun hB101 => ?_) (fun hB101 => ?_)
    ·
      refine lv_iinc (v := nI (1 + 1)) (lv' := [(6, .int (nI (1 + 1))), (5, .int (-1)), (0, .ref mo), (1, .long (lN x)), (3, .long (lN y))]) X.1 X.2.1 dX2_lowest_85 hl (k := 0) rfl (nI_1 _) (by decide) rfl (fun ls hl => ?_)
      refine lv_goto (tgt := 6) X.1 X.2.1 dX2_lowest_88 (by decide) ?_
      exact LA2 _ _ _ _ ls hX hlo hP (lv_sub hl [0, 1, 2, 3, 4] rfl) t0 hB101
    ·
      have pq := gab_pos (hb 1 (by decide)) hB101
      have eR := hR 1 (by decide) hB101
      have hds := dst_le hO hx hy 1
      have hb1 := (hb 1 (by decide)).2.1
      have hb2 := (hb 1 (by decide)).2.2
      have hUn : U 1 ≤ 20 := by rw [eR.2]; exact hb2
      have hOn : O 1 ≤ 20 := by rw [eR.1]; exact hb1
      have hO0 : 0 < O 1 := by rw [eR.1]; exact nu_pos pq
      have hA9 : U 1 * dst x1 y1 1 x y ≤ 20 * 2000 := Nat.mul_le_mul hUn hds
      refine lv_aload_n X.1 X.2.1 dX2_lowest_22 rfl (lv_at hl 2 rfl) ?_
      refine p_get (T := TX2) X uX2 (hP.at 0 rfl) rfl 3 (by decide) mw_467 rfl rfl dX2_lowest_23 ?_
      refine lv_iload X.1 X.2.1 dX2_lowest_26 (lv_at hl 0 rfl) ?_
      refine f_lald X (hP.at 1 rfl) (by decide) (by decide) dX2_lowest_28 ?_
      refine lv_aload_n X.1 X.2.1 dX2_lowest_29 rfl (lv_at hl 2 rfl) ?_
      refine lv_iload X.1 X.2.1 dX2_lowest_30 (lv_at hl 0 rfl) ?_
      refine lv_lload_n X.1 X.2.1 dX2_lowest_32 rfl (lv_at hl 3 rfl) ?_
      refine lv_lload_n X.1 X.2.1 dX2_lowest_33 rfl (lv_at hl 4 rfl) ?_
      refine p_callV (C := RX2) (b := mo) (As := [.int (nI 1), .long (lN x), .long (lN y)]) (rest := [.long (lN (U 1))]) X (c_X2_far l g mo ua oa ga cd _ _ x1 y1 U O q 1 x y (by decide) hx hy) ⟨mw_528, mw_530, mw_25, mw_40, mw_531⟩ sgX2_far ⟨rfl, rfl, ⟨by decide, by decide⟩, by decide, by decide⟩ (hP.at 0 rfl) rfl rfl (hP.sub [0, 1, 2, 3] rfl) hX.1 rfl hl.1 rfl (Nat.le_of_ble_eq_true rfl) dX2_lowest_34 (fun v H102 hk103 hp => ?_)
      obtain rfl := hp
      have hX := hX.tr hk103
      have hP := PP.ext hP hk103
      refine W.eq (g2 := F0 m 37 ls [.long (lN (dst x1 y1 1 x y)), .long (lN (U 1))]) rfl ?_
      refine lv_lmul X.1 X.2.1 dX2_lowest_37 ?_
      refine w_l (lN_mul _ _) ?_
      refine lv_lstore (lv' := [(7, .long (lN ((U 1) * (dst x1 y1 1 x y)))), (6, .int (nI 1)), (5, .int (-1)), (0, .ref mo), (1, .long (lN x)), (3, .long (lN y))]) X.1 X.2.1 dX2_lowest_38 hl (by decide) rfl (fun ls hl => ?_)
      refine lv_iload X.1 X.2.1 dX2_lowest_40 (lv_at hl 2 rfl) ?_
      refine lv_if_lt (tgt := 68) X.1 X.2.1 dX2_lowest_42 (by decide) (fun hB104 => ?_) (fun hB104 => ?_)
      ·
        refine lv_aload_n X.1 X.2.1 dX2_lowest_68 rfl (lv_at hl 3 rfl) ?_
        refine lv_lload X.1 X.2.1 dX2_lowest_69 (lv_at hl 0 rfl) ?_
        refine lv_aload_n X.1 X.2.1 dX2_lowest_71 rfl (lv_at hl 3 rfl) ?_
        refine p_get (T := TX2) X uX2 (hP.at 0 rfl) rfl 4 (by decide) mw_468 rfl rfl dX2_lowest_72 ?_
        refine lv_iload X.1 X.2.1 dX2_lowest_75 (lv_at hl 1 rfl) ?_
        refine f_lald X (hP.at 2 rfl) (by decide) (by decide) dX2_lowest_77 ?_
        refine f_callV (F := fun q => q = mo) (C := RX2) (b := mo) (As := [.long (lN ((U 1) * (dst x1 y1 1 x y))), .long (lN (O 1))]) (rest := []) X (c_X2_put l g mo ua oa ga cd _ _ x1 y1 U O q (U 1 * dst x1 y1 1 x y) (O 1) hM (by omega) (by omega) hO0) ⟨mw_508, mw_510, mw_22, mw_40, mw_511⟩ sgX2_put ⟨rfl, rfl, ⟨by decide, by decide⟩, by decide, by decide⟩ (hP.at 0 rfl) rfl rfl (hP) hX.1 (fun q h => h) hlo rfl hl.1 rfl (Nat.le_of_ble_eq_true rfl) dX2_lowest_78 (fun v H105 locs hk106 hlo hp => ?_)
        obtain ⟨rfl, hP⟩ := hp
        have hX := hX.trf (fun q h => h) hk106
        refine W.eq (g2 := F0 m 81 ls []) rfl ?_
        rw [hgt_U pq eR] at hP
        refine lv_iload X.1 X.2.1 dX2_lowest_81 (lv_at hl 1 rfl) ?_
        refine lv_istore (lv' := [(5, .int (nI 1)), (7, .long (lN ((U 1) * (dst x1 y1 1 x y)))), (6, .int (nI 1)), (0, .ref mo), (1, .long (lN x)), (3, .long (lN y))]) X.1 X.2.1 dX2_lowest_83 hl (by decide) rfl (fun ls hl => ?_)
        refine lv_iinc (v := nI (1 + 1)) (lv' := [(6, .int (nI (1 + 1))), (5, .int (nI 1)), (7, .long (lN ((U 1) * (dst x1 y1 1 x y)))), (0, .ref mo), (1, .long (lN x)), (3, .long (lN y))]) X.1 X.2.1 dX2_lowest_85 hl (k := 2) rfl (nI_1 _) (by decide) rfl (fun ls hl => ?_)
        refine lv_goto (tgt := 6) X.1 X.2.1 dX2_lowest_88 (by decide) ?_
        have e9 : lwp x1 y1 q x y 1 = 1 := lwp_t (n := 0) hB101 (Or.inl t0)
        exact LB2 _ _ ls hX hlo (by rw [e9]; exact hP) (by rw [e9]; exact lv_sub hl [0, 1, 3, 4, 5] rfl) (by rw [e9]; exact hB101)
      ·
        exact absurd (by decide) hB104
  have LB1 : ∀ (H : Heap) (locs : List Loc) (ls : Array Slot), hxf (fun q => q = mo) s.heap H → lok (fun q => q = mo) s.heap.size locs → MO g mo ua oa ga cd (lN (nu (hgt x1 y1 q x y (lwp x1 y1 q x y 0)))) (lN (hgt x1 y1 q x y (lwp x1 y1 q x y 0)).den) x1 y1 U O q H → lv_has ls 9 [(6, .int (nI 1)), (5, .int (nI (lwp x1 y1 q x y 0))), (0, .ref mo), (1, .long (lN x)), (3, .long (lN y))] → gab q (lwp x1 y1 q x y 0) = false → W p l e { frames := 1, cells := 0, slots := 0, locals := 30 } s m ([.ref mo, .long (lN x), .long (lN y)] : List Value).toArray below meth c H locs 0 0 (MQ below (fQ (fun q => q = mo) (fun v H => v = some (.int (nI (lwp x1 y1 q x y 3))) ∧ MO g mo ua oa ga cd (lN (nu (hgt x1 y1 q x y (lwp x1 y1 q x y 3)))) (lN (hgt x1 y1 q x y (lwp x1 y1 q x y 3)).den) x1 y1 U O q H)) ([.ref mo, .long (lN x), .long (lN y)] : List Value).toArray s 0 0 (fun q => (fun q => q = mo) q ∨ s.heap.size ≤ q)) (F0 m 6 ls []) := by
    intro H locs ls hX hlo hP hl tB
    refine lv_iload X.1 X.2.1 dX2_lowest_6 (lv_at hl 0 rfl) ?_
    refine lv_iconst (v := nI 4) X.1 X.2.1 dX2_lowest_8 (by decide) ?_
    refine lv_icmp_ge (tgt := 91) X.1 X.2.1 dX2_lowest_9 (by decide) (fun h9 => absurd h9 (by decide)) (fun _ => ?_)
    refine lv_aload_n X.1 X.2.1 dX2_lowest_12 rfl (lv_at hl 2 rfl) ?_
    refine p_get (T := TX2) X uX2 (hP.at 0 rfl) rfl 5 (by decide) mw_469 rfl rfl dX2_lowest_13 ?_
    refine lv_iload X.1 X.2.1 dX2_lowest_16 (lv_at hl 0 rfl) ?_
    refine f_zald X (hP.at 3 rfl) (by decide) (by decide) dX2_lowest_18 ?_
    refine q_Bne X (tgt := 85) dX2_lowest_19 (by decide) (fun hB101 => ?_) (fun hB101 => ?_)
    ·
      refine lv_iinc (v := nI (1 + 1)) (lv' := [(6, .int (nI (1 + 1))), (5, .int (nI (lwp x1 y1 q x y 0))), (0, .ref mo), (1, .long (lN x)), (3, .long (lN y))]) X.1 X.2.1 dX2_lowest_85 hl (k := 0) rfl (nI_1 _) (by decide) rfl (fun ls hl => ?_)
      refine lv_goto (tgt := 6) X.1 X.2.1 dX2_lowest_88 (by decide) ?_
      have e9 : lwp x1 y1 q x y 1 = lwp x1 y1 q x y 0 := lwp_f (n := 0) (Or.inl hB101)
      exact LB2 _ _ ls hX hlo (by rw [e9]; exact hP) (by rw [e9]; exact lv_sub hl [0, 1, 2, 3, 4] rfl) (by rw [e9]; exact tB)
    ·
      have pq := gab_pos (hb 1 (by decide)) hB101
      have eR := hR 1 (by decide) hB101
      have hds := dst_le hO hx hy 1
      have hb1 := (hb 1 (by decide)).2.1
      have hb2 := (hb 1 (by decide)).2.2
      have hUn : U 1 ≤ 20 := by rw [eR.2]; exact hb2
      have hOn : O 1 ≤ 20 := by rw [eR.1]; exact hb1
      have hO0 : 0 < O 1 := by rw [eR.1]; exact nu_pos pq
      have hA9 : U 1 * dst x1 y1 1 x y ≤ 20 * 2000 := Nat.mul_le_mul hUn hds
      refine lv_aload_n X.1 X.2.1 dX2_lowest_22 rfl (lv_at hl 2 rfl) ?_
      refine p_get (T := TX2) X uX2 (hP.at 0 rfl) rfl 3 (by decide) mw_467 rfl rfl dX2_lowest_23 ?_
      refine lv_iload X.1 X.2.1 dX2_lowest_26 (lv_at hl 0 rfl) ?_
      refine f_lald X (hP.at 1 rfl) (by decide) (by decide) dX2_lowest_28 ?_
      refine lv_aload_n X.1 X.2.1 dX2_lowest_29 rfl (lv_at hl 2 rfl) ?_
      refine lv_iload X.1 X.2.1 dX2_lowest_30 (lv_at hl 0 rfl) ?_
      refine lv_lload_n X.1 X.2.1 dX2_lowest_32 rfl (lv_at hl 3 rfl) ?_
      refine lv_lload_n X.1 X.2.1 dX2_lowest_33 rfl (lv_at hl 4 rfl) ?_
      refine p_callV (C := RX2) (b := mo) (As := [.int (nI 1), .long (lN x), .long (lN y)]) (rest := [.long (lN (U 1))]) X (c_X2_far l g mo ua oa ga cd _ _ x1 y1 U O q 1 x y (by decide) hx hy) ⟨mw_528, mw_530, mw_25, mw_40, mw_531⟩ sgX2_far ⟨rfl, rfl, ⟨by decide, by decide⟩, by decide, by decide⟩ (hP.at 0 rfl) rfl rfl (hP.sub [0, 1, 2, 3] rfl) hX.1 rfl hl.1 rfl (Nat.le_of_ble_eq_true rfl) dX2_lowest_34 (fun v H102 hk103 hp => ?_)
      obtain rfl := hp
      have hX := hX.tr hk103
      have hP := PP.ext hP hk103
      refine W.eq (g2 := F0 m 37 ls [.long (lN (dst x1 y1 1 x y)), .long (lN (U 1))]) rfl ?_
      refine lv_lmul X.1 X.2.1 dX2_lowest_37 ?_
      refine w_l (lN_mul _ _) ?_
      refine lv_lstore (lv' := [(7, .long (lN ((U 1) * (dst x1 y1 1 x y)))), (6, .int (nI 1)), (5, .int (nI (lwp x1 y1 q x y 0))), (0, .ref mo), (1, .long (lN x)), (3, .long (lN y))]) X.1 X.2.1 dX2_lowest_38 hl (by decide) rfl (fun ls hl => ?_)
      refine lv_iload X.1 X.2.1 dX2_lowest_40 (lv_at hl 2 rfl) ?_
      have hcl : lwp x1 y1 q x y 0 < 4 := Nat.lt_of_le_of_lt (lwp_le _ _ _ _ _ _) (by decide)
      have bz := bd_hgt hO hx hy hcl tB
      have hlt := lt_frac (a := U 1 * dst x1 y1 1 x y) (b := O 1) hO0 bz.1
      rw [hgt_U pq eR] at hlt
      have hm1 : (U 1 * dst x1 y1 1 x y) * (hgt x1 y1 q x y (lwp x1 y1 q x y 0)).den ≤ 40000 * 20 := Nat.mul_le_mul hA9 bz.2.2
      have hm2 : nu (hgt x1 y1 q x y (lwp x1 y1 q x y 0)) * O 1 ≤ 40000 * 20 := Nat.mul_le_mul bz.2.1 hOn
      refine lv_if_lt (tgt := 68) X.1 X.2.1 dX2_lowest_42 (by decide) (fun hB104 => ?_) (fun hB104 => ?_)
      ·
        exact absurd hB104 (nI_pos (by omega))
      ·
        refine lv_lload X.1 X.2.1 dX2_lowest_45 (lv_at hl 0 rfl) ?_
        refine lv_aload_n X.1 X.2.1 dX2_lowest_47 rfl (lv_at hl 3 rfl) ?_
        refine p_get (T := TX2) X uX2 (hP.at 0 rfl) rfl 7 (by decide) mw_471 rfl rfl dX2_lowest_48 ?_
        refine lv_lmul X.1 X.2.1 dX2_lowest_51 ?_
        refine w_l (lN_mul _ _) ?_
        refine lv_aload_n X.1 X.2.1 dX2_lowest_52 rfl (lv_at hl 3 rfl) ?_
        refine p_get (T := TX2) X uX2 (hP.at 0 rfl) rfl 6 (by decide) mw_470 rfl rfl dX2_lowest_53 ?_
        refine lv_aload_n X.1 X.2.1 dX2_lowest_56 rfl (lv_at hl 3 rfl) ?_
        refine p_get (T := TX2) X uX2 (hP.at 0 rfl) rfl 4 (by decide) mw_468 rfl rfl dX2_lowest_57 ?_
        refine lv_iload X.1 X.2.1 dX2_lowest_60 (lv_at hl 1 rfl) ?_
        refine f_lald X (hP.at 2 rfl) (by decide) (by decide) dX2_lowest_62 ?_
        refine lv_lmul X.1 X.2.1 dX2_lowest_63 ?_
        refine w_l (lN_mul _ _) ?_
        refine q_Nge X (by omega) (by omega) (tgt := 85) dX2_lowest_64 dX2_lowest_65 (by decide) (fun hB105 => ?_) (fun hB105 => ?_)
        ·
          refine lv_iinc (v := nI (1 + 1)) (lv' := [(6, .int (nI (1 + 1))), (7, .long (lN ((U 1) * (dst x1 y1 1 x y)))), (5, .int (nI (lwp x1 y1 q x y 0))), (0, .ref mo), (1, .long (lN x)), (3, .long (lN y))]) X.1 X.2.1 dX2_lowest_85 hl (k := 1) rfl (nI_1 _) (by decide) rfl (fun ls hl => ?_)
          refine lv_goto (tgt := 6) X.1 X.2.1 dX2_lowest_88 (by decide) ?_
          have e9 : lwp x1 y1 q x y 1 = lwp x1 y1 q x y 0 := lwp_f (n := 0) (Or.inr ⟨tB, fun h8 => by have := hlt.mp h8; omega⟩)
          exact LB2 _ _ ls hX hlo (by rw [e9]; exact hP) (by rw [e9]; exact lv_sub hl [0, 2, 3, 4, 5] rfl) (by rw [e9]; exact tB)
        ·
          refine lv_aload_n X.1 X.2.1 dX2_lowest_68 rfl (lv_at hl 3 rfl) ?_
          refine lv_lload X.1 X.2.1 dX2_lowest_69 (lv_at hl 0 rfl) ?_
          refine lv_aload_n X.1 X.2.1 dX2_lowest_71 rfl (lv_at hl 3 rfl) ?_
          refine p_get (T := TX2) X uX2 (hP.at 0 rfl) rfl 4 (by decide) mw_468 rfl rfl dX2_lowest_72 ?_
          refine lv_iload X.1 X.2.1 dX2_lowest_75 (lv_at hl 1 rfl) ?_
          refine f_lald X (hP.at 2 rfl) (by decide) (by decide) dX2_lowest_77 ?_
          refine f_callV (F := fun q => q = mo) (C := RX2) (b := mo) (As := [.long (lN ((U 1) * (dst x1 y1 1 x y))), .long (lN (O 1))]) (rest := []) X (c_X2_put l g mo ua oa ga cd _ _ x1 y1 U O q (U 1 * dst x1 y1 1 x y) (O 1) hM (by omega) (by omega) hO0) ⟨mw_508, mw_510, mw_22, mw_40, mw_511⟩ sgX2_put ⟨rfl, rfl, ⟨by decide, by decide⟩, by decide, by decide⟩ (hP.at 0 rfl) rfl rfl (hP) hX.1 (fun q h => h) hlo rfl hl.1 rfl (Nat.le_of_ble_eq_true rfl) dX2_lowest_78 (fun v H106 locs hk107 hlo hp => ?_)
          obtain ⟨rfl, hP⟩ := hp
          have hX := hX.trf (fun q h => h) hk107
          refine W.eq (g2 := F0 m 81 ls []) rfl ?_
          rw [hgt_U pq eR] at hP
          refine lv_iload X.1 X.2.1 dX2_lowest_81 (lv_at hl 1 rfl) ?_
          refine lv_istore (lv' := [(5, .int (nI 1)), (7, .long (lN ((U 1) * (dst x1 y1 1 x y)))), (6, .int (nI 1)), (0, .ref mo), (1, .long (lN x)), (3, .long (lN y))]) X.1 X.2.1 dX2_lowest_83 hl (by decide) rfl (fun ls hl => ?_)
          refine lv_iinc (v := nI (1 + 1)) (lv' := [(6, .int (nI (1 + 1))), (5, .int (nI 1)), (7, .long (lN ((U 1) * (dst x1 y1 1 x y)))), (0, .ref mo), (1, .long (lN x)), (3, .long (lN y))]) X.1 X.2.1 dX2_lowest_85 hl (k := 2) rfl (nI_1 _) (by decide) rfl (fun ls hl => ?_)
          refine lv_goto (tgt := 6) X.1 X.2.1 dX2_lowest_88 (by decide) ?_
          have e9 : lwp x1 y1 q x y 1 = 1 := lwp_t (n := 0) hB101 (Or.inr (hlt.mpr hB105))
          exact LB2 _ _ ls hX hlo (by rw [e9]; exact hP) (by rw [e9]; exact lv_sub hl [0, 1, 3, 4, 5] rfl) (by rw [e9]; exact hB101)
  have LA0 : ∀ (ab be : Int64) (H : Heap) (locs : List Loc) (ls : Array Slot), hxf (fun q => q = mo) s.heap H → lok (fun q => q = mo) s.heap.size locs → MO g mo ua oa ga cd ab be x1 y1 U O q H → lv_has ls 9 [(6, .int (nI 0)), (5, .int (-1)), (0, .ref mo), (1, .long (lN x)), (3, .long (lN y))] → W p l e { frames := 1, cells := 0, slots := 0, locals := 30 } s m ([.ref mo, .long (lN x), .long (lN y)] : List Value).toArray below meth c H locs 0 0 (MQ below (fQ (fun q => q = mo) (fun v H => v = some (.int (nI (lwp x1 y1 q x y 3))) ∧ MO g mo ua oa ga cd (lN (nu (hgt x1 y1 q x y (lwp x1 y1 q x y 3)))) (lN (hgt x1 y1 q x y (lwp x1 y1 q x y 3)).den) x1 y1 U O q H)) ([.ref mo, .long (lN x), .long (lN y)] : List Value).toArray s 0 0 (fun q => (fun q => q = mo) q ∨ s.heap.size ≤ q)) (F0 m 6 ls []) := by
    intro ab be H locs ls hX hlo hP hl
    refine lv_iload X.1 X.2.1 dX2_lowest_6 (lv_at hl 0 rfl) ?_
    refine lv_iconst (v := nI 4) X.1 X.2.1 dX2_lowest_8 (by decide) ?_
    refine lv_icmp_ge (tgt := 91) X.1 X.2.1 dX2_lowest_9 (by decide) (fun h9 => absurd h9 (by decide)) (fun _ => ?_)
    refine lv_aload_n X.1 X.2.1 dX2_lowest_12 rfl (lv_at hl 2 rfl) ?_
    refine p_get (T := TX2) X uX2 (hP.at 0 rfl) rfl 5 (by decide) mw_469 rfl rfl dX2_lowest_13 ?_
    refine lv_iload X.1 X.2.1 dX2_lowest_16 (lv_at hl 0 rfl) ?_
    refine f_zald X (hP.at 3 rfl) (by decide) (by decide) dX2_lowest_18 ?_
    refine q_Bne X (tgt := 85) dX2_lowest_19 (by decide) (fun hB101 => ?_) (fun hB101 => ?_)
    ·
      refine lv_iinc (v := nI (0 + 1)) (lv' := [(6, .int (nI (0 + 1))), (5, .int (-1)), (0, .ref mo), (1, .long (lN x)), (3, .long (lN y))]) X.1 X.2.1 dX2_lowest_85 hl (k := 0) rfl (nI_1 _) (by decide) rfl (fun ls hl => ?_)
      refine lv_goto (tgt := 6) X.1 X.2.1 dX2_lowest_88 (by decide) ?_
      exact LA1 _ _ _ _ ls hX hlo hP (lv_sub hl [0, 1, 2, 3, 4] rfl) hB101
    ·
      have pq := gab_pos (hb 0 (by decide)) hB101
      have eR := hR 0 (by decide) hB101
      have hds := dst_le hO hx hy 0
      have hb1 := (hb 0 (by decide)).2.1
      have hb2 := (hb 0 (by decide)).2.2
      have hUn : U 0 ≤ 20 := by rw [eR.2]; exact hb2
      have hOn : O 0 ≤ 20 := by rw [eR.1]; exact hb1
      have hO0 : 0 < O 0 := by rw [eR.1]; exact nu_pos pq
      have hA9 : U 0 * dst x1 y1 0 x y ≤ 20 * 2000 := Nat.mul_le_mul hUn hds
      refine lv_aload_n X.1 X.2.1 dX2_lowest_22 rfl (lv_at hl 2 rfl) ?_
      refine p_get (T := TX2) X uX2 (hP.at 0 rfl) rfl 3 (by decide) mw_467 rfl rfl dX2_lowest_23 ?_
      refine lv_iload X.1 X.2.1 dX2_lowest_26 (lv_at hl 0 rfl) ?_
      refine f_lald X (hP.at 1 rfl) (by decide) (by decide) dX2_lowest_28 ?_
      refine lv_aload_n X.1 X.2.1 dX2_lowest_29 rfl (lv_at hl 2 rfl) ?_
      refine lv_iload X.1 X.2.1 dX2_lowest_30 (lv_at hl 0 rfl) ?_
      refine lv_lload_n X.1 X.2.1 dX2_lowest_32 rfl (lv_at hl 3 rfl) ?_
      refine lv_lload_n X.1 X.2.1 dX2_lowest_33 rfl (lv_at hl 4 rfl) ?_
      refine p_callV (C := RX2) (b := mo) (As := [.int (nI 0), .long (lN x), .long (lN y)]) (rest := [.long (lN (U 0))]) X (c_X2_far l g mo ua oa ga cd _ _ x1 y1 U O q 0 x y (by decide) hx hy) ⟨mw_528, mw_530, mw_25, mw_40, mw_531⟩ sgX2_far ⟨rfl, rfl, ⟨by decide, by decide⟩, by decide, by decide⟩ (hP.at 0 rfl) rfl rfl (hP.sub [0, 1, 2, 3] rfl) hX.1 rfl hl.1 rfl (Nat.le_of_ble_eq_true rfl) dX2_lowest_34 (fun v H102 hk103 hp => ?_)
      obtain rfl := hp
      have hX := hX.tr hk103
      have hP := PP.ext hP hk103
      refine W.eq (g2 := F0 m 37 ls [.long (lN (dst x1 y1 0 x y)), .long (lN (U 0))]) rfl ?_
      refine lv_lmul X.1 X.2.1 dX2_lowest_37 ?_
      refine w_l (lN_mul _ _) ?_
      refine lv_lstore (lv' := [(7, .long (lN ((U 0) * (dst x1 y1 0 x y)))), (6, .int (nI 0)), (5, .int (-1)), (0, .ref mo), (1, .long (lN x)), (3, .long (lN y))]) X.1 X.2.1 dX2_lowest_38 hl (by decide) rfl (fun ls hl => ?_)
      refine lv_iload X.1 X.2.1 dX2_lowest_40 (lv_at hl 2 rfl) ?_
      refine lv_if_lt (tgt := 68) X.1 X.2.1 dX2_lowest_42 (by decide) (fun hB104 => ?_) (fun hB104 => ?_)
      ·
        refine lv_aload_n X.1 X.2.1 dX2_lowest_68 rfl (lv_at hl 3 rfl) ?_
        refine lv_lload X.1 X.2.1 dX2_lowest_69 (lv_at hl 0 rfl) ?_
        refine lv_aload_n X.1 X.2.1 dX2_lowest_71 rfl (lv_at hl 3 rfl) ?_
        refine p_get (T := TX2) X uX2 (hP.at 0 rfl) rfl 4 (by decide) mw_468 rfl rfl dX2_lowest_72 ?_
        refine lv_iload X.1 X.2.1 dX2_lowest_75 (lv_at hl 1 rfl) ?_
        refine f_lald X (hP.at 2 rfl) (by decide) (by decide) dX2_lowest_77 ?_
        refine f_callV (F := fun q => q = mo) (C := RX2) (b := mo) (As := [.long (lN ((U 0) * (dst x1 y1 0 x y))), .long (lN (O 0))]) (rest := []) X (c_X2_put l g mo ua oa ga cd _ _ x1 y1 U O q (U 0 * dst x1 y1 0 x y) (O 0) hM (by omega) (by omega) hO0) ⟨mw_508, mw_510, mw_22, mw_40, mw_511⟩ sgX2_put ⟨rfl, rfl, ⟨by decide, by decide⟩, by decide, by decide⟩ (hP.at 0 rfl) rfl rfl (hP) hX.1 (fun q h => h) hlo rfl hl.1 rfl (Nat.le_of_ble_eq_true rfl) dX2_lowest_78 (fun v H105 locs hk106 hlo hp => ?_)
        obtain ⟨rfl, hP⟩ := hp
        have hX := hX.trf (fun q h => h) hk106
        refine W.eq (g2 := F0 m 81 ls []) rfl ?_
        rw [hgt_U pq eR] at hP
        refine lv_iload X.1 X.2.1 dX2_lowest_81 (lv_at hl 1 rfl) ?_
        refine lv_istore (lv' := [(5, .int (nI 0)), (7, .long (lN ((U 0) * (dst x1 y1 0 x y)))), (6, .int (nI 0)), (0, .ref mo), (1, .long (lN x)), (3, .long (lN y))]) X.1 X.2.1 dX2_lowest_83 hl (by decide) rfl (fun ls hl => ?_)
        refine lv_iinc (v := nI (0 + 1)) (lv' := [(6, .int (nI (0 + 1))), (5, .int (nI 0)), (7, .long (lN ((U 0) * (dst x1 y1 0 x y)))), (0, .ref mo), (1, .long (lN x)), (3, .long (lN y))]) X.1 X.2.1 dX2_lowest_85 hl (k := 2) rfl (nI_1 _) (by decide) rfl (fun ls hl => ?_)
        refine lv_goto (tgt := 6) X.1 X.2.1 dX2_lowest_88 (by decide) ?_
        have e9 : lwp x1 y1 q x y 0 = 0 := rfl
        exact LB1 _ _ ls hX hlo (by rw [e9]; exact hP) (by rw [e9]; exact lv_sub hl [0, 1, 3, 4, 5] rfl) (by rw [e9]; exact hB101)
      ·
        exact absurd (by decide) hB104
  have hl : lv_has ls 9 [(0, .ref mo), (1, .long (lN x)), (3, .long (lN y))] := hl
  have hX : hxf (fun q => q = mo) s.heap s.heap := hxf.rf
  have hlo : lok (fun q => q = mo) s.heap.size ([] : List Loc) := lok.nil
  have hP : PP g [(mo, .inr (2, [.int cd, .long (lN x1), .long (lN y1), .ref ua, .ref oa, .ref ga, .long ab, .long be])), mla g ua U, mla g oa O, mza g ga q] s.heap := hP
  refine lv_iconst (v := (-1)) X.1 X.2.1 dX2_lowest_0 (by decide) ?_
  refine lv_istore (lv' := [(5, .int (-1)), (0, .ref mo), (1, .long (lN x)), (3, .long (lN y))]) X.1 X.2.1 dX2_lowest_1 hl (by decide) rfl (fun ls hl => ?_)
  refine lv_iconst (v := nI 0) X.1 X.2.1 dX2_lowest_3 (by decide) ?_
  refine lv_istore (lv' := [(6, .int (nI 0)), (5, .int (-1)), (0, .ref mo), (1, .long (lN x)), (3, .long (lN y))]) X.1 X.2.1 dX2_lowest_4 hl (by decide) rfl (fun ls hl => ?_)
  exact LA0 _ _ _ _ ls hX hlo hP (lv_sub hl [0, 1, 2, 3, 4] rfl)
set_option maxHeartbeats 4000000 in
set_option maxRecDepth 100000 in
theorem c_X2_top (l : Launch) (g : En) (mo ua oa ga : Nat) (cd : Int32) (ab be : Int64) (x1 y1 : Nat) (U O : Nat → Nat) (q : Nat → Rat) (k : Nat) (hO : OK x1 y1 q) (hR : MR q U O) (hM : MD mo ua oa ga) (hk : k < 2) : FM l yX2_top cX2_top 6 (some FieldType.boolean) { frames := 1, cells := 0, slots := 0, locals := 30 } g [.ref mo, .int (nI k)] (fun H => MO g mo ua oa ga cd ab be x1 y1 U O q H) (fun q => q = mo) 0 0 (fun v H => v = some (.int (bI (!(gab q k && gab q (k + 2))))) ∧ ∃ ab1 be1 : Int64, MO g mo ua oa ga cd ab1 be1 x1 y1 U O q H ∧ ((gab q k && gab q (k + 2)) = false → ab1 = lN (nu ((q k + q (k + 2))⁻¹ * ((wayo x1 y1 k : Nat) : Rat))) ∧ be1 = lN ((q k + q (k + 2))⁻¹ * ((wayo x1 y1 k : Nat) : Rat)).den)) := by
  refine FM.of (by decide) (Nat.le_of_ble_eq_true rfl) (fun p e s m below meth c ls X hP hl => ?_)
  have kk4 : k < 4 := by omega
  have kk2 : k + 2 < 4 := by omega
  have b1 := hO.2.2.1 k kk4
  have b2 := hO.2.2.1 (k + 2) kk2
  have hw := wayo_le hO k
  have hl : lv_has ls 6 [(0, .ref mo), (1, .int (nI k))] := hl
  have hX : hxf (fun q => q = mo) s.heap s.heap := hxf.rf
  have hlo : lok (fun q => q = mo) s.heap.size ([] : List Loc) := lok.nil
  have hP : PP g [(mo, .inr (2, [.int cd, .long (lN x1), .long (lN y1), .ref ua, .ref oa, .ref ga, .long ab, .long be])), mla g ua U, mla g oa O, mza g ga q] s.heap := hP
  refine lv_iload_n X.1 X.2.1 dX2_top_0 rfl (lv_at hl 1 rfl) ?_
  refine lv_iconst (v := nI 2) X.1 X.2.1 dX2_top_1 (by decide) ?_
  refine lv_iadd X.1 X.2.1 dX2_top_2 ?_
  refine w_i (nI_add _ _) ?_
  refine lv_istore_n (lv' := [(2, .int (nI (k + 2))), (0, .ref mo), (1, .int (nI k))]) X.1 X.2.1 dX2_top_3 rfl hl (by decide) rfl (fun ls hl => ?_)
  refine lv_aload_n X.1 X.2.1 dX2_top_4 rfl (lv_at hl 1 rfl) ?_
  refine lv_iload_n X.1 X.2.1 dX2_top_5 rfl (lv_at hl 2 rfl) ?_
  refine p_callV (C := RX2) (b := mo) (As := [.int (nI k)]) (rest := []) X (c_X2_depth l g mo ua oa ga cd ab be x1 y1 U O q k kk4) ⟨mw_569, mw_571, mw_32, mw_40, mw_572⟩ sgX2_depth ⟨rfl, rfl, ⟨by decide, by decide⟩, by decide, by decide⟩ (hP.at 0 rfl) rfl rfl (hP.sub [0, 1, 2, 3] rfl) hX.1 rfl hl.1 rfl (Nat.le_of_ble_eq_true rfl) dX2_top_6 (fun v H1 hk2 hp => ?_)
  obtain rfl := hp
  have hX := hX.tr hk2
  have hP := PP.ext hP hk2
  refine W.eq (g2 := F0 m 9 ls [.long (lN (wayo x1 y1 k))]) rfl ?_
  refine lv_lstore_n (lv' := [(3, .long (lN (wayo x1 y1 k))), (2, .int (nI (k + 2))), (0, .ref mo), (1, .int (nI k))]) X.1 X.2.1 dX2_top_9 rfl hl (by decide) rfl (fun ls hl => ?_)
  refine lv_aload_n X.1 X.2.1 dX2_top_10 rfl (lv_at hl 2 rfl) ?_
  refine p_get (T := TX2) X uX2 (hP.at 0 rfl) rfl 5 (by decide) mw_469 rfl rfl dX2_top_11 ?_
  refine lv_iload_n X.1 X.2.1 dX2_top_14 rfl (lv_at hl 3 rfl) ?_
  refine f_zald X (hP.at 3 rfl) kk4 (by decide) dX2_top_15 ?_
  refine q_Beq X (tgt := 30) dX2_top_16 (by decide) (fun hB3 => ?_) (fun hB3 => ?_)
  ·
    refine lv_aload_n X.1 X.2.1 dX2_top_30 rfl (lv_at hl 2 rfl) ?_
    refine p_get (T := TX2) X uX2 (hP.at 0 rfl) rfl 5 (by decide) mw_469 rfl rfl dX2_top_31 ?_
    refine lv_iload_n X.1 X.2.1 dX2_top_34 rfl (lv_at hl 3 rfl) ?_
    refine f_zald X (hP.at 3 rfl) kk4 (by decide) dX2_top_35 ?_
    refine q_Bne X (tgt := 48) dX2_top_36 (by decide) (fun hB4 => ?_) (fun hB4 => ?_)
    ·
      rw [hB3] at hB4; cases hB4
    ·
      refine lv_aload_n X.1 X.2.1 dX2_top_39 rfl (lv_at hl 2 rfl) ?_
      refine p_get (T := TX2) X uX2 (hP.at 0 rfl) rfl 5 (by decide) mw_469 rfl rfl dX2_top_40 ?_
      refine lv_iload_n X.1 X.2.1 dX2_top_43 rfl (lv_at hl 1 rfl) ?_
      refine f_zald X (hP.at 3 rfl) kk2 (by decide) dX2_top_44 ?_
      refine q_Beq X (tgt := 87) dX2_top_45 (by decide) (fun hB5 => ?_) (fun hB5 => ?_)
      ·
        have p1 := gab_pos b1 hB3
        have p2 := gab_pos b2 hB5
        have e1 := hR k kk4 hB3
        have e2 := hR (k + 2) kk2 hB5
        refine lv_aload_n X.1 X.2.1 dX2_top_87 rfl (lv_at hl 2 rfl) ?_
        refine lv_lload_n X.1 X.2.1 dX2_top_88 rfl (lv_at hl 0 rfl) ?_
        refine lv_aload_n X.1 X.2.1 dX2_top_89 rfl (lv_at hl 2 rfl) ?_
        refine p_get (T := TX2) X uX2 (hP.at 0 rfl) rfl 3 (by decide) mw_467 rfl rfl dX2_top_90 ?_
        refine lv_iload_n X.1 X.2.1 dX2_top_93 rfl (lv_at hl 3 rfl) ?_
        refine f_lald X (hP.at 1 rfl) kk4 (by decide) dX2_top_94 ?_
        refine w_l (v' := lN ((q k).den)) (by rw [(e1).2]) ?_
        refine lv_lmul X.1 X.2.1 dX2_top_95 ?_
        refine w_l (lN_mul _ _) ?_
        refine lv_aload_n X.1 X.2.1 dX2_top_96 rfl (lv_at hl 2 rfl) ?_
        refine p_get (T := TX2) X uX2 (hP.at 0 rfl) rfl 3 (by decide) mw_467 rfl rfl dX2_top_97 ?_
        refine lv_iload_n X.1 X.2.1 dX2_top_100 rfl (lv_at hl 1 rfl) ?_
        refine f_lald X (hP.at 1 rfl) kk2 (by decide) dX2_top_101 ?_
        refine w_l (v' := lN ((q (k + 2)).den)) (by rw [(e2).2]) ?_
        refine lv_lmul X.1 X.2.1 dX2_top_102 ?_
        refine w_l (lN_mul _ _) ?_
        refine lv_aload_n X.1 X.2.1 dX2_top_103 rfl (lv_at hl 2 rfl) ?_
        refine p_get (T := TX2) X uX2 (hP.at 0 rfl) rfl 3 (by decide) mw_467 rfl rfl dX2_top_104 ?_
        refine lv_iload_n X.1 X.2.1 dX2_top_107 rfl (lv_at hl 3 rfl) ?_
        refine f_lald X (hP.at 1 rfl) kk4 (by decide) dX2_top_108 ?_
        refine w_l (v' := lN ((q k).den)) (by rw [(e1).2]) ?_
        refine lv_aload_n X.1 X.2.1 dX2_top_109 rfl (lv_at hl 2 rfl) ?_
        refine p_get (T := TX2) X uX2 (hP.at 0 rfl) rfl 4 (by decide) mw_468 rfl rfl dX2_top_110 ?_
        refine lv_iload_n X.1 X.2.1 dX2_top_113 rfl (lv_at hl 1 rfl) ?_
        refine f_lald X (hP.at 2 rfl) kk2 (by decide) dX2_top_114 ?_
        refine w_l (v' := lN (nu (q (k + 2)))) (by rw [(e2).1]) ?_
        refine lv_lmul X.1 X.2.1 dX2_top_115 ?_
        refine w_l (lN_mul _ _) ?_
        refine lv_aload_n X.1 X.2.1 dX2_top_116 rfl (lv_at hl 2 rfl) ?_
        refine p_get (T := TX2) X uX2 (hP.at 0 rfl) rfl 3 (by decide) mw_467 rfl rfl dX2_top_117 ?_
        refine lv_iload_n X.1 X.2.1 dX2_top_120 rfl (lv_at hl 1 rfl) ?_
        refine f_lald X (hP.at 1 rfl) kk2 (by decide) dX2_top_121 ?_
        refine w_l (v' := lN ((q (k + 2)).den)) (by rw [(e2).2]) ?_
        refine lv_aload_n X.1 X.2.1 dX2_top_122 rfl (lv_at hl 2 rfl) ?_
        refine p_get (T := TX2) X uX2 (hP.at 0 rfl) rfl 4 (by decide) mw_468 rfl rfl dX2_top_123 ?_
        refine lv_iload_n X.1 X.2.1 dX2_top_126 rfl (lv_at hl 3 rfl) ?_
        refine f_lald X (hP.at 2 rfl) kk4 (by decide) dX2_top_127 ?_
        refine w_l (v' := lN (nu (q k))) (by rw [(e1).1]) ?_
        refine lv_lmul X.1 X.2.1 dX2_top_128 ?_
        refine w_l (lN_mul _ _) ?_
        refine lv_ladd X.1 X.2.1 dX2_top_129 ?_
        refine w_l (lN_add _ _) ?_
        have hs1 : (q k).den * nu (q (k + 2)) ≤ 20 * 20 := Nat.mul_le_mul b1.2.2 b2.2.1
        have hs2 : (q (k + 2)).den * nu (q k) ≤ 20 * 20 := Nat.mul_le_mul b2.2.2 b1.2.1
        have hs3 : 0 < (q k).den * nu (q (k + 2)) := Nat.mul_pos (dn_pos _) (nu_pos p2)
        refine f_callV (F := fun q => q = mo) (C := RX2) (b := mo) (As := [.long (lN (((wayo x1 y1 k) * ((q k).den)) * ((q (k + 2)).den))), .long (lN ((((q k).den) * (nu (q (k + 2)))) + (((q (k + 2)).den) * (nu (q k)))))]) (rest := []) X (c_X2_put l g mo ua oa ga cd _ _ x1 y1 U O q (wayo x1 y1 k * (q k).den * (q (k + 2)).den) ((q k).den * nu (q (k + 2)) + (q (k + 2)).den * nu (q k)) hM (Nat.lt_of_le_of_lt (Nat.mul_le_mul (Nat.mul_le_mul hw b1.2.2) b2.2.2) (by decide)) (by omega) (by omega)) ⟨mw_508, mw_510, mw_22, mw_40, mw_511⟩ sgX2_put ⟨rfl, rfl, ⟨by decide, by decide⟩, by decide, by decide⟩ (hP.at 0 rfl) rfl rfl (hP) hX.1 (fun q h => h) hlo rfl hl.1 rfl (Nat.le_of_ble_eq_true rfl) dX2_top_130 (fun v H6 locs hk7 hlo hp => ?_)
        obtain ⟨rfl, hP⟩ := hp
        have hX := hX.trf (fun q h => h) hk7
        refine W.eq (g2 := F0 m 133 ls []) rfl ?_
        rw [tp2 p1 p2] at hP
        refine lv_iconst (v := nI 1) X.1 X.2.1 dX2_top_133 (by decide) ?_
        refine w_i (v' := bI true) (by decide) ?_
        exact f_zret (v := true) X hX hlo (⟨by rw [hB3]; rfl, _, _, hP, fun _ => ⟨rfl, rfl⟩⟩) ⟨by decide, by decide⟩ dX2_top_134
      ·
        refine lv_aload_n X.1 X.2.1 dX2_top_48 rfl (lv_at hl 2 rfl) ?_
        refine p_get (T := TX2) X uX2 (hP.at 0 rfl) rfl 5 (by decide) mw_469 rfl rfl dX2_top_49 ?_
        refine lv_iload_n X.1 X.2.1 dX2_top_52 rfl (lv_at hl 3 rfl) ?_
        refine f_zald X (hP.at 3 rfl) kk4 (by decide) dX2_top_53 ?_
        refine q_Beq X (tgt := 61) dX2_top_54 (by decide) (fun hB8 => ?_) (fun hB8 => ?_)
        ·
          have pq := gab_pos b1 hB3
          have eR := hR k kk4 hB3
          refine lv_iload_n X.1 X.2.1 dX2_top_61 rfl (lv_at hl 3 rfl) ?_
          refine lv_istore (lv' := [(5, .int (nI k)), (3, .long (lN (wayo x1 y1 k))), (2, .int (nI (k + 2))), (0, .ref mo), (1, .int (nI k))]) X.1 X.2.1 dX2_top_62 hl (by decide) rfl (fun ls hl => ?_)
          refine lv_aload_n X.1 X.2.1 dX2_top_64 rfl (lv_at hl 3 rfl) ?_
          refine lv_lload_n X.1 X.2.1 dX2_top_65 rfl (lv_at hl 1 rfl) ?_
          refine lv_aload_n X.1 X.2.1 dX2_top_66 rfl (lv_at hl 3 rfl) ?_
          refine p_get (T := TX2) X uX2 (hP.at 0 rfl) rfl 3 (by decide) mw_467 rfl rfl dX2_top_67 ?_
          refine lv_iload X.1 X.2.1 dX2_top_70 (lv_at hl 0 rfl) ?_
          refine f_lald X (hP.at 1 rfl) kk4 (by decide) dX2_top_72 ?_
          refine w_l (v' := lN ((q k).den)) (by rw [(eR).2]) ?_
          refine lv_lmul X.1 X.2.1 dX2_top_73 ?_
          refine w_l (lN_mul _ _) ?_
          refine lv_aload_n X.1 X.2.1 dX2_top_74 rfl (lv_at hl 3 rfl) ?_
          refine p_get (T := TX2) X uX2 (hP.at 0 rfl) rfl 4 (by decide) mw_468 rfl rfl dX2_top_75 ?_
          refine lv_iload X.1 X.2.1 dX2_top_78 (lv_at hl 0 rfl) ?_
          refine f_lald X (hP.at 2 rfl) kk4 (by decide) dX2_top_80 ?_
          refine w_l (v' := lN (nu (q k))) (by rw [(eR).1]) ?_
          refine f_callV (F := fun q => q = mo) (C := RX2) (b := mo) (As := [.long (lN ((wayo x1 y1 k) * ((q k).den))), .long (lN (nu (q k)))]) (rest := []) X (c_X2_put l g mo ua oa ga cd _ _ x1 y1 U O q (wayo x1 y1 k * (q k).den) (nu (q k)) hM (mlt hw b1.2.2 (by decide)) (by have := b1.2.1; omega) (nu_pos pq)) ⟨mw_508, mw_510, mw_22, mw_40, mw_511⟩ sgX2_put ⟨rfl, rfl, ⟨by decide, by decide⟩, by decide, by decide⟩ (hP.at 0 rfl) rfl rfl (hP) hX.1 (fun q h => h) hlo rfl hl.1 rfl (Nat.le_of_ble_eq_true rfl) dX2_top_81 (fun v H9 locs hk10 hlo hp => ?_)
          obtain ⟨rfl, hP⟩ := hp
          have hX := hX.trf (fun q h => h) hk10
          refine W.eq (g2 := F0 m 84 ls []) rfl ?_
          rw [tp1 pq] at hP
          refine lv_goto (tgt := 133) X.1 X.2.1 dX2_top_84 (by decide) ?_
          refine lv_iconst (v := nI 1) X.1 X.2.1 dX2_top_133 (by decide) ?_
          refine w_i (v' := bI true) (by decide) ?_
          exact f_zret (v := true) X hX hlo (⟨by rw [hB3, hB5]; rfl, _, _, hP, fun _ => by rw [gab0 hB5, Rat.add_zero]; exact ⟨rfl, rfl⟩⟩) ⟨by decide, by decide⟩ dX2_top_134
        ·
          rw [hB3] at hB8; cases hB8
  ·
    refine lv_aload_n X.1 X.2.1 dX2_top_19 rfl (lv_at hl 2 rfl) ?_
    refine p_get (T := TX2) X uX2 (hP.at 0 rfl) rfl 5 (by decide) mw_469 rfl rfl dX2_top_20 ?_
    refine lv_iload_n X.1 X.2.1 dX2_top_23 rfl (lv_at hl 1 rfl) ?_
    refine f_zald X (hP.at 3 rfl) kk2 (by decide) dX2_top_24 ?_
    refine q_Beq X (tgt := 30) dX2_top_25 (by decide) (fun hB11 => ?_) (fun hB11 => ?_)
    ·
      refine lv_aload_n X.1 X.2.1 dX2_top_30 rfl (lv_at hl 2 rfl) ?_
      refine p_get (T := TX2) X uX2 (hP.at 0 rfl) rfl 5 (by decide) mw_469 rfl rfl dX2_top_31 ?_
      refine lv_iload_n X.1 X.2.1 dX2_top_34 rfl (lv_at hl 3 rfl) ?_
      refine f_zald X (hP.at 3 rfl) kk4 (by decide) dX2_top_35 ?_
      refine q_Bne X (tgt := 48) dX2_top_36 (by decide) (fun hB12 => ?_) (fun hB12 => ?_)
      ·
        refine lv_aload_n X.1 X.2.1 dX2_top_48 rfl (lv_at hl 2 rfl) ?_
        refine p_get (T := TX2) X uX2 (hP.at 0 rfl) rfl 5 (by decide) mw_469 rfl rfl dX2_top_49 ?_
        refine lv_iload_n X.1 X.2.1 dX2_top_52 rfl (lv_at hl 3 rfl) ?_
        refine f_zald X (hP.at 3 rfl) kk4 (by decide) dX2_top_53 ?_
        refine q_Beq X (tgt := 61) dX2_top_54 (by decide) (fun hB13 => ?_) (fun hB13 => ?_)
        ·
          rw [hB3] at hB13; cases hB13
        ·
          have pq := gab_pos b2 hB11
          have eR := hR (k + 2) kk2 hB11
          refine lv_iload_n X.1 X.2.1 dX2_top_57 rfl (lv_at hl 1 rfl) ?_
          refine lv_goto (tgt := 62) X.1 X.2.1 dX2_top_58 (by decide) ?_
          refine lv_istore (lv' := [(5, .int (nI (k + 2))), (3, .long (lN (wayo x1 y1 k))), (2, .int (nI (k + 2))), (0, .ref mo), (1, .int (nI k))]) X.1 X.2.1 dX2_top_62 hl (by decide) rfl (fun ls hl => ?_)
          refine lv_aload_n X.1 X.2.1 dX2_top_64 rfl (lv_at hl 3 rfl) ?_
          refine lv_lload_n X.1 X.2.1 dX2_top_65 rfl (lv_at hl 1 rfl) ?_
          refine lv_aload_n X.1 X.2.1 dX2_top_66 rfl (lv_at hl 3 rfl) ?_
          refine p_get (T := TX2) X uX2 (hP.at 0 rfl) rfl 3 (by decide) mw_467 rfl rfl dX2_top_67 ?_
          refine lv_iload X.1 X.2.1 dX2_top_70 (lv_at hl 0 rfl) ?_
          refine f_lald X (hP.at 1 rfl) kk2 (by decide) dX2_top_72 ?_
          refine w_l (v' := lN ((q (k + 2)).den)) (by rw [(eR).2]) ?_
          refine lv_lmul X.1 X.2.1 dX2_top_73 ?_
          refine w_l (lN_mul _ _) ?_
          refine lv_aload_n X.1 X.2.1 dX2_top_74 rfl (lv_at hl 3 rfl) ?_
          refine p_get (T := TX2) X uX2 (hP.at 0 rfl) rfl 4 (by decide) mw_468 rfl rfl dX2_top_75 ?_
          refine lv_iload X.1 X.2.1 dX2_top_78 (lv_at hl 0 rfl) ?_
          refine f_lald X (hP.at 2 rfl) kk2 (by decide) dX2_top_80 ?_
          refine w_l (v' := lN (nu (q (k + 2)))) (by rw [(eR).1]) ?_
          refine f_callV (F := fun q => q = mo) (C := RX2) (b := mo) (As := [.long (lN ((wayo x1 y1 k) * ((q (k + 2)).den))), .long (lN (nu (q (k + 2))))]) (rest := []) X (c_X2_put l g mo ua oa ga cd _ _ x1 y1 U O q (wayo x1 y1 k * (q (k + 2)).den) (nu (q (k + 2))) hM (mlt hw b2.2.2 (by decide)) (by have := b2.2.1; omega) (nu_pos pq)) ⟨mw_508, mw_510, mw_22, mw_40, mw_511⟩ sgX2_put ⟨rfl, rfl, ⟨by decide, by decide⟩, by decide, by decide⟩ (hP.at 0 rfl) rfl rfl (hP) hX.1 (fun q h => h) hlo rfl hl.1 rfl (Nat.le_of_ble_eq_true rfl) dX2_top_81 (fun v H14 locs hk15 hlo hp => ?_)
          obtain ⟨rfl, hP⟩ := hp
          have hX := hX.trf (fun q h => h) hk15
          refine W.eq (g2 := F0 m 84 ls []) rfl ?_
          rw [tp1 pq] at hP
          refine lv_goto (tgt := 133) X.1 X.2.1 dX2_top_84 (by decide) ?_
          refine lv_iconst (v := nI 1) X.1 X.2.1 dX2_top_133 (by decide) ?_
          refine w_i (v' := bI true) (by decide) ?_
          exact f_zret (v := true) X hX hlo (⟨by rw [hB3, hB11]; rfl, _, _, hP, fun _ => by rw [gab0 hB3, Rat.zero_add]; exact ⟨rfl, rfl⟩⟩) ⟨by decide, by decide⟩ dX2_top_134
      ·
        rw [hB3] at hB12; cases hB12
    ·
      refine lv_iconst (v := nI 0) X.1 X.2.1 dX2_top_28 (by decide) ?_
      refine w_i (v' := bI false) (by decide) ?_
      exact f_zret (v := false) X hX hlo (⟨by rw [hB3, hB11]; rfl, _, _, hP, fun h9 => by rw [hB3, hB11] at h9; cases h9⟩) ⟨by decide, by decide⟩ dX2_top_29
theorem pk_min {X Y : Nat} {q : Nat → Rat} (h1 : ¬ q 3 + q 1 = 0) (h2 : ¬ q 0 + q 2 = 0) : (if (q 0 + q 2)⁻¹ * ((wayo X Y 0 : Nat) : Rat) < (q 1 + q 3)⁻¹ * ((wayo X Y 1 : Nat) : Rat) then (q 0 + q 2)⁻¹ * ((wayo X Y 0 : Nat) : Rat) else (q 1 + q 3)⁻¹ * ((wayo X Y 1 : Nat) : Rat)) = pk X Y q := by
  rw [pk, if_neg h1, if_neg h2, Rat.add_comm (q 1) (q 3)]
  show (if (q 0 + q 2)⁻¹ * ((Y : Nat) : Rat) < (q 3 + q 1)⁻¹ * ((X : Nat) : Rat) then (q 0 + q 2)⁻¹ * ((Y : Nat) : Rat) else (q 3 + q 1)⁻¹ * ((X : Nat) : Rat)) = _
  generalize (q 0 + q 2)⁻¹ * ((Y : Nat) : Rat) = a
  generalize (q 3 + q 1)⁻¹ * ((X : Nat) : Rat) = b
  split <;> split <;> first | rfl | grind
theorem sum_gab {X Y : Nat} {q : Nat → Rat} (h : OK X Y q) {i j : Nat} (hi : i < 4) (hj : j < 4) : q i + q j = 0 ↔ (gab q i && gab q j) = true := by
  constructor
  · intro h0
    obtain ⟨e1, e2⟩ := sum0 (h.2.2.1 i hi).1 (h.2.2.1 j hj).1 h0
    rw [gab, gab, decide_eq_true e1, decide_eq_true e2]; rfl
  · intro h0
    obtain ⟨e1, e2⟩ := andL h0
    rw [gab0 e1, gab0 e2, Rat.add_zero]
set_option maxHeartbeats 4000000 in
set_option maxRecDepth 100000 in
theorem c_X2_makePeak (l : Launch) (g : En) (mo ua oa ga : Nat) (cd : Int32) (ab be : Int64) (x1 y1 : Nat) (U O : Nat → Nat) (q : Nat → Rat) (hO : OK x1 y1 q) (hR : MR q U O) (hM : MD mo ua oa ga) : FM l yX2_makePeak cX2_makePeak 6 none { frames := 2, cells := 0, slots := 0, locals := 55 } g [.ref mo] (fun H => MO g mo ua oa ga cd ab be x1 y1 U O q H) (fun q => q = mo) 0 0 (fun v H => v = none ∧ MO g mo ua oa ga cd (lN (nu (pk x1 y1 q))) (lN (pk x1 y1 q).den) x1 y1 U O q H) := by
  refine FM.of (by decide) (Nat.le_of_ble_eq_true rfl) (fun p e s m below meth c ls X hP hl => ?_)
  have g31 := sum_gab hO (i := 3) (j := 1) (by decide) (by decide)
  have g02 := sum_gab hO (i := 0) (j := 2) (by decide) (by decide)
  have c31 : (gab q 1 && gab q 3) = (gab q 3 && gab q 1) := Bool.and_comm _ _
  have hl : lv_has ls 6 [(0, .ref mo)] := hl
  have hX : hxf (fun q => q = mo) s.heap s.heap := hxf.rf
  have hlo : lok (fun q => q = mo) s.heap.size ([] : List Loc) := lok.nil
  have hP : PP g [(mo, .inr (2, [.int cd, .long (lN x1), .long (lN y1), .ref ua, .ref oa, .ref ga, .long ab, .long be])), mla g ua U, mla g oa O, mza g ga q] s.heap := hP
  refine lv_aload_n X.1 X.2.1 dX2_makePeak_0 rfl (lv_at hl 0 rfl) ?_
  refine lv_iconst (v := nI 0) X.1 X.2.1 dX2_makePeak_1 (by decide) ?_
  refine f_callV (F := fun q => q = mo) (C := RX2) (b := mo) (As := [.int (nI 0)]) (rest := []) X (c_X2_top l g mo ua oa ga cd _ _ x1 y1 U O q 0 hO hR hM (by decide)) ⟨mw_598, mw_600, mw_34, mw_40, mw_601⟩ sgX2_top ⟨rfl, rfl, ⟨by decide, by decide⟩, by decide, by decide⟩ (hP.at 0 rfl) rfl rfl (hP) hX.1 (fun q h => h) hlo rfl hl.1 rfl (Nat.le_of_ble_eq_true rfl) dX2_makePeak_2 (fun v H1 locs hk2 hlo hp => ?_)
  obtain ⟨rfl, ab1, be1, hP, hE1⟩ := hp
  have hX := hX.trf (fun q h => h) hk2
  refine W.eq (g2 := F0 m 5 ls [.int (bI (!(gab q 0 && gab q (0 + 2))))]) rfl ?_
  refine lv_istore_n (lv' := [(1, .int (bI (!(gab q 0 && gab q (0 + 2))))), (0, .ref mo)]) X.1 X.2.1 dX2_makePeak_5 rfl hl (by decide) rfl (fun ls hl => ?_)
  refine lv_aload_n X.1 X.2.1 dX2_makePeak_6 rfl (lv_at hl 1 rfl) ?_
  refine p_get (T := TX2) X uX2 (hP.at 0 rfl) rfl 6 (by decide) mw_470 rfl rfl dX2_makePeak_7 ?_
  refine lv_lstore_n (lv' := [(2, .long ab1), (1, .int (bI (!(gab q 0 && gab q (0 + 2))))), (0, .ref mo)]) X.1 X.2.1 dX2_makePeak_10 rfl hl (by decide) rfl (fun ls hl => ?_)
  refine lv_aload_n X.1 X.2.1 dX2_makePeak_11 rfl (lv_at hl 2 rfl) ?_
  refine p_get (T := TX2) X uX2 (hP.at 0 rfl) rfl 7 (by decide) mw_471 rfl rfl dX2_makePeak_12 ?_
  refine lv_lstore (lv' := [(4, .long be1), (2, .long ab1), (1, .int (bI (!(gab q 0 && gab q (0 + 2))))), (0, .ref mo)]) X.1 X.2.1 dX2_makePeak_15 hl (by decide) rfl (fun ls hl => ?_)
  refine lv_aload_n X.1 X.2.1 dX2_makePeak_17 rfl (lv_at hl 3 rfl) ?_
  refine lv_iconst (v := nI 1) X.1 X.2.1 dX2_makePeak_18 (by decide) ?_
  refine f_callV (F := fun q => q = mo) (C := RX2) (b := mo) (As := [.int (nI 1)]) (rest := []) X (c_X2_top l g mo ua oa ga cd _ _ x1 y1 U O q 1 hO hR hM (by decide)) ⟨mw_598, mw_600, mw_34, mw_40, mw_601⟩ sgX2_top ⟨rfl, rfl, ⟨by decide, by decide⟩, by decide, by decide⟩ (hP.at 0 rfl) rfl rfl (hP) hX.1 (fun q h => h) hlo rfl hl.1 rfl (Nat.le_of_ble_eq_true rfl) dX2_makePeak_19 (fun v H3 locs hk4 hlo hp => ?_)
  obtain ⟨rfl, ab2, be2, hP, hE2⟩ := hp
  have hX := hX.trf (fun q h => h) hk4
  refine W.eq (g2 := F0 m 22 ls [.int (bI (!(gab q 1 && gab q (1 + 2))))]) rfl ?_
  refine q_Beq X (tgt := 39) dX2_makePeak_22 (by decide) (fun hB5 => ?_) (fun hB5 => ?_)
  ·
    have e31 : (gab q 3 && gab q 1) = true := by rw [← c31]; exact notF hB5
    refine lv_iload_n X.1 X.2.1 dX2_makePeak_39 rfl (lv_at hl 2 rfl) ?_
    refine q_Beq X (tgt := 54) dX2_makePeak_40 (by decide) (fun hB6 => ?_) (fun hB6 => ?_)
    ·
      exact absurd (hO.pos (g31.mpr e31)) (by rw [g02.mpr (show (gab q 0 && gab q 2) = true from notF hB6)]; decide +kernel)
    ·
      have e02 : (gab q 0 && gab q 2) = false := notT hB6
      have hPn := hP
      obtain ⟨rfl, rfl⟩ := hE1 e02
      have hP := hPn
      refine lv_aload_n X.1 X.2.1 dX2_makePeak_43 rfl (lv_at hl 3 rfl) ?_
      refine lv_lload_n X.1 X.2.1 dX2_makePeak_44 rfl (lv_at hl 1 rfl) ?_
      refine f_put (F := fun q => q = mo) (T := TX2) (N := 8) (ci := 2) X tyX2 tyX2_ok nmX2 uX2 (hP.at 0 rfl) rfl 6 (by decide) mw_470 rfl rfl (v := .long (lN (nu ((q 0 + q 2)⁻¹ * ((wayo x1 y1 0 : Nat) : Rat))))) (ty := .long) (by decide +kernel) rfl rfl (Nat.le_of_ble_eq_true rfl) (Or.inl rfl) hlo dX2_makePeak_45 (fun H7 locs hpa hlo hat => ?_)
      have hX := hX.tra (rfl) hpa
      have hP := PP.cons hat (PP.exa (hP.sub [1, 2, 3] rfl : PP g [mla g ua U, mla g oa O, mza g ga q] _) hpa (fun z hz => by simp only [List.mem_cons, List.not_mem_nil, or_false] at hz; rcases hz with rfl | rfl | rfl <;> first | exact hM.1 | exact hM.2.1 | exact hM.2.2.1))
      have hP : PP g [(mo, .inr (2, [.int cd, .long (lN x1), .long (lN y1), .ref ua, .ref oa, .ref ga, .long (lN (nu ((q 0 + q 2)⁻¹ * ((wayo x1 y1 0 : Nat) : Rat)))), .long be2])), mla g ua U, mla g oa O, mza g ga q] H7 := hP
      refine lv_aload_n X.1 X.2.1 dX2_makePeak_48 rfl (lv_at hl 3 rfl) ?_
      refine lv_lload X.1 X.2.1 dX2_makePeak_49 (lv_at hl 0 rfl) ?_
      refine f_put (F := fun q => q = mo) (T := TX2) (N := 8) (ci := 2) X tyX2 tyX2_ok nmX2 uX2 (hP.at 0 rfl) rfl 7 (by decide) mw_471 rfl rfl (v := .long (lN ((q 0 + q 2)⁻¹ * ((wayo x1 y1 0 : Nat) : Rat)).den)) (ty := .long) (by decide +kernel) rfl rfl (Nat.le_of_ble_eq_true rfl) (Or.inl rfl) hlo dX2_makePeak_51 (fun H8 locs hpa hlo hat => ?_)
      have hX := hX.tra (rfl) hpa
      have hP := PP.cons hat (PP.exa (hP.sub [1, 2, 3] rfl : PP g [mla g ua U, mla g oa O, mza g ga q] _) hpa (fun z hz => by simp only [List.mem_cons, List.not_mem_nil, or_false] at hz; rcases hz with rfl | rfl | rfl <;> first | exact hM.1 | exact hM.2.1 | exact hM.2.2.1))
      have hP : PP g [(mo, .inr (2, [.int cd, .long (lN x1), .long (lN y1), .ref ua, .ref oa, .ref ga, .long (lN (nu ((q 0 + q 2)⁻¹ * ((wayo x1 y1 0 : Nat) : Rat)))), .long (lN ((q 0 + q 2)⁻¹ * ((wayo x1 y1 0 : Nat) : Rat)).den)])), mla g ua U, mla g oa O, mza g ga q] H8 := hP
      exact f_vret X hX hlo (⟨rfl, by rw [show pk x1 y1 q = (q 0 + q 2)⁻¹ * ((wayo x1 y1 0 : Nat) : Rat) from by rw [pk, if_pos (g31.mpr e31)]; rfl]; exact hP⟩) ⟨by decide, by decide⟩ dX2_makePeak_54
  ·
    have e31 : (gab q 1 && gab q 3) = false := notT hB5
    obtain ⟨rfl, rfl⟩ := hE2 e31
    have n31 : ¬ q 3 + q 1 = 0 := fun h9 => by have := g31.mp h9; rw [← c31, e31] at this; cases this
    have p31 : 0 < q 1 + q 3 := by rw [Rat.add_comm]; exact pos_of (bd_s31 hO).1 n31
    have bz1 : bd ((q 1 + q 3)⁻¹ * ((wayo x1 y1 1 : Nat) : Rat)) 800000 800 := by have := bd_px hO (by rw [Rat.add_comm]; exact p31); rw [Rat.add_comm] at this; exact this
    refine lv_iload_n X.1 X.2.1 dX2_makePeak_25 rfl (lv_at hl 2 rfl) ?_
    refine q_Beq X (tgt := 39) dX2_makePeak_26 (by decide) (fun hB9 => ?_) (fun hB9 => ?_)
    ·
      have e02 : (gab q 0 && gab q 2) = true := notF hB9
      refine lv_iload_n X.1 X.2.1 dX2_makePeak_39 rfl (lv_at hl 2 rfl) ?_
      refine q_Beq X (tgt := 54) dX2_makePeak_40 (by decide) (fun hB10 => ?_) (fun hB10 => ?_)
      ·
        exact f_vret X hX hlo (⟨rfl, by rw [show pk x1 y1 q = (q 1 + q 3)⁻¹ * ((wayo x1 y1 1 : Nat) : Rat) from by rw [pk, if_neg n31, if_pos (g02.mpr e02), Rat.add_comm]; rfl]; exact hP⟩) ⟨by decide, by decide⟩ dX2_makePeak_54
      ·
        rw [hB9] at hB10; cases hB10
    ·
      have e02 : (gab q 0 && gab q 2) = false := notT hB9
      have hPn := hP
      obtain ⟨rfl, rfl⟩ := hE1 e02
      have hP := hPn
      have n02 : ¬ q 0 + q 2 = 0 := fun h9 => by have := g02.mp h9; rw [e02] at this; cases this
      have p02 := pos_of (bd_s02 hO).1 n02
      have bz0 : bd ((q 0 + q 2)⁻¹ * ((wayo x1 y1 0 : Nat) : Rat)) 800000 800 := bd_py hO p02
      refine lv_aload_n X.1 X.2.1 dX2_makePeak_29 rfl (lv_at hl 3 rfl) ?_
      refine lv_lload_n X.1 X.2.1 dX2_makePeak_30 rfl (lv_at hl 1 rfl) ?_
      refine lv_lload X.1 X.2.1 dX2_makePeak_31 (lv_at hl 0 rfl) ?_
      refine f_callV (F := fun q => q = mo) (C := RX2) (b := mo) (As := [.long (lN (nu ((q 0 + q 2)⁻¹ * ((wayo x1 y1 0 : Nat) : Rat)))), .long (lN ((q 0 + q 2)⁻¹ * ((wayo x1 y1 0 : Nat) : Rat)).den)]) (rest := []) X (c_X2_lesser l g mo ua oa ga cd x1 y1 U O q ((q 1 + q 3)⁻¹ * ((wayo x1 y1 1 : Nat) : Rat)) (nu ((q 0 + q 2)⁻¹ * ((wayo x1 y1 0 : Nat) : Rat))) ((q 0 + q 2)⁻¹ * ((wayo x1 y1 0 : Nat) : Rat)).den hM bz1.1 (by have := bz0.2.1; omega) (by have := bz0.2.2; omega) (dn_pos _) (mlt bz0.2.1 bz1.2.2 (by decide)) (mlt bz1.2.1 bz0.2.2 (by decide))) ⟨mw_602, mw_604, mw_35, mw_40, mw_605⟩ sgX2_lesser ⟨rfl, rfl, ⟨by decide, by decide⟩, by decide, by decide⟩ (hP.at 0 rfl) rfl rfl (hP) hX.1 (fun q h => h) hlo rfl hl.1 rfl (Nat.le_of_ble_eq_true rfl) dX2_makePeak_33 (fun v H11 locs hk12 hlo hp => ?_)
      obtain ⟨rfl, hP⟩ := hp
      have hX := hX.trf (fun q h => h) hk12
      refine W.eq (g2 := F0 m 36 ls []) rfl ?_
      rw [nu_val bz0.1, pk_min n31 n02] at hP
      refine lv_goto (tgt := 54) X.1 X.2.1 dX2_makePeak_36 (by decide) ?_
      exact f_vret X hX hlo (⟨rfl, hP⟩) ⟨by decide, by decide⟩ dX2_makePeak_54
set_option maxHeartbeats 4000000 in
set_option maxRecDepth 100000 in
theorem c_X2_makeFar (l : Launch) (g : En) (mo ua oa ga : Nat) (cd : Int32) (ab be : Int64) (x1 y1 : Nat) (U O : Nat → Nat) (q : Nat → Rat) (k : Nat) (hO : OK x1 y1 q) (hR : MR q U O) (hM : MD mo ua oa ga) (hk : k < 4) : FM l yX2_makeFar cX2_makeFar 2 none { frames := 3, cells := 0, slots := 0, locals := 80 } g [.ref mo, .int (nI k)] (fun H => MO g mo ua oa ga cd ab be x1 y1 U O q H) (fun q => q = mo) 0 0 (fun v H => v = none ∧ MO g mo ua oa ga cd (lN (nu (pk x1 y1 q * q k))) (lN (pk x1 y1 q * q k).den) x1 y1 U O q H) := by
  refine FM.of (by decide) (Nat.le_of_ble_eq_true rfl) (fun p e s m below meth c ls X hP hl => ?_)
  have b1 := hO.2.2.1 k hk
  have bp := bd_pk hO
  have hl : lv_has ls 2 [(0, .ref mo), (1, .int (nI k))] := hl
  have hX : hxf (fun q => q = mo) s.heap s.heap := hxf.rf
  have hlo : lok (fun q => q = mo) s.heap.size ([] : List Loc) := lok.nil
  have hP : PP g [(mo, .inr (2, [.int cd, .long (lN x1), .long (lN y1), .ref ua, .ref oa, .ref ga, .long ab, .long be])), mla g ua U, mla g oa O, mza g ga q] s.heap := hP
  refine lv_aload_n X.1 X.2.1 dX2_makeFar_0 rfl (lv_at hl 0 rfl) ?_
  refine f_callV (F := fun q => q = mo) (C := RX2) (b := mo) (As := []) (rest := []) X (c_X2_makePeak l g mo ua oa ga cd _ _ x1 y1 U O q hO hR hM) ⟨mw_594, mw_596, mw_33, mw_40, mw_597⟩ sgX2_makePeak ⟨rfl, rfl, ⟨by decide, by decide⟩, by decide, by decide⟩ (hP.at 0 rfl) rfl rfl (hP) hX.1 (fun q h => h) hlo rfl hl.1 rfl (Nat.le_of_ble_eq_true rfl) dX2_makeFar_1 (fun v H1 locs hk2 hlo hp => ?_)
  obtain ⟨rfl, hP⟩ := hp
  have hX := hX.trf (fun q h => h) hk2
  refine W.eq (g2 := F0 m 4 ls []) rfl ?_
  refine lv_aload_n X.1 X.2.1 dX2_makeFar_4 rfl (lv_at hl 0 rfl) ?_
  refine p_get (T := TX2) X uX2 (hP.at 0 rfl) rfl 5 (by decide) mw_469 rfl rfl dX2_makeFar_5 ?_
  refine lv_iload_n X.1 X.2.1 dX2_makeFar_8 rfl (lv_at hl 1 rfl) ?_
  refine f_zald X (hP.at 3 rfl) hk (by decide) dX2_makeFar_9 ?_
  refine q_Beq X (tgt := 22) dX2_makeFar_10 (by decide) (fun hB3 => ?_) (fun hB3 => ?_)
  ·
    have pq := gab_pos b1 hB3
    have eR := hR k hk hB3
    refine lv_aload_n X.1 X.2.1 dX2_makeFar_22 rfl (lv_at hl 0 rfl) ?_
    refine lv_aload_n X.1 X.2.1 dX2_makeFar_23 rfl (lv_at hl 0 rfl) ?_
    refine p_get (T := TX2) X uX2 (hP.at 0 rfl) rfl 6 (by decide) mw_470 rfl rfl dX2_makeFar_24 ?_
    refine lv_aload_n X.1 X.2.1 dX2_makeFar_27 rfl (lv_at hl 0 rfl) ?_
    refine p_get (T := TX2) X uX2 (hP.at 0 rfl) rfl 4 (by decide) mw_468 rfl rfl dX2_makeFar_28 ?_
    refine lv_iload_n X.1 X.2.1 dX2_makeFar_31 rfl (lv_at hl 1 rfl) ?_
    refine f_lald X (hP.at 2 rfl) hk (by decide) dX2_makeFar_32 ?_
    refine w_l (v' := lN (nu (q k))) (by rw [(eR).1]) ?_
    refine lv_lmul X.1 X.2.1 dX2_makeFar_33 ?_
    refine w_l (lN_mul _ _) ?_
    refine lv_aload_n X.1 X.2.1 dX2_makeFar_34 rfl (lv_at hl 0 rfl) ?_
    refine p_get (T := TX2) X uX2 (hP.at 0 rfl) rfl 7 (by decide) mw_471 rfl rfl dX2_makeFar_35 ?_
    refine lv_aload_n X.1 X.2.1 dX2_makeFar_38 rfl (lv_at hl 0 rfl) ?_
    refine p_get (T := TX2) X uX2 (hP.at 0 rfl) rfl 3 (by decide) mw_467 rfl rfl dX2_makeFar_39 ?_
    refine lv_iload_n X.1 X.2.1 dX2_makeFar_42 rfl (lv_at hl 1 rfl) ?_
    refine f_lald X (hP.at 1 rfl) hk (by decide) dX2_makeFar_43 ?_
    refine w_l (v' := lN ((q k).den)) (by rw [(eR).2]) ?_
    refine lv_lmul X.1 X.2.1 dX2_makeFar_44 ?_
    refine w_l (lN_mul _ _) ?_
    refine f_callV (F := fun q => q = mo) (C := RX2) (b := mo) (As := [.long (lN ((nu (pk x1 y1 q)) * (nu (q k)))), .long (lN (((pk x1 y1 q).den) * ((q k).den)))]) (rest := []) X (c_X2_put l g mo ua oa ga cd _ _ x1 y1 U O q (nu (pk x1 y1 q) * nu (q k)) ((pk x1 y1 q).den * (q k).den) hM (mlt bp.2.1 b1.2.1 (by decide)) (mlt bp.2.2 b1.2.2 (by decide)) (Nat.mul_pos (dn_pos _) (dn_pos _))) ⟨mw_508, mw_510, mw_22, mw_40, mw_511⟩ sgX2_put ⟨rfl, rfl, ⟨by decide, by decide⟩, by decide, by decide⟩ (hP.at 0 rfl) rfl rfl (hP) hX.1 (fun q h => h) hlo rfl hl.1 rfl (Nat.le_of_ble_eq_true rfl) dX2_makeFar_45 (fun v H4 locs hk5 hlo hp => ?_)
    obtain ⟨rfl, hP⟩ := hp
    have hX := hX.trf (fun q h => h) hk5
    refine W.eq (g2 := F0 m 48 ls []) rfl ?_
    rw [← mul_mk bp.1 b1.1] at hP
    exact f_vret X hX hlo (⟨rfl, hP⟩) ⟨by decide, by decide⟩ dX2_makeFar_48
  ·
    refine lv_aload_n X.1 X.2.1 dX2_makeFar_13 rfl (lv_at hl 0 rfl) ?_
    refine lv_lconst (v := lN 0) X.1 X.2.1 dX2_makeFar_14 (by decide) ?_
    refine lv_lconst (v := lN 1) X.1 X.2.1 dX2_makeFar_15 (by decide) ?_
    refine f_callV (F := fun q => q = mo) (C := RX2) (b := mo) (As := [.long (lN 0), .long (lN 1)]) (rest := []) X (c_X2_put l g mo ua oa ga cd _ _ x1 y1 U O q (0) (1) hM (by decide) (by decide) (by decide)) ⟨mw_508, mw_510, mw_22, mw_40, mw_511⟩ sgX2_put ⟨rfl, rfl, ⟨by decide, by decide⟩, by decide, by decide⟩ (hP.at 0 rfl) rfl rfl (hP) hX.1 (fun q h => h) hlo rfl hl.1 rfl (Nat.le_of_ble_eq_true rfl) dX2_makeFar_16 (fun v H6 locs hk7 hlo hp => ?_)
    obtain ⟨rfl, hP⟩ := hp
    have hX := hX.trf (fun q h => h) hk7
    refine W.eq (g2 := F0 m 19 ls []) rfl ?_
    rw [show ((0 : Nat) : Rat) / ((1 : Nat) : Rat) = pk x1 y1 q * q k by rw [gab0 hB3, Rat.mul_zero]; decide +kernel] at hP
    refine lv_goto (tgt := 48) X.1 X.2.1 dX2_makeFar_19 (by decide) ?_
    exact f_vret X hX hlo (⟨rfl, hP⟩) ⟨by decide, by decide⟩ dX2_makeFar_48
