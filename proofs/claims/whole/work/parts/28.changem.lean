/-! the reference's methods that change -/
theorem up_id {α : Type} {f : Nat → α} {k : Nat} {z : α} (h : f k = z) : va_up f k z = f := by
  funext j
  by_cases e : j = k
  · subst e; rw [va_up_s, h]
  · rw [va_up_n e]
set_option maxHeartbeats 4000000 in
set_option maxRecDepth 100000 in
theorem c_X2_outline (l : Launch) (g : En) (mo ua oa ga : Nat) (cd : Int32) (ab be : Int64) (x1 y1 : Nat) (U O : Nat → Nat) (q : Nat → Rat) (v0 w0 : Int64) (hO : OK x1 y1 q) (hR : MR q U O) (hM : MD mo ua oa ga) : FM l yX2_outline cX2_outline 5 (some FieldType.boolean) { frames := 1, cells := 0, slots := 0, locals := 25 } g [.ref mo, .long v0, .long w0] (fun H => MO g mo ua oa ga cd ab be x1 y1 U O q H) (fun q => q = mo) 0 0 (fun v H => ((inL v0 1 2000 && inL w0 1 2000) = false ∧ (∃ w : Int32, v = some (.int w)) ∧ mP g mo ua oa ga (mk3 2 1 true true (inL v0 1 2000 && inL w0 1 2000)) x1 y1 U O q H) ∨ ((inL v0 1 2000 && inL w0 1 2000) = true ∧ v = some (.int (bI (!(decide (toL v0 = x1) && decide (toL w0 = y1))))) ∧ mP g mo ua oa ga 0 (toL v0) (toL w0) U O q H)) := by
  refine FM.of (by decide) (Nat.le_of_ble_eq_true rfl) (fun p e s m below meth c ls X hP hl => ?_)
  have hXl := hO.1.2
  have hYl := hO.2.1.2
  have hl : lv_has ls 5 [(0, .ref mo), (1, .long v0), (3, .long w0)] := hl
  have hX : hxf (fun q => q = mo) s.heap s.heap := hxf.rf
  have hlo : lok (fun q => q = mo) s.heap.size ([] : List Loc) := lok.nil
  have hP : PP g [(mo, .inr (2, [.int cd, .long (lN x1), .long (lN y1), .ref ua, .ref oa, .ref ga, .long ab, .long be])), mla g ua U, mla g oa O, mza g ga q] s.heap := hP
  refine lv_aload_n X.1 X.2.1 dX2_outline_0 rfl (lv_at hl 0 rfl) ?_
  refine lv_lload_n X.1 X.2.1 dX2_outline_1 rfl (lv_at hl 1 rfl) ?_
  refine lv_lconst (v := lN 1) X.1 X.2.1 dX2_outline_2 (by decide) ?_
  refine lv_ldc2 (v := 2000) X.1 X.2.1 X.2.2.2.1 (X.2.2.2.2.1 _ (List.mem_cons_of_mem _ mw_499)) dX2_outline_3 ?_
  refine w_l (v' := lN 2000) (by decide) ?_
  refine p_callS (As := [.long v0, .long (lN 1), .long (lN 2000)]) (rest := [.ref mo]) X (c_X2_isIn l g v0 1 2000 (by decide) (by decide)) ⟨mw_500, mw_501, mw_40, mw_502⟩ sgX2_isIn ⟨rfl, rfl, ⟨by decide, by decide⟩, by decide, by decide⟩ (trivial) hX.1 rfl hl.1 rfl (Nat.le_of_ble_eq_true rfl) dX2_outline_6 (fun v H1 hk2 hp => ?_)
  obtain rfl := hp
  have hX := hX.tr hk2
  have hP := PP.ext hP hk2
  refine W.eq (g2 := F0 m 9 ls [.int (bI (inL v0 1 2000)), .ref mo]) rfl ?_
  refine q_Beq X (tgt := 27) dX2_outline_9 (by decide) (fun hB3 => ?_) (fun hB3 => ?_)
  ·
    refine lv_iconst (v := nI 1) X.1 X.2.1 dX2_outline_27 (by decide) ?_
    refine f_put (F := fun q => q = mo) (T := TX2) (N := 8) (ci := 2) X tyX2 tyX2_ok nmX2 uX2 (hP.at 0 rfl) rfl 0 (by decide) mw_464 rfl rfl (v := .int (nI 1)) (ty := .int) (by decide +kernel) rfl rfl (Nat.le_of_ble_eq_true rfl) (Or.inl rfl) hlo dX2_outline_28 (fun H4 locs hpa hlo hat => ?_)
    have hX := hX.tra (rfl) hpa
    have hP := PP.cons hat (PP.exa (hP.sub [1, 2, 3] rfl : PP g [mla g ua U, mla g oa O, mza g ga q] _) hpa (fun z hz => by simp only [List.mem_cons, List.not_mem_nil, or_false] at hz; rcases hz with rfl | rfl | rfl <;> first | exact hM.1 | exact hM.2.1 | exact hM.2.2.1))
    have hP : PP g [(mo, .inr (2, [.int (nI 1), .long (lN x1), .long (lN y1), .ref ua, .ref oa, .ref ga, .long ab, .long be])), mla g ua U, mla g oa O, mza g ga q] H4 := hP
    refine lv_aload_n X.1 X.2.1 dX2_outline_31 rfl (lv_at hl 0 rfl) ?_
    refine p_get (T := TX2) X uX2 (hP.at 0 rfl) rfl 0 (by decide) mw_464 rfl rfl dX2_outline_32 ?_
    refine lv_if_gt (tgt := 56) X.1 X.2.1 dX2_outline_35 (by decide) (fun _ => ?_) (fun h9 => absurd (by decide) h9)
    refine lv_iconst (v := nI 0) X.1 X.2.1 dX2_outline_56 (by decide) ?_
    refine w_i (v' := bI false) (by decide) ?_
    exact f_zret (v := false) X hX hlo (Or.inl ⟨by simp [hB3], ⟨_, rfl⟩, ⟨_, _, _, by simp [mk3, hB3], hP⟩⟩) ⟨by decide, by decide⟩ dX2_outline_57
  ·
    refine lv_lload_n X.1 X.2.1 dX2_outline_12 rfl (lv_at hl 2 rfl) ?_
    refine lv_lconst (v := lN 1) X.1 X.2.1 dX2_outline_13 (by decide) ?_
    refine lv_ldc2 (v := 2000) X.1 X.2.1 X.2.2.2.1 (X.2.2.2.2.1 _ (List.mem_cons_of_mem _ mw_499)) dX2_outline_14 ?_
    refine w_l (v' := lN 2000) (by decide) ?_
    refine p_callS (As := [.long w0, .long (lN 1), .long (lN 2000)]) (rest := [.ref mo]) X (c_X2_isIn l g w0 1 2000 (by decide) (by decide)) ⟨mw_500, mw_501, mw_40, mw_502⟩ sgX2_isIn ⟨rfl, rfl, ⟨by decide, by decide⟩, by decide, by decide⟩ (trivial) hX.1 rfl hl.1 rfl (Nat.le_of_ble_eq_true rfl) dX2_outline_17 (fun v H5 hk6 hp => ?_)
    obtain rfl := hp
    have hX := hX.tr hk6
    have hP := PP.ext hP hk6
    refine W.eq (g2 := F0 m 20 ls [.int (bI (inL w0 1 2000)), .ref mo]) rfl ?_
    refine q_Beq X (tgt := 27) dX2_outline_20 (by decide) (fun hB7 => ?_) (fun hB7 => ?_)
    ·
      refine lv_iconst (v := nI 1) X.1 X.2.1 dX2_outline_27 (by decide) ?_
      refine f_put (F := fun q => q = mo) (T := TX2) (N := 8) (ci := 2) X tyX2 tyX2_ok nmX2 uX2 (hP.at 0 rfl) rfl 0 (by decide) mw_464 rfl rfl (v := .int (nI 1)) (ty := .int) (by decide +kernel) rfl rfl (Nat.le_of_ble_eq_true rfl) (Or.inl rfl) hlo dX2_outline_28 (fun H8 locs hpa hlo hat => ?_)
      have hX := hX.tra (rfl) hpa
      have hP := PP.cons hat (PP.exa (hP.sub [1, 2, 3] rfl : PP g [mla g ua U, mla g oa O, mza g ga q] _) hpa (fun z hz => by simp only [List.mem_cons, List.not_mem_nil, or_false] at hz; rcases hz with rfl | rfl | rfl <;> first | exact hM.1 | exact hM.2.1 | exact hM.2.2.1))
      have hP : PP g [(mo, .inr (2, [.int (nI 1), .long (lN x1), .long (lN y1), .ref ua, .ref oa, .ref ga, .long ab, .long be])), mla g ua U, mla g oa O, mza g ga q] H8 := hP
      refine lv_aload_n X.1 X.2.1 dX2_outline_31 rfl (lv_at hl 0 rfl) ?_
      refine p_get (T := TX2) X uX2 (hP.at 0 rfl) rfl 0 (by decide) mw_464 rfl rfl dX2_outline_32 ?_
      refine lv_if_gt (tgt := 56) X.1 X.2.1 dX2_outline_35 (by decide) (fun _ => ?_) (fun h9 => absurd (by decide) h9)
      refine lv_iconst (v := nI 0) X.1 X.2.1 dX2_outline_56 (by decide) ?_
      refine w_i (v' := bI false) (by decide) ?_
      exact f_zret (v := false) X hX hlo (Or.inl ⟨by simp [hB3, hB7], ⟨_, rfl⟩, ⟨_, _, _, by simp [mk3, hB3, hB7], hP⟩⟩) ⟨by decide, by decide⟩ dX2_outline_57
    ·
      have hv0 := hB3
      obtain ⟨x, x0, hx, rfl⟩ := inL_of hv0 (by decide)
      have ex : toL (lN x) = x := toL_k (by omega)
      have hw0 := hB7
      obtain ⟨y, y0, hy, rfl⟩ := inL_of hw0 (by decide)
      have ey : toL (lN y) = y := toL_k (by omega)
      refine lv_iconst (v := nI 0) X.1 X.2.1 dX2_outline_23 (by decide) ?_
      refine lv_goto (tgt := 28) X.1 X.2.1 dX2_outline_24 (by decide) ?_
      refine f_put (F := fun q => q = mo) (T := TX2) (N := 8) (ci := 2) X tyX2 tyX2_ok nmX2 uX2 (hP.at 0 rfl) rfl 0 (by decide) mw_464 rfl rfl (v := .int (nI 0)) (ty := .int) (by decide +kernel) rfl rfl (Nat.le_of_ble_eq_true rfl) (Or.inl rfl) hlo dX2_outline_28 (fun H9 locs hpa hlo hat => ?_)
      have hX := hX.tra (rfl) hpa
      have hP := PP.cons hat (PP.exa (hP.sub [1, 2, 3] rfl : PP g [mla g ua U, mla g oa O, mza g ga q] _) hpa (fun z hz => by simp only [List.mem_cons, List.not_mem_nil, or_false] at hz; rcases hz with rfl | rfl | rfl <;> first | exact hM.1 | exact hM.2.1 | exact hM.2.2.1))
      have hP : PP g [(mo, .inr (2, [.int (nI 0), .long (lN x1), .long (lN y1), .ref ua, .ref oa, .ref ga, .long ab, .long be])), mla g ua U, mla g oa O, mza g ga q] H9 := hP
      refine lv_aload_n X.1 X.2.1 dX2_outline_31 rfl (lv_at hl 0 rfl) ?_
      refine p_get (T := TX2) X uX2 (hP.at 0 rfl) rfl 0 (by decide) mw_464 rfl rfl dX2_outline_32 ?_
      refine lv_if_gt (tgt := 56) X.1 X.2.1 dX2_outline_35 (by decide) (fun h9 => absurd h9 (by decide)) (fun _ => ?_)
      refine lv_lload_n X.1 X.2.1 dX2_outline_38 rfl (lv_at hl 1 rfl) ?_
      refine lv_aload_n X.1 X.2.1 dX2_outline_39 rfl (lv_at hl 0 rfl) ?_
      refine p_get (T := TX2) X uX2 (hP.at 0 rfl) rfl 1 (by decide) mw_465 rfl rfl dX2_outline_40 ?_
      refine q_Nne X (by omega) (by omega) (tgt := 58) dX2_outline_43 dX2_outline_44 (by decide) (fun hB10 => ?_) (fun hB10 => ?_)
      ·
        refine lv_aload_n X.1 X.2.1 dX2_outline_58 rfl (lv_at hl 0 rfl) ?_
        refine lv_lload_n X.1 X.2.1 dX2_outline_59 rfl (lv_at hl 1 rfl) ?_
        refine f_put (F := fun q => q = mo) (T := TX2) (N := 8) (ci := 2) X tyX2 tyX2_ok nmX2 uX2 (hP.at 0 rfl) rfl 1 (by decide) mw_465 rfl rfl (v := .long (lN x)) (ty := .long) (by decide +kernel) rfl rfl (Nat.le_of_ble_eq_true rfl) (Or.inl rfl) hlo dX2_outline_60 (fun H11 locs hpa hlo hat => ?_)
        have hX := hX.tra (rfl) hpa
        have hP := PP.cons hat (PP.exa (hP.sub [1, 2, 3] rfl : PP g [mla g ua U, mla g oa O, mza g ga q] _) hpa (fun z hz => by simp only [List.mem_cons, List.not_mem_nil, or_false] at hz; rcases hz with rfl | rfl | rfl <;> first | exact hM.1 | exact hM.2.1 | exact hM.2.2.1))
        have hP : PP g [(mo, .inr (2, [.int (nI 0), .long (lN x), .long (lN y1), .ref ua, .ref oa, .ref ga, .long ab, .long be])), mla g ua U, mla g oa O, mza g ga q] H11 := hP
        refine lv_aload_n X.1 X.2.1 dX2_outline_63 rfl (lv_at hl 0 rfl) ?_
        refine lv_lload_n X.1 X.2.1 dX2_outline_64 rfl (lv_at hl 2 rfl) ?_
        refine f_put (F := fun q => q = mo) (T := TX2) (N := 8) (ci := 2) X tyX2 tyX2_ok nmX2 uX2 (hP.at 0 rfl) rfl 2 (by decide) mw_466 rfl rfl (v := .long (lN y)) (ty := .long) (by decide +kernel) rfl rfl (Nat.le_of_ble_eq_true rfl) (Or.inl rfl) hlo dX2_outline_65 (fun H12 locs hpa hlo hat => ?_)
        have hX := hX.tra (rfl) hpa
        have hP := PP.cons hat (PP.exa (hP.sub [1, 2, 3] rfl : PP g [mla g ua U, mla g oa O, mza g ga q] _) hpa (fun z hz => by simp only [List.mem_cons, List.not_mem_nil, or_false] at hz; rcases hz with rfl | rfl | rfl <;> first | exact hM.1 | exact hM.2.1 | exact hM.2.2.1))
        have hP : PP g [(mo, .inr (2, [.int (nI 0), .long (lN x), .long (lN y), .ref ua, .ref oa, .ref ga, .long ab, .long be])), mla g ua U, mla g oa O, mza g ga q] H12 := hP
        refine lv_iconst (v := nI 1) X.1 X.2.1 dX2_outline_68 (by decide) ?_
        refine w_i (v' := bI true) (by decide) ?_
        exact f_zret (v := true) X hX hlo (Or.inr ⟨by simp [hv0, hw0], by simp only [ex, ey]; rw [decide_eq_false hB10]; rfl, ⟨_, _, _, rfl, by simp only [ex, ey]; exact hP⟩⟩) ⟨by decide, by decide⟩ dX2_outline_69
      ·
        refine lv_lload_n X.1 X.2.1 dX2_outline_47 rfl (lv_at hl 2 rfl) ?_
        refine lv_aload_n X.1 X.2.1 dX2_outline_48 rfl (lv_at hl 0 rfl) ?_
        refine p_get (T := TX2) X uX2 (hP.at 0 rfl) rfl 2 (by decide) mw_466 rfl rfl dX2_outline_49 ?_
        refine q_Nne X (by omega) (by omega) (tgt := 58) dX2_outline_52 dX2_outline_53 (by decide) (fun hB13 => ?_) (fun hB13 => ?_)
        ·
          refine lv_aload_n X.1 X.2.1 dX2_outline_58 rfl (lv_at hl 0 rfl) ?_
          refine lv_lload_n X.1 X.2.1 dX2_outline_59 rfl (lv_at hl 1 rfl) ?_
          refine f_put (F := fun q => q = mo) (T := TX2) (N := 8) (ci := 2) X tyX2 tyX2_ok nmX2 uX2 (hP.at 0 rfl) rfl 1 (by decide) mw_465 rfl rfl (v := .long (lN x)) (ty := .long) (by decide +kernel) rfl rfl (Nat.le_of_ble_eq_true rfl) (Or.inl rfl) hlo dX2_outline_60 (fun H14 locs hpa hlo hat => ?_)
          have hX := hX.tra (rfl) hpa
          have hP := PP.cons hat (PP.exa (hP.sub [1, 2, 3] rfl : PP g [mla g ua U, mla g oa O, mza g ga q] _) hpa (fun z hz => by simp only [List.mem_cons, List.not_mem_nil, or_false] at hz; rcases hz with rfl | rfl | rfl <;> first | exact hM.1 | exact hM.2.1 | exact hM.2.2.1))
          have hP : PP g [(mo, .inr (2, [.int (nI 0), .long (lN x), .long (lN y1), .ref ua, .ref oa, .ref ga, .long ab, .long be])), mla g ua U, mla g oa O, mza g ga q] H14 := hP
          refine lv_aload_n X.1 X.2.1 dX2_outline_63 rfl (lv_at hl 0 rfl) ?_
          refine lv_lload_n X.1 X.2.1 dX2_outline_64 rfl (lv_at hl 2 rfl) ?_
          refine f_put (F := fun q => q = mo) (T := TX2) (N := 8) (ci := 2) X tyX2 tyX2_ok nmX2 uX2 (hP.at 0 rfl) rfl 2 (by decide) mw_466 rfl rfl (v := .long (lN y)) (ty := .long) (by decide +kernel) rfl rfl (Nat.le_of_ble_eq_true rfl) (Or.inl rfl) hlo dX2_outline_65 (fun H15 locs hpa hlo hat => ?_)
          have hX := hX.tra (rfl) hpa
          have hP := PP.cons hat (PP.exa (hP.sub [1, 2, 3] rfl : PP g [mla g ua U, mla g oa O, mza g ga q] _) hpa (fun z hz => by simp only [List.mem_cons, List.not_mem_nil, or_false] at hz; rcases hz with rfl | rfl | rfl <;> first | exact hM.1 | exact hM.2.1 | exact hM.2.2.1))
          have hP : PP g [(mo, .inr (2, [.int (nI 0), .long (lN x), .long (lN y), .ref ua, .ref oa, .ref ga, .long ab, .long be])), mla g ua U, mla g oa O, mza g ga q] H15 := hP
          refine lv_iconst (v := nI 1) X.1 X.2.1 dX2_outline_68 (by decide) ?_
          refine w_i (v' := bI true) (by decide) ?_
          exact f_zret (v := true) X hX hlo (Or.inr ⟨by simp [hv0, hw0], by simp only [ex, ey]; rw [decide_eq_true hB10, decide_eq_false hB13]; rfl, ⟨_, _, _, rfl, by simp only [ex, ey]; exact hP⟩⟩) ⟨by decide, by decide⟩ dX2_outline_69
        ·
          refine lv_iconst (v := nI 0) X.1 X.2.1 dX2_outline_56 (by decide) ?_
          refine w_i (v' := bI false) (by decide) ?_
          exact f_zret (v := false) X hX hlo (Or.inr ⟨by simp [hv0, hw0], by simp only [ex, ey]; rw [decide_eq_true hB10, decide_eq_true hB13]; rfl, ⟨_, _, _, rfl, by simp only [ex, ey]; rw [hB10, hB13]; exact hP⟩⟩) ⟨by decide, by decide⟩ dX2_outline_57
set_option maxHeartbeats 4000000 in
set_option maxRecDepth 100000 in
theorem c_X2_slope (l : Launch) (g : En) (mo ua oa ga : Nat) (cd : Int32) (ab be : Int64) (x1 y1 : Nat) (U O : Nat → Nat) (q : Nat → Rat) (i : Int32) (a0 b0 : Int64) (hO : OK x1 y1 q) (hR : MR q U O) (hM : MD mo ua oa ga) : FM l yX2_slope cX2_slope 7 (some FieldType.boolean) { frames := 1, cells := 0, slots := 0, locals := 30 } g [.ref mo, .int i, .long a0, .long b0] (fun H => MO g mo ua oa ga cd ab be x1 y1 U O q H) (fun q => q = mo ∨ q = ua ∨ q = oa ∨ q = ga) 0 0 (fun v H => ((inI i 4 && (inL a0 1 20 && inL b0 1 20)) = false ∧ (∃ w : Int32, v = some (.int w)) ∧ mP g mo ua oa ga (mk3 2 2 (inI i 4) true (inL a0 1 20 && inL b0 1 20)) x1 y1 U O q H) ∨ ((inI i 4 && (inL a0 1 20 && inL b0 1 20)) = true ∧ v = some (.int (bI (!decide (((toL b0 : Nat) : Rat) / ((toL a0 : Nat) : Rat) = q (toN i))))) ∧ mP g mo ua oa ga 0 x1 y1 (va_up U (toN i) (((toL b0 : Nat) : Rat) / ((toL a0 : Nat) : Rat)).den) (va_up O (toN i) (nu (((toL b0 : Nat) : Rat) / ((toL a0 : Nat) : Rat)))) (va_up q (toN i) (((toL b0 : Nat) : Rat) / ((toL a0 : Nat) : Rat))) H)) := by
  refine FM.of (by decide) (Nat.le_of_ble_eq_true rfl) (fun p e s m below meth c ls X hP hl => ?_)
  have hl : lv_has ls 7 [(0, .ref mo), (1, .int i), (2, .long a0), (4, .long b0)] := hl
  have hX : hxf (fun q => q = mo ∨ q = ua ∨ q = oa ∨ q = ga) s.heap s.heap := hxf.rf
  have hlo : lok (fun q => q = mo ∨ q = ua ∨ q = oa ∨ q = ga) s.heap.size ([] : List Loc) := lok.nil
  have hP : PP g [(mo, .inr (2, [.int cd, .long (lN x1), .long (lN y1), .ref ua, .ref oa, .ref ga, .long ab, .long be])), mla g ua U, mla g oa O, mza g ga q] s.heap := hP
  refine lv_aload_n X.1 X.2.1 dX2_slope_0 rfl (lv_at hl 0 rfl) ?_
  refine lv_iload_n X.1 X.2.1 dX2_slope_1 rfl (lv_at hl 1 rfl) ?_
  refine lv_if_lt (tgt := 10) X.1 X.2.1 dX2_slope_2 (by decide) (fun hB1 => ?_) (fun hB1 => ?_)
  ·
    have hi : inI i 4 = false := inI_lo hB1
    refine lv_iconst (v := nI 1) X.1 X.2.1 dX2_slope_10 (by decide) ?_
    refine lv_goto (tgt := 42) X.1 X.2.1 dX2_slope_11 (by decide) ?_
    refine f_put (F := fun q => q = mo ∨ q = ua ∨ q = oa ∨ q = ga) (T := TX2) (N := 8) (ci := 2) X tyX2 tyX2_ok nmX2 uX2 (hP.at 0 rfl) rfl 0 (by decide) mw_464 rfl rfl (v := .int (nI 1)) (ty := .int) (by decide +kernel) rfl rfl (Nat.le_of_ble_eq_true rfl) (Or.inl (Or.inl rfl)) hlo dX2_slope_42 (fun H2 locs hpa hlo hat => ?_)
    have hX := hX.tra ((Or.inl rfl)) hpa
    have hP := PP.cons hat (PP.exa (hP.sub [1, 2, 3] rfl : PP g [mla g ua U, mla g oa O, mza g ga q] _) hpa (fun z hz => by simp only [List.mem_cons, List.not_mem_nil, or_false] at hz; rcases hz with rfl | rfl | rfl <;> first | exact hM.1 | exact hM.2.1 | exact hM.2.2.1))
    have hP : PP g [(mo, .inr (2, [.int (nI 1), .long (lN x1), .long (lN y1), .ref ua, .ref oa, .ref ga, .long ab, .long be])), mla g ua U, mla g oa O, mza g ga q] H2 := hP
    refine lv_aload_n X.1 X.2.1 dX2_slope_45 rfl (lv_at hl 0 rfl) ?_
    refine p_get (T := TX2) X uX2 (hP.at 0 rfl) rfl 0 (by decide) mw_464 rfl rfl dX2_slope_46 ?_
    refine lv_if_le (tgt := 54) X.1 X.2.1 dX2_slope_49 (by decide) (fun h9 => absurd h9 (by decide)) (fun _ => ?_)
    refine lv_iconst (v := nI 0) X.1 X.2.1 dX2_slope_52 (by decide) ?_
    refine w_i (v' := bI false) (by decide) ?_
    exact f_zret (v := false) X hX hlo (Or.inl ⟨by simp [hi], ⟨_, rfl⟩, ⟨_, _, _, by simp [mk3, hi], hP⟩⟩) ⟨by decide, by decide⟩ dX2_slope_53
  ·
    refine lv_iload_n X.1 X.2.1 dX2_slope_5 rfl (lv_at hl 1 rfl) ?_
    refine lv_iconst (v := nI 3) X.1 X.2.1 dX2_slope_6 (by decide) ?_
    refine lv_icmp_le (tgt := 14) X.1 X.2.1 dX2_slope_7 (by decide) (fun hB3 => ?_) (fun hB3 => ?_)
    ·
      have hi : inI i 4 = true := inI_in3 (n := 3) (by decide) hB1 hB3
      obtain ⟨k, hk, rfl⟩ := inI_of hi (by decide)
      have ek : toN (nI k) = k := toN_k (by omega)
      refine lv_lload_n X.1 X.2.1 dX2_slope_14 rfl (lv_at hl 2 rfl) ?_
      refine lv_lconst (v := lN 1) X.1 X.2.1 dX2_slope_15 (by decide) ?_
      refine lv_ldc2 (v := 20) X.1 X.2.1 X.2.2.2.1 (X.2.2.2.2.1 _ (List.mem_cons_of_mem _ mw_507)) dX2_slope_16 ?_
      refine w_l (v' := lN 20) (by decide) ?_
      refine p_callS (As := [.long a0, .long (lN 1), .long (lN 20)]) (rest := [.ref mo]) X (c_X2_isIn l g a0 1 20 (by decide) (by decide)) ⟨mw_500, mw_501, mw_40, mw_502⟩ sgX2_isIn ⟨rfl, rfl, ⟨by decide, by decide⟩, by decide, by decide⟩ (trivial) hX.1 rfl hl.1 rfl (Nat.le_of_ble_eq_true rfl) dX2_slope_19 (fun v H4 hk5 hp => ?_)
      obtain rfl := hp
      have hX := hX.tr hk5
      have hP := PP.ext hP hk5
      refine W.eq (g2 := F0 m 22 ls [.int (bI (inL a0 1 20)), .ref mo]) rfl ?_
      refine q_Beq X (tgt := 41) dX2_slope_22 (by decide) (fun hB6 => ?_) (fun hB6 => ?_)
      ·
        refine lv_iconst (v := nI 2) X.1 X.2.1 dX2_slope_41 (by decide) ?_
        refine f_put (F := fun q => q = mo ∨ q = ua ∨ q = oa ∨ q = ga) (T := TX2) (N := 8) (ci := 2) X tyX2 tyX2_ok nmX2 uX2 (hP.at 0 rfl) rfl 0 (by decide) mw_464 rfl rfl (v := .int (nI 2)) (ty := .int) (by decide +kernel) rfl rfl (Nat.le_of_ble_eq_true rfl) (Or.inl (Or.inl rfl)) hlo dX2_slope_42 (fun H7 locs hpa hlo hat => ?_)
        have hX := hX.tra ((Or.inl rfl)) hpa
        have hP := PP.cons hat (PP.exa (hP.sub [1, 2, 3] rfl : PP g [mla g ua U, mla g oa O, mza g ga q] _) hpa (fun z hz => by simp only [List.mem_cons, List.not_mem_nil, or_false] at hz; rcases hz with rfl | rfl | rfl <;> first | exact hM.1 | exact hM.2.1 | exact hM.2.2.1))
        have hP : PP g [(mo, .inr (2, [.int (nI 2), .long (lN x1), .long (lN y1), .ref ua, .ref oa, .ref ga, .long ab, .long be])), mla g ua U, mla g oa O, mza g ga q] H7 := hP
        refine lv_aload_n X.1 X.2.1 dX2_slope_45 rfl (lv_at hl 0 rfl) ?_
        refine p_get (T := TX2) X uX2 (hP.at 0 rfl) rfl 0 (by decide) mw_464 rfl rfl dX2_slope_46 ?_
        refine lv_if_le (tgt := 54) X.1 X.2.1 dX2_slope_49 (by decide) (fun h9 => absurd h9 (by decide)) (fun _ => ?_)
        refine lv_iconst (v := nI 0) X.1 X.2.1 dX2_slope_52 (by decide) ?_
        refine w_i (v' := bI false) (by decide) ?_
        exact f_zret (v := false) X hX hlo (Or.inl ⟨by simp [hi, hB6], ⟨_, rfl⟩, ⟨_, _, _, by simp [mk3, hi, hB6], hP⟩⟩) ⟨by decide, by decide⟩ dX2_slope_53
      ·
        refine lv_lload X.1 X.2.1 dX2_slope_25 (lv_at hl 3 rfl) ?_
        refine lv_lconst (v := lN 1) X.1 X.2.1 dX2_slope_27 (by decide) ?_
        refine lv_ldc2 (v := 20) X.1 X.2.1 X.2.2.2.1 (X.2.2.2.2.1 _ (List.mem_cons_of_mem _ mw_507)) dX2_slope_28 ?_
        refine w_l (v' := lN 20) (by decide) ?_
        refine p_callS (As := [.long b0, .long (lN 1), .long (lN 20)]) (rest := [.ref mo]) X (c_X2_isIn l g b0 1 20 (by decide) (by decide)) ⟨mw_500, mw_501, mw_40, mw_502⟩ sgX2_isIn ⟨rfl, rfl, ⟨by decide, by decide⟩, by decide, by decide⟩ (trivial) hX.1 rfl hl.1 rfl (Nat.le_of_ble_eq_true rfl) dX2_slope_31 (fun v H8 hk9 hp => ?_)
        obtain rfl := hp
        have hX := hX.tr hk9
        have hP := PP.ext hP hk9
        refine W.eq (g2 := F0 m 34 ls [.int (bI (inL b0 1 20)), .ref mo]) rfl ?_
        refine q_Beq X (tgt := 41) dX2_slope_34 (by decide) (fun hB10 => ?_) (fun hB10 => ?_)
        ·
          refine lv_iconst (v := nI 2) X.1 X.2.1 dX2_slope_41 (by decide) ?_
          refine f_put (F := fun q => q = mo ∨ q = ua ∨ q = oa ∨ q = ga) (T := TX2) (N := 8) (ci := 2) X tyX2 tyX2_ok nmX2 uX2 (hP.at 0 rfl) rfl 0 (by decide) mw_464 rfl rfl (v := .int (nI 2)) (ty := .int) (by decide +kernel) rfl rfl (Nat.le_of_ble_eq_true rfl) (Or.inl (Or.inl rfl)) hlo dX2_slope_42 (fun H11 locs hpa hlo hat => ?_)
          have hX := hX.tra ((Or.inl rfl)) hpa
          have hP := PP.cons hat (PP.exa (hP.sub [1, 2, 3] rfl : PP g [mla g ua U, mla g oa O, mza g ga q] _) hpa (fun z hz => by simp only [List.mem_cons, List.not_mem_nil, or_false] at hz; rcases hz with rfl | rfl | rfl <;> first | exact hM.1 | exact hM.2.1 | exact hM.2.2.1))
          have hP : PP g [(mo, .inr (2, [.int (nI 2), .long (lN x1), .long (lN y1), .ref ua, .ref oa, .ref ga, .long ab, .long be])), mla g ua U, mla g oa O, mza g ga q] H11 := hP
          refine lv_aload_n X.1 X.2.1 dX2_slope_45 rfl (lv_at hl 0 rfl) ?_
          refine p_get (T := TX2) X uX2 (hP.at 0 rfl) rfl 0 (by decide) mw_464 rfl rfl dX2_slope_46 ?_
          refine lv_if_le (tgt := 54) X.1 X.2.1 dX2_slope_49 (by decide) (fun h9 => absurd h9 (by decide)) (fun _ => ?_)
          refine lv_iconst (v := nI 0) X.1 X.2.1 dX2_slope_52 (by decide) ?_
          refine w_i (v' := bI false) (by decide) ?_
          exact f_zret (v := false) X hX hlo (Or.inl ⟨by simp [hi, hB6, hB10], ⟨_, rfl⟩, ⟨_, _, _, by simp [mk3, hi, hB6, hB10], hP⟩⟩) ⟨by decide, by decide⟩ dX2_slope_53
        ·
          have ha0 := hB6
          obtain ⟨na, na0, hna, rfl⟩ := inL_of ha0 (by decide)
          have ena : toL (lN na) = na := toL_k (by omega)
          have hb0 := hB10
          obtain ⟨nb, nb0, hnb, rfl⟩ := inL_of hb0 (by decide)
          have enb : toL (lN nb) = nb := toL_k (by omega)
          have bk := hO.2.2.1 k hk
          have hz0 := fr_pos (a := na) (b := nb) (by omega) (by omega)
          have sw := sw_nu (a := na) (b := nb) (by omega) (by omega)
          refine lv_iconst (v := nI 0) X.1 X.2.1 dX2_slope_37 (by decide) ?_
          refine lv_goto (tgt := 42) X.1 X.2.1 dX2_slope_38 (by decide) ?_
          refine f_put (F := fun q => q = mo ∨ q = ua ∨ q = oa ∨ q = ga) (T := TX2) (N := 8) (ci := 2) X tyX2 tyX2_ok nmX2 uX2 (hP.at 0 rfl) rfl 0 (by decide) mw_464 rfl rfl (v := .int (nI 0)) (ty := .int) (by decide +kernel) rfl rfl (Nat.le_of_ble_eq_true rfl) (Or.inl (Or.inl rfl)) hlo dX2_slope_42 (fun H12 locs hpa hlo hat => ?_)
          have hX := hX.tra ((Or.inl rfl)) hpa
          have hP := PP.cons hat (PP.exa (hP.sub [1, 2, 3] rfl : PP g [mla g ua U, mla g oa O, mza g ga q] _) hpa (fun z hz => by simp only [List.mem_cons, List.not_mem_nil, or_false] at hz; rcases hz with rfl | rfl | rfl <;> first | exact hM.1 | exact hM.2.1 | exact hM.2.2.1))
          have hP : PP g [(mo, .inr (2, [.int (nI 0), .long (lN x1), .long (lN y1), .ref ua, .ref oa, .ref ga, .long ab, .long be])), mla g ua U, mla g oa O, mza g ga q] H12 := hP
          refine lv_aload_n X.1 X.2.1 dX2_slope_45 rfl (lv_at hl 0 rfl) ?_
          refine p_get (T := TX2) X uX2 (hP.at 0 rfl) rfl 0 (by decide) mw_464 rfl rfl dX2_slope_46 ?_
          refine lv_if_le (tgt := 54) X.1 X.2.1 dX2_slope_49 (by decide) (fun _ => ?_) (fun h9 => absurd (by decide) h9)
          refine lv_aload_n X.1 X.2.1 dX2_slope_54 rfl (lv_at hl 0 rfl) ?_
          refine p_get (T := TX2) X uX2 (hP.at 0 rfl) rfl 5 (by decide) mw_469 rfl rfl dX2_slope_55 ?_
          refine lv_iload_n X.1 X.2.1 dX2_slope_58 rfl (lv_at hl 1 rfl) ?_
          refine f_zald X (hP.at 3 rfl) hk (by decide) dX2_slope_59 ?_
          refine q_Bne X (tgt := 84) dX2_slope_60 (by decide) (fun hB13 => ?_) (fun hB13 => ?_)
          ·
            refine lv_iconst (v := nI 1) X.1 X.2.1 dX2_slope_84 (by decide) ?_
            refine lv_goto (tgt := 89) X.1 X.2.1 dX2_slope_85 (by decide) ?_
            refine lv_istore (lv' := [(6, .int (nI 1)), (0, .ref mo), (1, .int (nI k)), (2, .long (lN na)), (4, .long (lN nb))]) X.1 X.2.1 dX2_slope_89 hl (by decide) rfl (fun ls hl => ?_)
            refine lv_aload_n X.1 X.2.1 dX2_slope_91 rfl (lv_at hl 1 rfl) ?_
            refine lv_lload_n X.1 X.2.1 dX2_slope_92 rfl (lv_at hl 3 rfl) ?_
            refine lv_lload X.1 X.2.1 dX2_slope_93 (lv_at hl 4 rfl) ?_
            refine f_callV (F := fun q => q = mo ∨ q = ua ∨ q = oa ∨ q = ga) (C := RX2) (b := mo) (As := [.long (lN na), .long (lN nb)]) (rest := []) X (c_X2_put l g mo ua oa ga _ _ _ x1 y1 U O q na nb hM (by omega) (by omega) (by omega)) ⟨mw_508, mw_510, mw_22, mw_40, mw_511⟩ sgX2_put ⟨rfl, rfl, ⟨by decide, by decide⟩, by decide, by decide⟩ (hP.at 0 rfl) rfl rfl (hP) hX.1 (fun q h => Or.inl h) hlo rfl hl.1 rfl (Nat.le_of_ble_eq_true rfl) dX2_slope_95 (fun v H14 locs hk15 hlo hp => ?_)
            obtain ⟨rfl, hP⟩ := hp
            have hX := hX.trf (fun q h => Or.inl h) hk15
            refine W.eq (g2 := F0 m 98 ls []) rfl ?_
            refine lv_aload_n X.1 X.2.1 dX2_slope_98 rfl (lv_at hl 1 rfl) ?_
            refine p_get (T := TX2) X uX2 (hP.at 0 rfl) rfl 3 (by decide) mw_467 rfl rfl dX2_slope_99 ?_
            refine lv_iload_n X.1 X.2.1 dX2_slope_102 rfl (lv_at hl 2 rfl) ?_
            refine lv_aload_n X.1 X.2.1 dX2_slope_103 rfl (lv_at hl 1 rfl) ?_
            refine p_get (T := TX2) X uX2 (hP.at 0 rfl) rfl 6 (by decide) mw_470 rfl rfl dX2_slope_104 ?_
            refine f_last (F := fun q => q = mo ∨ q = ua ∨ q = oa ∨ q = ga) X (hP.at 1 rfl) hk (by decide) (Or.inl (Or.inr (Or.inl rfl))) hlo dX2_slope_107 (fun H16 locs hpa hlo hat => ?_)
            have hX := hX.tra (Or.inr (Or.inl rfl)) hpa
            rw [upL, sw.1] at hat
            have hP := PP.cons hat (PP.exa (hP.sub [0, 2, 3] rfl : PP g [(mo, .inr (2, [.int (nI 0), .long (lN x1), .long (lN y1), .ref ua, .ref oa, .ref ga, .long (lN (nu (((na : Nat) : Rat) / ((nb : Nat) : Rat)))), .long (lN ((((na : Nat) : Rat) / ((nb : Nat) : Rat)).den))])), mla g oa O, mza g ga q] _) hpa (fun z hz => by simp only [List.mem_cons, List.not_mem_nil, or_false] at hz; rcases hz with rfl | rfl | rfl <;> first | exact hM.1.symm | exact hM.2.2.2.1.symm | exact hM.2.2.2.2.1.symm))
            have hP : PP g [(mo, .inr (2, [.int (nI 0), .long (lN x1), .long (lN y1), .ref ua, .ref oa, .ref ga, .long (lN (nu (((na : Nat) : Rat) / ((nb : Nat) : Rat)))), .long (lN ((((na : Nat) : Rat) / ((nb : Nat) : Rat)).den))])), mla g ua (va_up U k (((nb : Nat) : Rat) / ((na : Nat) : Rat)).den), mla g oa O, mza g ga q] H16 := hP.sub [1, 0, 2, 3] rfl
            refine lv_aload_n X.1 X.2.1 dX2_slope_108 rfl (lv_at hl 1 rfl) ?_
            refine p_get (T := TX2) X uX2 (hP.at 0 rfl) rfl 4 (by decide) mw_468 rfl rfl dX2_slope_109 ?_
            refine lv_iload_n X.1 X.2.1 dX2_slope_112 rfl (lv_at hl 2 rfl) ?_
            refine lv_aload_n X.1 X.2.1 dX2_slope_113 rfl (lv_at hl 1 rfl) ?_
            refine p_get (T := TX2) X uX2 (hP.at 0 rfl) rfl 7 (by decide) mw_471 rfl rfl dX2_slope_114 ?_
            refine f_last (F := fun q => q = mo ∨ q = ua ∨ q = oa ∨ q = ga) X (hP.at 2 rfl) hk (by decide) (Or.inl (Or.inr (Or.inr (Or.inl rfl)))) hlo dX2_slope_117 (fun H17 locs hpa hlo hat => ?_)
            have hX := hX.tra (Or.inr (Or.inr (Or.inl rfl))) hpa
            rw [upL, sw.2] at hat
            have hP := PP.cons hat (PP.exa (hP.sub [0, 1, 3] rfl : PP g [(mo, .inr (2, [.int (nI 0), .long (lN x1), .long (lN y1), .ref ua, .ref oa, .ref ga, .long (lN (nu (((na : Nat) : Rat) / ((nb : Nat) : Rat)))), .long (lN ((((na : Nat) : Rat) / ((nb : Nat) : Rat)).den))])), mla g ua (va_up U k (((nb : Nat) : Rat) / ((na : Nat) : Rat)).den), mza g ga q] _) hpa (fun z hz => by simp only [List.mem_cons, List.not_mem_nil, or_false] at hz; rcases hz with rfl | rfl | rfl <;> first | exact hM.2.1.symm | exact hM.2.2.2.1 | exact hM.2.2.2.2.2.symm))
            have hP : PP g [(mo, .inr (2, [.int (nI 0), .long (lN x1), .long (lN y1), .ref ua, .ref oa, .ref ga, .long (lN (nu (((na : Nat) : Rat) / ((nb : Nat) : Rat)))), .long (lN ((((na : Nat) : Rat) / ((nb : Nat) : Rat)).den))])), mla g ua (va_up U k (((nb : Nat) : Rat) / ((na : Nat) : Rat)).den), mla g oa (va_up O k (nu (((nb : Nat) : Rat) / ((na : Nat) : Rat)))), mza g ga q] H17 := hP.sub [1, 2, 0, 3] rfl
            refine lv_aload_n X.1 X.2.1 dX2_slope_118 rfl (lv_at hl 1 rfl) ?_
            refine p_get (T := TX2) X uX2 (hP.at 0 rfl) rfl 5 (by decide) mw_469 rfl rfl dX2_slope_119 ?_
            refine lv_iload_n X.1 X.2.1 dX2_slope_122 rfl (lv_at hl 2 rfl) ?_
            refine lv_iconst (v := nI 0) X.1 X.2.1 dX2_slope_123 (by decide) ?_
            refine w_i (v' := bI (decide (((nb : Nat) : Rat) / ((na : Nat) : Rat) = 0))) (by rw [decide_eq_false (Rat.ne_of_gt hz0)]; rfl) ?_
            refine f_zast (F := fun q => q = mo ∨ q = ua ∨ q = oa ∨ q = ga) X (hP.at 3 rfl) hk (by decide) (Or.inl (Or.inr (Or.inr (Or.inr rfl)))) hlo dX2_slope_124 (fun H18 locs hpa hlo hat => ?_)
            have hX := hX.tra (Or.inr (Or.inr (Or.inr rfl))) hpa
            rw [upZ] at hat
            have hP := PP.cons hat (PP.exa (hP.sub [0, 1, 2] rfl : PP g [(mo, .inr (2, [.int (nI 0), .long (lN x1), .long (lN y1), .ref ua, .ref oa, .ref ga, .long (lN (nu (((na : Nat) : Rat) / ((nb : Nat) : Rat)))), .long (lN ((((na : Nat) : Rat) / ((nb : Nat) : Rat)).den))])), mla g ua (va_up U k (((nb : Nat) : Rat) / ((na : Nat) : Rat)).den), mla g oa (va_up O k (nu (((nb : Nat) : Rat) / ((na : Nat) : Rat))))] _) hpa (fun z hz => by simp only [List.mem_cons, List.not_mem_nil, or_false] at hz; rcases hz with rfl | rfl | rfl <;> first | exact hM.2.2.1.symm | exact hM.2.2.2.2.1 | exact hM.2.2.2.2.2))
            have hP : PP g [(mo, .inr (2, [.int (nI 0), .long (lN x1), .long (lN y1), .ref ua, .ref oa, .ref ga, .long (lN (nu (((na : Nat) : Rat) / ((nb : Nat) : Rat)))), .long (lN ((((na : Nat) : Rat) / ((nb : Nat) : Rat)).den))])), mla g ua (va_up U k (((nb : Nat) : Rat) / ((na : Nat) : Rat)).den), mla g oa (va_up O k (nu (((nb : Nat) : Rat) / ((na : Nat) : Rat)))), mza g ga (va_up q k (((nb : Nat) : Rat) / ((na : Nat) : Rat)))] H18 := hP.sub [1, 2, 3, 0] rfl
            refine lv_iload X.1 X.2.1 dX2_slope_125 (lv_at hl 0 rfl) ?_
            refine w_i (v' := bI true) (by decide) ?_
            exact f_zret (v := true) X hX hlo (Or.inr ⟨by simp [hi, ha0, hb0], by simp only [ek, ena, enb]; rw [decide_eq_false (fun h9 => by rw [h9, gab0 hB13] at hz0; exact absurd hz0 (by decide))]; rfl, ⟨_, _, _, rfl, by simp only [ek, ena, enb]; exact hP⟩⟩) ⟨by decide, by decide⟩ dX2_slope_127
          ·
            have eR := hR k hk hB13
            have eqf := eq_fr (a := na) (b := nb) (x := q k) (by omega) bk.1
            refine lv_lload_n X.1 X.2.1 dX2_slope_63 rfl (lv_at hl 2 rfl) ?_
            refine lv_aload_n X.1 X.2.1 dX2_slope_64 rfl (lv_at hl 0 rfl) ?_
            refine p_get (T := TX2) X uX2 (hP.at 0 rfl) rfl 4 (by decide) mw_468 rfl rfl dX2_slope_65 ?_
            refine lv_iload_n X.1 X.2.1 dX2_slope_68 rfl (lv_at hl 1 rfl) ?_
            refine f_lald X (hP.at 2 rfl) hk (by decide) dX2_slope_69 ?_
            refine w_l (v' := lN (nu (q k))) (by rw [(eR).1]) ?_
            refine lv_lmul X.1 X.2.1 dX2_slope_70 ?_
            refine w_l (lN_mul _ _) ?_
            refine lv_lload X.1 X.2.1 dX2_slope_71 (lv_at hl 3 rfl) ?_
            refine lv_aload_n X.1 X.2.1 dX2_slope_73 rfl (lv_at hl 0 rfl) ?_
            refine p_get (T := TX2) X uX2 (hP.at 0 rfl) rfl 3 (by decide) mw_467 rfl rfl dX2_slope_74 ?_
            refine lv_iload_n X.1 X.2.1 dX2_slope_77 rfl (lv_at hl 1 rfl) ?_
            refine f_lald X (hP.at 1 rfl) hk (by decide) dX2_slope_78 ?_
            refine w_l (v' := lN ((q k).den)) (by rw [(eR).2]) ?_
            refine lv_lmul X.1 X.2.1 dX2_slope_79 ?_
            refine w_l (lN_mul _ _) ?_
            refine q_Neq X (mlt hna bk.2.1 (by decide)) (mlt hnb bk.2.2 (by decide)) (tgt := 88) dX2_slope_80 dX2_slope_81 (by decide) (fun hB19 => ?_) (fun hB19 => ?_)
            ·
              refine lv_iconst (v := nI 0) X.1 X.2.1 dX2_slope_88 (by decide) ?_
              refine lv_istore (lv' := [(6, .int (nI 0)), (0, .ref mo), (1, .int (nI k)), (2, .long (lN na)), (4, .long (lN nb))]) X.1 X.2.1 dX2_slope_89 hl (by decide) rfl (fun ls hl => ?_)
              refine lv_aload_n X.1 X.2.1 dX2_slope_91 rfl (lv_at hl 1 rfl) ?_
              refine lv_lload_n X.1 X.2.1 dX2_slope_92 rfl (lv_at hl 3 rfl) ?_
              refine lv_lload X.1 X.2.1 dX2_slope_93 (lv_at hl 4 rfl) ?_
              refine f_callV (F := fun q => q = mo ∨ q = ua ∨ q = oa ∨ q = ga) (C := RX2) (b := mo) (As := [.long (lN na), .long (lN nb)]) (rest := []) X (c_X2_put l g mo ua oa ga _ _ _ x1 y1 U O q na nb hM (by omega) (by omega) (by omega)) ⟨mw_508, mw_510, mw_22, mw_40, mw_511⟩ sgX2_put ⟨rfl, rfl, ⟨by decide, by decide⟩, by decide, by decide⟩ (hP.at 0 rfl) rfl rfl (hP) hX.1 (fun q h => Or.inl h) hlo rfl hl.1 rfl (Nat.le_of_ble_eq_true rfl) dX2_slope_95 (fun v H20 locs hk21 hlo hp => ?_)
              obtain ⟨rfl, hP⟩ := hp
              have hX := hX.trf (fun q h => Or.inl h) hk21
              refine W.eq (g2 := F0 m 98 ls []) rfl ?_
              refine lv_aload_n X.1 X.2.1 dX2_slope_98 rfl (lv_at hl 1 rfl) ?_
              refine p_get (T := TX2) X uX2 (hP.at 0 rfl) rfl 3 (by decide) mw_467 rfl rfl dX2_slope_99 ?_
              refine lv_iload_n X.1 X.2.1 dX2_slope_102 rfl (lv_at hl 2 rfl) ?_
              refine lv_aload_n X.1 X.2.1 dX2_slope_103 rfl (lv_at hl 1 rfl) ?_
              refine p_get (T := TX2) X uX2 (hP.at 0 rfl) rfl 6 (by decide) mw_470 rfl rfl dX2_slope_104 ?_
              refine f_last (F := fun q => q = mo ∨ q = ua ∨ q = oa ∨ q = ga) X (hP.at 1 rfl) hk (by decide) (Or.inl (Or.inr (Or.inl rfl))) hlo dX2_slope_107 (fun H22 locs hpa hlo hat => ?_)
              have hX := hX.tra (Or.inr (Or.inl rfl)) hpa
              rw [upL, sw.1] at hat
              have hP := PP.cons hat (PP.exa (hP.sub [0, 2, 3] rfl : PP g [(mo, .inr (2, [.int (nI 0), .long (lN x1), .long (lN y1), .ref ua, .ref oa, .ref ga, .long (lN (nu (((na : Nat) : Rat) / ((nb : Nat) : Rat)))), .long (lN ((((na : Nat) : Rat) / ((nb : Nat) : Rat)).den))])), mla g oa O, mza g ga q] _) hpa (fun z hz => by simp only [List.mem_cons, List.not_mem_nil, or_false] at hz; rcases hz with rfl | rfl | rfl <;> first | exact hM.1.symm | exact hM.2.2.2.1.symm | exact hM.2.2.2.2.1.symm))
              have hP : PP g [(mo, .inr (2, [.int (nI 0), .long (lN x1), .long (lN y1), .ref ua, .ref oa, .ref ga, .long (lN (nu (((na : Nat) : Rat) / ((nb : Nat) : Rat)))), .long (lN ((((na : Nat) : Rat) / ((nb : Nat) : Rat)).den))])), mla g ua (va_up U k (((nb : Nat) : Rat) / ((na : Nat) : Rat)).den), mla g oa O, mza g ga q] H22 := hP.sub [1, 0, 2, 3] rfl
              refine lv_aload_n X.1 X.2.1 dX2_slope_108 rfl (lv_at hl 1 rfl) ?_
              refine p_get (T := TX2) X uX2 (hP.at 0 rfl) rfl 4 (by decide) mw_468 rfl rfl dX2_slope_109 ?_
              refine lv_iload_n X.1 X.2.1 dX2_slope_112 rfl (lv_at hl 2 rfl) ?_
              refine lv_aload_n X.1 X.2.1 dX2_slope_113 rfl (lv_at hl 1 rfl) ?_
              refine p_get (T := TX2) X uX2 (hP.at 0 rfl) rfl 7 (by decide) mw_471 rfl rfl dX2_slope_114 ?_
              refine f_last (F := fun q => q = mo ∨ q = ua ∨ q = oa ∨ q = ga) X (hP.at 2 rfl) hk (by decide) (Or.inl (Or.inr (Or.inr (Or.inl rfl)))) hlo dX2_slope_117 (fun H23 locs hpa hlo hat => ?_)
              have hX := hX.tra (Or.inr (Or.inr (Or.inl rfl))) hpa
              rw [upL, sw.2] at hat
              have hP := PP.cons hat (PP.exa (hP.sub [0, 1, 3] rfl : PP g [(mo, .inr (2, [.int (nI 0), .long (lN x1), .long (lN y1), .ref ua, .ref oa, .ref ga, .long (lN (nu (((na : Nat) : Rat) / ((nb : Nat) : Rat)))), .long (lN ((((na : Nat) : Rat) / ((nb : Nat) : Rat)).den))])), mla g ua (va_up U k (((nb : Nat) : Rat) / ((na : Nat) : Rat)).den), mza g ga q] _) hpa (fun z hz => by simp only [List.mem_cons, List.not_mem_nil, or_false] at hz; rcases hz with rfl | rfl | rfl <;> first | exact hM.2.1.symm | exact hM.2.2.2.1 | exact hM.2.2.2.2.2.symm))
              have hP : PP g [(mo, .inr (2, [.int (nI 0), .long (lN x1), .long (lN y1), .ref ua, .ref oa, .ref ga, .long (lN (nu (((na : Nat) : Rat) / ((nb : Nat) : Rat)))), .long (lN ((((na : Nat) : Rat) / ((nb : Nat) : Rat)).den))])), mla g ua (va_up U k (((nb : Nat) : Rat) / ((na : Nat) : Rat)).den), mla g oa (va_up O k (nu (((nb : Nat) : Rat) / ((na : Nat) : Rat)))), mza g ga q] H23 := hP.sub [1, 2, 0, 3] rfl
              refine lv_aload_n X.1 X.2.1 dX2_slope_118 rfl (lv_at hl 1 rfl) ?_
              refine p_get (T := TX2) X uX2 (hP.at 0 rfl) rfl 5 (by decide) mw_469 rfl rfl dX2_slope_119 ?_
              refine lv_iload_n X.1 X.2.1 dX2_slope_122 rfl (lv_at hl 2 rfl) ?_
              refine lv_iconst (v := nI 0) X.1 X.2.1 dX2_slope_123 (by decide) ?_
              refine w_i (v' := bI (decide (((nb : Nat) : Rat) / ((na : Nat) : Rat) = 0))) (by rw [decide_eq_false (Rat.ne_of_gt hz0)]; rfl) ?_
              refine f_zast (F := fun q => q = mo ∨ q = ua ∨ q = oa ∨ q = ga) X (hP.at 3 rfl) hk (by decide) (Or.inl (Or.inr (Or.inr (Or.inr rfl)))) hlo dX2_slope_124 (fun H24 locs hpa hlo hat => ?_)
              have hX := hX.tra (Or.inr (Or.inr (Or.inr rfl))) hpa
              rw [upZ] at hat
              have hP := PP.cons hat (PP.exa (hP.sub [0, 1, 2] rfl : PP g [(mo, .inr (2, [.int (nI 0), .long (lN x1), .long (lN y1), .ref ua, .ref oa, .ref ga, .long (lN (nu (((na : Nat) : Rat) / ((nb : Nat) : Rat)))), .long (lN ((((na : Nat) : Rat) / ((nb : Nat) : Rat)).den))])), mla g ua (va_up U k (((nb : Nat) : Rat) / ((na : Nat) : Rat)).den), mla g oa (va_up O k (nu (((nb : Nat) : Rat) / ((na : Nat) : Rat))))] _) hpa (fun z hz => by simp only [List.mem_cons, List.not_mem_nil, or_false] at hz; rcases hz with rfl | rfl | rfl <;> first | exact hM.2.2.1.symm | exact hM.2.2.2.2.1 | exact hM.2.2.2.2.2))
              have hP : PP g [(mo, .inr (2, [.int (nI 0), .long (lN x1), .long (lN y1), .ref ua, .ref oa, .ref ga, .long (lN (nu (((na : Nat) : Rat) / ((nb : Nat) : Rat)))), .long (lN ((((na : Nat) : Rat) / ((nb : Nat) : Rat)).den))])), mla g ua (va_up U k (((nb : Nat) : Rat) / ((na : Nat) : Rat)).den), mla g oa (va_up O k (nu (((nb : Nat) : Rat) / ((na : Nat) : Rat)))), mza g ga (va_up q k (((nb : Nat) : Rat) / ((na : Nat) : Rat)))] H24 := hP.sub [1, 2, 3, 0] rfl
              refine lv_iload X.1 X.2.1 dX2_slope_125 (lv_at hl 0 rfl) ?_
              refine w_i (v' := bI false) (by decide) ?_
              exact f_zret (v := false) X hX hlo (Or.inr ⟨by simp [hi, ha0, hb0], by simp only [ek, ena, enb]; rw [decide_eq_true (eqf.mpr hB19)]; rfl, ⟨_, _, _, rfl, by simp only [ek, ena, enb]; exact hP⟩⟩) ⟨by decide, by decide⟩ dX2_slope_127
            ·
              refine lv_iconst (v := nI 1) X.1 X.2.1 dX2_slope_84 (by decide) ?_
              refine lv_goto (tgt := 89) X.1 X.2.1 dX2_slope_85 (by decide) ?_
              refine lv_istore (lv' := [(6, .int (nI 1)), (0, .ref mo), (1, .int (nI k)), (2, .long (lN na)), (4, .long (lN nb))]) X.1 X.2.1 dX2_slope_89 hl (by decide) rfl (fun ls hl => ?_)
              refine lv_aload_n X.1 X.2.1 dX2_slope_91 rfl (lv_at hl 1 rfl) ?_
              refine lv_lload_n X.1 X.2.1 dX2_slope_92 rfl (lv_at hl 3 rfl) ?_
              refine lv_lload X.1 X.2.1 dX2_slope_93 (lv_at hl 4 rfl) ?_
              refine f_callV (F := fun q => q = mo ∨ q = ua ∨ q = oa ∨ q = ga) (C := RX2) (b := mo) (As := [.long (lN na), .long (lN nb)]) (rest := []) X (c_X2_put l g mo ua oa ga _ _ _ x1 y1 U O q na nb hM (by omega) (by omega) (by omega)) ⟨mw_508, mw_510, mw_22, mw_40, mw_511⟩ sgX2_put ⟨rfl, rfl, ⟨by decide, by decide⟩, by decide, by decide⟩ (hP.at 0 rfl) rfl rfl (hP) hX.1 (fun q h => Or.inl h) hlo rfl hl.1 rfl (Nat.le_of_ble_eq_true rfl) dX2_slope_95 (fun v H25 locs hk26 hlo hp => ?_)
              obtain ⟨rfl, hP⟩ := hp
              have hX := hX.trf (fun q h => Or.inl h) hk26
              refine W.eq (g2 := F0 m 98 ls []) rfl ?_
              refine lv_aload_n X.1 X.2.1 dX2_slope_98 rfl (lv_at hl 1 rfl) ?_
              refine p_get (T := TX2) X uX2 (hP.at 0 rfl) rfl 3 (by decide) mw_467 rfl rfl dX2_slope_99 ?_
              refine lv_iload_n X.1 X.2.1 dX2_slope_102 rfl (lv_at hl 2 rfl) ?_
              refine lv_aload_n X.1 X.2.1 dX2_slope_103 rfl (lv_at hl 1 rfl) ?_
              refine p_get (T := TX2) X uX2 (hP.at 0 rfl) rfl 6 (by decide) mw_470 rfl rfl dX2_slope_104 ?_
              refine f_last (F := fun q => q = mo ∨ q = ua ∨ q = oa ∨ q = ga) X (hP.at 1 rfl) hk (by decide) (Or.inl (Or.inr (Or.inl rfl))) hlo dX2_slope_107 (fun H27 locs hpa hlo hat => ?_)
              have hX := hX.tra (Or.inr (Or.inl rfl)) hpa
              rw [upL, sw.1] at hat
              have hP := PP.cons hat (PP.exa (hP.sub [0, 2, 3] rfl : PP g [(mo, .inr (2, [.int (nI 0), .long (lN x1), .long (lN y1), .ref ua, .ref oa, .ref ga, .long (lN (nu (((na : Nat) : Rat) / ((nb : Nat) : Rat)))), .long (lN ((((na : Nat) : Rat) / ((nb : Nat) : Rat)).den))])), mla g oa O, mza g ga q] _) hpa (fun z hz => by simp only [List.mem_cons, List.not_mem_nil, or_false] at hz; rcases hz with rfl | rfl | rfl <;> first | exact hM.1.symm | exact hM.2.2.2.1.symm | exact hM.2.2.2.2.1.symm))
              have hP : PP g [(mo, .inr (2, [.int (nI 0), .long (lN x1), .long (lN y1), .ref ua, .ref oa, .ref ga, .long (lN (nu (((na : Nat) : Rat) / ((nb : Nat) : Rat)))), .long (lN ((((na : Nat) : Rat) / ((nb : Nat) : Rat)).den))])), mla g ua (va_up U k (((nb : Nat) : Rat) / ((na : Nat) : Rat)).den), mla g oa O, mza g ga q] H27 := hP.sub [1, 0, 2, 3] rfl
              refine lv_aload_n X.1 X.2.1 dX2_slope_108 rfl (lv_at hl 1 rfl) ?_
              refine p_get (T := TX2) X uX2 (hP.at 0 rfl) rfl 4 (by decide) mw_468 rfl rfl dX2_slope_109 ?_
              refine lv_iload_n X.1 X.2.1 dX2_slope_112 rfl (lv_at hl 2 rfl) ?_
              refine lv_aload_n X.1 X.2.1 dX2_slope_113 rfl (lv_at hl 1 rfl) ?_
              refine p_get (T := TX2) X uX2 (hP.at 0 rfl) rfl 7 (by decide) mw_471 rfl rfl dX2_slope_114 ?_
              refine f_last (F := fun q => q = mo ∨ q = ua ∨ q = oa ∨ q = ga) X (hP.at 2 rfl) hk (by decide) (Or.inl (Or.inr (Or.inr (Or.inl rfl)))) hlo dX2_slope_117 (fun H28 locs hpa hlo hat => ?_)
              have hX := hX.tra (Or.inr (Or.inr (Or.inl rfl))) hpa
              rw [upL, sw.2] at hat
              have hP := PP.cons hat (PP.exa (hP.sub [0, 1, 3] rfl : PP g [(mo, .inr (2, [.int (nI 0), .long (lN x1), .long (lN y1), .ref ua, .ref oa, .ref ga, .long (lN (nu (((na : Nat) : Rat) / ((nb : Nat) : Rat)))), .long (lN ((((na : Nat) : Rat) / ((nb : Nat) : Rat)).den))])), mla g ua (va_up U k (((nb : Nat) : Rat) / ((na : Nat) : Rat)).den), mza g ga q] _) hpa (fun z hz => by simp only [List.mem_cons, List.not_mem_nil, or_false] at hz; rcases hz with rfl | rfl | rfl <;> first | exact hM.2.1.symm | exact hM.2.2.2.1 | exact hM.2.2.2.2.2.symm))
              have hP : PP g [(mo, .inr (2, [.int (nI 0), .long (lN x1), .long (lN y1), .ref ua, .ref oa, .ref ga, .long (lN (nu (((na : Nat) : Rat) / ((nb : Nat) : Rat)))), .long (lN ((((na : Nat) : Rat) / ((nb : Nat) : Rat)).den))])), mla g ua (va_up U k (((nb : Nat) : Rat) / ((na : Nat) : Rat)).den), mla g oa (va_up O k (nu (((nb : Nat) : Rat) / ((na : Nat) : Rat)))), mza g ga q] H28 := hP.sub [1, 2, 0, 3] rfl
              refine lv_aload_n X.1 X.2.1 dX2_slope_118 rfl (lv_at hl 1 rfl) ?_
              refine p_get (T := TX2) X uX2 (hP.at 0 rfl) rfl 5 (by decide) mw_469 rfl rfl dX2_slope_119 ?_
              refine lv_iload_n X.1 X.2.1 dX2_slope_122 rfl (lv_at hl 2 rfl) ?_
              refine lv_iconst (v := nI 0) X.1 X.2.1 dX2_slope_123 (by decide) ?_
              refine w_i (v' := bI (decide (((nb : Nat) : Rat) / ((na : Nat) : Rat) = 0))) (by rw [decide_eq_false (Rat.ne_of_gt hz0)]; rfl) ?_
              refine f_zast (F := fun q => q = mo ∨ q = ua ∨ q = oa ∨ q = ga) X (hP.at 3 rfl) hk (by decide) (Or.inl (Or.inr (Or.inr (Or.inr rfl)))) hlo dX2_slope_124 (fun H29 locs hpa hlo hat => ?_)
              have hX := hX.tra (Or.inr (Or.inr (Or.inr rfl))) hpa
              rw [upZ] at hat
              have hP := PP.cons hat (PP.exa (hP.sub [0, 1, 2] rfl : PP g [(mo, .inr (2, [.int (nI 0), .long (lN x1), .long (lN y1), .ref ua, .ref oa, .ref ga, .long (lN (nu (((na : Nat) : Rat) / ((nb : Nat) : Rat)))), .long (lN ((((na : Nat) : Rat) / ((nb : Nat) : Rat)).den))])), mla g ua (va_up U k (((nb : Nat) : Rat) / ((na : Nat) : Rat)).den), mla g oa (va_up O k (nu (((nb : Nat) : Rat) / ((na : Nat) : Rat))))] _) hpa (fun z hz => by simp only [List.mem_cons, List.not_mem_nil, or_false] at hz; rcases hz with rfl | rfl | rfl <;> first | exact hM.2.2.1.symm | exact hM.2.2.2.2.1 | exact hM.2.2.2.2.2))
              have hP : PP g [(mo, .inr (2, [.int (nI 0), .long (lN x1), .long (lN y1), .ref ua, .ref oa, .ref ga, .long (lN (nu (((na : Nat) : Rat) / ((nb : Nat) : Rat)))), .long (lN ((((na : Nat) : Rat) / ((nb : Nat) : Rat)).den))])), mla g ua (va_up U k (((nb : Nat) : Rat) / ((na : Nat) : Rat)).den), mla g oa (va_up O k (nu (((nb : Nat) : Rat) / ((na : Nat) : Rat)))), mza g ga (va_up q k (((nb : Nat) : Rat) / ((na : Nat) : Rat)))] H29 := hP.sub [1, 2, 3, 0] rfl
              refine lv_iload X.1 X.2.1 dX2_slope_125 (lv_at hl 0 rfl) ?_
              refine w_i (v' := bI true) (by decide) ?_
              exact f_zret (v := true) X hX hlo (Or.inr ⟨by simp [hi, ha0, hb0], by simp only [ek, ena, enb]; rw [decide_eq_false (fun h9 => hB19 (eqf.mp h9))]; rfl, ⟨_, _, _, rfl, by simp only [ek, ena, enb]; exact hP⟩⟩) ⟨by decide, by decide⟩ dX2_slope_127
    ·
      have hi : inI i 4 = false := inI_hi3 (n := 3) (by decide) hB3
      refine lv_iconst (v := nI 1) X.1 X.2.1 dX2_slope_10 (by decide) ?_
      refine lv_goto (tgt := 42) X.1 X.2.1 dX2_slope_11 (by decide) ?_
      refine f_put (F := fun q => q = mo ∨ q = ua ∨ q = oa ∨ q = ga) (T := TX2) (N := 8) (ci := 2) X tyX2 tyX2_ok nmX2 uX2 (hP.at 0 rfl) rfl 0 (by decide) mw_464 rfl rfl (v := .int (nI 1)) (ty := .int) (by decide +kernel) rfl rfl (Nat.le_of_ble_eq_true rfl) (Or.inl (Or.inl rfl)) hlo dX2_slope_42 (fun H30 locs hpa hlo hat => ?_)
      have hX := hX.tra ((Or.inl rfl)) hpa
      have hP := PP.cons hat (PP.exa (hP.sub [1, 2, 3] rfl : PP g [mla g ua U, mla g oa O, mza g ga q] _) hpa (fun z hz => by simp only [List.mem_cons, List.not_mem_nil, or_false] at hz; rcases hz with rfl | rfl | rfl <;> first | exact hM.1 | exact hM.2.1 | exact hM.2.2.1))
      have hP : PP g [(mo, .inr (2, [.int (nI 1), .long (lN x1), .long (lN y1), .ref ua, .ref oa, .ref ga, .long ab, .long be])), mla g ua U, mla g oa O, mza g ga q] H30 := hP
      refine lv_aload_n X.1 X.2.1 dX2_slope_45 rfl (lv_at hl 0 rfl) ?_
      refine p_get (T := TX2) X uX2 (hP.at 0 rfl) rfl 0 (by decide) mw_464 rfl rfl dX2_slope_46 ?_
      refine lv_if_le (tgt := 54) X.1 X.2.1 dX2_slope_49 (by decide) (fun h9 => absurd h9 (by decide)) (fun _ => ?_)
      refine lv_iconst (v := nI 0) X.1 X.2.1 dX2_slope_52 (by decide) ?_
      refine w_i (v' := bI false) (by decide) ?_
      exact f_zret (v := false) X hX hlo (Or.inl ⟨by simp [hi], ⟨_, rfl⟩, ⟨_, _, _, by simp [mk3, hi], hP⟩⟩) ⟨by decide, by decide⟩ dX2_slope_53
set_option maxHeartbeats 4000000 in
set_option maxRecDepth 100000 in
theorem c_X2_gable (l : Launch) (g : En) (mo ua oa ga : Nat) (cd : Int32) (ab be : Int64) (x1 y1 : Nat) (U O : Nat → Nat) (q : Nat → Rat) (i : Int32) (hO : OK x1 y1 q) (hR : MR q U O) (hM : MD mo ua oa ga) : FM l yX2_gable cX2_gable 4 (some FieldType.boolean) { frames := 0, cells := 0, slots := 0, locals := 0 } g [.ref mo, .int i] (fun H => MO g mo ua oa ga cd ab be x1 y1 U O q H) (fun q => q = mo ∨ q = ua ∨ q = oa ∨ q = ga) 0 0 (fun v H => ((inI i 4 && oth q (toN i)) = false ∧ (∃ w : Int32, v = some (.int w)) ∧ mP g mo ua oa ga (mk3 2 2 (inI i 4) (oth q (toN i)) true) x1 y1 U O q H) ∨ ((inI i 4 && oth q (toN i)) = true ∧ v = some (.int (bI (!decide ((0 : Rat) = q (toN i))))) ∧ mP g mo ua oa ga 0 x1 y1 U O (va_up q (toN i) 0) H)) := by
  refine FM.of (by decide) (Nat.le_of_ble_eq_true rfl) (fun p e s m below meth c ls X hP hl => ?_)
  have hl : lv_has ls 4 [(0, .ref mo), (1, .int i)] := hl
  have hX : hxf (fun q => q = mo ∨ q = ua ∨ q = oa ∨ q = ga) s.heap s.heap := hxf.rf
  have hlo : lok (fun q => q = mo ∨ q = ua ∨ q = oa ∨ q = ga) s.heap.size ([] : List Loc) := lok.nil
  have hP : PP g [(mo, .inr (2, [.int cd, .long (lN x1), .long (lN y1), .ref ua, .ref oa, .ref ga, .long ab, .long be])), mla g ua U, mla g oa O, mza g ga q] s.heap := hP
  refine lv_iload_n X.1 X.2.1 dX2_gable_0 rfl (lv_at hl 1 rfl) ?_
  refine lv_if_lt (tgt := 9) X.1 X.2.1 dX2_gable_1 (by decide) (fun hB1 => ?_) (fun hB1 => ?_)
  ·
    have hi : inI i 4 = false := inI_lo hB1
    refine lv_aload_n X.1 X.2.1 dX2_gable_9 rfl (lv_at hl 0 rfl) ?_
    refine lv_iconst (v := nI 1) X.1 X.2.1 dX2_gable_10 (by decide) ?_
    refine f_put (F := fun q => q = mo ∨ q = ua ∨ q = oa ∨ q = ga) (T := TX2) (N := 8) (ci := 2) X tyX2 tyX2_ok nmX2 uX2 (hP.at 0 rfl) rfl 0 (by decide) mw_464 rfl rfl (v := .int (nI 1)) (ty := .int) (by decide +kernel) rfl rfl (Nat.le_of_ble_eq_true rfl) (Or.inl (Or.inl rfl)) hlo dX2_gable_11 (fun H2 locs hpa hlo hat => ?_)
    have hX := hX.tra ((Or.inl rfl)) hpa
    have hP := PP.cons hat (PP.exa (hP.sub [1, 2, 3] rfl : PP g [mla g ua U, mla g oa O, mza g ga q] _) hpa (fun z hz => by simp only [List.mem_cons, List.not_mem_nil, or_false] at hz; rcases hz with rfl | rfl | rfl <;> first | exact hM.1 | exact hM.2.1 | exact hM.2.2.1))
    have hP : PP g [(mo, .inr (2, [.int (nI 1), .long (lN x1), .long (lN y1), .ref ua, .ref oa, .ref ga, .long ab, .long be])), mla g ua U, mla g oa O, mza g ga q] H2 := hP
    refine lv_iconst (v := nI 0) X.1 X.2.1 dX2_gable_14 (by decide) ?_
    refine w_i (v' := bI false) (by decide) ?_
    exact f_zret (v := false) X hX hlo (Or.inl ⟨by simp [hi], ⟨_, rfl⟩, ⟨_, _, _, by simp [mk3, hi], hP⟩⟩) ⟨by decide, by decide⟩ dX2_gable_15
  ·
    refine lv_iload_n X.1 X.2.1 dX2_gable_4 rfl (lv_at hl 1 rfl) ?_
    refine lv_iconst (v := nI 3) X.1 X.2.1 dX2_gable_5 (by decide) ?_
    refine lv_icmp_le (tgt := 16) X.1 X.2.1 dX2_gable_6 (by decide) (fun hB3 => ?_) (fun hB3 => ?_)
    ·
      have hi : inI i 4 = true := inI_in3 (n := 3) (by decide) hB1 hB3
      obtain ⟨k, hk, rfl⟩ := inI_of hi (by decide)
      have ek : toN (nI k) = k := toN_k (by omega)
      refine lv_iconst (v := nI 0) X.1 X.2.1 dX2_gable_16 (by decide) ?_
      refine lv_istore_n (lv' := [(2, .int (nI 0)), (0, .ref mo), (1, .int (nI k))]) X.1 X.2.1 dX2_gable_17 rfl hl (by decide) rfl (fun ls hl => ?_)
      refine lv_iconst (v := nI 0) X.1 X.2.1 dX2_gable_18 (by decide) ?_
      refine lv_istore_n (lv' := [(3, .int (nI 0)), (2, .int (nI 0)), (0, .ref mo), (1, .int (nI k))]) X.1 X.2.1 dX2_gable_19 rfl hl (by decide) rfl (fun ls hl => ?_)
      refine lv_iload_n X.1 X.2.1 dX2_gable_20 rfl (lv_at hl 0 rfl) ?_
      refine lv_iconst (v := nI 4) X.1 X.2.1 dX2_gable_21 (by decide) ?_
      clear ek
      rcases (show k = 0 ∨ k = 1 ∨ k = 2 ∨ k = 3 by omega) with rfl | rfl | rfl | rfl
      ·
        have ek : toN (nI 0) = 0 := toN_k (by omega)
        refine lv_icmp_ge (tgt := 55) X.1 X.2.1 dX2_gable_22 (by decide) (fun h9 => absurd h9 (by decide)) (fun _ => ?_)
        refine lv_iload_n X.1 X.2.1 dX2_gable_25 rfl (lv_at hl 1 rfl) ?_
        refine lv_if_ne (tgt := 43) X.1 X.2.1 dX2_gable_26 (by decide) (fun h9 => absurd (by decide) h9) (fun _ => ?_)
        refine lv_iload_n X.1 X.2.1 dX2_gable_29 rfl (lv_at hl 0 rfl) ?_
        refine lv_iload_n X.1 X.2.1 dX2_gable_30 rfl (lv_at hl 3 rfl) ?_
        refine lv_icmp_eq (tgt := 47) X.1 X.2.1 dX2_gable_31 (by decide) (fun _ => ?_) (fun h9 => absurd (by decide) h9)
        refine lv_iconst (v := nI 0) X.1 X.2.1 dX2_gable_47 (by decide) ?_
        refine lv_istore_n (lv' := [(2, .int (nI 0)), (3, .int (nI 0)), (0, .ref mo), (1, .int (nI 0))]) X.1 X.2.1 dX2_gable_48 rfl hl (by decide) rfl (fun ls hl => ?_)
        refine lv_iinc (v := nI 1) (lv' := [(3, .int (nI 1)), (2, .int (nI 0)), (0, .ref mo), (1, .int (nI 0))]) X.1 X.2.1 dX2_gable_49 hl (k := 1) rfl (nI_1 _) (by decide) rfl (fun ls hl => ?_)
        refine lv_goto (tgt := 20) X.1 X.2.1 dX2_gable_52 (by decide) ?_
        refine lv_iload_n X.1 X.2.1 dX2_gable_20 rfl (lv_at hl 0 rfl) ?_
        refine lv_iconst (v := nI 4) X.1 X.2.1 dX2_gable_21 (by decide) ?_
        refine lv_icmp_ge (tgt := 55) X.1 X.2.1 dX2_gable_22 (by decide) (fun h9 => absurd h9 (by decide)) (fun _ => ?_)
        refine lv_iload_n X.1 X.2.1 dX2_gable_25 rfl (lv_at hl 1 rfl) ?_
        refine lv_if_ne (tgt := 43) X.1 X.2.1 dX2_gable_26 (by decide) (fun h9 => absurd (by decide) h9) (fun _ => ?_)
        refine lv_iload_n X.1 X.2.1 dX2_gable_29 rfl (lv_at hl 0 rfl) ?_
        refine lv_iload_n X.1 X.2.1 dX2_gable_30 rfl (lv_at hl 3 rfl) ?_
        refine lv_icmp_eq (tgt := 47) X.1 X.2.1 dX2_gable_31 (by decide) (fun h9 => absurd h9 (by decide)) (fun _ => ?_)
        refine lv_aload_n X.1 X.2.1 dX2_gable_34 rfl (lv_at hl 2 rfl) ?_
        refine p_get (T := TX2) X uX2 (hP.at 0 rfl) rfl 5 (by decide) mw_469 rfl rfl dX2_gable_35 ?_
        refine lv_iload_n X.1 X.2.1 dX2_gable_38 rfl (lv_at hl 0 rfl) ?_
        refine f_zald X (hP.at 3 rfl) (by decide) (by decide) dX2_gable_39 ?_
        refine q_Bne X (tgt := 47) dX2_gable_40 (by decide) (fun hB4 => ?_) (fun hB4 => ?_)
        ·
          refine lv_iconst (v := nI 0) X.1 X.2.1 dX2_gable_47 (by decide) ?_
          refine lv_istore_n (lv' := [(2, .int (nI 0)), (3, .int (nI 1)), (0, .ref mo), (1, .int (nI 0))]) X.1 X.2.1 dX2_gable_48 rfl hl (by decide) rfl (fun ls hl => ?_)
          refine lv_iinc (v := nI 2) (lv' := [(3, .int (nI 2)), (2, .int (nI 0)), (0, .ref mo), (1, .int (nI 0))]) X.1 X.2.1 dX2_gable_49 hl (k := 1) rfl (nI_1 _) (by decide) rfl (fun ls hl => ?_)
          refine lv_goto (tgt := 20) X.1 X.2.1 dX2_gable_52 (by decide) ?_
          refine lv_iload_n X.1 X.2.1 dX2_gable_20 rfl (lv_at hl 0 rfl) ?_
          refine lv_iconst (v := nI 4) X.1 X.2.1 dX2_gable_21 (by decide) ?_
          refine lv_icmp_ge (tgt := 55) X.1 X.2.1 dX2_gable_22 (by decide) (fun h9 => absurd h9 (by decide)) (fun _ => ?_)
          refine lv_iload_n X.1 X.2.1 dX2_gable_25 rfl (lv_at hl 1 rfl) ?_
          refine lv_if_ne (tgt := 43) X.1 X.2.1 dX2_gable_26 (by decide) (fun h9 => absurd (by decide) h9) (fun _ => ?_)
          refine lv_iload_n X.1 X.2.1 dX2_gable_29 rfl (lv_at hl 0 rfl) ?_
          refine lv_iload_n X.1 X.2.1 dX2_gable_30 rfl (lv_at hl 3 rfl) ?_
          refine lv_icmp_eq (tgt := 47) X.1 X.2.1 dX2_gable_31 (by decide) (fun h9 => absurd h9 (by decide)) (fun _ => ?_)
          refine lv_aload_n X.1 X.2.1 dX2_gable_34 rfl (lv_at hl 2 rfl) ?_
          refine p_get (T := TX2) X uX2 (hP.at 0 rfl) rfl 5 (by decide) mw_469 rfl rfl dX2_gable_35 ?_
          refine lv_iload_n X.1 X.2.1 dX2_gable_38 rfl (lv_at hl 0 rfl) ?_
          refine f_zald X (hP.at 3 rfl) (by decide) (by decide) dX2_gable_39 ?_
          refine q_Bne X (tgt := 47) dX2_gable_40 (by decide) (fun hB5 => ?_) (fun hB5 => ?_)
          ·
            refine lv_iconst (v := nI 0) X.1 X.2.1 dX2_gable_47 (by decide) ?_
            refine lv_istore_n (lv' := [(2, .int (nI 0)), (3, .int (nI 2)), (0, .ref mo), (1, .int (nI 0))]) X.1 X.2.1 dX2_gable_48 rfl hl (by decide) rfl (fun ls hl => ?_)
            refine lv_iinc (v := nI 3) (lv' := [(3, .int (nI 3)), (2, .int (nI 0)), (0, .ref mo), (1, .int (nI 0))]) X.1 X.2.1 dX2_gable_49 hl (k := 1) rfl (nI_1 _) (by decide) rfl (fun ls hl => ?_)
            refine lv_goto (tgt := 20) X.1 X.2.1 dX2_gable_52 (by decide) ?_
            refine lv_iload_n X.1 X.2.1 dX2_gable_20 rfl (lv_at hl 0 rfl) ?_
            refine lv_iconst (v := nI 4) X.1 X.2.1 dX2_gable_21 (by decide) ?_
            refine lv_icmp_ge (tgt := 55) X.1 X.2.1 dX2_gable_22 (by decide) (fun h9 => absurd h9 (by decide)) (fun _ => ?_)
            refine lv_iload_n X.1 X.2.1 dX2_gable_25 rfl (lv_at hl 1 rfl) ?_
            refine lv_if_ne (tgt := 43) X.1 X.2.1 dX2_gable_26 (by decide) (fun h9 => absurd (by decide) h9) (fun _ => ?_)
            refine lv_iload_n X.1 X.2.1 dX2_gable_29 rfl (lv_at hl 0 rfl) ?_
            refine lv_iload_n X.1 X.2.1 dX2_gable_30 rfl (lv_at hl 3 rfl) ?_
            refine lv_icmp_eq (tgt := 47) X.1 X.2.1 dX2_gable_31 (by decide) (fun h9 => absurd h9 (by decide)) (fun _ => ?_)
            refine lv_aload_n X.1 X.2.1 dX2_gable_34 rfl (lv_at hl 2 rfl) ?_
            refine p_get (T := TX2) X uX2 (hP.at 0 rfl) rfl 5 (by decide) mw_469 rfl rfl dX2_gable_35 ?_
            refine lv_iload_n X.1 X.2.1 dX2_gable_38 rfl (lv_at hl 0 rfl) ?_
            refine f_zald X (hP.at 3 rfl) (by decide) (by decide) dX2_gable_39 ?_
            refine q_Bne X (tgt := 47) dX2_gable_40 (by decide) (fun hB6 => ?_) (fun hB6 => ?_)
            ·
              refine lv_iconst (v := nI 0) X.1 X.2.1 dX2_gable_47 (by decide) ?_
              refine lv_istore_n (lv' := [(2, .int (nI 0)), (3, .int (nI 3)), (0, .ref mo), (1, .int (nI 0))]) X.1 X.2.1 dX2_gable_48 rfl hl (by decide) rfl (fun ls hl => ?_)
              refine lv_iinc (v := nI 4) (lv' := [(3, .int (nI 4)), (2, .int (nI 0)), (0, .ref mo), (1, .int (nI 0))]) X.1 X.2.1 dX2_gable_49 hl (k := 1) rfl (nI_1 _) (by decide) rfl (fun ls hl => ?_)
              refine lv_goto (tgt := 20) X.1 X.2.1 dX2_gable_52 (by decide) ?_
              refine lv_iload_n X.1 X.2.1 dX2_gable_20 rfl (lv_at hl 0 rfl) ?_
              refine lv_iconst (v := nI 4) X.1 X.2.1 dX2_gable_21 (by decide) ?_
              refine lv_icmp_ge (tgt := 55) X.1 X.2.1 dX2_gable_22 (by decide) (fun _ => ?_) (fun h9 => absurd (by decide) h9)
              refine lv_aload_n X.1 X.2.1 dX2_gable_55 rfl (lv_at hl 2 rfl) ?_
              refine lv_iload_n X.1 X.2.1 dX2_gable_56 rfl (lv_at hl 1 rfl) ?_
              refine lv_if_eq (tgt := 64) X.1 X.2.1 dX2_gable_57 (by decide) (fun _ => ?_) (fun h9 => absurd (by decide) h9)
              refine lv_iconst (v := nI 2) X.1 X.2.1 dX2_gable_64 (by decide) ?_
              have hoth : oth q 0 = false := by simp [oth, hB4, hB5, hB6]
              refine f_put (F := fun q => q = mo ∨ q = ua ∨ q = oa ∨ q = ga) (T := TX2) (N := 8) (ci := 2) X tyX2 tyX2_ok nmX2 uX2 (hP.at 0 rfl) rfl 0 (by decide) mw_464 rfl rfl (v := .int (nI 2)) (ty := .int) (by decide +kernel) rfl rfl (Nat.le_of_ble_eq_true rfl) (Or.inl (Or.inl rfl)) hlo dX2_gable_65 (fun H7 locs hpa hlo hat => ?_)
              have hX := hX.tra ((Or.inl rfl)) hpa
              have hP := PP.cons hat (PP.exa (hP.sub [1, 2, 3] rfl : PP g [mla g ua U, mla g oa O, mza g ga q] _) hpa (fun z hz => by simp only [List.mem_cons, List.not_mem_nil, or_false] at hz; rcases hz with rfl | rfl | rfl <;> first | exact hM.1 | exact hM.2.1 | exact hM.2.2.1))
              have hP : PP g [(mo, .inr (2, [.int (nI 2), .long (lN x1), .long (lN y1), .ref ua, .ref oa, .ref ga, .long ab, .long be])), mla g ua U, mla g oa O, mza g ga q] H7 := hP
              refine lv_aload_n X.1 X.2.1 dX2_gable_68 rfl (lv_at hl 2 rfl) ?_
              refine p_get (T := TX2) X uX2 (hP.at 0 rfl) rfl 0 (by decide) mw_464 rfl rfl dX2_gable_69 ?_
              refine lv_if_gt (tgt := 84) X.1 X.2.1 dX2_gable_72 (by decide) (fun _ => ?_) (fun h9 => absurd (by decide) h9)
              refine lv_iconst (v := nI 0) X.1 X.2.1 dX2_gable_84 (by decide) ?_
              refine w_i (v' := bI false) (by decide) ?_
              exact f_zret (v := false) X hX hlo (Or.inl ⟨by simp [hi, ek, hoth], ⟨_, rfl⟩, ⟨_, _, _, by simp [mk3, hi, ek, hoth], hP⟩⟩) ⟨by decide, by decide⟩ dX2_gable_85
            ·
              refine lv_iconst (v := nI 1) X.1 X.2.1 dX2_gable_43 (by decide) ?_
              refine lv_goto (tgt := 48) X.1 X.2.1 dX2_gable_44 (by decide) ?_
              refine lv_istore_n (lv' := [(2, .int (nI 1)), (3, .int (nI 3)), (0, .ref mo), (1, .int (nI 0))]) X.1 X.2.1 dX2_gable_48 rfl hl (by decide) rfl (fun ls hl => ?_)
              refine lv_iinc (v := nI 4) (lv' := [(3, .int (nI 4)), (2, .int (nI 1)), (0, .ref mo), (1, .int (nI 0))]) X.1 X.2.1 dX2_gable_49 hl (k := 1) rfl (nI_1 _) (by decide) rfl (fun ls hl => ?_)
              refine lv_goto (tgt := 20) X.1 X.2.1 dX2_gable_52 (by decide) ?_
              refine lv_iload_n X.1 X.2.1 dX2_gable_20 rfl (lv_at hl 0 rfl) ?_
              refine lv_iconst (v := nI 4) X.1 X.2.1 dX2_gable_21 (by decide) ?_
              refine lv_icmp_ge (tgt := 55) X.1 X.2.1 dX2_gable_22 (by decide) (fun _ => ?_) (fun h9 => absurd (by decide) h9)
              refine lv_aload_n X.1 X.2.1 dX2_gable_55 rfl (lv_at hl 2 rfl) ?_
              refine lv_iload_n X.1 X.2.1 dX2_gable_56 rfl (lv_at hl 1 rfl) ?_
              refine lv_if_eq (tgt := 64) X.1 X.2.1 dX2_gable_57 (by decide) (fun h9 => absurd h9 (by decide)) (fun _ => ?_)
              refine lv_iconst (v := nI 0) X.1 X.2.1 dX2_gable_60 (by decide) ?_
              refine lv_goto (tgt := 65) X.1 X.2.1 dX2_gable_61 (by decide) ?_
              have hoth : oth q 0 = true := by simp [oth, hB4, hB5, hB6]
              refine f_put (F := fun q => q = mo ∨ q = ua ∨ q = oa ∨ q = ga) (T := TX2) (N := 8) (ci := 2) X tyX2 tyX2_ok nmX2 uX2 (hP.at 0 rfl) rfl 0 (by decide) mw_464 rfl rfl (v := .int (nI 0)) (ty := .int) (by decide +kernel) rfl rfl (Nat.le_of_ble_eq_true rfl) (Or.inl (Or.inl rfl)) hlo dX2_gable_65 (fun H8 locs hpa hlo hat => ?_)
              have hX := hX.tra ((Or.inl rfl)) hpa
              have hP := PP.cons hat (PP.exa (hP.sub [1, 2, 3] rfl : PP g [mla g ua U, mla g oa O, mza g ga q] _) hpa (fun z hz => by simp only [List.mem_cons, List.not_mem_nil, or_false] at hz; rcases hz with rfl | rfl | rfl <;> first | exact hM.1 | exact hM.2.1 | exact hM.2.2.1))
              have hP : PP g [(mo, .inr (2, [.int (nI 0), .long (lN x1), .long (lN y1), .ref ua, .ref oa, .ref ga, .long ab, .long be])), mla g ua U, mla g oa O, mza g ga q] H8 := hP
              refine lv_aload_n X.1 X.2.1 dX2_gable_68 rfl (lv_at hl 2 rfl) ?_
              refine p_get (T := TX2) X uX2 (hP.at 0 rfl) rfl 0 (by decide) mw_464 rfl rfl dX2_gable_69 ?_
              refine lv_if_gt (tgt := 84) X.1 X.2.1 dX2_gable_72 (by decide) (fun h9 => absurd h9 (by decide)) (fun _ => ?_)
              refine lv_aload_n X.1 X.2.1 dX2_gable_75 rfl (lv_at hl 2 rfl) ?_
              refine p_get (T := TX2) X uX2 (hP.at 0 rfl) rfl 5 (by decide) mw_469 rfl rfl dX2_gable_76 ?_
              refine lv_iload_n X.1 X.2.1 dX2_gable_79 rfl (lv_at hl 3 rfl) ?_
              refine f_zald X (hP.at 3 rfl) (by decide) (by decide) dX2_gable_80 ?_
              refine q_Beq X (tgt := 86) dX2_gable_81 (by decide) (fun hB9 => ?_) (fun hB9 => ?_)
              ·
                refine lv_aload_n X.1 X.2.1 dX2_gable_86 rfl (lv_at hl 2 rfl) ?_
                refine p_get (T := TX2) X uX2 (hP.at 0 rfl) rfl 5 (by decide) mw_469 rfl rfl dX2_gable_87 ?_
                refine lv_iload_n X.1 X.2.1 dX2_gable_90 rfl (lv_at hl 3 rfl) ?_
                refine lv_iconst (v := nI 1) X.1 X.2.1 dX2_gable_91 (by decide) ?_
                refine w_i (v' := bI (decide ((0 : Rat) = 0))) (by decide) ?_
                refine f_zast (F := fun q => q = mo ∨ q = ua ∨ q = oa ∨ q = ga) X (hP.at 3 rfl) (by decide) (by decide) (Or.inl (Or.inr (Or.inr (Or.inr rfl)))) hlo dX2_gable_92 (fun H10 locs hpa hlo hat => ?_)
                have hX := hX.tra (Or.inr (Or.inr (Or.inr rfl))) hpa
                rw [upZ] at hat
                have hP := PP.cons hat (PP.exa (hP.sub [0, 1, 2] rfl : PP g [(mo, .inr (2, [.int (nI 0), .long (lN x1), .long (lN y1), .ref ua, .ref oa, .ref ga, .long ab, .long be])), mla g ua U, mla g oa O] _) hpa (fun z hz => by simp only [List.mem_cons, List.not_mem_nil, or_false] at hz; rcases hz with rfl | rfl | rfl <;> first | exact hM.2.2.1.symm | exact hM.2.2.2.2.1 | exact hM.2.2.2.2.2))
                have hP : PP g [(mo, .inr (2, [.int (nI 0), .long (lN x1), .long (lN y1), .ref ua, .ref oa, .ref ga, .long ab, .long be])), mla g ua U, mla g oa O, mza g ga (va_up q 0 0)] H10 := hP.sub [1, 2, 3, 0] rfl
                refine lv_iconst (v := nI 1) X.1 X.2.1 dX2_gable_93 (by decide) ?_
                refine w_i (v' := bI true) (by decide) ?_
                exact f_zret (v := true) X hX hlo (Or.inr ⟨by simp [hi, ek, hoth], by simp only [ek]; rw [decide_eq_false (fun h9 => absurd h9.symm (of_decide_eq_false hB9))]; rfl, ⟨_, _, _, rfl, by simp only [ek]; exact hP⟩⟩) ⟨by decide, by decide⟩ dX2_gable_94
              ·
                refine lv_iconst (v := nI 0) X.1 X.2.1 dX2_gable_84 (by decide) ?_
                refine w_i (v' := bI false) (by decide) ?_
                exact f_zret (v := false) X hX hlo (Or.inr ⟨by simp [hi, ek, hoth], by simp only [ek]; rw [decide_eq_true (gab0 hB9).symm]; rfl, ⟨_, _, _, rfl, by simp only [ek]; rw [up_id (gab0 hB9)]; exact hP⟩⟩) ⟨by decide, by decide⟩ dX2_gable_85
          ·
            refine lv_iconst (v := nI 1) X.1 X.2.1 dX2_gable_43 (by decide) ?_
            refine lv_goto (tgt := 48) X.1 X.2.1 dX2_gable_44 (by decide) ?_
            refine lv_istore_n (lv' := [(2, .int (nI 1)), (3, .int (nI 2)), (0, .ref mo), (1, .int (nI 0))]) X.1 X.2.1 dX2_gable_48 rfl hl (by decide) rfl (fun ls hl => ?_)
            refine lv_iinc (v := nI 3) (lv' := [(3, .int (nI 3)), (2, .int (nI 1)), (0, .ref mo), (1, .int (nI 0))]) X.1 X.2.1 dX2_gable_49 hl (k := 1) rfl (nI_1 _) (by decide) rfl (fun ls hl => ?_)
            refine lv_goto (tgt := 20) X.1 X.2.1 dX2_gable_52 (by decide) ?_
            refine lv_iload_n X.1 X.2.1 dX2_gable_20 rfl (lv_at hl 0 rfl) ?_
            refine lv_iconst (v := nI 4) X.1 X.2.1 dX2_gable_21 (by decide) ?_
            refine lv_icmp_ge (tgt := 55) X.1 X.2.1 dX2_gable_22 (by decide) (fun h9 => absurd h9 (by decide)) (fun _ => ?_)
            refine lv_iload_n X.1 X.2.1 dX2_gable_25 rfl (lv_at hl 1 rfl) ?_
            refine lv_if_ne (tgt := 43) X.1 X.2.1 dX2_gable_26 (by decide) (fun _ => ?_) (fun h9 => absurd h9 (by decide))
            refine lv_iconst (v := nI 1) X.1 X.2.1 dX2_gable_43 (by decide) ?_
            refine lv_goto (tgt := 48) X.1 X.2.1 dX2_gable_44 (by decide) ?_
            refine lv_istore_n (lv' := [(2, .int (nI 1)), (3, .int (nI 3)), (0, .ref mo), (1, .int (nI 0))]) X.1 X.2.1 dX2_gable_48 rfl hl (by decide) rfl (fun ls hl => ?_)
            refine lv_iinc (v := nI 4) (lv' := [(3, .int (nI 4)), (2, .int (nI 1)), (0, .ref mo), (1, .int (nI 0))]) X.1 X.2.1 dX2_gable_49 hl (k := 1) rfl (nI_1 _) (by decide) rfl (fun ls hl => ?_)
            refine lv_goto (tgt := 20) X.1 X.2.1 dX2_gable_52 (by decide) ?_
            refine lv_iload_n X.1 X.2.1 dX2_gable_20 rfl (lv_at hl 0 rfl) ?_
            refine lv_iconst (v := nI 4) X.1 X.2.1 dX2_gable_21 (by decide) ?_
            refine lv_icmp_ge (tgt := 55) X.1 X.2.1 dX2_gable_22 (by decide) (fun _ => ?_) (fun h9 => absurd (by decide) h9)
            refine lv_aload_n X.1 X.2.1 dX2_gable_55 rfl (lv_at hl 2 rfl) ?_
            refine lv_iload_n X.1 X.2.1 dX2_gable_56 rfl (lv_at hl 1 rfl) ?_
            refine lv_if_eq (tgt := 64) X.1 X.2.1 dX2_gable_57 (by decide) (fun h9 => absurd h9 (by decide)) (fun _ => ?_)
            refine lv_iconst (v := nI 0) X.1 X.2.1 dX2_gable_60 (by decide) ?_
            refine lv_goto (tgt := 65) X.1 X.2.1 dX2_gable_61 (by decide) ?_
            have hoth : oth q 0 = true := by simp [oth, hB4, hB5]
            refine f_put (F := fun q => q = mo ∨ q = ua ∨ q = oa ∨ q = ga) (T := TX2) (N := 8) (ci := 2) X tyX2 tyX2_ok nmX2 uX2 (hP.at 0 rfl) rfl 0 (by decide) mw_464 rfl rfl (v := .int (nI 0)) (ty := .int) (by decide +kernel) rfl rfl (Nat.le_of_ble_eq_true rfl) (Or.inl (Or.inl rfl)) hlo dX2_gable_65 (fun H11 locs hpa hlo hat => ?_)
            have hX := hX.tra ((Or.inl rfl)) hpa
            have hP := PP.cons hat (PP.exa (hP.sub [1, 2, 3] rfl : PP g [mla g ua U, mla g oa O, mza g ga q] _) hpa (fun z hz => by simp only [List.mem_cons, List.not_mem_nil, or_false] at hz; rcases hz with rfl | rfl | rfl <;> first | exact hM.1 | exact hM.2.1 | exact hM.2.2.1))
            have hP : PP g [(mo, .inr (2, [.int (nI 0), .long (lN x1), .long (lN y1), .ref ua, .ref oa, .ref ga, .long ab, .long be])), mla g ua U, mla g oa O, mza g ga q] H11 := hP
            refine lv_aload_n X.1 X.2.1 dX2_gable_68 rfl (lv_at hl 2 rfl) ?_
            refine p_get (T := TX2) X uX2 (hP.at 0 rfl) rfl 0 (by decide) mw_464 rfl rfl dX2_gable_69 ?_
            refine lv_if_gt (tgt := 84) X.1 X.2.1 dX2_gable_72 (by decide) (fun h9 => absurd h9 (by decide)) (fun _ => ?_)
            refine lv_aload_n X.1 X.2.1 dX2_gable_75 rfl (lv_at hl 2 rfl) ?_
            refine p_get (T := TX2) X uX2 (hP.at 0 rfl) rfl 5 (by decide) mw_469 rfl rfl dX2_gable_76 ?_
            refine lv_iload_n X.1 X.2.1 dX2_gable_79 rfl (lv_at hl 3 rfl) ?_
            refine f_zald X (hP.at 3 rfl) (by decide) (by decide) dX2_gable_80 ?_
            refine q_Beq X (tgt := 86) dX2_gable_81 (by decide) (fun hB12 => ?_) (fun hB12 => ?_)
            ·
              refine lv_aload_n X.1 X.2.1 dX2_gable_86 rfl (lv_at hl 2 rfl) ?_
              refine p_get (T := TX2) X uX2 (hP.at 0 rfl) rfl 5 (by decide) mw_469 rfl rfl dX2_gable_87 ?_
              refine lv_iload_n X.1 X.2.1 dX2_gable_90 rfl (lv_at hl 3 rfl) ?_
              refine lv_iconst (v := nI 1) X.1 X.2.1 dX2_gable_91 (by decide) ?_
              refine w_i (v' := bI (decide ((0 : Rat) = 0))) (by decide) ?_
              refine f_zast (F := fun q => q = mo ∨ q = ua ∨ q = oa ∨ q = ga) X (hP.at 3 rfl) (by decide) (by decide) (Or.inl (Or.inr (Or.inr (Or.inr rfl)))) hlo dX2_gable_92 (fun H13 locs hpa hlo hat => ?_)
              have hX := hX.tra (Or.inr (Or.inr (Or.inr rfl))) hpa
              rw [upZ] at hat
              have hP := PP.cons hat (PP.exa (hP.sub [0, 1, 2] rfl : PP g [(mo, .inr (2, [.int (nI 0), .long (lN x1), .long (lN y1), .ref ua, .ref oa, .ref ga, .long ab, .long be])), mla g ua U, mla g oa O] _) hpa (fun z hz => by simp only [List.mem_cons, List.not_mem_nil, or_false] at hz; rcases hz with rfl | rfl | rfl <;> first | exact hM.2.2.1.symm | exact hM.2.2.2.2.1 | exact hM.2.2.2.2.2))
              have hP : PP g [(mo, .inr (2, [.int (nI 0), .long (lN x1), .long (lN y1), .ref ua, .ref oa, .ref ga, .long ab, .long be])), mla g ua U, mla g oa O, mza g ga (va_up q 0 0)] H13 := hP.sub [1, 2, 3, 0] rfl
              refine lv_iconst (v := nI 1) X.1 X.2.1 dX2_gable_93 (by decide) ?_
              refine w_i (v' := bI true) (by decide) ?_
              exact f_zret (v := true) X hX hlo (Or.inr ⟨by simp [hi, ek, hoth], by simp only [ek]; rw [decide_eq_false (fun h9 => absurd h9.symm (of_decide_eq_false hB12))]; rfl, ⟨_, _, _, rfl, by simp only [ek]; exact hP⟩⟩) ⟨by decide, by decide⟩ dX2_gable_94
            ·
              refine lv_iconst (v := nI 0) X.1 X.2.1 dX2_gable_84 (by decide) ?_
              refine w_i (v' := bI false) (by decide) ?_
              exact f_zret (v := false) X hX hlo (Or.inr ⟨by simp [hi, ek, hoth], by simp only [ek]; rw [decide_eq_true (gab0 hB12).symm]; rfl, ⟨_, _, _, rfl, by simp only [ek]; rw [up_id (gab0 hB12)]; exact hP⟩⟩) ⟨by decide, by decide⟩ dX2_gable_85
        ·
          refine lv_iconst (v := nI 1) X.1 X.2.1 dX2_gable_43 (by decide) ?_
          refine lv_goto (tgt := 48) X.1 X.2.1 dX2_gable_44 (by decide) ?_
          refine lv_istore_n (lv' := [(2, .int (nI 1)), (3, .int (nI 1)), (0, .ref mo), (1, .int (nI 0))]) X.1 X.2.1 dX2_gable_48 rfl hl (by decide) rfl (fun ls hl => ?_)
          refine lv_iinc (v := nI 2) (lv' := [(3, .int (nI 2)), (2, .int (nI 1)), (0, .ref mo), (1, .int (nI 0))]) X.1 X.2.1 dX2_gable_49 hl (k := 1) rfl (nI_1 _) (by decide) rfl (fun ls hl => ?_)
          refine lv_goto (tgt := 20) X.1 X.2.1 dX2_gable_52 (by decide) ?_
          refine lv_iload_n X.1 X.2.1 dX2_gable_20 rfl (lv_at hl 0 rfl) ?_
          refine lv_iconst (v := nI 4) X.1 X.2.1 dX2_gable_21 (by decide) ?_
          refine lv_icmp_ge (tgt := 55) X.1 X.2.1 dX2_gable_22 (by decide) (fun h9 => absurd h9 (by decide)) (fun _ => ?_)
          refine lv_iload_n X.1 X.2.1 dX2_gable_25 rfl (lv_at hl 1 rfl) ?_
          refine lv_if_ne (tgt := 43) X.1 X.2.1 dX2_gable_26 (by decide) (fun _ => ?_) (fun h9 => absurd h9 (by decide))
          refine lv_iconst (v := nI 1) X.1 X.2.1 dX2_gable_43 (by decide) ?_
          refine lv_goto (tgt := 48) X.1 X.2.1 dX2_gable_44 (by decide) ?_
          refine lv_istore_n (lv' := [(2, .int (nI 1)), (3, .int (nI 2)), (0, .ref mo), (1, .int (nI 0))]) X.1 X.2.1 dX2_gable_48 rfl hl (by decide) rfl (fun ls hl => ?_)
          refine lv_iinc (v := nI 3) (lv' := [(3, .int (nI 3)), (2, .int (nI 1)), (0, .ref mo), (1, .int (nI 0))]) X.1 X.2.1 dX2_gable_49 hl (k := 1) rfl (nI_1 _) (by decide) rfl (fun ls hl => ?_)
          refine lv_goto (tgt := 20) X.1 X.2.1 dX2_gable_52 (by decide) ?_
          refine lv_iload_n X.1 X.2.1 dX2_gable_20 rfl (lv_at hl 0 rfl) ?_
          refine lv_iconst (v := nI 4) X.1 X.2.1 dX2_gable_21 (by decide) ?_
          refine lv_icmp_ge (tgt := 55) X.1 X.2.1 dX2_gable_22 (by decide) (fun h9 => absurd h9 (by decide)) (fun _ => ?_)
          refine lv_iload_n X.1 X.2.1 dX2_gable_25 rfl (lv_at hl 1 rfl) ?_
          refine lv_if_ne (tgt := 43) X.1 X.2.1 dX2_gable_26 (by decide) (fun _ => ?_) (fun h9 => absurd h9 (by decide))
          refine lv_iconst (v := nI 1) X.1 X.2.1 dX2_gable_43 (by decide) ?_
          refine lv_goto (tgt := 48) X.1 X.2.1 dX2_gable_44 (by decide) ?_
          refine lv_istore_n (lv' := [(2, .int (nI 1)), (3, .int (nI 3)), (0, .ref mo), (1, .int (nI 0))]) X.1 X.2.1 dX2_gable_48 rfl hl (by decide) rfl (fun ls hl => ?_)
          refine lv_iinc (v := nI 4) (lv' := [(3, .int (nI 4)), (2, .int (nI 1)), (0, .ref mo), (1, .int (nI 0))]) X.1 X.2.1 dX2_gable_49 hl (k := 1) rfl (nI_1 _) (by decide) rfl (fun ls hl => ?_)
          refine lv_goto (tgt := 20) X.1 X.2.1 dX2_gable_52 (by decide) ?_
          refine lv_iload_n X.1 X.2.1 dX2_gable_20 rfl (lv_at hl 0 rfl) ?_
          refine lv_iconst (v := nI 4) X.1 X.2.1 dX2_gable_21 (by decide) ?_
          refine lv_icmp_ge (tgt := 55) X.1 X.2.1 dX2_gable_22 (by decide) (fun _ => ?_) (fun h9 => absurd (by decide) h9)
          refine lv_aload_n X.1 X.2.1 dX2_gable_55 rfl (lv_at hl 2 rfl) ?_
          refine lv_iload_n X.1 X.2.1 dX2_gable_56 rfl (lv_at hl 1 rfl) ?_
          refine lv_if_eq (tgt := 64) X.1 X.2.1 dX2_gable_57 (by decide) (fun h9 => absurd h9 (by decide)) (fun _ => ?_)
          refine lv_iconst (v := nI 0) X.1 X.2.1 dX2_gable_60 (by decide) ?_
          refine lv_goto (tgt := 65) X.1 X.2.1 dX2_gable_61 (by decide) ?_
          have hoth : oth q 0 = true := by simp [oth, hB4]
          refine f_put (F := fun q => q = mo ∨ q = ua ∨ q = oa ∨ q = ga) (T := TX2) (N := 8) (ci := 2) X tyX2 tyX2_ok nmX2 uX2 (hP.at 0 rfl) rfl 0 (by decide) mw_464 rfl rfl (v := .int (nI 0)) (ty := .int) (by decide +kernel) rfl rfl (Nat.le_of_ble_eq_true rfl) (Or.inl (Or.inl rfl)) hlo dX2_gable_65 (fun H14 locs hpa hlo hat => ?_)
          have hX := hX.tra ((Or.inl rfl)) hpa
          have hP := PP.cons hat (PP.exa (hP.sub [1, 2, 3] rfl : PP g [mla g ua U, mla g oa O, mza g ga q] _) hpa (fun z hz => by simp only [List.mem_cons, List.not_mem_nil, or_false] at hz; rcases hz with rfl | rfl | rfl <;> first | exact hM.1 | exact hM.2.1 | exact hM.2.2.1))
          have hP : PP g [(mo, .inr (2, [.int (nI 0), .long (lN x1), .long (lN y1), .ref ua, .ref oa, .ref ga, .long ab, .long be])), mla g ua U, mla g oa O, mza g ga q] H14 := hP
          refine lv_aload_n X.1 X.2.1 dX2_gable_68 rfl (lv_at hl 2 rfl) ?_
          refine p_get (T := TX2) X uX2 (hP.at 0 rfl) rfl 0 (by decide) mw_464 rfl rfl dX2_gable_69 ?_
          refine lv_if_gt (tgt := 84) X.1 X.2.1 dX2_gable_72 (by decide) (fun h9 => absurd h9 (by decide)) (fun _ => ?_)
          refine lv_aload_n X.1 X.2.1 dX2_gable_75 rfl (lv_at hl 2 rfl) ?_
          refine p_get (T := TX2) X uX2 (hP.at 0 rfl) rfl 5 (by decide) mw_469 rfl rfl dX2_gable_76 ?_
          refine lv_iload_n X.1 X.2.1 dX2_gable_79 rfl (lv_at hl 3 rfl) ?_
          refine f_zald X (hP.at 3 rfl) (by decide) (by decide) dX2_gable_80 ?_
          refine q_Beq X (tgt := 86) dX2_gable_81 (by decide) (fun hB15 => ?_) (fun hB15 => ?_)
          ·
            refine lv_aload_n X.1 X.2.1 dX2_gable_86 rfl (lv_at hl 2 rfl) ?_
            refine p_get (T := TX2) X uX2 (hP.at 0 rfl) rfl 5 (by decide) mw_469 rfl rfl dX2_gable_87 ?_
            refine lv_iload_n X.1 X.2.1 dX2_gable_90 rfl (lv_at hl 3 rfl) ?_
            refine lv_iconst (v := nI 1) X.1 X.2.1 dX2_gable_91 (by decide) ?_
            refine w_i (v' := bI (decide ((0 : Rat) = 0))) (by decide) ?_
            refine f_zast (F := fun q => q = mo ∨ q = ua ∨ q = oa ∨ q = ga) X (hP.at 3 rfl) (by decide) (by decide) (Or.inl (Or.inr (Or.inr (Or.inr rfl)))) hlo dX2_gable_92 (fun H16 locs hpa hlo hat => ?_)
            have hX := hX.tra (Or.inr (Or.inr (Or.inr rfl))) hpa
            rw [upZ] at hat
            have hP := PP.cons hat (PP.exa (hP.sub [0, 1, 2] rfl : PP g [(mo, .inr (2, [.int (nI 0), .long (lN x1), .long (lN y1), .ref ua, .ref oa, .ref ga, .long ab, .long be])), mla g ua U, mla g oa O] _) hpa (fun z hz => by simp only [List.mem_cons, List.not_mem_nil, or_false] at hz; rcases hz with rfl | rfl | rfl <;> first | exact hM.2.2.1.symm | exact hM.2.2.2.2.1 | exact hM.2.2.2.2.2))
            have hP : PP g [(mo, .inr (2, [.int (nI 0), .long (lN x1), .long (lN y1), .ref ua, .ref oa, .ref ga, .long ab, .long be])), mla g ua U, mla g oa O, mza g ga (va_up q 0 0)] H16 := hP.sub [1, 2, 3, 0] rfl
            refine lv_iconst (v := nI 1) X.1 X.2.1 dX2_gable_93 (by decide) ?_
            refine w_i (v' := bI true) (by decide) ?_
            exact f_zret (v := true) X hX hlo (Or.inr ⟨by simp [hi, ek, hoth], by simp only [ek]; rw [decide_eq_false (fun h9 => absurd h9.symm (of_decide_eq_false hB15))]; rfl, ⟨_, _, _, rfl, by simp only [ek]; exact hP⟩⟩) ⟨by decide, by decide⟩ dX2_gable_94
          ·
            refine lv_iconst (v := nI 0) X.1 X.2.1 dX2_gable_84 (by decide) ?_
            refine w_i (v' := bI false) (by decide) ?_
            exact f_zret (v := false) X hX hlo (Or.inr ⟨by simp [hi, ek, hoth], by simp only [ek]; rw [decide_eq_true (gab0 hB15).symm]; rfl, ⟨_, _, _, rfl, by simp only [ek]; rw [up_id (gab0 hB15)]; exact hP⟩⟩) ⟨by decide, by decide⟩ dX2_gable_85
      ·
        have ek : toN (nI 1) = 1 := toN_k (by omega)
        refine lv_icmp_ge (tgt := 55) X.1 X.2.1 dX2_gable_22 (by decide) (fun h9 => absurd h9 (by decide)) (fun _ => ?_)
        refine lv_iload_n X.1 X.2.1 dX2_gable_25 rfl (lv_at hl 1 rfl) ?_
        refine lv_if_ne (tgt := 43) X.1 X.2.1 dX2_gable_26 (by decide) (fun h9 => absurd (by decide) h9) (fun _ => ?_)
        refine lv_iload_n X.1 X.2.1 dX2_gable_29 rfl (lv_at hl 0 rfl) ?_
        refine lv_iload_n X.1 X.2.1 dX2_gable_30 rfl (lv_at hl 3 rfl) ?_
        refine lv_icmp_eq (tgt := 47) X.1 X.2.1 dX2_gable_31 (by decide) (fun h9 => absurd h9 (by decide)) (fun _ => ?_)
        refine lv_aload_n X.1 X.2.1 dX2_gable_34 rfl (lv_at hl 2 rfl) ?_
        refine p_get (T := TX2) X uX2 (hP.at 0 rfl) rfl 5 (by decide) mw_469 rfl rfl dX2_gable_35 ?_
        refine lv_iload_n X.1 X.2.1 dX2_gable_38 rfl (lv_at hl 0 rfl) ?_
        refine f_zald X (hP.at 3 rfl) (by decide) (by decide) dX2_gable_39 ?_
        refine q_Bne X (tgt := 47) dX2_gable_40 (by decide) (fun hB17 => ?_) (fun hB17 => ?_)
        ·
          refine lv_iconst (v := nI 0) X.1 X.2.1 dX2_gable_47 (by decide) ?_
          refine lv_istore_n (lv' := [(2, .int (nI 0)), (3, .int (nI 0)), (0, .ref mo), (1, .int (nI 1))]) X.1 X.2.1 dX2_gable_48 rfl hl (by decide) rfl (fun ls hl => ?_)
          refine lv_iinc (v := nI 1) (lv' := [(3, .int (nI 1)), (2, .int (nI 0)), (0, .ref mo), (1, .int (nI 1))]) X.1 X.2.1 dX2_gable_49 hl (k := 1) rfl (nI_1 _) (by decide) rfl (fun ls hl => ?_)
          refine lv_goto (tgt := 20) X.1 X.2.1 dX2_gable_52 (by decide) ?_
          refine lv_iload_n X.1 X.2.1 dX2_gable_20 rfl (lv_at hl 0 rfl) ?_
          refine lv_iconst (v := nI 4) X.1 X.2.1 dX2_gable_21 (by decide) ?_
          refine lv_icmp_ge (tgt := 55) X.1 X.2.1 dX2_gable_22 (by decide) (fun h9 => absurd h9 (by decide)) (fun _ => ?_)
          refine lv_iload_n X.1 X.2.1 dX2_gable_25 rfl (lv_at hl 1 rfl) ?_
          refine lv_if_ne (tgt := 43) X.1 X.2.1 dX2_gable_26 (by decide) (fun h9 => absurd (by decide) h9) (fun _ => ?_)
          refine lv_iload_n X.1 X.2.1 dX2_gable_29 rfl (lv_at hl 0 rfl) ?_
          refine lv_iload_n X.1 X.2.1 dX2_gable_30 rfl (lv_at hl 3 rfl) ?_
          refine lv_icmp_eq (tgt := 47) X.1 X.2.1 dX2_gable_31 (by decide) (fun _ => ?_) (fun h9 => absurd (by decide) h9)
          refine lv_iconst (v := nI 0) X.1 X.2.1 dX2_gable_47 (by decide) ?_
          refine lv_istore_n (lv' := [(2, .int (nI 0)), (3, .int (nI 1)), (0, .ref mo), (1, .int (nI 1))]) X.1 X.2.1 dX2_gable_48 rfl hl (by decide) rfl (fun ls hl => ?_)
          refine lv_iinc (v := nI 2) (lv' := [(3, .int (nI 2)), (2, .int (nI 0)), (0, .ref mo), (1, .int (nI 1))]) X.1 X.2.1 dX2_gable_49 hl (k := 1) rfl (nI_1 _) (by decide) rfl (fun ls hl => ?_)
          refine lv_goto (tgt := 20) X.1 X.2.1 dX2_gable_52 (by decide) ?_
          refine lv_iload_n X.1 X.2.1 dX2_gable_20 rfl (lv_at hl 0 rfl) ?_
          refine lv_iconst (v := nI 4) X.1 X.2.1 dX2_gable_21 (by decide) ?_
          refine lv_icmp_ge (tgt := 55) X.1 X.2.1 dX2_gable_22 (by decide) (fun h9 => absurd h9 (by decide)) (fun _ => ?_)
          refine lv_iload_n X.1 X.2.1 dX2_gable_25 rfl (lv_at hl 1 rfl) ?_
          refine lv_if_ne (tgt := 43) X.1 X.2.1 dX2_gable_26 (by decide) (fun h9 => absurd (by decide) h9) (fun _ => ?_)
          refine lv_iload_n X.1 X.2.1 dX2_gable_29 rfl (lv_at hl 0 rfl) ?_
          refine lv_iload_n X.1 X.2.1 dX2_gable_30 rfl (lv_at hl 3 rfl) ?_
          refine lv_icmp_eq (tgt := 47) X.1 X.2.1 dX2_gable_31 (by decide) (fun h9 => absurd h9 (by decide)) (fun _ => ?_)
          refine lv_aload_n X.1 X.2.1 dX2_gable_34 rfl (lv_at hl 2 rfl) ?_
          refine p_get (T := TX2) X uX2 (hP.at 0 rfl) rfl 5 (by decide) mw_469 rfl rfl dX2_gable_35 ?_
          refine lv_iload_n X.1 X.2.1 dX2_gable_38 rfl (lv_at hl 0 rfl) ?_
          refine f_zald X (hP.at 3 rfl) (by decide) (by decide) dX2_gable_39 ?_
          refine q_Bne X (tgt := 47) dX2_gable_40 (by decide) (fun hB18 => ?_) (fun hB18 => ?_)
          ·
            refine lv_iconst (v := nI 0) X.1 X.2.1 dX2_gable_47 (by decide) ?_
            refine lv_istore_n (lv' := [(2, .int (nI 0)), (3, .int (nI 2)), (0, .ref mo), (1, .int (nI 1))]) X.1 X.2.1 dX2_gable_48 rfl hl (by decide) rfl (fun ls hl => ?_)
            refine lv_iinc (v := nI 3) (lv' := [(3, .int (nI 3)), (2, .int (nI 0)), (0, .ref mo), (1, .int (nI 1))]) X.1 X.2.1 dX2_gable_49 hl (k := 1) rfl (nI_1 _) (by decide) rfl (fun ls hl => ?_)
            refine lv_goto (tgt := 20) X.1 X.2.1 dX2_gable_52 (by decide) ?_
            refine lv_iload_n X.1 X.2.1 dX2_gable_20 rfl (lv_at hl 0 rfl) ?_
            refine lv_iconst (v := nI 4) X.1 X.2.1 dX2_gable_21 (by decide) ?_
            refine lv_icmp_ge (tgt := 55) X.1 X.2.1 dX2_gable_22 (by decide) (fun h9 => absurd h9 (by decide)) (fun _ => ?_)
            refine lv_iload_n X.1 X.2.1 dX2_gable_25 rfl (lv_at hl 1 rfl) ?_
            refine lv_if_ne (tgt := 43) X.1 X.2.1 dX2_gable_26 (by decide) (fun h9 => absurd (by decide) h9) (fun _ => ?_)
            refine lv_iload_n X.1 X.2.1 dX2_gable_29 rfl (lv_at hl 0 rfl) ?_
            refine lv_iload_n X.1 X.2.1 dX2_gable_30 rfl (lv_at hl 3 rfl) ?_
            refine lv_icmp_eq (tgt := 47) X.1 X.2.1 dX2_gable_31 (by decide) (fun h9 => absurd h9 (by decide)) (fun _ => ?_)
            refine lv_aload_n X.1 X.2.1 dX2_gable_34 rfl (lv_at hl 2 rfl) ?_
            refine p_get (T := TX2) X uX2 (hP.at 0 rfl) rfl 5 (by decide) mw_469 rfl rfl dX2_gable_35 ?_
            refine lv_iload_n X.1 X.2.1 dX2_gable_38 rfl (lv_at hl 0 rfl) ?_
            refine f_zald X (hP.at 3 rfl) (by decide) (by decide) dX2_gable_39 ?_
            refine q_Bne X (tgt := 47) dX2_gable_40 (by decide) (fun hB19 => ?_) (fun hB19 => ?_)
            ·
              refine lv_iconst (v := nI 0) X.1 X.2.1 dX2_gable_47 (by decide) ?_
              refine lv_istore_n (lv' := [(2, .int (nI 0)), (3, .int (nI 3)), (0, .ref mo), (1, .int (nI 1))]) X.1 X.2.1 dX2_gable_48 rfl hl (by decide) rfl (fun ls hl => ?_)
              refine lv_iinc (v := nI 4) (lv' := [(3, .int (nI 4)), (2, .int (nI 0)), (0, .ref mo), (1, .int (nI 1))]) X.1 X.2.1 dX2_gable_49 hl (k := 1) rfl (nI_1 _) (by decide) rfl (fun ls hl => ?_)
              refine lv_goto (tgt := 20) X.1 X.2.1 dX2_gable_52 (by decide) ?_
              refine lv_iload_n X.1 X.2.1 dX2_gable_20 rfl (lv_at hl 0 rfl) ?_
              refine lv_iconst (v := nI 4) X.1 X.2.1 dX2_gable_21 (by decide) ?_
              refine lv_icmp_ge (tgt := 55) X.1 X.2.1 dX2_gable_22 (by decide) (fun _ => ?_) (fun h9 => absurd (by decide) h9)
              refine lv_aload_n X.1 X.2.1 dX2_gable_55 rfl (lv_at hl 2 rfl) ?_
              refine lv_iload_n X.1 X.2.1 dX2_gable_56 rfl (lv_at hl 1 rfl) ?_
              refine lv_if_eq (tgt := 64) X.1 X.2.1 dX2_gable_57 (by decide) (fun _ => ?_) (fun h9 => absurd (by decide) h9)
              refine lv_iconst (v := nI 2) X.1 X.2.1 dX2_gable_64 (by decide) ?_
              have hoth : oth q 1 = false := by simp [oth, hB17, hB18, hB19]
              refine f_put (F := fun q => q = mo ∨ q = ua ∨ q = oa ∨ q = ga) (T := TX2) (N := 8) (ci := 2) X tyX2 tyX2_ok nmX2 uX2 (hP.at 0 rfl) rfl 0 (by decide) mw_464 rfl rfl (v := .int (nI 2)) (ty := .int) (by decide +kernel) rfl rfl (Nat.le_of_ble_eq_true rfl) (Or.inl (Or.inl rfl)) hlo dX2_gable_65 (fun H20 locs hpa hlo hat => ?_)
              have hX := hX.tra ((Or.inl rfl)) hpa
              have hP := PP.cons hat (PP.exa (hP.sub [1, 2, 3] rfl : PP g [mla g ua U, mla g oa O, mza g ga q] _) hpa (fun z hz => by simp only [List.mem_cons, List.not_mem_nil, or_false] at hz; rcases hz with rfl | rfl | rfl <;> first | exact hM.1 | exact hM.2.1 | exact hM.2.2.1))
              have hP : PP g [(mo, .inr (2, [.int (nI 2), .long (lN x1), .long (lN y1), .ref ua, .ref oa, .ref ga, .long ab, .long be])), mla g ua U, mla g oa O, mza g ga q] H20 := hP
              refine lv_aload_n X.1 X.2.1 dX2_gable_68 rfl (lv_at hl 2 rfl) ?_
              refine p_get (T := TX2) X uX2 (hP.at 0 rfl) rfl 0 (by decide) mw_464 rfl rfl dX2_gable_69 ?_
              refine lv_if_gt (tgt := 84) X.1 X.2.1 dX2_gable_72 (by decide) (fun _ => ?_) (fun h9 => absurd (by decide) h9)
              refine lv_iconst (v := nI 0) X.1 X.2.1 dX2_gable_84 (by decide) ?_
              refine w_i (v' := bI false) (by decide) ?_
              exact f_zret (v := false) X hX hlo (Or.inl ⟨by simp [hi, ek, hoth], ⟨_, rfl⟩, ⟨_, _, _, by simp [mk3, hi, ek, hoth], hP⟩⟩) ⟨by decide, by decide⟩ dX2_gable_85
            ·
              refine lv_iconst (v := nI 1) X.1 X.2.1 dX2_gable_43 (by decide) ?_
              refine lv_goto (tgt := 48) X.1 X.2.1 dX2_gable_44 (by decide) ?_
              refine lv_istore_n (lv' := [(2, .int (nI 1)), (3, .int (nI 3)), (0, .ref mo), (1, .int (nI 1))]) X.1 X.2.1 dX2_gable_48 rfl hl (by decide) rfl (fun ls hl => ?_)
              refine lv_iinc (v := nI 4) (lv' := [(3, .int (nI 4)), (2, .int (nI 1)), (0, .ref mo), (1, .int (nI 1))]) X.1 X.2.1 dX2_gable_49 hl (k := 1) rfl (nI_1 _) (by decide) rfl (fun ls hl => ?_)
              refine lv_goto (tgt := 20) X.1 X.2.1 dX2_gable_52 (by decide) ?_
              refine lv_iload_n X.1 X.2.1 dX2_gable_20 rfl (lv_at hl 0 rfl) ?_
              refine lv_iconst (v := nI 4) X.1 X.2.1 dX2_gable_21 (by decide) ?_
              refine lv_icmp_ge (tgt := 55) X.1 X.2.1 dX2_gable_22 (by decide) (fun _ => ?_) (fun h9 => absurd (by decide) h9)
              refine lv_aload_n X.1 X.2.1 dX2_gable_55 rfl (lv_at hl 2 rfl) ?_
              refine lv_iload_n X.1 X.2.1 dX2_gable_56 rfl (lv_at hl 1 rfl) ?_
              refine lv_if_eq (tgt := 64) X.1 X.2.1 dX2_gable_57 (by decide) (fun h9 => absurd h9 (by decide)) (fun _ => ?_)
              refine lv_iconst (v := nI 0) X.1 X.2.1 dX2_gable_60 (by decide) ?_
              refine lv_goto (tgt := 65) X.1 X.2.1 dX2_gable_61 (by decide) ?_
              have hoth : oth q 1 = true := by simp [oth, hB17, hB18, hB19]
              refine f_put (F := fun q => q = mo ∨ q = ua ∨ q = oa ∨ q = ga) (T := TX2) (N := 8) (ci := 2) X tyX2 tyX2_ok nmX2 uX2 (hP.at 0 rfl) rfl 0 (by decide) mw_464 rfl rfl (v := .int (nI 0)) (ty := .int) (by decide +kernel) rfl rfl (Nat.le_of_ble_eq_true rfl) (Or.inl (Or.inl rfl)) hlo dX2_gable_65 (fun H21 locs hpa hlo hat => ?_)
              have hX := hX.tra ((Or.inl rfl)) hpa
              have hP := PP.cons hat (PP.exa (hP.sub [1, 2, 3] rfl : PP g [mla g ua U, mla g oa O, mza g ga q] _) hpa (fun z hz => by simp only [List.mem_cons, List.not_mem_nil, or_false] at hz; rcases hz with rfl | rfl | rfl <;> first | exact hM.1 | exact hM.2.1 | exact hM.2.2.1))
              have hP : PP g [(mo, .inr (2, [.int (nI 0), .long (lN x1), .long (lN y1), .ref ua, .ref oa, .ref ga, .long ab, .long be])), mla g ua U, mla g oa O, mza g ga q] H21 := hP
              refine lv_aload_n X.1 X.2.1 dX2_gable_68 rfl (lv_at hl 2 rfl) ?_
              refine p_get (T := TX2) X uX2 (hP.at 0 rfl) rfl 0 (by decide) mw_464 rfl rfl dX2_gable_69 ?_
              refine lv_if_gt (tgt := 84) X.1 X.2.1 dX2_gable_72 (by decide) (fun h9 => absurd h9 (by decide)) (fun _ => ?_)
              refine lv_aload_n X.1 X.2.1 dX2_gable_75 rfl (lv_at hl 2 rfl) ?_
              refine p_get (T := TX2) X uX2 (hP.at 0 rfl) rfl 5 (by decide) mw_469 rfl rfl dX2_gable_76 ?_
              refine lv_iload_n X.1 X.2.1 dX2_gable_79 rfl (lv_at hl 3 rfl) ?_
              refine f_zald X (hP.at 3 rfl) (by decide) (by decide) dX2_gable_80 ?_
              refine q_Beq X (tgt := 86) dX2_gable_81 (by decide) (fun hB22 => ?_) (fun hB22 => ?_)
              ·
                refine lv_aload_n X.1 X.2.1 dX2_gable_86 rfl (lv_at hl 2 rfl) ?_
                refine p_get (T := TX2) X uX2 (hP.at 0 rfl) rfl 5 (by decide) mw_469 rfl rfl dX2_gable_87 ?_
                refine lv_iload_n X.1 X.2.1 dX2_gable_90 rfl (lv_at hl 3 rfl) ?_
                refine lv_iconst (v := nI 1) X.1 X.2.1 dX2_gable_91 (by decide) ?_
                refine w_i (v' := bI (decide ((0 : Rat) = 0))) (by decide) ?_
                refine f_zast (F := fun q => q = mo ∨ q = ua ∨ q = oa ∨ q = ga) X (hP.at 3 rfl) (by decide) (by decide) (Or.inl (Or.inr (Or.inr (Or.inr rfl)))) hlo dX2_gable_92 (fun H23 locs hpa hlo hat => ?_)
                have hX := hX.tra (Or.inr (Or.inr (Or.inr rfl))) hpa
                rw [upZ] at hat
                have hP := PP.cons hat (PP.exa (hP.sub [0, 1, 2] rfl : PP g [(mo, .inr (2, [.int (nI 0), .long (lN x1), .long (lN y1), .ref ua, .ref oa, .ref ga, .long ab, .long be])), mla g ua U, mla g oa O] _) hpa (fun z hz => by simp only [List.mem_cons, List.not_mem_nil, or_false] at hz; rcases hz with rfl | rfl | rfl <;> first | exact hM.2.2.1.symm | exact hM.2.2.2.2.1 | exact hM.2.2.2.2.2))
                have hP : PP g [(mo, .inr (2, [.int (nI 0), .long (lN x1), .long (lN y1), .ref ua, .ref oa, .ref ga, .long ab, .long be])), mla g ua U, mla g oa O, mza g ga (va_up q 1 0)] H23 := hP.sub [1, 2, 3, 0] rfl
                refine lv_iconst (v := nI 1) X.1 X.2.1 dX2_gable_93 (by decide) ?_
                refine w_i (v' := bI true) (by decide) ?_
                exact f_zret (v := true) X hX hlo (Or.inr ⟨by simp [hi, ek, hoth], by simp only [ek]; rw [decide_eq_false (fun h9 => absurd h9.symm (of_decide_eq_false hB22))]; rfl, ⟨_, _, _, rfl, by simp only [ek]; exact hP⟩⟩) ⟨by decide, by decide⟩ dX2_gable_94
              ·
                refine lv_iconst (v := nI 0) X.1 X.2.1 dX2_gable_84 (by decide) ?_
                refine w_i (v' := bI false) (by decide) ?_
                exact f_zret (v := false) X hX hlo (Or.inr ⟨by simp [hi, ek, hoth], by simp only [ek]; rw [decide_eq_true (gab0 hB22).symm]; rfl, ⟨_, _, _, rfl, by simp only [ek]; rw [up_id (gab0 hB22)]; exact hP⟩⟩) ⟨by decide, by decide⟩ dX2_gable_85
          ·
            refine lv_iconst (v := nI 1) X.1 X.2.1 dX2_gable_43 (by decide) ?_
            refine lv_goto (tgt := 48) X.1 X.2.1 dX2_gable_44 (by decide) ?_
            refine lv_istore_n (lv' := [(2, .int (nI 1)), (3, .int (nI 2)), (0, .ref mo), (1, .int (nI 1))]) X.1 X.2.1 dX2_gable_48 rfl hl (by decide) rfl (fun ls hl => ?_)
            refine lv_iinc (v := nI 3) (lv' := [(3, .int (nI 3)), (2, .int (nI 1)), (0, .ref mo), (1, .int (nI 1))]) X.1 X.2.1 dX2_gable_49 hl (k := 1) rfl (nI_1 _) (by decide) rfl (fun ls hl => ?_)
            refine lv_goto (tgt := 20) X.1 X.2.1 dX2_gable_52 (by decide) ?_
            refine lv_iload_n X.1 X.2.1 dX2_gable_20 rfl (lv_at hl 0 rfl) ?_
            refine lv_iconst (v := nI 4) X.1 X.2.1 dX2_gable_21 (by decide) ?_
            refine lv_icmp_ge (tgt := 55) X.1 X.2.1 dX2_gable_22 (by decide) (fun h9 => absurd h9 (by decide)) (fun _ => ?_)
            refine lv_iload_n X.1 X.2.1 dX2_gable_25 rfl (lv_at hl 1 rfl) ?_
            refine lv_if_ne (tgt := 43) X.1 X.2.1 dX2_gable_26 (by decide) (fun _ => ?_) (fun h9 => absurd h9 (by decide))
            refine lv_iconst (v := nI 1) X.1 X.2.1 dX2_gable_43 (by decide) ?_
            refine lv_goto (tgt := 48) X.1 X.2.1 dX2_gable_44 (by decide) ?_
            refine lv_istore_n (lv' := [(2, .int (nI 1)), (3, .int (nI 3)), (0, .ref mo), (1, .int (nI 1))]) X.1 X.2.1 dX2_gable_48 rfl hl (by decide) rfl (fun ls hl => ?_)
            refine lv_iinc (v := nI 4) (lv' := [(3, .int (nI 4)), (2, .int (nI 1)), (0, .ref mo), (1, .int (nI 1))]) X.1 X.2.1 dX2_gable_49 hl (k := 1) rfl (nI_1 _) (by decide) rfl (fun ls hl => ?_)
            refine lv_goto (tgt := 20) X.1 X.2.1 dX2_gable_52 (by decide) ?_
            refine lv_iload_n X.1 X.2.1 dX2_gable_20 rfl (lv_at hl 0 rfl) ?_
            refine lv_iconst (v := nI 4) X.1 X.2.1 dX2_gable_21 (by decide) ?_
            refine lv_icmp_ge (tgt := 55) X.1 X.2.1 dX2_gable_22 (by decide) (fun _ => ?_) (fun h9 => absurd (by decide) h9)
            refine lv_aload_n X.1 X.2.1 dX2_gable_55 rfl (lv_at hl 2 rfl) ?_
            refine lv_iload_n X.1 X.2.1 dX2_gable_56 rfl (lv_at hl 1 rfl) ?_
            refine lv_if_eq (tgt := 64) X.1 X.2.1 dX2_gable_57 (by decide) (fun h9 => absurd h9 (by decide)) (fun _ => ?_)
            refine lv_iconst (v := nI 0) X.1 X.2.1 dX2_gable_60 (by decide) ?_
            refine lv_goto (tgt := 65) X.1 X.2.1 dX2_gable_61 (by decide) ?_
            have hoth : oth q 1 = true := by simp [oth, hB17, hB18]
            refine f_put (F := fun q => q = mo ∨ q = ua ∨ q = oa ∨ q = ga) (T := TX2) (N := 8) (ci := 2) X tyX2 tyX2_ok nmX2 uX2 (hP.at 0 rfl) rfl 0 (by decide) mw_464 rfl rfl (v := .int (nI 0)) (ty := .int) (by decide +kernel) rfl rfl (Nat.le_of_ble_eq_true rfl) (Or.inl (Or.inl rfl)) hlo dX2_gable_65 (fun H24 locs hpa hlo hat => ?_)
            have hX := hX.tra ((Or.inl rfl)) hpa
            have hP := PP.cons hat (PP.exa (hP.sub [1, 2, 3] rfl : PP g [mla g ua U, mla g oa O, mza g ga q] _) hpa (fun z hz => by simp only [List.mem_cons, List.not_mem_nil, or_false] at hz; rcases hz with rfl | rfl | rfl <;> first | exact hM.1 | exact hM.2.1 | exact hM.2.2.1))
            have hP : PP g [(mo, .inr (2, [.int (nI 0), .long (lN x1), .long (lN y1), .ref ua, .ref oa, .ref ga, .long ab, .long be])), mla g ua U, mla g oa O, mza g ga q] H24 := hP
            refine lv_aload_n X.1 X.2.1 dX2_gable_68 rfl (lv_at hl 2 rfl) ?_
            refine p_get (T := TX2) X uX2 (hP.at 0 rfl) rfl 0 (by decide) mw_464 rfl rfl dX2_gable_69 ?_
            refine lv_if_gt (tgt := 84) X.1 X.2.1 dX2_gable_72 (by decide) (fun h9 => absurd h9 (by decide)) (fun _ => ?_)
            refine lv_aload_n X.1 X.2.1 dX2_gable_75 rfl (lv_at hl 2 rfl) ?_
            refine p_get (T := TX2) X uX2 (hP.at 0 rfl) rfl 5 (by decide) mw_469 rfl rfl dX2_gable_76 ?_
            refine lv_iload_n X.1 X.2.1 dX2_gable_79 rfl (lv_at hl 3 rfl) ?_
            refine f_zald X (hP.at 3 rfl) (by decide) (by decide) dX2_gable_80 ?_
            refine q_Beq X (tgt := 86) dX2_gable_81 (by decide) (fun hB25 => ?_) (fun hB25 => ?_)
            ·
              refine lv_aload_n X.1 X.2.1 dX2_gable_86 rfl (lv_at hl 2 rfl) ?_
              refine p_get (T := TX2) X uX2 (hP.at 0 rfl) rfl 5 (by decide) mw_469 rfl rfl dX2_gable_87 ?_
              refine lv_iload_n X.1 X.2.1 dX2_gable_90 rfl (lv_at hl 3 rfl) ?_
              refine lv_iconst (v := nI 1) X.1 X.2.1 dX2_gable_91 (by decide) ?_
              refine w_i (v' := bI (decide ((0 : Rat) = 0))) (by decide) ?_
              refine f_zast (F := fun q => q = mo ∨ q = ua ∨ q = oa ∨ q = ga) X (hP.at 3 rfl) (by decide) (by decide) (Or.inl (Or.inr (Or.inr (Or.inr rfl)))) hlo dX2_gable_92 (fun H26 locs hpa hlo hat => ?_)
              have hX := hX.tra (Or.inr (Or.inr (Or.inr rfl))) hpa
              rw [upZ] at hat
              have hP := PP.cons hat (PP.exa (hP.sub [0, 1, 2] rfl : PP g [(mo, .inr (2, [.int (nI 0), .long (lN x1), .long (lN y1), .ref ua, .ref oa, .ref ga, .long ab, .long be])), mla g ua U, mla g oa O] _) hpa (fun z hz => by simp only [List.mem_cons, List.not_mem_nil, or_false] at hz; rcases hz with rfl | rfl | rfl <;> first | exact hM.2.2.1.symm | exact hM.2.2.2.2.1 | exact hM.2.2.2.2.2))
              have hP : PP g [(mo, .inr (2, [.int (nI 0), .long (lN x1), .long (lN y1), .ref ua, .ref oa, .ref ga, .long ab, .long be])), mla g ua U, mla g oa O, mza g ga (va_up q 1 0)] H26 := hP.sub [1, 2, 3, 0] rfl
              refine lv_iconst (v := nI 1) X.1 X.2.1 dX2_gable_93 (by decide) ?_
              refine w_i (v' := bI true) (by decide) ?_
              exact f_zret (v := true) X hX hlo (Or.inr ⟨by simp [hi, ek, hoth], by simp only [ek]; rw [decide_eq_false (fun h9 => absurd h9.symm (of_decide_eq_false hB25))]; rfl, ⟨_, _, _, rfl, by simp only [ek]; exact hP⟩⟩) ⟨by decide, by decide⟩ dX2_gable_94
            ·
              refine lv_iconst (v := nI 0) X.1 X.2.1 dX2_gable_84 (by decide) ?_
              refine w_i (v' := bI false) (by decide) ?_
              exact f_zret (v := false) X hX hlo (Or.inr ⟨by simp [hi, ek, hoth], by simp only [ek]; rw [decide_eq_true (gab0 hB25).symm]; rfl, ⟨_, _, _, rfl, by simp only [ek]; rw [up_id (gab0 hB25)]; exact hP⟩⟩) ⟨by decide, by decide⟩ dX2_gable_85
        ·
          refine lv_iconst (v := nI 1) X.1 X.2.1 dX2_gable_43 (by decide) ?_
          refine lv_goto (tgt := 48) X.1 X.2.1 dX2_gable_44 (by decide) ?_
          refine lv_istore_n (lv' := [(2, .int (nI 1)), (3, .int (nI 0)), (0, .ref mo), (1, .int (nI 1))]) X.1 X.2.1 dX2_gable_48 rfl hl (by decide) rfl (fun ls hl => ?_)
          refine lv_iinc (v := nI 1) (lv' := [(3, .int (nI 1)), (2, .int (nI 1)), (0, .ref mo), (1, .int (nI 1))]) X.1 X.2.1 dX2_gable_49 hl (k := 1) rfl (nI_1 _) (by decide) rfl (fun ls hl => ?_)
          refine lv_goto (tgt := 20) X.1 X.2.1 dX2_gable_52 (by decide) ?_
          refine lv_iload_n X.1 X.2.1 dX2_gable_20 rfl (lv_at hl 0 rfl) ?_
          refine lv_iconst (v := nI 4) X.1 X.2.1 dX2_gable_21 (by decide) ?_
          refine lv_icmp_ge (tgt := 55) X.1 X.2.1 dX2_gable_22 (by decide) (fun h9 => absurd h9 (by decide)) (fun _ => ?_)
          refine lv_iload_n X.1 X.2.1 dX2_gable_25 rfl (lv_at hl 1 rfl) ?_
          refine lv_if_ne (tgt := 43) X.1 X.2.1 dX2_gable_26 (by decide) (fun _ => ?_) (fun h9 => absurd h9 (by decide))
          refine lv_iconst (v := nI 1) X.1 X.2.1 dX2_gable_43 (by decide) ?_
          refine lv_goto (tgt := 48) X.1 X.2.1 dX2_gable_44 (by decide) ?_
          refine lv_istore_n (lv' := [(2, .int (nI 1)), (3, .int (nI 1)), (0, .ref mo), (1, .int (nI 1))]) X.1 X.2.1 dX2_gable_48 rfl hl (by decide) rfl (fun ls hl => ?_)
          refine lv_iinc (v := nI 2) (lv' := [(3, .int (nI 2)), (2, .int (nI 1)), (0, .ref mo), (1, .int (nI 1))]) X.1 X.2.1 dX2_gable_49 hl (k := 1) rfl (nI_1 _) (by decide) rfl (fun ls hl => ?_)
          refine lv_goto (tgt := 20) X.1 X.2.1 dX2_gable_52 (by decide) ?_
          refine lv_iload_n X.1 X.2.1 dX2_gable_20 rfl (lv_at hl 0 rfl) ?_
          refine lv_iconst (v := nI 4) X.1 X.2.1 dX2_gable_21 (by decide) ?_
          refine lv_icmp_ge (tgt := 55) X.1 X.2.1 dX2_gable_22 (by decide) (fun h9 => absurd h9 (by decide)) (fun _ => ?_)
          refine lv_iload_n X.1 X.2.1 dX2_gable_25 rfl (lv_at hl 1 rfl) ?_
          refine lv_if_ne (tgt := 43) X.1 X.2.1 dX2_gable_26 (by decide) (fun _ => ?_) (fun h9 => absurd h9 (by decide))
          refine lv_iconst (v := nI 1) X.1 X.2.1 dX2_gable_43 (by decide) ?_
          refine lv_goto (tgt := 48) X.1 X.2.1 dX2_gable_44 (by decide) ?_
          refine lv_istore_n (lv' := [(2, .int (nI 1)), (3, .int (nI 2)), (0, .ref mo), (1, .int (nI 1))]) X.1 X.2.1 dX2_gable_48 rfl hl (by decide) rfl (fun ls hl => ?_)
          refine lv_iinc (v := nI 3) (lv' := [(3, .int (nI 3)), (2, .int (nI 1)), (0, .ref mo), (1, .int (nI 1))]) X.1 X.2.1 dX2_gable_49 hl (k := 1) rfl (nI_1 _) (by decide) rfl (fun ls hl => ?_)
          refine lv_goto (tgt := 20) X.1 X.2.1 dX2_gable_52 (by decide) ?_
          refine lv_iload_n X.1 X.2.1 dX2_gable_20 rfl (lv_at hl 0 rfl) ?_
          refine lv_iconst (v := nI 4) X.1 X.2.1 dX2_gable_21 (by decide) ?_
          refine lv_icmp_ge (tgt := 55) X.1 X.2.1 dX2_gable_22 (by decide) (fun h9 => absurd h9 (by decide)) (fun _ => ?_)
          refine lv_iload_n X.1 X.2.1 dX2_gable_25 rfl (lv_at hl 1 rfl) ?_
          refine lv_if_ne (tgt := 43) X.1 X.2.1 dX2_gable_26 (by decide) (fun _ => ?_) (fun h9 => absurd h9 (by decide))
          refine lv_iconst (v := nI 1) X.1 X.2.1 dX2_gable_43 (by decide) ?_
          refine lv_goto (tgt := 48) X.1 X.2.1 dX2_gable_44 (by decide) ?_
          refine lv_istore_n (lv' := [(2, .int (nI 1)), (3, .int (nI 3)), (0, .ref mo), (1, .int (nI 1))]) X.1 X.2.1 dX2_gable_48 rfl hl (by decide) rfl (fun ls hl => ?_)
          refine lv_iinc (v := nI 4) (lv' := [(3, .int (nI 4)), (2, .int (nI 1)), (0, .ref mo), (1, .int (nI 1))]) X.1 X.2.1 dX2_gable_49 hl (k := 1) rfl (nI_1 _) (by decide) rfl (fun ls hl => ?_)
          refine lv_goto (tgt := 20) X.1 X.2.1 dX2_gable_52 (by decide) ?_
          refine lv_iload_n X.1 X.2.1 dX2_gable_20 rfl (lv_at hl 0 rfl) ?_
          refine lv_iconst (v := nI 4) X.1 X.2.1 dX2_gable_21 (by decide) ?_
          refine lv_icmp_ge (tgt := 55) X.1 X.2.1 dX2_gable_22 (by decide) (fun _ => ?_) (fun h9 => absurd (by decide) h9)
          refine lv_aload_n X.1 X.2.1 dX2_gable_55 rfl (lv_at hl 2 rfl) ?_
          refine lv_iload_n X.1 X.2.1 dX2_gable_56 rfl (lv_at hl 1 rfl) ?_
          refine lv_if_eq (tgt := 64) X.1 X.2.1 dX2_gable_57 (by decide) (fun h9 => absurd h9 (by decide)) (fun _ => ?_)
          refine lv_iconst (v := nI 0) X.1 X.2.1 dX2_gable_60 (by decide) ?_
          refine lv_goto (tgt := 65) X.1 X.2.1 dX2_gable_61 (by decide) ?_
          have hoth : oth q 1 = true := by simp [oth, hB17]
          refine f_put (F := fun q => q = mo ∨ q = ua ∨ q = oa ∨ q = ga) (T := TX2) (N := 8) (ci := 2) X tyX2 tyX2_ok nmX2 uX2 (hP.at 0 rfl) rfl 0 (by decide) mw_464 rfl rfl (v := .int (nI 0)) (ty := .int) (by decide +kernel) rfl rfl (Nat.le_of_ble_eq_true rfl) (Or.inl (Or.inl rfl)) hlo dX2_gable_65 (fun H27 locs hpa hlo hat => ?_)
          have hX := hX.tra ((Or.inl rfl)) hpa
          have hP := PP.cons hat (PP.exa (hP.sub [1, 2, 3] rfl : PP g [mla g ua U, mla g oa O, mza g ga q] _) hpa (fun z hz => by simp only [List.mem_cons, List.not_mem_nil, or_false] at hz; rcases hz with rfl | rfl | rfl <;> first | exact hM.1 | exact hM.2.1 | exact hM.2.2.1))
          have hP : PP g [(mo, .inr (2, [.int (nI 0), .long (lN x1), .long (lN y1), .ref ua, .ref oa, .ref ga, .long ab, .long be])), mla g ua U, mla g oa O, mza g ga q] H27 := hP
          refine lv_aload_n X.1 X.2.1 dX2_gable_68 rfl (lv_at hl 2 rfl) ?_
          refine p_get (T := TX2) X uX2 (hP.at 0 rfl) rfl 0 (by decide) mw_464 rfl rfl dX2_gable_69 ?_
          refine lv_if_gt (tgt := 84) X.1 X.2.1 dX2_gable_72 (by decide) (fun h9 => absurd h9 (by decide)) (fun _ => ?_)
          refine lv_aload_n X.1 X.2.1 dX2_gable_75 rfl (lv_at hl 2 rfl) ?_
          refine p_get (T := TX2) X uX2 (hP.at 0 rfl) rfl 5 (by decide) mw_469 rfl rfl dX2_gable_76 ?_
          refine lv_iload_n X.1 X.2.1 dX2_gable_79 rfl (lv_at hl 3 rfl) ?_
          refine f_zald X (hP.at 3 rfl) (by decide) (by decide) dX2_gable_80 ?_
          refine q_Beq X (tgt := 86) dX2_gable_81 (by decide) (fun hB28 => ?_) (fun hB28 => ?_)
          ·
            refine lv_aload_n X.1 X.2.1 dX2_gable_86 rfl (lv_at hl 2 rfl) ?_
            refine p_get (T := TX2) X uX2 (hP.at 0 rfl) rfl 5 (by decide) mw_469 rfl rfl dX2_gable_87 ?_
            refine lv_iload_n X.1 X.2.1 dX2_gable_90 rfl (lv_at hl 3 rfl) ?_
            refine lv_iconst (v := nI 1) X.1 X.2.1 dX2_gable_91 (by decide) ?_
            refine w_i (v' := bI (decide ((0 : Rat) = 0))) (by decide) ?_
            refine f_zast (F := fun q => q = mo ∨ q = ua ∨ q = oa ∨ q = ga) X (hP.at 3 rfl) (by decide) (by decide) (Or.inl (Or.inr (Or.inr (Or.inr rfl)))) hlo dX2_gable_92 (fun H29 locs hpa hlo hat => ?_)
            have hX := hX.tra (Or.inr (Or.inr (Or.inr rfl))) hpa
            rw [upZ] at hat
            have hP := PP.cons hat (PP.exa (hP.sub [0, 1, 2] rfl : PP g [(mo, .inr (2, [.int (nI 0), .long (lN x1), .long (lN y1), .ref ua, .ref oa, .ref ga, .long ab, .long be])), mla g ua U, mla g oa O] _) hpa (fun z hz => by simp only [List.mem_cons, List.not_mem_nil, or_false] at hz; rcases hz with rfl | rfl | rfl <;> first | exact hM.2.2.1.symm | exact hM.2.2.2.2.1 | exact hM.2.2.2.2.2))
            have hP : PP g [(mo, .inr (2, [.int (nI 0), .long (lN x1), .long (lN y1), .ref ua, .ref oa, .ref ga, .long ab, .long be])), mla g ua U, mla g oa O, mza g ga (va_up q 1 0)] H29 := hP.sub [1, 2, 3, 0] rfl
            refine lv_iconst (v := nI 1) X.1 X.2.1 dX2_gable_93 (by decide) ?_
            refine w_i (v' := bI true) (by decide) ?_
            exact f_zret (v := true) X hX hlo (Or.inr ⟨by simp [hi, ek, hoth], by simp only [ek]; rw [decide_eq_false (fun h9 => absurd h9.symm (of_decide_eq_false hB28))]; rfl, ⟨_, _, _, rfl, by simp only [ek]; exact hP⟩⟩) ⟨by decide, by decide⟩ dX2_gable_94
          ·
            refine lv_iconst (v := nI 0) X.1 X.2.1 dX2_gable_84 (by decide) ?_
            refine w_i (v' := bI false) (by decide) ?_
            exact f_zret (v := false) X hX hlo (Or.inr ⟨by simp [hi, ek, hoth], by simp only [ek]; rw [decide_eq_true (gab0 hB28).symm]; rfl, ⟨_, _, _, rfl, by simp only [ek]; rw [up_id (gab0 hB28)]; exact hP⟩⟩) ⟨by decide, by decide⟩ dX2_gable_85
      ·
        have ek : toN (nI 2) = 2 := toN_k (by omega)
        refine lv_icmp_ge (tgt := 55) X.1 X.2.1 dX2_gable_22 (by decide) (fun h9 => absurd h9 (by decide)) (fun _ => ?_)
        refine lv_iload_n X.1 X.2.1 dX2_gable_25 rfl (lv_at hl 1 rfl) ?_
        refine lv_if_ne (tgt := 43) X.1 X.2.1 dX2_gable_26 (by decide) (fun h9 => absurd (by decide) h9) (fun _ => ?_)
        refine lv_iload_n X.1 X.2.1 dX2_gable_29 rfl (lv_at hl 0 rfl) ?_
        refine lv_iload_n X.1 X.2.1 dX2_gable_30 rfl (lv_at hl 3 rfl) ?_
        refine lv_icmp_eq (tgt := 47) X.1 X.2.1 dX2_gable_31 (by decide) (fun h9 => absurd h9 (by decide)) (fun _ => ?_)
        refine lv_aload_n X.1 X.2.1 dX2_gable_34 rfl (lv_at hl 2 rfl) ?_
        refine p_get (T := TX2) X uX2 (hP.at 0 rfl) rfl 5 (by decide) mw_469 rfl rfl dX2_gable_35 ?_
        refine lv_iload_n X.1 X.2.1 dX2_gable_38 rfl (lv_at hl 0 rfl) ?_
        refine f_zald X (hP.at 3 rfl) (by decide) (by decide) dX2_gable_39 ?_
        refine q_Bne X (tgt := 47) dX2_gable_40 (by decide) (fun hB30 => ?_) (fun hB30 => ?_)
        ·
          refine lv_iconst (v := nI 0) X.1 X.2.1 dX2_gable_47 (by decide) ?_
          refine lv_istore_n (lv' := [(2, .int (nI 0)), (3, .int (nI 0)), (0, .ref mo), (1, .int (nI 2))]) X.1 X.2.1 dX2_gable_48 rfl hl (by decide) rfl (fun ls hl => ?_)
          refine lv_iinc (v := nI 1) (lv' := [(3, .int (nI 1)), (2, .int (nI 0)), (0, .ref mo), (1, .int (nI 2))]) X.1 X.2.1 dX2_gable_49 hl (k := 1) rfl (nI_1 _) (by decide) rfl (fun ls hl => ?_)
          refine lv_goto (tgt := 20) X.1 X.2.1 dX2_gable_52 (by decide) ?_
          refine lv_iload_n X.1 X.2.1 dX2_gable_20 rfl (lv_at hl 0 rfl) ?_
          refine lv_iconst (v := nI 4) X.1 X.2.1 dX2_gable_21 (by decide) ?_
          refine lv_icmp_ge (tgt := 55) X.1 X.2.1 dX2_gable_22 (by decide) (fun h9 => absurd h9 (by decide)) (fun _ => ?_)
          refine lv_iload_n X.1 X.2.1 dX2_gable_25 rfl (lv_at hl 1 rfl) ?_
          refine lv_if_ne (tgt := 43) X.1 X.2.1 dX2_gable_26 (by decide) (fun h9 => absurd (by decide) h9) (fun _ => ?_)
          refine lv_iload_n X.1 X.2.1 dX2_gable_29 rfl (lv_at hl 0 rfl) ?_
          refine lv_iload_n X.1 X.2.1 dX2_gable_30 rfl (lv_at hl 3 rfl) ?_
          refine lv_icmp_eq (tgt := 47) X.1 X.2.1 dX2_gable_31 (by decide) (fun h9 => absurd h9 (by decide)) (fun _ => ?_)
          refine lv_aload_n X.1 X.2.1 dX2_gable_34 rfl (lv_at hl 2 rfl) ?_
          refine p_get (T := TX2) X uX2 (hP.at 0 rfl) rfl 5 (by decide) mw_469 rfl rfl dX2_gable_35 ?_
          refine lv_iload_n X.1 X.2.1 dX2_gable_38 rfl (lv_at hl 0 rfl) ?_
          refine f_zald X (hP.at 3 rfl) (by decide) (by decide) dX2_gable_39 ?_
          refine q_Bne X (tgt := 47) dX2_gable_40 (by decide) (fun hB31 => ?_) (fun hB31 => ?_)
          ·
            refine lv_iconst (v := nI 0) X.1 X.2.1 dX2_gable_47 (by decide) ?_
            refine lv_istore_n (lv' := [(2, .int (nI 0)), (3, .int (nI 1)), (0, .ref mo), (1, .int (nI 2))]) X.1 X.2.1 dX2_gable_48 rfl hl (by decide) rfl (fun ls hl => ?_)
            refine lv_iinc (v := nI 2) (lv' := [(3, .int (nI 2)), (2, .int (nI 0)), (0, .ref mo), (1, .int (nI 2))]) X.1 X.2.1 dX2_gable_49 hl (k := 1) rfl (nI_1 _) (by decide) rfl (fun ls hl => ?_)
            refine lv_goto (tgt := 20) X.1 X.2.1 dX2_gable_52 (by decide) ?_
            refine lv_iload_n X.1 X.2.1 dX2_gable_20 rfl (lv_at hl 0 rfl) ?_
            refine lv_iconst (v := nI 4) X.1 X.2.1 dX2_gable_21 (by decide) ?_
            refine lv_icmp_ge (tgt := 55) X.1 X.2.1 dX2_gable_22 (by decide) (fun h9 => absurd h9 (by decide)) (fun _ => ?_)
            refine lv_iload_n X.1 X.2.1 dX2_gable_25 rfl (lv_at hl 1 rfl) ?_
            refine lv_if_ne (tgt := 43) X.1 X.2.1 dX2_gable_26 (by decide) (fun h9 => absurd (by decide) h9) (fun _ => ?_)
            refine lv_iload_n X.1 X.2.1 dX2_gable_29 rfl (lv_at hl 0 rfl) ?_
            refine lv_iload_n X.1 X.2.1 dX2_gable_30 rfl (lv_at hl 3 rfl) ?_
            refine lv_icmp_eq (tgt := 47) X.1 X.2.1 dX2_gable_31 (by decide) (fun _ => ?_) (fun h9 => absurd (by decide) h9)
            refine lv_iconst (v := nI 0) X.1 X.2.1 dX2_gable_47 (by decide) ?_
            refine lv_istore_n (lv' := [(2, .int (nI 0)), (3, .int (nI 2)), (0, .ref mo), (1, .int (nI 2))]) X.1 X.2.1 dX2_gable_48 rfl hl (by decide) rfl (fun ls hl => ?_)
            refine lv_iinc (v := nI 3) (lv' := [(3, .int (nI 3)), (2, .int (nI 0)), (0, .ref mo), (1, .int (nI 2))]) X.1 X.2.1 dX2_gable_49 hl (k := 1) rfl (nI_1 _) (by decide) rfl (fun ls hl => ?_)
            refine lv_goto (tgt := 20) X.1 X.2.1 dX2_gable_52 (by decide) ?_
            refine lv_iload_n X.1 X.2.1 dX2_gable_20 rfl (lv_at hl 0 rfl) ?_
            refine lv_iconst (v := nI 4) X.1 X.2.1 dX2_gable_21 (by decide) ?_
            refine lv_icmp_ge (tgt := 55) X.1 X.2.1 dX2_gable_22 (by decide) (fun h9 => absurd h9 (by decide)) (fun _ => ?_)
            refine lv_iload_n X.1 X.2.1 dX2_gable_25 rfl (lv_at hl 1 rfl) ?_
            refine lv_if_ne (tgt := 43) X.1 X.2.1 dX2_gable_26 (by decide) (fun h9 => absurd (by decide) h9) (fun _ => ?_)
            refine lv_iload_n X.1 X.2.1 dX2_gable_29 rfl (lv_at hl 0 rfl) ?_
            refine lv_iload_n X.1 X.2.1 dX2_gable_30 rfl (lv_at hl 3 rfl) ?_
            refine lv_icmp_eq (tgt := 47) X.1 X.2.1 dX2_gable_31 (by decide) (fun h9 => absurd h9 (by decide)) (fun _ => ?_)
            refine lv_aload_n X.1 X.2.1 dX2_gable_34 rfl (lv_at hl 2 rfl) ?_
            refine p_get (T := TX2) X uX2 (hP.at 0 rfl) rfl 5 (by decide) mw_469 rfl rfl dX2_gable_35 ?_
            refine lv_iload_n X.1 X.2.1 dX2_gable_38 rfl (lv_at hl 0 rfl) ?_
            refine f_zald X (hP.at 3 rfl) (by decide) (by decide) dX2_gable_39 ?_
            refine q_Bne X (tgt := 47) dX2_gable_40 (by decide) (fun hB32 => ?_) (fun hB32 => ?_)
            ·
              refine lv_iconst (v := nI 0) X.1 X.2.1 dX2_gable_47 (by decide) ?_
              refine lv_istore_n (lv' := [(2, .int (nI 0)), (3, .int (nI 3)), (0, .ref mo), (1, .int (nI 2))]) X.1 X.2.1 dX2_gable_48 rfl hl (by decide) rfl (fun ls hl => ?_)
              refine lv_iinc (v := nI 4) (lv' := [(3, .int (nI 4)), (2, .int (nI 0)), (0, .ref mo), (1, .int (nI 2))]) X.1 X.2.1 dX2_gable_49 hl (k := 1) rfl (nI_1 _) (by decide) rfl (fun ls hl => ?_)
              refine lv_goto (tgt := 20) X.1 X.2.1 dX2_gable_52 (by decide) ?_
              refine lv_iload_n X.1 X.2.1 dX2_gable_20 rfl (lv_at hl 0 rfl) ?_
              refine lv_iconst (v := nI 4) X.1 X.2.1 dX2_gable_21 (by decide) ?_
              refine lv_icmp_ge (tgt := 55) X.1 X.2.1 dX2_gable_22 (by decide) (fun _ => ?_) (fun h9 => absurd (by decide) h9)
              refine lv_aload_n X.1 X.2.1 dX2_gable_55 rfl (lv_at hl 2 rfl) ?_
              refine lv_iload_n X.1 X.2.1 dX2_gable_56 rfl (lv_at hl 1 rfl) ?_
              refine lv_if_eq (tgt := 64) X.1 X.2.1 dX2_gable_57 (by decide) (fun _ => ?_) (fun h9 => absurd (by decide) h9)
              refine lv_iconst (v := nI 2) X.1 X.2.1 dX2_gable_64 (by decide) ?_
              have hoth : oth q 2 = false := by simp [oth, hB30, hB31, hB32]
              refine f_put (F := fun q => q = mo ∨ q = ua ∨ q = oa ∨ q = ga) (T := TX2) (N := 8) (ci := 2) X tyX2 tyX2_ok nmX2 uX2 (hP.at 0 rfl) rfl 0 (by decide) mw_464 rfl rfl (v := .int (nI 2)) (ty := .int) (by decide +kernel) rfl rfl (Nat.le_of_ble_eq_true rfl) (Or.inl (Or.inl rfl)) hlo dX2_gable_65 (fun H33 locs hpa hlo hat => ?_)
              have hX := hX.tra ((Or.inl rfl)) hpa
              have hP := PP.cons hat (PP.exa (hP.sub [1, 2, 3] rfl : PP g [mla g ua U, mla g oa O, mza g ga q] _) hpa (fun z hz => by simp only [List.mem_cons, List.not_mem_nil, or_false] at hz; rcases hz with rfl | rfl | rfl <;> first | exact hM.1 | exact hM.2.1 | exact hM.2.2.1))
              have hP : PP g [(mo, .inr (2, [.int (nI 2), .long (lN x1), .long (lN y1), .ref ua, .ref oa, .ref ga, .long ab, .long be])), mla g ua U, mla g oa O, mza g ga q] H33 := hP
              refine lv_aload_n X.1 X.2.1 dX2_gable_68 rfl (lv_at hl 2 rfl) ?_
              refine p_get (T := TX2) X uX2 (hP.at 0 rfl) rfl 0 (by decide) mw_464 rfl rfl dX2_gable_69 ?_
              refine lv_if_gt (tgt := 84) X.1 X.2.1 dX2_gable_72 (by decide) (fun _ => ?_) (fun h9 => absurd (by decide) h9)
              refine lv_iconst (v := nI 0) X.1 X.2.1 dX2_gable_84 (by decide) ?_
              refine w_i (v' := bI false) (by decide) ?_
              exact f_zret (v := false) X hX hlo (Or.inl ⟨by simp [hi, ek, hoth], ⟨_, rfl⟩, ⟨_, _, _, by simp [mk3, hi, ek, hoth], hP⟩⟩) ⟨by decide, by decide⟩ dX2_gable_85
            ·
              refine lv_iconst (v := nI 1) X.1 X.2.1 dX2_gable_43 (by decide) ?_
              refine lv_goto (tgt := 48) X.1 X.2.1 dX2_gable_44 (by decide) ?_
              refine lv_istore_n (lv' := [(2, .int (nI 1)), (3, .int (nI 3)), (0, .ref mo), (1, .int (nI 2))]) X.1 X.2.1 dX2_gable_48 rfl hl (by decide) rfl (fun ls hl => ?_)
              refine lv_iinc (v := nI 4) (lv' := [(3, .int (nI 4)), (2, .int (nI 1)), (0, .ref mo), (1, .int (nI 2))]) X.1 X.2.1 dX2_gable_49 hl (k := 1) rfl (nI_1 _) (by decide) rfl (fun ls hl => ?_)
              refine lv_goto (tgt := 20) X.1 X.2.1 dX2_gable_52 (by decide) ?_
              refine lv_iload_n X.1 X.2.1 dX2_gable_20 rfl (lv_at hl 0 rfl) ?_
              refine lv_iconst (v := nI 4) X.1 X.2.1 dX2_gable_21 (by decide) ?_
              refine lv_icmp_ge (tgt := 55) X.1 X.2.1 dX2_gable_22 (by decide) (fun _ => ?_) (fun h9 => absurd (by decide) h9)
              refine lv_aload_n X.1 X.2.1 dX2_gable_55 rfl (lv_at hl 2 rfl) ?_
              refine lv_iload_n X.1 X.2.1 dX2_gable_56 rfl (lv_at hl 1 rfl) ?_
              refine lv_if_eq (tgt := 64) X.1 X.2.1 dX2_gable_57 (by decide) (fun h9 => absurd h9 (by decide)) (fun _ => ?_)
              refine lv_iconst (v := nI 0) X.1 X.2.1 dX2_gable_60 (by decide) ?_
              refine lv_goto (tgt := 65) X.1 X.2.1 dX2_gable_61 (by decide) ?_
              have hoth : oth q 2 = true := by simp [oth, hB30, hB31, hB32]
              refine f_put (F := fun q => q = mo ∨ q = ua ∨ q = oa ∨ q = ga) (T := TX2) (N := 8) (ci := 2) X tyX2 tyX2_ok nmX2 uX2 (hP.at 0 rfl) rfl 0 (by decide) mw_464 rfl rfl (v := .int (nI 0)) (ty := .int) (by decide +kernel) rfl rfl (Nat.le_of_ble_eq_true rfl) (Or.inl (Or.inl rfl)) hlo dX2_gable_65 (fun H34 locs hpa hlo hat => ?_)
              have hX := hX.tra ((Or.inl rfl)) hpa
              have hP := PP.cons hat (PP.exa (hP.sub [1, 2, 3] rfl : PP g [mla g ua U, mla g oa O, mza g ga q] _) hpa (fun z hz => by simp only [List.mem_cons, List.not_mem_nil, or_false] at hz; rcases hz with rfl | rfl | rfl <;> first | exact hM.1 | exact hM.2.1 | exact hM.2.2.1))
              have hP : PP g [(mo, .inr (2, [.int (nI 0), .long (lN x1), .long (lN y1), .ref ua, .ref oa, .ref ga, .long ab, .long be])), mla g ua U, mla g oa O, mza g ga q] H34 := hP
              refine lv_aload_n X.1 X.2.1 dX2_gable_68 rfl (lv_at hl 2 rfl) ?_
              refine p_get (T := TX2) X uX2 (hP.at 0 rfl) rfl 0 (by decide) mw_464 rfl rfl dX2_gable_69 ?_
              refine lv_if_gt (tgt := 84) X.1 X.2.1 dX2_gable_72 (by decide) (fun h9 => absurd h9 (by decide)) (fun _ => ?_)
              refine lv_aload_n X.1 X.2.1 dX2_gable_75 rfl (lv_at hl 2 rfl) ?_
              refine p_get (T := TX2) X uX2 (hP.at 0 rfl) rfl 5 (by decide) mw_469 rfl rfl dX2_gable_76 ?_
              refine lv_iload_n X.1 X.2.1 dX2_gable_79 rfl (lv_at hl 3 rfl) ?_
              refine f_zald X (hP.at 3 rfl) (by decide) (by decide) dX2_gable_80 ?_
              refine q_Beq X (tgt := 86) dX2_gable_81 (by decide) (fun hB35 => ?_) (fun hB35 => ?_)
              ·
                refine lv_aload_n X.1 X.2.1 dX2_gable_86 rfl (lv_at hl 2 rfl) ?_
                refine p_get (T := TX2) X uX2 (hP.at 0 rfl) rfl 5 (by decide) mw_469 rfl rfl dX2_gable_87 ?_
                refine lv_iload_n X.1 X.2.1 dX2_gable_90 rfl (lv_at hl 3 rfl) ?_
                refine lv_iconst (v := nI 1) X.1 X.2.1 dX2_gable_91 (by decide) ?_
                refine w_i (v' := bI (decide ((0 : Rat) = 0))) (by decide) ?_
                refine f_zast (F := fun q => q = mo ∨ q = ua ∨ q = oa ∨ q = ga) X (hP.at 3 rfl) (by decide) (by decide) (Or.inl (Or.inr (Or.inr (Or.inr rfl)))) hlo dX2_gable_92 (fun H36 locs hpa hlo hat => ?_)
                have hX := hX.tra (Or.inr (Or.inr (Or.inr rfl))) hpa
                rw [upZ] at hat
                have hP := PP.cons hat (PP.exa (hP.sub [0, 1, 2] rfl : PP g [(mo, .inr (2, [.int (nI 0), .long (lN x1), .long (lN y1), .ref ua, .ref oa, .ref ga, .long ab, .long be])), mla g ua U, mla g oa O] _) hpa (fun z hz => by simp only [List.mem_cons, List.not_mem_nil, or_false] at hz; rcases hz with rfl | rfl | rfl <;> first | exact hM.2.2.1.symm | exact hM.2.2.2.2.1 | exact hM.2.2.2.2.2))
                have hP : PP g [(mo, .inr (2, [.int (nI 0), .long (lN x1), .long (lN y1), .ref ua, .ref oa, .ref ga, .long ab, .long be])), mla g ua U, mla g oa O, mza g ga (va_up q 2 0)] H36 := hP.sub [1, 2, 3, 0] rfl
                refine lv_iconst (v := nI 1) X.1 X.2.1 dX2_gable_93 (by decide) ?_
                refine w_i (v' := bI true) (by decide) ?_
                exact f_zret (v := true) X hX hlo (Or.inr ⟨by simp [hi, ek, hoth], by simp only [ek]; rw [decide_eq_false (fun h9 => absurd h9.symm (of_decide_eq_false hB35))]; rfl, ⟨_, _, _, rfl, by simp only [ek]; exact hP⟩⟩) ⟨by decide, by decide⟩ dX2_gable_94
              ·
                refine lv_iconst (v := nI 0) X.1 X.2.1 dX2_gable_84 (by decide) ?_
                refine w_i (v' := bI false) (by decide) ?_
                exact f_zret (v := false) X hX hlo (Or.inr ⟨by simp [hi, ek, hoth], by simp only [ek]; rw [decide_eq_true (gab0 hB35).symm]; rfl, ⟨_, _, _, rfl, by simp only [ek]; rw [up_id (gab0 hB35)]; exact hP⟩⟩) ⟨by decide, by decide⟩ dX2_gable_85
          ·
            refine lv_iconst (v := nI 1) X.1 X.2.1 dX2_gable_43 (by decide) ?_
            refine lv_goto (tgt := 48) X.1 X.2.1 dX2_gable_44 (by decide) ?_
            refine lv_istore_n (lv' := [(2, .int (nI 1)), (3, .int (nI 1)), (0, .ref mo), (1, .int (nI 2))]) X.1 X.2.1 dX2_gable_48 rfl hl (by decide) rfl (fun ls hl => ?_)
            refine lv_iinc (v := nI 2) (lv' := [(3, .int (nI 2)), (2, .int (nI 1)), (0, .ref mo), (1, .int (nI 2))]) X.1 X.2.1 dX2_gable_49 hl (k := 1) rfl (nI_1 _) (by decide) rfl (fun ls hl => ?_)
            refine lv_goto (tgt := 20) X.1 X.2.1 dX2_gable_52 (by decide) ?_
            refine lv_iload_n X.1 X.2.1 dX2_gable_20 rfl (lv_at hl 0 rfl) ?_
            refine lv_iconst (v := nI 4) X.1 X.2.1 dX2_gable_21 (by decide) ?_
            refine lv_icmp_ge (tgt := 55) X.1 X.2.1 dX2_gable_22 (by decide) (fun h9 => absurd h9 (by decide)) (fun _ => ?_)
            refine lv_iload_n X.1 X.2.1 dX2_gable_25 rfl (lv_at hl 1 rfl) ?_
            refine lv_if_ne (tgt := 43) X.1 X.2.1 dX2_gable_26 (by decide) (fun _ => ?_) (fun h9 => absurd h9 (by decide))
            refine lv_iconst (v := nI 1) X.1 X.2.1 dX2_gable_43 (by decide) ?_
            refine lv_goto (tgt := 48) X.1 X.2.1 dX2_gable_44 (by decide) ?_
            refine lv_istore_n (lv' := [(2, .int (nI 1)), (3, .int (nI 2)), (0, .ref mo), (1, .int (nI 2))]) X.1 X.2.1 dX2_gable_48 rfl hl (by decide) rfl (fun ls hl => ?_)
            refine lv_iinc (v := nI 3) (lv' := [(3, .int (nI 3)), (2, .int (nI 1)), (0, .ref mo), (1, .int (nI 2))]) X.1 X.2.1 dX2_gable_49 hl (k := 1) rfl (nI_1 _) (by decide) rfl (fun ls hl => ?_)
            refine lv_goto (tgt := 20) X.1 X.2.1 dX2_gable_52 (by decide) ?_
            refine lv_iload_n X.1 X.2.1 dX2_gable_20 rfl (lv_at hl 0 rfl) ?_
            refine lv_iconst (v := nI 4) X.1 X.2.1 dX2_gable_21 (by decide) ?_
            refine lv_icmp_ge (tgt := 55) X.1 X.2.1 dX2_gable_22 (by decide) (fun h9 => absurd h9 (by decide)) (fun _ => ?_)
            refine lv_iload_n X.1 X.2.1 dX2_gable_25 rfl (lv_at hl 1 rfl) ?_
            refine lv_if_ne (tgt := 43) X.1 X.2.1 dX2_gable_26 (by decide) (fun _ => ?_) (fun h9 => absurd h9 (by decide))
            refine lv_iconst (v := nI 1) X.1 X.2.1 dX2_gable_43 (by decide) ?_
            refine lv_goto (tgt := 48) X.1 X.2.1 dX2_gable_44 (by decide) ?_
            refine lv_istore_n (lv' := [(2, .int (nI 1)), (3, .int (nI 3)), (0, .ref mo), (1, .int (nI 2))]) X.1 X.2.1 dX2_gable_48 rfl hl (by decide) rfl (fun ls hl => ?_)
            refine lv_iinc (v := nI 4) (lv' := [(3, .int (nI 4)), (2, .int (nI 1)), (0, .ref mo), (1, .int (nI 2))]) X.1 X.2.1 dX2_gable_49 hl (k := 1) rfl (nI_1 _) (by decide) rfl (fun ls hl => ?_)
            refine lv_goto (tgt := 20) X.1 X.2.1 dX2_gable_52 (by decide) ?_
            refine lv_iload_n X.1 X.2.1 dX2_gable_20 rfl (lv_at hl 0 rfl) ?_
            refine lv_iconst (v := nI 4) X.1 X.2.1 dX2_gable_21 (by decide) ?_
            refine lv_icmp_ge (tgt := 55) X.1 X.2.1 dX2_gable_22 (by decide) (fun _ => ?_) (fun h9 => absurd (by decide) h9)
            refine lv_aload_n X.1 X.2.1 dX2_gable_55 rfl (lv_at hl 2 rfl) ?_
            refine lv_iload_n X.1 X.2.1 dX2_gable_56 rfl (lv_at hl 1 rfl) ?_
            refine lv_if_eq (tgt := 64) X.1 X.2.1 dX2_gable_57 (by decide) (fun h9 => absurd h9 (by decide)) (fun _ => ?_)
            refine lv_iconst (v := nI 0) X.1 X.2.1 dX2_gable_60 (by decide) ?_
            refine lv_goto (tgt := 65) X.1 X.2.1 dX2_gable_61 (by decide) ?_
            have hoth : oth q 2 = true := by simp [oth, hB30, hB31]
            refine f_put (F := fun q => q = mo ∨ q = ua ∨ q = oa ∨ q = ga) (T := TX2) (N := 8) (ci := 2) X tyX2 tyX2_ok nmX2 uX2 (hP.at 0 rfl) rfl 0 (by decide) mw_464 rfl rfl (v := .int (nI 0)) (ty := .int) (by decide +kernel) rfl rfl (Nat.le_of_ble_eq_true rfl) (Or.inl (Or.inl rfl)) hlo dX2_gable_65 (fun H37 locs hpa hlo hat => ?_)
            have hX := hX.tra ((Or.inl rfl)) hpa
            have hP := PP.cons hat (PP.exa (hP.sub [1, 2, 3] rfl : PP g [mla g ua U, mla g oa O, mza g ga q] _) hpa (fun z hz => by simp only [List.mem_cons, List.not_mem_nil, or_false] at hz; rcases hz with rfl | rfl | rfl <;> first | exact hM.1 | exact hM.2.1 | exact hM.2.2.1))
            have hP : PP g [(mo, .inr (2, [.int (nI 0), .long (lN x1), .long (lN y1), .ref ua, .ref oa, .ref ga, .long ab, .long be])), mla g ua U, mla g oa O, mza g ga q] H37 := hP
            refine lv_aload_n X.1 X.2.1 dX2_gable_68 rfl (lv_at hl 2 rfl) ?_
            refine p_get (T := TX2) X uX2 (hP.at 0 rfl) rfl 0 (by decide) mw_464 rfl rfl dX2_gable_69 ?_
            refine lv_if_gt (tgt := 84) X.1 X.2.1 dX2_gable_72 (by decide) (fun h9 => absurd h9 (by decide)) (fun _ => ?_)
            refine lv_aload_n X.1 X.2.1 dX2_gable_75 rfl (lv_at hl 2 rfl) ?_
            refine p_get (T := TX2) X uX2 (hP.at 0 rfl) rfl 5 (by decide) mw_469 rfl rfl dX2_gable_76 ?_
            refine lv_iload_n X.1 X.2.1 dX2_gable_79 rfl (lv_at hl 3 rfl) ?_
            refine f_zald X (hP.at 3 rfl) (by decide) (by decide) dX2_gable_80 ?_
            refine q_Beq X (tgt := 86) dX2_gable_81 (by decide) (fun hB38 => ?_) (fun hB38 => ?_)
            ·
              refine lv_aload_n X.1 X.2.1 dX2_gable_86 rfl (lv_at hl 2 rfl) ?_
              refine p_get (T := TX2) X uX2 (hP.at 0 rfl) rfl 5 (by decide) mw_469 rfl rfl dX2_gable_87 ?_
              refine lv_iload_n X.1 X.2.1 dX2_gable_90 rfl (lv_at hl 3 rfl) ?_
              refine lv_iconst (v := nI 1) X.1 X.2.1 dX2_gable_91 (by decide) ?_
              refine w_i (v' := bI (decide ((0 : Rat) = 0))) (by decide) ?_
              refine f_zast (F := fun q => q = mo ∨ q = ua ∨ q = oa ∨ q = ga) X (hP.at 3 rfl) (by decide) (by decide) (Or.inl (Or.inr (Or.inr (Or.inr rfl)))) hlo dX2_gable_92 (fun H39 locs hpa hlo hat => ?_)
              have hX := hX.tra (Or.inr (Or.inr (Or.inr rfl))) hpa
              rw [upZ] at hat
              have hP := PP.cons hat (PP.exa (hP.sub [0, 1, 2] rfl : PP g [(mo, .inr (2, [.int (nI 0), .long (lN x1), .long (lN y1), .ref ua, .ref oa, .ref ga, .long ab, .long be])), mla g ua U, mla g oa O] _) hpa (fun z hz => by simp only [List.mem_cons, List.not_mem_nil, or_false] at hz; rcases hz with rfl | rfl | rfl <;> first | exact hM.2.2.1.symm | exact hM.2.2.2.2.1 | exact hM.2.2.2.2.2))
              have hP : PP g [(mo, .inr (2, [.int (nI 0), .long (lN x1), .long (lN y1), .ref ua, .ref oa, .ref ga, .long ab, .long be])), mla g ua U, mla g oa O, mza g ga (va_up q 2 0)] H39 := hP.sub [1, 2, 3, 0] rfl
              refine lv_iconst (v := nI 1) X.1 X.2.1 dX2_gable_93 (by decide) ?_
              refine w_i (v' := bI true) (by decide) ?_
              exact f_zret (v := true) X hX hlo (Or.inr ⟨by simp [hi, ek, hoth], by simp only [ek]; rw [decide_eq_false (fun h9 => absurd h9.symm (of_decide_eq_false hB38))]; rfl, ⟨_, _, _, rfl, by simp only [ek]; exact hP⟩⟩) ⟨by decide, by decide⟩ dX2_gable_94
            ·
              refine lv_iconst (v := nI 0) X.1 X.2.1 dX2_gable_84 (by decide) ?_
              refine w_i (v' := bI false) (by decide) ?_
              exact f_zret (v := false) X hX hlo (Or.inr ⟨by simp [hi, ek, hoth], by simp only [ek]; rw [decide_eq_true (gab0 hB38).symm]; rfl, ⟨_, _, _, rfl, by simp only [ek]; rw [up_id (gab0 hB38)]; exact hP⟩⟩) ⟨by decide, by decide⟩ dX2_gable_85
        ·
          refine lv_iconst (v := nI 1) X.1 X.2.1 dX2_gable_43 (by decide) ?_
          refine lv_goto (tgt := 48) X.1 X.2.1 dX2_gable_44 (by decide) ?_
          refine lv_istore_n (lv' := [(2, .int (nI 1)), (3, .int (nI 0)), (0, .ref mo), (1, .int (nI 2))]) X.1 X.2.1 dX2_gable_48 rfl hl (by decide) rfl (fun ls hl => ?_)
          refine lv_iinc (v := nI 1) (lv' := [(3, .int (nI 1)), (2, .int (nI 1)), (0, .ref mo), (1, .int (nI 2))]) X.1 X.2.1 dX2_gable_49 hl (k := 1) rfl (nI_1 _) (by decide) rfl (fun ls hl => ?_)
          refine lv_goto (tgt := 20) X.1 X.2.1 dX2_gable_52 (by decide) ?_
          refine lv_iload_n X.1 X.2.1 dX2_gable_20 rfl (lv_at hl 0 rfl) ?_
          refine lv_iconst (v := nI 4) X.1 X.2.1 dX2_gable_21 (by decide) ?_
          refine lv_icmp_ge (tgt := 55) X.1 X.2.1 dX2_gable_22 (by decide) (fun h9 => absurd h9 (by decide)) (fun _ => ?_)
          refine lv_iload_n X.1 X.2.1 dX2_gable_25 rfl (lv_at hl 1 rfl) ?_
          refine lv_if_ne (tgt := 43) X.1 X.2.1 dX2_gable_26 (by decide) (fun _ => ?_) (fun h9 => absurd h9 (by decide))
          refine lv_iconst (v := nI 1) X.1 X.2.1 dX2_gable_43 (by decide) ?_
          refine lv_goto (tgt := 48) X.1 X.2.1 dX2_gable_44 (by decide) ?_
          refine lv_istore_n (lv' := [(2, .int (nI 1)), (3, .int (nI 1)), (0, .ref mo), (1, .int (nI 2))]) X.1 X.2.1 dX2_gable_48 rfl hl (by decide) rfl (fun ls hl => ?_)
          refine lv_iinc (v := nI 2) (lv' := [(3, .int (nI 2)), (2, .int (nI 1)), (0, .ref mo), (1, .int (nI 2))]) X.1 X.2.1 dX2_gable_49 hl (k := 1) rfl (nI_1 _) (by decide) rfl (fun ls hl => ?_)
          refine lv_goto (tgt := 20) X.1 X.2.1 dX2_gable_52 (by decide) ?_
          refine lv_iload_n X.1 X.2.1 dX2_gable_20 rfl (lv_at hl 0 rfl) ?_
          refine lv_iconst (v := nI 4) X.1 X.2.1 dX2_gable_21 (by decide) ?_
          refine lv_icmp_ge (tgt := 55) X.1 X.2.1 dX2_gable_22 (by decide) (fun h9 => absurd h9 (by decide)) (fun _ => ?_)
          refine lv_iload_n X.1 X.2.1 dX2_gable_25 rfl (lv_at hl 1 rfl) ?_
          refine lv_if_ne (tgt := 43) X.1 X.2.1 dX2_gable_26 (by decide) (fun _ => ?_) (fun h9 => absurd h9 (by decide))
          refine lv_iconst (v := nI 1) X.1 X.2.1 dX2_gable_43 (by decide) ?_
          refine lv_goto (tgt := 48) X.1 X.2.1 dX2_gable_44 (by decide) ?_
          refine lv_istore_n (lv' := [(2, .int (nI 1)), (3, .int (nI 2)), (0, .ref mo), (1, .int (nI 2))]) X.1 X.2.1 dX2_gable_48 rfl hl (by decide) rfl (fun ls hl => ?_)
          refine lv_iinc (v := nI 3) (lv' := [(3, .int (nI 3)), (2, .int (nI 1)), (0, .ref mo), (1, .int (nI 2))]) X.1 X.2.1 dX2_gable_49 hl (k := 1) rfl (nI_1 _) (by decide) rfl (fun ls hl => ?_)
          refine lv_goto (tgt := 20) X.1 X.2.1 dX2_gable_52 (by decide) ?_
          refine lv_iload_n X.1 X.2.1 dX2_gable_20 rfl (lv_at hl 0 rfl) ?_
          refine lv_iconst (v := nI 4) X.1 X.2.1 dX2_gable_21 (by decide) ?_
          refine lv_icmp_ge (tgt := 55) X.1 X.2.1 dX2_gable_22 (by decide) (fun h9 => absurd h9 (by decide)) (fun _ => ?_)
          refine lv_iload_n X.1 X.2.1 dX2_gable_25 rfl (lv_at hl 1 rfl) ?_
          refine lv_if_ne (tgt := 43) X.1 X.2.1 dX2_gable_26 (by decide) (fun _ => ?_) (fun h9 => absurd h9 (by decide))
          refine lv_iconst (v := nI 1) X.1 X.2.1 dX2_gable_43 (by decide) ?_
          refine lv_goto (tgt := 48) X.1 X.2.1 dX2_gable_44 (by decide) ?_
          refine lv_istore_n (lv' := [(2, .int (nI 1)), (3, .int (nI 3)), (0, .ref mo), (1, .int (nI 2))]) X.1 X.2.1 dX2_gable_48 rfl hl (by decide) rfl (fun ls hl => ?_)
          refine lv_iinc (v := nI 4) (lv' := [(3, .int (nI 4)), (2, .int (nI 1)), (0, .ref mo), (1, .int (nI 2))]) X.1 X.2.1 dX2_gable_49 hl (k := 1) rfl (nI_1 _) (by decide) rfl (fun ls hl => ?_)
          refine lv_goto (tgt := 20) X.1 X.2.1 dX2_gable_52 (by decide) ?_
          refine lv_iload_n X.1 X.2.1 dX2_gable_20 rfl (lv_at hl 0 rfl) ?_
          refine lv_iconst (v := nI 4) X.1 X.2.1 dX2_gable_21 (by decide) ?_
          refine lv_icmp_ge (tgt := 55) X.1 X.2.1 dX2_gable_22 (by decide) (fun _ => ?_) (fun h9 => absurd (by decide) h9)
          refine lv_aload_n X.1 X.2.1 dX2_gable_55 rfl (lv_at hl 2 rfl) ?_
          refine lv_iload_n X.1 X.2.1 dX2_gable_56 rfl (lv_at hl 1 rfl) ?_
          refine lv_if_eq (tgt := 64) X.1 X.2.1 dX2_gable_57 (by decide) (fun h9 => absurd h9 (by decide)) (fun _ => ?_)
          refine lv_iconst (v := nI 0) X.1 X.2.1 dX2_gable_60 (by decide) ?_
          refine lv_goto (tgt := 65) X.1 X.2.1 dX2_gable_61 (by decide) ?_
          have hoth : oth q 2 = true := by simp [oth, hB30]
          refine f_put (F := fun q => q = mo ∨ q = ua ∨ q = oa ∨ q = ga) (T := TX2) (N := 8) (ci := 2) X tyX2 tyX2_ok nmX2 uX2 (hP.at 0 rfl) rfl 0 (by decide) mw_464 rfl rfl (v := .int (nI 0)) (ty := .int) (by decide +kernel) rfl rfl (Nat.le_of_ble_eq_true rfl) (Or.inl (Or.inl rfl)) hlo dX2_gable_65 (fun H40 locs hpa hlo hat => ?_)
          have hX := hX.tra ((Or.inl rfl)) hpa
          have hP := PP.cons hat (PP.exa (hP.sub [1, 2, 3] rfl : PP g [mla g ua U, mla g oa O, mza g ga q] _) hpa (fun z hz => by simp only [List.mem_cons, List.not_mem_nil, or_false] at hz; rcases hz with rfl | rfl | rfl <;> first | exact hM.1 | exact hM.2.1 | exact hM.2.2.1))
          have hP : PP g [(mo, .inr (2, [.int (nI 0), .long (lN x1), .long (lN y1), .ref ua, .ref oa, .ref ga, .long ab, .long be])), mla g ua U, mla g oa O, mza g ga q] H40 := hP
          refine lv_aload_n X.1 X.2.1 dX2_gable_68 rfl (lv_at hl 2 rfl) ?_
          refine p_get (T := TX2) X uX2 (hP.at 0 rfl) rfl 0 (by decide) mw_464 rfl rfl dX2_gable_69 ?_
          refine lv_if_gt (tgt := 84) X.1 X.2.1 dX2_gable_72 (by decide) (fun h9 => absurd h9 (by decide)) (fun _ => ?_)
          refine lv_aload_n X.1 X.2.1 dX2_gable_75 rfl (lv_at hl 2 rfl) ?_
          refine p_get (T := TX2) X uX2 (hP.at 0 rfl) rfl 5 (by decide) mw_469 rfl rfl dX2_gable_76 ?_
          refine lv_iload_n X.1 X.2.1 dX2_gable_79 rfl (lv_at hl 3 rfl) ?_
          refine f_zald X (hP.at 3 rfl) (by decide) (by decide) dX2_gable_80 ?_
          refine q_Beq X (tgt := 86) dX2_gable_81 (by decide) (fun hB41 => ?_) (fun hB41 => ?_)
          ·
            refine lv_aload_n X.1 X.2.1 dX2_gable_86 rfl (lv_at hl 2 rfl) ?_
            refine p_get (T := TX2) X uX2 (hP.at 0 rfl) rfl 5 (by decide) mw_469 rfl rfl dX2_gable_87 ?_
            refine lv_iload_n X.1 X.2.1 dX2_gable_90 rfl (lv_at hl 3 rfl) ?_
            refine lv_iconst (v := nI 1) X.1 X.2.1 dX2_gable_91 (by decide) ?_
            refine w_i (v' := bI (decide ((0 : Rat) = 0))) (by decide) ?_
            refine f_zast (F := fun q => q = mo ∨ q = ua ∨ q = oa ∨ q = ga) X (hP.at 3 rfl) (by decide) (by decide) (Or.inl (Or.inr (Or.inr (Or.inr rfl)))) hlo dX2_gable_92 (fun H42 locs hpa hlo hat => ?_)
            have hX := hX.tra (Or.inr (Or.inr (Or.inr rfl))) hpa
            rw [upZ] at hat
            have hP := PP.cons hat (PP.exa (hP.sub [0, 1, 2] rfl : PP g [(mo, .inr (2, [.int (nI 0), .long (lN x1), .long (lN y1), .ref ua, .ref oa, .ref ga, .long ab, .long be])), mla g ua U, mla g oa O] _) hpa (fun z hz => by simp only [List.mem_cons, List.not_mem_nil, or_false] at hz; rcases hz with rfl | rfl | rfl <;> first | exact hM.2.2.1.symm | exact hM.2.2.2.2.1 | exact hM.2.2.2.2.2))
            have hP : PP g [(mo, .inr (2, [.int (nI 0), .long (lN x1), .long (lN y1), .ref ua, .ref oa, .ref ga, .long ab, .long be])), mla g ua U, mla g oa O, mza g ga (va_up q 2 0)] H42 := hP.sub [1, 2, 3, 0] rfl
            refine lv_iconst (v := nI 1) X.1 X.2.1 dX2_gable_93 (by decide) ?_
            refine w_i (v' := bI true) (by decide) ?_
            exact f_zret (v := true) X hX hlo (Or.inr ⟨by simp [hi, ek, hoth], by simp only [ek]; rw [decide_eq_false (fun h9 => absurd h9.symm (of_decide_eq_false hB41))]; rfl, ⟨_, _, _, rfl, by simp only [ek]; exact hP⟩⟩) ⟨by decide, by decide⟩ dX2_gable_94
          ·
            refine lv_iconst (v := nI 0) X.1 X.2.1 dX2_gable_84 (by decide) ?_
            refine w_i (v' := bI false) (by decide) ?_
            exact f_zret (v := false) X hX hlo (Or.inr ⟨by simp [hi, ek, hoth], by simp only [ek]; rw [decide_eq_true (gab0 hB41).symm]; rfl, ⟨_, _, _, rfl, by simp only [ek]; rw [up_id (gab0 hB41)]; exact hP⟩⟩) ⟨by decide, by decide⟩ dX2_gable_85
      ·
        have ek : toN (nI 3) = 3 := toN_k (by omega)
        refine lv_icmp_ge (tgt := 55) X.1 X.2.1 dX2_gable_22 (by decide) (fun h9 => absurd h9 (by decide)) (fun _ => ?_)
        refine lv_iload_n X.1 X.2.1 dX2_gable_25 rfl (lv_at hl 1 rfl) ?_
        refine lv_if_ne (tgt := 43) X.1 X.2.1 dX2_gable_26 (by decide) (fun h9 => absurd (by decide) h9) (fun _ => ?_)
        refine lv_iload_n X.1 X.2.1 dX2_gable_29 rfl (lv_at hl 0 rfl) ?_
        refine lv_iload_n X.1 X.2.1 dX2_gable_30 rfl (lv_at hl 3 rfl) ?_
        refine lv_icmp_eq (tgt := 47) X.1 X.2.1 dX2_gable_31 (by decide) (fun h9 => absurd h9 (by decide)) (fun _ => ?_)
        refine lv_aload_n X.1 X.2.1 dX2_gable_34 rfl (lv_at hl 2 rfl) ?_
        refine p_get (T := TX2) X uX2 (hP.at 0 rfl) rfl 5 (by decide) mw_469 rfl rfl dX2_gable_35 ?_
        refine lv_iload_n X.1 X.2.1 dX2_gable_38 rfl (lv_at hl 0 rfl) ?_
        refine f_zald X (hP.at 3 rfl) (by decide) (by decide) dX2_gable_39 ?_
        refine q_Bne X (tgt := 47) dX2_gable_40 (by decide) (fun hB43 => ?_) (fun hB43 => ?_)
        ·
          refine lv_iconst (v := nI 0) X.1 X.2.1 dX2_gable_47 (by decide) ?_
          refine lv_istore_n (lv' := [(2, .int (nI 0)), (3, .int (nI 0)), (0, .ref mo), (1, .int (nI 3))]) X.1 X.2.1 dX2_gable_48 rfl hl (by decide) rfl (fun ls hl => ?_)
          refine lv_iinc (v := nI 1) (lv' := [(3, .int (nI 1)), (2, .int (nI 0)), (0, .ref mo), (1, .int (nI 3))]) X.1 X.2.1 dX2_gable_49 hl (k := 1) rfl (nI_1 _) (by decide) rfl (fun ls hl => ?_)
          refine lv_goto (tgt := 20) X.1 X.2.1 dX2_gable_52 (by decide) ?_
          refine lv_iload_n X.1 X.2.1 dX2_gable_20 rfl (lv_at hl 0 rfl) ?_
          refine lv_iconst (v := nI 4) X.1 X.2.1 dX2_gable_21 (by decide) ?_
          refine lv_icmp_ge (tgt := 55) X.1 X.2.1 dX2_gable_22 (by decide) (fun h9 => absurd h9 (by decide)) (fun _ => ?_)
          refine lv_iload_n X.1 X.2.1 dX2_gable_25 rfl (lv_at hl 1 rfl) ?_
          refine lv_if_ne (tgt := 43) X.1 X.2.1 dX2_gable_26 (by decide) (fun h9 => absurd (by decide) h9) (fun _ => ?_)
          refine lv_iload_n X.1 X.2.1 dX2_gable_29 rfl (lv_at hl 0 rfl) ?_
          refine lv_iload_n X.1 X.2.1 dX2_gable_30 rfl (lv_at hl 3 rfl) ?_
          refine lv_icmp_eq (tgt := 47) X.1 X.2.1 dX2_gable_31 (by decide) (fun h9 => absurd h9 (by decide)) (fun _ => ?_)
          refine lv_aload_n X.1 X.2.1 dX2_gable_34 rfl (lv_at hl 2 rfl) ?_
          refine p_get (T := TX2) X uX2 (hP.at 0 rfl) rfl 5 (by decide) mw_469 rfl rfl dX2_gable_35 ?_
          refine lv_iload_n X.1 X.2.1 dX2_gable_38 rfl (lv_at hl 0 rfl) ?_
          refine f_zald X (hP.at 3 rfl) (by decide) (by decide) dX2_gable_39 ?_
          refine q_Bne X (tgt := 47) dX2_gable_40 (by decide) (fun hB44 => ?_) (fun hB44 => ?_)
          ·
            refine lv_iconst (v := nI 0) X.1 X.2.1 dX2_gable_47 (by decide) ?_
            refine lv_istore_n (lv' := [(2, .int (nI 0)), (3, .int (nI 1)), (0, .ref mo), (1, .int (nI 3))]) X.1 X.2.1 dX2_gable_48 rfl hl (by decide) rfl (fun ls hl => ?_)
            refine lv_iinc (v := nI 2) (lv' := [(3, .int (nI 2)), (2, .int (nI 0)), (0, .ref mo), (1, .int (nI 3))]) X.1 X.2.1 dX2_gable_49 hl (k := 1) rfl (nI_1 _) (by decide) rfl (fun ls hl => ?_)
            refine lv_goto (tgt := 20) X.1 X.2.1 dX2_gable_52 (by decide) ?_
            refine lv_iload_n X.1 X.2.1 dX2_gable_20 rfl (lv_at hl 0 rfl) ?_
            refine lv_iconst (v := nI 4) X.1 X.2.1 dX2_gable_21 (by decide) ?_
            refine lv_icmp_ge (tgt := 55) X.1 X.2.1 dX2_gable_22 (by decide) (fun h9 => absurd h9 (by decide)) (fun _ => ?_)
            refine lv_iload_n X.1 X.2.1 dX2_gable_25 rfl (lv_at hl 1 rfl) ?_
            refine lv_if_ne (tgt := 43) X.1 X.2.1 dX2_gable_26 (by decide) (fun h9 => absurd (by decide) h9) (fun _ => ?_)
            refine lv_iload_n X.1 X.2.1 dX2_gable_29 rfl (lv_at hl 0 rfl) ?_
            refine lv_iload_n X.1 X.2.1 dX2_gable_30 rfl (lv_at hl 3 rfl) ?_
            refine lv_icmp_eq (tgt := 47) X.1 X.2.1 dX2_gable_31 (by decide) (fun h9 => absurd h9 (by decide)) (fun _ => ?_)
            refine lv_aload_n X.1 X.2.1 dX2_gable_34 rfl (lv_at hl 2 rfl) ?_
            refine p_get (T := TX2) X uX2 (hP.at 0 rfl) rfl 5 (by decide) mw_469 rfl rfl dX2_gable_35 ?_
            refine lv_iload_n X.1 X.2.1 dX2_gable_38 rfl (lv_at hl 0 rfl) ?_
            refine f_zald X (hP.at 3 rfl) (by decide) (by decide) dX2_gable_39 ?_
            refine q_Bne X (tgt := 47) dX2_gable_40 (by decide) (fun hB45 => ?_) (fun hB45 => ?_)
            ·
              refine lv_iconst (v := nI 0) X.1 X.2.1 dX2_gable_47 (by decide) ?_
              refine lv_istore_n (lv' := [(2, .int (nI 0)), (3, .int (nI 2)), (0, .ref mo), (1, .int (nI 3))]) X.1 X.2.1 dX2_gable_48 rfl hl (by decide) rfl (fun ls hl => ?_)
              refine lv_iinc (v := nI 3) (lv' := [(3, .int (nI 3)), (2, .int (nI 0)), (0, .ref mo), (1, .int (nI 3))]) X.1 X.2.1 dX2_gable_49 hl (k := 1) rfl (nI_1 _) (by decide) rfl (fun ls hl => ?_)
              refine lv_goto (tgt := 20) X.1 X.2.1 dX2_gable_52 (by decide) ?_
              refine lv_iload_n X.1 X.2.1 dX2_gable_20 rfl (lv_at hl 0 rfl) ?_
              refine lv_iconst (v := nI 4) X.1 X.2.1 dX2_gable_21 (by decide) ?_
              refine lv_icmp_ge (tgt := 55) X.1 X.2.1 dX2_gable_22 (by decide) (fun h9 => absurd h9 (by decide)) (fun _ => ?_)
              refine lv_iload_n X.1 X.2.1 dX2_gable_25 rfl (lv_at hl 1 rfl) ?_
              refine lv_if_ne (tgt := 43) X.1 X.2.1 dX2_gable_26 (by decide) (fun h9 => absurd (by decide) h9) (fun _ => ?_)
              refine lv_iload_n X.1 X.2.1 dX2_gable_29 rfl (lv_at hl 0 rfl) ?_
              refine lv_iload_n X.1 X.2.1 dX2_gable_30 rfl (lv_at hl 3 rfl) ?_
              refine lv_icmp_eq (tgt := 47) X.1 X.2.1 dX2_gable_31 (by decide) (fun _ => ?_) (fun h9 => absurd (by decide) h9)
              refine lv_iconst (v := nI 0) X.1 X.2.1 dX2_gable_47 (by decide) ?_
              refine lv_istore_n (lv' := [(2, .int (nI 0)), (3, .int (nI 3)), (0, .ref mo), (1, .int (nI 3))]) X.1 X.2.1 dX2_gable_48 rfl hl (by decide) rfl (fun ls hl => ?_)
              refine lv_iinc (v := nI 4) (lv' := [(3, .int (nI 4)), (2, .int (nI 0)), (0, .ref mo), (1, .int (nI 3))]) X.1 X.2.1 dX2_gable_49 hl (k := 1) rfl (nI_1 _) (by decide) rfl (fun ls hl => ?_)
              refine lv_goto (tgt := 20) X.1 X.2.1 dX2_gable_52 (by decide) ?_
              refine lv_iload_n X.1 X.2.1 dX2_gable_20 rfl (lv_at hl 0 rfl) ?_
              refine lv_iconst (v := nI 4) X.1 X.2.1 dX2_gable_21 (by decide) ?_
              refine lv_icmp_ge (tgt := 55) X.1 X.2.1 dX2_gable_22 (by decide) (fun _ => ?_) (fun h9 => absurd (by decide) h9)
              refine lv_aload_n X.1 X.2.1 dX2_gable_55 rfl (lv_at hl 2 rfl) ?_
              refine lv_iload_n X.1 X.2.1 dX2_gable_56 rfl (lv_at hl 1 rfl) ?_
              refine lv_if_eq (tgt := 64) X.1 X.2.1 dX2_gable_57 (by decide) (fun _ => ?_) (fun h9 => absurd (by decide) h9)
              refine lv_iconst (v := nI 2) X.1 X.2.1 dX2_gable_64 (by decide) ?_
              have hoth : oth q 3 = false := by simp [oth, hB43, hB44, hB45]
              refine f_put (F := fun q => q = mo ∨ q = ua ∨ q = oa ∨ q = ga) (T := TX2) (N := 8) (ci := 2) X tyX2 tyX2_ok nmX2 uX2 (hP.at 0 rfl) rfl 0 (by decide) mw_464 rfl rfl (v := .int (nI 2)) (ty := .int) (by decide +kernel) rfl rfl (Nat.le_of_ble_eq_true rfl) (Or.inl (Or.inl rfl)) hlo dX2_gable_65 (fun H46 locs hpa hlo hat => ?_)
              have hX := hX.tra ((Or.inl rfl)) hpa
              have hP := PP.cons hat (PP.exa (hP.sub [1, 2, 3] rfl : PP g [mla g ua U, mla g oa O, mza g ga q] _) hpa (fun z hz => by simp only [List.mem_cons, List.not_mem_nil, or_false] at hz; rcases hz with rfl | rfl | rfl <;> first | exact hM.1 | exact hM.2.1 | exact hM.2.2.1))
              have hP : PP g [(mo, .inr (2, [.int (nI 2), .long (lN x1), .long (lN y1), .ref ua, .ref oa, .ref ga, .long ab, .long be])), mla g ua U, mla g oa O, mza g ga q] H46 := hP
              refine lv_aload_n X.1 X.2.1 dX2_gable_68 rfl (lv_at hl 2 rfl) ?_
              refine p_get (T := TX2) X uX2 (hP.at 0 rfl) rfl 0 (by decide) mw_464 rfl rfl dX2_gable_69 ?_
              refine lv_if_gt (tgt := 84) X.1 X.2.1 dX2_gable_72 (by decide) (fun _ => ?_) (fun h9 => absurd (by decide) h9)
              refine lv_iconst (v := nI 0) X.1 X.2.1 dX2_gable_84 (by decide) ?_
              refine w_i (v' := bI false) (by decide) ?_
              exact f_zret (v := false) X hX hlo (Or.inl ⟨by simp [hi, ek, hoth], ⟨_, rfl⟩, ⟨_, _, _, by simp [mk3, hi, ek, hoth], hP⟩⟩) ⟨by decide, by decide⟩ dX2_gable_85
            ·
              refine lv_iconst (v := nI 1) X.1 X.2.1 dX2_gable_43 (by decide) ?_
              refine lv_goto (tgt := 48) X.1 X.2.1 dX2_gable_44 (by decide) ?_
              refine lv_istore_n (lv' := [(2, .int (nI 1)), (3, .int (nI 2)), (0, .ref mo), (1, .int (nI 3))]) X.1 X.2.1 dX2_gable_48 rfl hl (by decide) rfl (fun ls hl => ?_)
              refine lv_iinc (v := nI 3) (lv' := [(3, .int (nI 3)), (2, .int (nI 1)), (0, .ref mo), (1, .int (nI 3))]) X.1 X.2.1 dX2_gable_49 hl (k := 1) rfl (nI_1 _) (by decide) rfl (fun ls hl => ?_)
              refine lv_goto (tgt := 20) X.1 X.2.1 dX2_gable_52 (by decide) ?_
              refine lv_iload_n X.1 X.2.1 dX2_gable_20 rfl (lv_at hl 0 rfl) ?_
              refine lv_iconst (v := nI 4) X.1 X.2.1 dX2_gable_21 (by decide) ?_
              refine lv_icmp_ge (tgt := 55) X.1 X.2.1 dX2_gable_22 (by decide) (fun h9 => absurd h9 (by decide)) (fun _ => ?_)
              refine lv_iload_n X.1 X.2.1 dX2_gable_25 rfl (lv_at hl 1 rfl) ?_
              refine lv_if_ne (tgt := 43) X.1 X.2.1 dX2_gable_26 (by decide) (fun _ => ?_) (fun h9 => absurd h9 (by decide))
              refine lv_iconst (v := nI 1) X.1 X.2.1 dX2_gable_43 (by decide) ?_
              refine lv_goto (tgt := 48) X.1 X.2.1 dX2_gable_44 (by decide) ?_
              refine lv_istore_n (lv' := [(2, .int (nI 1)), (3, .int (nI 3)), (0, .ref mo), (1, .int (nI 3))]) X.1 X.2.1 dX2_gable_48 rfl hl (by decide) rfl (fun ls hl => ?_)
              refine lv_iinc (v := nI 4) (lv' := [(3, .int (nI 4)), (2, .int (nI 1)), (0, .ref mo), (1, .int (nI 3))]) X.1 X.2.1 dX2_gable_49 hl (k := 1) rfl (nI_1 _) (by decide) rfl (fun ls hl => ?_)
              refine lv_goto (tgt := 20) X.1 X.2.1 dX2_gable_52 (by decide) ?_
              refine lv_iload_n X.1 X.2.1 dX2_gable_20 rfl (lv_at hl 0 rfl) ?_
              refine lv_iconst (v := nI 4) X.1 X.2.1 dX2_gable_21 (by decide) ?_
              refine lv_icmp_ge (tgt := 55) X.1 X.2.1 dX2_gable_22 (by decide) (fun _ => ?_) (fun h9 => absurd (by decide) h9)
              refine lv_aload_n X.1 X.2.1 dX2_gable_55 rfl (lv_at hl 2 rfl) ?_
              refine lv_iload_n X.1 X.2.1 dX2_gable_56 rfl (lv_at hl 1 rfl) ?_
              refine lv_if_eq (tgt := 64) X.1 X.2.1 dX2_gable_57 (by decide) (fun h9 => absurd h9 (by decide)) (fun _ => ?_)
              refine lv_iconst (v := nI 0) X.1 X.2.1 dX2_gable_60 (by decide) ?_
              refine lv_goto (tgt := 65) X.1 X.2.1 dX2_gable_61 (by decide) ?_
              have hoth : oth q 3 = true := by simp [oth, hB43, hB44, hB45]
              refine f_put (F := fun q => q = mo ∨ q = ua ∨ q = oa ∨ q = ga) (T := TX2) (N := 8) (ci := 2) X tyX2 tyX2_ok nmX2 uX2 (hP.at 0 rfl) rfl 0 (by decide) mw_464 rfl rfl (v := .int (nI 0)) (ty := .int) (by decide +kernel) rfl rfl (Nat.le_of_ble_eq_true rfl) (Or.inl (Or.inl rfl)) hlo dX2_gable_65 (fun H47 locs hpa hlo hat => ?_)
              have hX := hX.tra ((Or.inl rfl)) hpa
              have hP := PP.cons hat (PP.exa (hP.sub [1, 2, 3] rfl : PP g [mla g ua U, mla g oa O, mza g ga q] _) hpa (fun z hz => by simp only [List.mem_cons, List.not_mem_nil, or_false] at hz; rcases hz with rfl | rfl | rfl <;> first | exact hM.1 | exact hM.2.1 | exact hM.2.2.1))
              have hP : PP g [(mo, .inr (2, [.int (nI 0), .long (lN x1), .long (lN y1), .ref ua, .ref oa, .ref ga, .long ab, .long be])), mla g ua U, mla g oa O, mza g ga q] H47 := hP
              refine lv_aload_n X.1 X.2.1 dX2_gable_68 rfl (lv_at hl 2 rfl) ?_
              refine p_get (T := TX2) X uX2 (hP.at 0 rfl) rfl 0 (by decide) mw_464 rfl rfl dX2_gable_69 ?_
              refine lv_if_gt (tgt := 84) X.1 X.2.1 dX2_gable_72 (by decide) (fun h9 => absurd h9 (by decide)) (fun _ => ?_)
              refine lv_aload_n X.1 X.2.1 dX2_gable_75 rfl (lv_at hl 2 rfl) ?_
              refine p_get (T := TX2) X uX2 (hP.at 0 rfl) rfl 5 (by decide) mw_469 rfl rfl dX2_gable_76 ?_
              refine lv_iload_n X.1 X.2.1 dX2_gable_79 rfl (lv_at hl 3 rfl) ?_
              refine f_zald X (hP.at 3 rfl) (by decide) (by decide) dX2_gable_80 ?_
              refine q_Beq X (tgt := 86) dX2_gable_81 (by decide) (fun hB48 => ?_) (fun hB48 => ?_)
              ·
                refine lv_aload_n X.1 X.2.1 dX2_gable_86 rfl (lv_at hl 2 rfl) ?_
                refine p_get (T := TX2) X uX2 (hP.at 0 rfl) rfl 5 (by decide) mw_469 rfl rfl dX2_gable_87 ?_
                refine lv_iload_n X.1 X.2.1 dX2_gable_90 rfl (lv_at hl 3 rfl) ?_
                refine lv_iconst (v := nI 1) X.1 X.2.1 dX2_gable_91 (by decide) ?_
                refine w_i (v' := bI (decide ((0 : Rat) = 0))) (by decide) ?_
                refine f_zast (F := fun q => q = mo ∨ q = ua ∨ q = oa ∨ q = ga) X (hP.at 3 rfl) (by decide) (by decide) (Or.inl (Or.inr (Or.inr (Or.inr rfl)))) hlo dX2_gable_92 (fun H49 locs hpa hlo hat => ?_)
                have hX := hX.tra (Or.inr (Or.inr (Or.inr rfl))) hpa
                rw [upZ] at hat
                have hP := PP.cons hat (PP.exa (hP.sub [0, 1, 2] rfl : PP g [(mo, .inr (2, [.int (nI 0), .long (lN x1), .long (lN y1), .ref ua, .ref oa, .ref ga, .long ab, .long be])), mla g ua U, mla g oa O] _) hpa (fun z hz => by simp only [List.mem_cons, List.not_mem_nil, or_false] at hz; rcases hz with rfl | rfl | rfl <;> first | exact hM.2.2.1.symm | exact hM.2.2.2.2.1 | exact hM.2.2.2.2.2))
                have hP : PP g [(mo, .inr (2, [.int (nI 0), .long (lN x1), .long (lN y1), .ref ua, .ref oa, .ref ga, .long ab, .long be])), mla g ua U, mla g oa O, mza g ga (va_up q 3 0)] H49 := hP.sub [1, 2, 3, 0] rfl
                refine lv_iconst (v := nI 1) X.1 X.2.1 dX2_gable_93 (by decide) ?_
                refine w_i (v' := bI true) (by decide) ?_
                exact f_zret (v := true) X hX hlo (Or.inr ⟨by simp [hi, ek, hoth], by simp only [ek]; rw [decide_eq_false (fun h9 => absurd h9.symm (of_decide_eq_false hB48))]; rfl, ⟨_, _, _, rfl, by simp only [ek]; exact hP⟩⟩) ⟨by decide, by decide⟩ dX2_gable_94
              ·
                refine lv_iconst (v := nI 0) X.1 X.2.1 dX2_gable_84 (by decide) ?_
                refine w_i (v' := bI false) (by decide) ?_
                exact f_zret (v := false) X hX hlo (Or.inr ⟨by simp [hi, ek, hoth], by simp only [ek]; rw [decide_eq_true (gab0 hB48).symm]; rfl, ⟨_, _, _, rfl, by simp only [ek]; rw [up_id (gab0 hB48)]; exact hP⟩⟩) ⟨by decide, by decide⟩ dX2_gable_85
          ·
            refine lv_iconst (v := nI 1) X.1 X.2.1 dX2_gable_43 (by decide) ?_
            refine lv_goto (tgt := 48) X.1 X.2.1 dX2_gable_44 (by decide) ?_
            refine lv_istore_n (lv' := [(2, .int (nI 1)), (3, .int (nI 1)), (0, .ref mo), (1, .int (nI 3))]) X.1 X.2.1 dX2_gable_48 rfl hl (by decide) rfl (fun ls hl => ?_)
            refine lv_iinc (v := nI 2) (lv' := [(3, .int (nI 2)), (2, .int (nI 1)), (0, .ref mo), (1, .int (nI 3))]) X.1 X.2.1 dX2_gable_49 hl (k := 1) rfl (nI_1 _) (by decide) rfl (fun ls hl => ?_)
            refine lv_goto (tgt := 20) X.1 X.2.1 dX2_gable_52 (by decide) ?_
            refine lv_iload_n X.1 X.2.1 dX2_gable_20 rfl (lv_at hl 0 rfl) ?_
            refine lv_iconst (v := nI 4) X.1 X.2.1 dX2_gable_21 (by decide) ?_
            refine lv_icmp_ge (tgt := 55) X.1 X.2.1 dX2_gable_22 (by decide) (fun h9 => absurd h9 (by decide)) (fun _ => ?_)
            refine lv_iload_n X.1 X.2.1 dX2_gable_25 rfl (lv_at hl 1 rfl) ?_
            refine lv_if_ne (tgt := 43) X.1 X.2.1 dX2_gable_26 (by decide) (fun _ => ?_) (fun h9 => absurd h9 (by decide))
            refine lv_iconst (v := nI 1) X.1 X.2.1 dX2_gable_43 (by decide) ?_
            refine lv_goto (tgt := 48) X.1 X.2.1 dX2_gable_44 (by decide) ?_
            refine lv_istore_n (lv' := [(2, .int (nI 1)), (3, .int (nI 2)), (0, .ref mo), (1, .int (nI 3))]) X.1 X.2.1 dX2_gable_48 rfl hl (by decide) rfl (fun ls hl => ?_)
            refine lv_iinc (v := nI 3) (lv' := [(3, .int (nI 3)), (2, .int (nI 1)), (0, .ref mo), (1, .int (nI 3))]) X.1 X.2.1 dX2_gable_49 hl (k := 1) rfl (nI_1 _) (by decide) rfl (fun ls hl => ?_)
            refine lv_goto (tgt := 20) X.1 X.2.1 dX2_gable_52 (by decide) ?_
            refine lv_iload_n X.1 X.2.1 dX2_gable_20 rfl (lv_at hl 0 rfl) ?_
            refine lv_iconst (v := nI 4) X.1 X.2.1 dX2_gable_21 (by decide) ?_
            refine lv_icmp_ge (tgt := 55) X.1 X.2.1 dX2_gable_22 (by decide) (fun h9 => absurd h9 (by decide)) (fun _ => ?_)
            refine lv_iload_n X.1 X.2.1 dX2_gable_25 rfl (lv_at hl 1 rfl) ?_
            refine lv_if_ne (tgt := 43) X.1 X.2.1 dX2_gable_26 (by decide) (fun _ => ?_) (fun h9 => absurd h9 (by decide))
            refine lv_iconst (v := nI 1) X.1 X.2.1 dX2_gable_43 (by decide) ?_
            refine lv_goto (tgt := 48) X.1 X.2.1 dX2_gable_44 (by decide) ?_
            refine lv_istore_n (lv' := [(2, .int (nI 1)), (3, .int (nI 3)), (0, .ref mo), (1, .int (nI 3))]) X.1 X.2.1 dX2_gable_48 rfl hl (by decide) rfl (fun ls hl => ?_)
            refine lv_iinc (v := nI 4) (lv' := [(3, .int (nI 4)), (2, .int (nI 1)), (0, .ref mo), (1, .int (nI 3))]) X.1 X.2.1 dX2_gable_49 hl (k := 1) rfl (nI_1 _) (by decide) rfl (fun ls hl => ?_)
            refine lv_goto (tgt := 20) X.1 X.2.1 dX2_gable_52 (by decide) ?_
            refine lv_iload_n X.1 X.2.1 dX2_gable_20 rfl (lv_at hl 0 rfl) ?_
            refine lv_iconst (v := nI 4) X.1 X.2.1 dX2_gable_21 (by decide) ?_
            refine lv_icmp_ge (tgt := 55) X.1 X.2.1 dX2_gable_22 (by decide) (fun _ => ?_) (fun h9 => absurd (by decide) h9)
            refine lv_aload_n X.1 X.2.1 dX2_gable_55 rfl (lv_at hl 2 rfl) ?_
            refine lv_iload_n X.1 X.2.1 dX2_gable_56 rfl (lv_at hl 1 rfl) ?_
            refine lv_if_eq (tgt := 64) X.1 X.2.1 dX2_gable_57 (by decide) (fun h9 => absurd h9 (by decide)) (fun _ => ?_)
            refine lv_iconst (v := nI 0) X.1 X.2.1 dX2_gable_60 (by decide) ?_
            refine lv_goto (tgt := 65) X.1 X.2.1 dX2_gable_61 (by decide) ?_
            have hoth : oth q 3 = true := by simp [oth, hB43, hB44]
            refine f_put (F := fun q => q = mo ∨ q = ua ∨ q = oa ∨ q = ga) (T := TX2) (N := 8) (ci := 2) X tyX2 tyX2_ok nmX2 uX2 (hP.at 0 rfl) rfl 0 (by decide) mw_464 rfl rfl (v := .int (nI 0)) (ty := .int) (by decide +kernel) rfl rfl (Nat.le_of_ble_eq_true rfl) (Or.inl (Or.inl rfl)) hlo dX2_gable_65 (fun H50 locs hpa hlo hat => ?_)
            have hX := hX.tra ((Or.inl rfl)) hpa
            have hP := PP.cons hat (PP.exa (hP.sub [1, 2, 3] rfl : PP g [mla g ua U, mla g oa O, mza g ga q] _) hpa (fun z hz => by simp only [List.mem_cons, List.not_mem_nil, or_false] at hz; rcases hz with rfl | rfl | rfl <;> first | exact hM.1 | exact hM.2.1 | exact hM.2.2.1))
            have hP : PP g [(mo, .inr (2, [.int (nI 0), .long (lN x1), .long (lN y1), .ref ua, .ref oa, .ref ga, .long ab, .long be])), mla g ua U, mla g oa O, mza g ga q] H50 := hP
            refine lv_aload_n X.1 X.2.1 dX2_gable_68 rfl (lv_at hl 2 rfl) ?_
            refine p_get (T := TX2) X uX2 (hP.at 0 rfl) rfl 0 (by decide) mw_464 rfl rfl dX2_gable_69 ?_
            refine lv_if_gt (tgt := 84) X.1 X.2.1 dX2_gable_72 (by decide) (fun h9 => absurd h9 (by decide)) (fun _ => ?_)
            refine lv_aload_n X.1 X.2.1 dX2_gable_75 rfl (lv_at hl 2 rfl) ?_
            refine p_get (T := TX2) X uX2 (hP.at 0 rfl) rfl 5 (by decide) mw_469 rfl rfl dX2_gable_76 ?_
            refine lv_iload_n X.1 X.2.1 dX2_gable_79 rfl (lv_at hl 3 rfl) ?_
            refine f_zald X (hP.at 3 rfl) (by decide) (by decide) dX2_gable_80 ?_
            refine q_Beq X (tgt := 86) dX2_gable_81 (by decide) (fun hB51 => ?_) (fun hB51 => ?_)
            ·
              refine lv_aload_n X.1 X.2.1 dX2_gable_86 rfl (lv_at hl 2 rfl) ?_
              refine p_get (T := TX2) X uX2 (hP.at 0 rfl) rfl 5 (by decide) mw_469 rfl rfl dX2_gable_87 ?_
              refine lv_iload_n X.1 X.2.1 dX2_gable_90 rfl (lv_at hl 3 rfl) ?_
              refine lv_iconst (v := nI 1) X.1 X.2.1 dX2_gable_91 (by decide) ?_
              refine w_i (v' := bI (decide ((0 : Rat) = 0))) (by decide) ?_
              refine f_zast (F := fun q => q = mo ∨ q = ua ∨ q = oa ∨ q = ga) X (hP.at 3 rfl) (by decide) (by decide) (Or.inl (Or.inr (Or.inr (Or.inr rfl)))) hlo dX2_gable_92 (fun H52 locs hpa hlo hat => ?_)
              have hX := hX.tra (Or.inr (Or.inr (Or.inr rfl))) hpa
              rw [upZ] at hat
              have hP := PP.cons hat (PP.exa (hP.sub [0, 1, 2] rfl : PP g [(mo, .inr (2, [.int (nI 0), .long (lN x1), .long (lN y1), .ref ua, .ref oa, .ref ga, .long ab, .long be])), mla g ua U, mla g oa O] _) hpa (fun z hz => by simp only [List.mem_cons, List.not_mem_nil, or_false] at hz; rcases hz with rfl | rfl | rfl <;> first | exact hM.2.2.1.symm | exact hM.2.2.2.2.1 | exact hM.2.2.2.2.2))
              have hP : PP g [(mo, .inr (2, [.int (nI 0), .long (lN x1), .long (lN y1), .ref ua, .ref oa, .ref ga, .long ab, .long be])), mla g ua U, mla g oa O, mza g ga (va_up q 3 0)] H52 := hP.sub [1, 2, 3, 0] rfl
              refine lv_iconst (v := nI 1) X.1 X.2.1 dX2_gable_93 (by decide) ?_
              refine w_i (v' := bI true) (by decide) ?_
              exact f_zret (v := true) X hX hlo (Or.inr ⟨by simp [hi, ek, hoth], by simp only [ek]; rw [decide_eq_false (fun h9 => absurd h9.symm (of_decide_eq_false hB51))]; rfl, ⟨_, _, _, rfl, by simp only [ek]; exact hP⟩⟩) ⟨by decide, by decide⟩ dX2_gable_94
            ·
              refine lv_iconst (v := nI 0) X.1 X.2.1 dX2_gable_84 (by decide) ?_
              refine w_i (v' := bI false) (by decide) ?_
              exact f_zret (v := false) X hX hlo (Or.inr ⟨by simp [hi, ek, hoth], by simp only [ek]; rw [decide_eq_true (gab0 hB51).symm]; rfl, ⟨_, _, _, rfl, by simp only [ek]; rw [up_id (gab0 hB51)]; exact hP⟩⟩) ⟨by decide, by decide⟩ dX2_gable_85
        ·
          refine lv_iconst (v := nI 1) X.1 X.2.1 dX2_gable_43 (by decide) ?_
          refine lv_goto (tgt := 48) X.1 X.2.1 dX2_gable_44 (by decide) ?_
          refine lv_istore_n (lv' := [(2, .int (nI 1)), (3, .int (nI 0)), (0, .ref mo), (1, .int (nI 3))]) X.1 X.2.1 dX2_gable_48 rfl hl (by decide) rfl (fun ls hl => ?_)
          refine lv_iinc (v := nI 1) (lv' := [(3, .int (nI 1)), (2, .int (nI 1)), (0, .ref mo), (1, .int (nI 3))]) X.1 X.2.1 dX2_gable_49 hl (k := 1) rfl (nI_1 _) (by decide) rfl (fun ls hl => ?_)
          refine lv_goto (tgt := 20) X.1 X.2.1 dX2_gable_52 (by decide) ?_
          refine lv_iload_n X.1 X.2.1 dX2_gable_20 rfl (lv_at hl 0 rfl) ?_
          refine lv_iconst (v := nI 4) X.1 X.2.1 dX2_gable_21 (by decide) ?_
          refine lv_icmp_ge (tgt := 55) X.1 X.2.1 dX2_gable_22 (by decide) (fun h9 => absurd h9 (by decide)) (fun _ => ?_)
          refine lv_iload_n X.1 X.2.1 dX2_gable_25 rfl (lv_at hl 1 rfl) ?_
          refine lv_if_ne (tgt := 43) X.1 X.2.1 dX2_gable_26 (by decide) (fun _ => ?_) (fun h9 => absurd h9 (by decide))
          refine lv_iconst (v := nI 1) X.1 X.2.1 dX2_gable_43 (by decide) ?_
          refine lv_goto (tgt := 48) X.1 X.2.1 dX2_gable_44 (by decide) ?_
          refine lv_istore_n (lv' := [(2, .int (nI 1)), (3, .int (nI 1)), (0, .ref mo), (1, .int (nI 3))]) X.1 X.2.1 dX2_gable_48 rfl hl (by decide) rfl (fun ls hl => ?_)
          refine lv_iinc (v := nI 2) (lv' := [(3, .int (nI 2)), (2, .int (nI 1)), (0, .ref mo), (1, .int (nI 3))]) X.1 X.2.1 dX2_gable_49 hl (k := 1) rfl (nI_1 _) (by decide) rfl (fun ls hl => ?_)
          refine lv_goto (tgt := 20) X.1 X.2.1 dX2_gable_52 (by decide) ?_
          refine lv_iload_n X.1 X.2.1 dX2_gable_20 rfl (lv_at hl 0 rfl) ?_
          refine lv_iconst (v := nI 4) X.1 X.2.1 dX2_gable_21 (by decide) ?_
          refine lv_icmp_ge (tgt := 55) X.1 X.2.1 dX2_gable_22 (by decide) (fun h9 => absurd h9 (by decide)) (fun _ => ?_)
          refine lv_iload_n X.1 X.2.1 dX2_gable_25 rfl (lv_at hl 1 rfl) ?_
          refine lv_if_ne (tgt := 43) X.1 X.2.1 dX2_gable_26 (by decide) (fun _ => ?_) (fun h9 => absurd h9 (by decide))
          refine lv_iconst (v := nI 1) X.1 X.2.1 dX2_gable_43 (by decide) ?_
          refine lv_goto (tgt := 48) X.1 X.2.1 dX2_gable_44 (by decide) ?_
          refine lv_istore_n (lv' := [(2, .int (nI 1)), (3, .int (nI 2)), (0, .ref mo), (1, .int (nI 3))]) X.1 X.2.1 dX2_gable_48 rfl hl (by decide) rfl (fun ls hl => ?_)
          refine lv_iinc (v := nI 3) (lv' := [(3, .int (nI 3)), (2, .int (nI 1)), (0, .ref mo), (1, .int (nI 3))]) X.1 X.2.1 dX2_gable_49 hl (k := 1) rfl (nI_1 _) (by decide) rfl (fun ls hl => ?_)
          refine lv_goto (tgt := 20) X.1 X.2.1 dX2_gable_52 (by decide) ?_
          refine lv_iload_n X.1 X.2.1 dX2_gable_20 rfl (lv_at hl 0 rfl) ?_
          refine lv_iconst (v := nI 4) X.1 X.2.1 dX2_gable_21 (by decide) ?_
          refine lv_icmp_ge (tgt := 55) X.1 X.2.1 dX2_gable_22 (by decide) (fun h9 => absurd h9 (by decide)) (fun _ => ?_)
          refine lv_iload_n X.1 X.2.1 dX2_gable_25 rfl (lv_at hl 1 rfl) ?_
          refine lv_if_ne (tgt := 43) X.1 X.2.1 dX2_gable_26 (by decide) (fun _ => ?_) (fun h9 => absurd h9 (by decide))
          refine lv_iconst (v := nI 1) X.1 X.2.1 dX2_gable_43 (by decide) ?_
          refine lv_goto (tgt := 48) X.1 X.2.1 dX2_gable_44 (by decide) ?_
          refine lv_istore_n (lv' := [(2, .int (nI 1)), (3, .int (nI 3)), (0, .ref mo), (1, .int (nI 3))]) X.1 X.2.1 dX2_gable_48 rfl hl (by decide) rfl (fun ls hl => ?_)
          refine lv_iinc (v := nI 4) (lv' := [(3, .int (nI 4)), (2, .int (nI 1)), (0, .ref mo), (1, .int (nI 3))]) X.1 X.2.1 dX2_gable_49 hl (k := 1) rfl (nI_1 _) (by decide) rfl (fun ls hl => ?_)
          refine lv_goto (tgt := 20) X.1 X.2.1 dX2_gable_52 (by decide) ?_
          refine lv_iload_n X.1 X.2.1 dX2_gable_20 rfl (lv_at hl 0 rfl) ?_
          refine lv_iconst (v := nI 4) X.1 X.2.1 dX2_gable_21 (by decide) ?_
          refine lv_icmp_ge (tgt := 55) X.1 X.2.1 dX2_gable_22 (by decide) (fun _ => ?_) (fun h9 => absurd (by decide) h9)
          refine lv_aload_n X.1 X.2.1 dX2_gable_55 rfl (lv_at hl 2 rfl) ?_
          refine lv_iload_n X.1 X.2.1 dX2_gable_56 rfl (lv_at hl 1 rfl) ?_
          refine lv_if_eq (tgt := 64) X.1 X.2.1 dX2_gable_57 (by decide) (fun h9 => absurd h9 (by decide)) (fun _ => ?_)
          refine lv_iconst (v := nI 0) X.1 X.2.1 dX2_gable_60 (by decide) ?_
          refine lv_goto (tgt := 65) X.1 X.2.1 dX2_gable_61 (by decide) ?_
          have hoth : oth q 3 = true := by simp [oth, hB43]
          refine f_put (F := fun q => q = mo ∨ q = ua ∨ q = oa ∨ q = ga) (T := TX2) (N := 8) (ci := 2) X tyX2 tyX2_ok nmX2 uX2 (hP.at 0 rfl) rfl 0 (by decide) mw_464 rfl rfl (v := .int (nI 0)) (ty := .int) (by decide +kernel) rfl rfl (Nat.le_of_ble_eq_true rfl) (Or.inl (Or.inl rfl)) hlo dX2_gable_65 (fun H53 locs hpa hlo hat => ?_)
          have hX := hX.tra ((Or.inl rfl)) hpa
          have hP := PP.cons hat (PP.exa (hP.sub [1, 2, 3] rfl : PP g [mla g ua U, mla g oa O, mza g ga q] _) hpa (fun z hz => by simp only [List.mem_cons, List.not_mem_nil, or_false] at hz; rcases hz with rfl | rfl | rfl <;> first | exact hM.1 | exact hM.2.1 | exact hM.2.2.1))
          have hP : PP g [(mo, .inr (2, [.int (nI 0), .long (lN x1), .long (lN y1), .ref ua, .ref oa, .ref ga, .long ab, .long be])), mla g ua U, mla g oa O, mza g ga q] H53 := hP
          refine lv_aload_n X.1 X.2.1 dX2_gable_68 rfl (lv_at hl 2 rfl) ?_
          refine p_get (T := TX2) X uX2 (hP.at 0 rfl) rfl 0 (by decide) mw_464 rfl rfl dX2_gable_69 ?_
          refine lv_if_gt (tgt := 84) X.1 X.2.1 dX2_gable_72 (by decide) (fun h9 => absurd h9 (by decide)) (fun _ => ?_)
          refine lv_aload_n X.1 X.2.1 dX2_gable_75 rfl (lv_at hl 2 rfl) ?_
          refine p_get (T := TX2) X uX2 (hP.at 0 rfl) rfl 5 (by decide) mw_469 rfl rfl dX2_gable_76 ?_
          refine lv_iload_n X.1 X.2.1 dX2_gable_79 rfl (lv_at hl 3 rfl) ?_
          refine f_zald X (hP.at 3 rfl) (by decide) (by decide) dX2_gable_80 ?_
          refine q_Beq X (tgt := 86) dX2_gable_81 (by decide) (fun hB54 => ?_) (fun hB54 => ?_)
          ·
            refine lv_aload_n X.1 X.2.1 dX2_gable_86 rfl (lv_at hl 2 rfl) ?_
            refine p_get (T := TX2) X uX2 (hP.at 0 rfl) rfl 5 (by decide) mw_469 rfl rfl dX2_gable_87 ?_
            refine lv_iload_n X.1 X.2.1 dX2_gable_90 rfl (lv_at hl 3 rfl) ?_
            refine lv_iconst (v := nI 1) X.1 X.2.1 dX2_gable_91 (by decide) ?_
            refine w_i (v' := bI (decide ((0 : Rat) = 0))) (by decide) ?_
            refine f_zast (F := fun q => q = mo ∨ q = ua ∨ q = oa ∨ q = ga) X (hP.at 3 rfl) (by decide) (by decide) (Or.inl (Or.inr (Or.inr (Or.inr rfl)))) hlo dX2_gable_92 (fun H55 locs hpa hlo hat => ?_)
            have hX := hX.tra (Or.inr (Or.inr (Or.inr rfl))) hpa
            rw [upZ] at hat
            have hP := PP.cons hat (PP.exa (hP.sub [0, 1, 2] rfl : PP g [(mo, .inr (2, [.int (nI 0), .long (lN x1), .long (lN y1), .ref ua, .ref oa, .ref ga, .long ab, .long be])), mla g ua U, mla g oa O] _) hpa (fun z hz => by simp only [List.mem_cons, List.not_mem_nil, or_false] at hz; rcases hz with rfl | rfl | rfl <;> first | exact hM.2.2.1.symm | exact hM.2.2.2.2.1 | exact hM.2.2.2.2.2))
            have hP : PP g [(mo, .inr (2, [.int (nI 0), .long (lN x1), .long (lN y1), .ref ua, .ref oa, .ref ga, .long ab, .long be])), mla g ua U, mla g oa O, mza g ga (va_up q 3 0)] H55 := hP.sub [1, 2, 3, 0] rfl
            refine lv_iconst (v := nI 1) X.1 X.2.1 dX2_gable_93 (by decide) ?_
            refine w_i (v' := bI true) (by decide) ?_
            exact f_zret (v := true) X hX hlo (Or.inr ⟨by simp [hi, ek, hoth], by simp only [ek]; rw [decide_eq_false (fun h9 => absurd h9.symm (of_decide_eq_false hB54))]; rfl, ⟨_, _, _, rfl, by simp only [ek]; exact hP⟩⟩) ⟨by decide, by decide⟩ dX2_gable_94
          ·
            refine lv_iconst (v := nI 0) X.1 X.2.1 dX2_gable_84 (by decide) ?_
            refine w_i (v' := bI false) (by decide) ?_
            exact f_zret (v := false) X hX hlo (Or.inr ⟨by simp [hi, ek, hoth], by simp only [ek]; rw [decide_eq_true (gab0 hB54).symm]; rfl, ⟨_, _, _, rfl, by simp only [ek]; rw [up_id (gab0 hB54)]; exact hP⟩⟩) ⟨by decide, by decide⟩ dX2_gable_85
    ·
      have hi : inI i 4 = false := inI_hi3 (n := 3) (by decide) hB3
      refine lv_aload_n X.1 X.2.1 dX2_gable_9 rfl (lv_at hl 0 rfl) ?_
      refine lv_iconst (v := nI 1) X.1 X.2.1 dX2_gable_10 (by decide) ?_
      refine f_put (F := fun q => q = mo ∨ q = ua ∨ q = oa ∨ q = ga) (T := TX2) (N := 8) (ci := 2) X tyX2 tyX2_ok nmX2 uX2 (hP.at 0 rfl) rfl 0 (by decide) mw_464 rfl rfl (v := .int (nI 1)) (ty := .int) (by decide +kernel) rfl rfl (Nat.le_of_ble_eq_true rfl) (Or.inl (Or.inl rfl)) hlo dX2_gable_11 (fun H56 locs hpa hlo hat => ?_)
      have hX := hX.tra ((Or.inl rfl)) hpa
      have hP := PP.cons hat (PP.exa (hP.sub [1, 2, 3] rfl : PP g [mla g ua U, mla g oa O, mza g ga q] _) hpa (fun z hz => by simp only [List.mem_cons, List.not_mem_nil, or_false] at hz; rcases hz with rfl | rfl | rfl <;> first | exact hM.1 | exact hM.2.1 | exact hM.2.2.1))
      have hP : PP g [(mo, .inr (2, [.int (nI 1), .long (lN x1), .long (lN y1), .ref ua, .ref oa, .ref ga, .long ab, .long be])), mla g ua U, mla g oa O, mza g ga q] H56 := hP
      refine lv_iconst (v := nI 0) X.1 X.2.1 dX2_gable_14 (by decide) ?_
      refine w_i (v' := bI false) (by decide) ?_
      exact f_zret (v := false) X hX hlo (Or.inl ⟨by simp [hi], ⟨_, rfl⟩, ⟨_, _, _, by simp [mk3, hi], hP⟩⟩) ⟨by decide, by decide⟩ dX2_gable_15
