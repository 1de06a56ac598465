theorem OD.up {o r ou k b : Nat} {A : Nat → Nat} (h : OD o r ou A) (h1 : b ≠ ou) : OD o r ou (va_up A k b) := ⟨h.1, h.2.1, fun j hj => by
  by_cases h9 : j = k
  · subst h9; rw [va_up_s]; exact h1
  · rw [va_up_n h9]; exact h.2.2 j hj⟩
set_option maxHeartbeats 4000000 in
set_option maxRecDepth 100000 in
theorem c_L_outline (l : Launch) (g : En) (o r : Nat) (A : Nat → Nat) (x1 y1 : Nat) (q : Nat → Rat) (ou : Nat) (f0 : Nat → Int64) (v0 w0 : Int64) (hl0 : l.stackTraces = false) (hO : OK x1 y1 q) (hU : OD o r ou A) (hD : DD o r A) : WM l yL_outline cL_outline 7 [(0, 18, 21, 13)] { frames := 8, cells := 2, slots := 12, locals := 132 } g [.ref o, .long v0, .long w0, .ref ou] (fun H => (RP g o r A x1 y1 q H ∧ va_at g.1 cl0 (oua g ou f0) H)) (fun q => q = o ∨ q = ou) 2 12 (fun v H => ((inL v0 1 2000 && inL w0 1 2000) = false ∧ v = some (.int (nI (mk3 2 1 (true) (true) (inL v0 1 2000 && inL w0 1 2000)))) ∧ RP g o r A x1 y1 q H ∧ ∃ f : Nat → Int64, va_at g.1 cl0 (oua g ou f) H) ∨ ((inL v0 1 2000 && inL w0 1 2000) = true ∧ v = some (.int (nI 0)) ∧ (RP g o r A (toL v0) (toL w0) q H) ∧ ∃ f : Nat → Int64, va_at g.1 cl0 (oua g ou f) H ∧ f 0 = lN (if !(decide (toL v0 = x1) && decide (toL w0 = y1)) then 1 else 0))) := by
  refine WM.of (by decide) (Nat.le_of_ble_eq_true rfl) (fun p e s m below meth c ls X hE hG hl => ?_)
  obtain ⟨⟨hP, hF⟩, hou⟩ := hG
  have hP := PP.cons hou hP
  have hol : ou < s.heap.size := va_at.lt hou
  have hl : lv_has ls 7 [(0, .ref o), (1, .long v0), (3, .long w0), (5, .ref ou)] := hl
  have hX : hxf (fun q => q = o ∨ q = ou) s.heap s.heap := hxf.rf
  have hlo : lok (fun q => q = o ∨ q = ou) s.heap.size ([] : List Loc) := lok.nil
  have hP : PP g [oua g ou f0, ob o x1 y1 r, ar g r A] s.heap := hP
  refine lv_aload X.1 X.2.1 dL_outline_0 (lv_at hl 3 rfl) ?_
  refine lv_iconst (v := nI 0) X.1 X.2.1 dL_outline_2 (by decide) ?_
  refine lv_aload_n X.1 X.2.1 dL_outline_3 rfl (lv_at hl 0 rfl) ?_
  refine lv_lload_n X.1 X.2.1 dL_outline_4 rfl (lv_at hl 1 rfl) ?_
  refine lv_lload_n X.1 X.2.1 dL_outline_5 rfl (lv_at hl 2 rfl) ?_
  refine w_callY (F := fun q => q = o ∨ q = ou) (C := RX1) (b := o) (As := [.long v0, .long w0]) (rest := [.int (nI 0), .ref ou]) X hE (c_X1_outline l g o r A x1 y1 q v0 w0 hl0 hO hD) ⟨mw_91, mw_92, mw_93, mw_38, mw_94⟩ sgX1_outline ⟨rfl, rfl, ⟨by decide, by decide⟩, by decide, by decide⟩ (hP.at 1 rfl) rfl rfl (RP.of hP [1, 2] rfl hF) hxt.rf (fun q h => Or.inl h) hlo rfl hl.1 rfl (Nat.le_of_ble_eq_true rfl) dL_outline_6 (fun E ce q9 H1 locs hk hlo hpx h1 h2 h3 => ?_) (fun v H1 locs hk hlo hp => ?_)
  ·
    have hX := hX.tr hk
    have hou := (PP.ext (PP.one hou) hk) 0 _ rfl
    have hRP := RP.ext (RP.of hP [1, 2] rfl hF) hk
    obtain ⟨ha, rfl⟩ | ⟨ha, hs, rfl⟩ | ⟨ha, hs, hg, rfl⟩ := hpx
    ·
      exact absurd ha (by decide)
    ·
      exact absurd hs (by decide)
    ·
      refine hn_catch (own := yL_outline.cls) (name := eG) (pc := 6) (E := eG) X.2.2.2.1 [] (⟨0, 18, 21, 13⟩ : ExceptionTableEntry) [] (X.2.2.2.2.2.2.2.2) (fun z hz => nomatch hz) (by decide) (by decide) (X.2.2.2.2.1 _ (List.mem_cons_of_mem _ mw_90)) (w_cast hE cG) h1 h2 h3 ?_
      refine W.eq (g2 := F0 m 21 ls [.ref q9]) rfl ?_
      refine lv_astore (lv' := [(6, .ref q9), (0, .ref o), (1, .long v0), (3, .long w0), (5, .ref ou)]) X.1 X.2.1 dL_outline_21 hl (by decide) rfl (fun ls hl => ?_)
      refine lv_iconst (v := nI 1) X.1 X.2.1 dL_outline_23 (by decide) ?_
      exact w_iret X hX hlo (Or.inl ⟨by simp [hg], by rw [mk3, hg]; rfl, hRP, _, hou⟩) ⟨by decide, by decide⟩ dL_outline_24
  ·
    have hou := (PP.exf (PP.one hou) hk (fun z hz => by simp only [List.mem_cons, List.not_mem_nil, or_false] at hz; subst hz; exact hU.1.symm)) 0 _ rfl
    have hX := hX.trf (fun q h => Or.inl h) hk
    obtain ⟨hcs, rfl, hRP⟩ := hp
    have hUn := hU
    refine W.eq (g2 := F0 m 9 ls [.int (bI (!(decide (toL v0 = x1) && decide (toL w0 = y1)))), .int (nI 0), .ref ou]) rfl ?_
    by_cases hB : (!(decide (toL v0 = x1) && decide (toL w0 = y1))) = true
    ·
      refine w_i (v' := nI 1) (by rw [hB]; rfl) ?_
      refine lv_if_eq (tgt := 16) X.1 X.2.1 dL_outline_9 (by decide) (fun h9 => absurd h9 (by decide)) (fun _ => ?_)
      refine lv_lconst (v := lN 1) X.1 X.2.1 dL_outline_12 (by decide) ?_
      refine lv_goto (tgt := 17) X.1 X.2.1 dL_outline_13 (by decide) ?_
      refine w_last (F := fun q => q = o ∨ q = ou) X hou (k := 0) (by decide) (by decide) (Or.inl (Or.inr rfl)) hlo dL_outline_17 (fun H2 locs hpa hlo hat => ?_)
      have hX := hX.tra (Or.inr rfl) hpa
      have hRP := RP.exa hRP hpa hUn
      refine lv_goto (tgt := 25) X.1 X.2.1 dL_outline_18 (by decide) ?_
      refine lv_iconst (v := nI 0) X.1 X.2.1 dL_outline_25 (by decide) ?_
      exact w_iret X hX hlo (Or.inr ⟨by simp only [hcs, Bool.and_self], rfl, hRP, _, hat, by rw [hB]; rfl⟩) ⟨by decide, by decide⟩ dL_outline_26
    ·
      have hB : (!(decide (toL v0 = x1) && decide (toL w0 = y1))) = false := gabF hB
      refine w_i (v' := nI 0) (by rw [hB]; rfl) ?_
      refine lv_if_eq (tgt := 16) X.1 X.2.1 dL_outline_9 (by decide) (fun _ => ?_) (fun h9 => absurd (by decide) h9)
      refine lv_lconst (v := lN 0) X.1 X.2.1 dL_outline_16 (by decide) ?_
      refine w_last (F := fun q => q = o ∨ q = ou) X hou (k := 0) (by decide) (by decide) (Or.inl (Or.inr rfl)) hlo dL_outline_17 (fun H2 locs hpa hlo hat => ?_)
      have hX := hX.tra (Or.inr rfl) hpa
      have hRP := RP.exa hRP hpa hUn
      refine lv_goto (tgt := 25) X.1 X.2.1 dL_outline_18 (by decide) ?_
      refine lv_iconst (v := nI 0) X.1 X.2.1 dL_outline_25 (by decide) ?_
      exact w_iret X hX hlo (Or.inr ⟨by simp only [hcs, Bool.and_self], rfl, hRP, _, hat, by rw [hB]; rfl⟩) ⟨by decide, by decide⟩ dL_outline_26
set_option maxHeartbeats 4000000 in
set_option maxRecDepth 100000 in
theorem c_L_slope (l : Launch) (g : En) (o r : Nat) (A : Nat → Nat) (x1 y1 : Nat) (q : Nat → Rat) (ou : Nat) (f0 : Nat → Int64) (i : Int32) (a0 b0 : Int64) (N0 : Nat) (hl0 : l.stackTraces = false) (hO : OK x1 y1 q) (hU : OD o r ou A) (hD : DD o r A) : WM l yL_slope cL_slope 8 [(0, 20, 23, 19), (0, 20, 27, 13)] { frames := 9, cells := 4, slots := 20, locals := 141 } g [.ref o, .int i, .long a0, .long b0, .ref ou] (fun H => (RP g o r A x1 y1 q H ∧ va_at g.1 cl0 (oua g ou f0) H) ∧ N0 ≤ H.size) (fun q => q = r ∨ q = ou) 4 20 (fun v H => ((inI i 4 && (inL a0 1 20 && inL b0 1 20)) = false ∧ v = some (.int (nI (mk3 2 2 (inI i 4) (true) (inL a0 1 20 && inL b0 1 20)))) ∧ RP g o r A x1 y1 q H ∧ ∃ f : Nat → Int64, va_at g.1 cl0 (oua g ou f) H) ∨ ((inI i 4 && (inL a0 1 20 && inL b0 1 20)) = true ∧ v = some (.int (nI 0)) ∧ (∃ b : Nat, N0 ≤ b ∧ DD o r (va_up A (toN i) b) ∧ RP g o r (va_up A (toN i) b) x1 y1 (va_up q (toN i) (((toL b0 : Nat) : Rat) / ((toL a0 : Nat) : Rat))) H) ∧ ∃ f : Nat → Int64, va_at g.1 cl0 (oua g ou f) H ∧ f 0 = lN (if !decide (((toL b0 : Nat) : Rat) / ((toL a0 : Nat) : Rat) = q (toN i)) then 1 else 0))) := by
  refine WM.of (by decide) (Nat.le_of_ble_eq_true rfl) (fun p e s m below meth c ls X hE hG hl => ?_)
  obtain ⟨⟨⟨hP, hF⟩, hou⟩, hN0⟩ := hG
  have hP := PP.cons hou hP
  have hol : ou < s.heap.size := va_at.lt hou
  have hl : lv_has ls 8 [(0, .ref o), (1, .int i), (2, .long a0), (4, .long b0), (6, .ref ou)] := hl
  have hX : hxf (fun q => q = r ∨ q = ou) s.heap s.heap := hxf.rf
  have hlo : lok (fun q => q = r ∨ q = ou) s.heap.size ([] : List Loc) := lok.nil
  have hP : PP g [oua g ou f0, ob o x1 y1 r, ar g r A] s.heap := hP
  refine lv_aload X.1 X.2.1 dL_slope_0 (lv_at hl 4 rfl) ?_
  refine lv_iconst (v := nI 0) X.1 X.2.1 dL_slope_2 (by decide) ?_
  refine lv_aload_n X.1 X.2.1 dL_slope_3 rfl (lv_at hl 0 rfl) ?_
  refine lv_iload_n X.1 X.2.1 dL_slope_4 rfl (lv_at hl 1 rfl) ?_
  refine lv_lload_n X.1 X.2.1 dL_slope_5 rfl (lv_at hl 2 rfl) ?_
  refine lv_lload X.1 X.2.1 dL_slope_6 (lv_at hl 3 rfl) ?_
  refine w_callY (F := fun q => q = r ∨ q = ou) (C := RX1) (b := o) (As := [.int i, .long a0, .long b0]) (rest := [.int (nI 0), .ref ou]) X hE (c_X1_slope l g o r A x1 y1 q i a0 b0 s.heap.size hl0 hO hD) ⟨mw_171, mw_172, mw_173, mw_38, mw_174⟩ sgX1_slope ⟨rfl, rfl, ⟨by decide, by decide⟩, by decide, by decide⟩ (hP.at 1 rfl) rfl rfl ⟨RP.of hP [1, 2] rfl hF, Nat.le_refl _⟩ hxt.rf (fun q h => Or.inl h) hlo rfl hl.1 rfl (Nat.le_of_ble_eq_true rfl) dL_slope_8 (fun E ce q9 H1 locs hk hlo hpx h1 h2 h3 => ?_) (fun v H1 locs hk hlo hp => ?_)
  ·
    have hX := hX.tr hk
    have hou := (PP.ext (PP.one hou) hk) 0 _ rfl
    have hRP := RP.ext (RP.of hP [1, 2] rfl hF) hk
    obtain ⟨ha, rfl⟩ | ⟨ha, hs, rfl⟩ | ⟨ha, hs, hg, rfl⟩ := hpx
    ·
      refine hn_catch (own := yL_slope.cls) (name := eA) (pc := 8) (E := eA) X.2.2.2.1 [] (⟨0, 20, 23, 19⟩ : ExceptionTableEntry) [(⟨0, 20, 27, 13⟩ : ExceptionTableEntry)] (X.2.2.2.2.2.2.2.2) (fun z hz => nomatch hz) (by decide) (by decide) (X.2.2.2.2.1 _ (List.mem_cons_of_mem _ mw_170)) (w_cast hE cA) h1 h2 h3 ?_
      refine W.eq (g2 := F0 m 23 ls [.ref q9]) rfl ?_
      refine lv_astore (lv' := [(7, .ref q9), (0, .ref o), (1, .int i), (2, .long a0), (4, .long b0), (6, .ref ou)]) X.1 X.2.1 dL_slope_23 hl (by decide) rfl (fun ls hl => ?_)
      refine lv_iconst (v := nI 1) X.1 X.2.1 dL_slope_25 (by decide) ?_
      exact w_iret X hX hlo (Or.inl ⟨by simp [ha], by rw [mk3, ha]; rfl, hRP, _, hou⟩) ⟨by decide, by decide⟩ dL_slope_26
    ·
      exact absurd hs (by decide)
    ·
      refine hn_catch (own := yL_slope.cls) (name := eG) (pc := 8) (E := eG) X.2.2.2.1 [(⟨0, 20, 23, 19⟩ : ExceptionTableEntry)] (⟨0, 20, 27, 13⟩ : ExceptionTableEntry) [] (X.2.2.2.2.2.2.2.2) (fun z hz => by simp only [List.mem_cons, List.not_mem_nil, or_false] at hz; subst hz <;> first | exact Or.inr ⟨by decide, eA, X.2.2.2.2.1 _ (List.mem_cons_of_mem _ mw_170), hE.2.2.2.1.2.1⟩) (by decide) (by decide) (X.2.2.2.2.1 _ (List.mem_cons_of_mem _ mw_90)) (w_cast hE cG) h1 h2 h3 ?_
      refine W.eq (g2 := F0 m 27 ls [.ref q9]) rfl ?_
      refine lv_astore (lv' := [(7, .ref q9), (0, .ref o), (1, .int i), (2, .long a0), (4, .long b0), (6, .ref ou)]) X.1 X.2.1 dL_slope_27 hl (by decide) rfl (fun ls hl => ?_)
      refine lv_iconst (v := nI 2) X.1 X.2.1 dL_slope_29 (by decide) ?_
      exact w_iret X hX hlo (Or.inl ⟨by simp [ha, hg], by rw [mk3, ha, hg]; rfl, hRP, _, hou⟩) ⟨by decide, by decide⟩ dL_slope_30
  ·
    have hou := (PP.exf (PP.one hou) hk (fun z hz => by simp only [List.mem_cons, List.not_mem_nil, or_false] at hz; subst hz; exact hU.2.1.symm)) 0 _ rfl
    have hX := hX.trf (fun q h => Or.inl h) hk
    obtain ⟨hcs, rfl, b9, hb9, hDn, hRP⟩ := hp
    have hUn := hU.up (k := toN i) (b := b9) (by omega)
    refine W.eq (g2 := F0 m 11 ls [.int (bI (!decide (((toL b0 : Nat) : Rat) / ((toL a0 : Nat) : Rat) = q (toN i)))), .int (nI 0), .ref ou]) rfl ?_
    by_cases hB : (!decide (((toL b0 : Nat) : Rat) / ((toL a0 : Nat) : Rat) = q (toN i))) = true
    ·
      refine w_i (v' := nI 1) (by rw [hB]; rfl) ?_
      refine lv_if_eq (tgt := 18) X.1 X.2.1 dL_slope_11 (by decide) (fun h9 => absurd h9 (by decide)) (fun _ => ?_)
      refine lv_lconst (v := lN 1) X.1 X.2.1 dL_slope_14 (by decide) ?_
      refine lv_goto (tgt := 19) X.1 X.2.1 dL_slope_15 (by decide) ?_
      refine w_last (F := fun q => q = r ∨ q = ou) X hou (k := 0) (by decide) (by decide) (Or.inl (Or.inr rfl)) hlo dL_slope_19 (fun H2 locs hpa hlo hat => ?_)
      have hX := hX.tra (Or.inr rfl) hpa
      have hRP := RP.exa hRP hpa hUn
      refine lv_goto (tgt := 31) X.1 X.2.1 dL_slope_20 (by decide) ?_
      refine lv_iconst (v := nI 0) X.1 X.2.1 dL_slope_31 (by decide) ?_
      exact w_iret X hX hlo (Or.inr ⟨by simp only [hcs, Bool.and_self], rfl, ⟨b9, by omega, hDn, hRP⟩, _, hat, by rw [hB]; rfl⟩) ⟨by decide, by decide⟩ dL_slope_32
    ·
      have hB : (!decide (((toL b0 : Nat) : Rat) / ((toL a0 : Nat) : Rat) = q (toN i))) = false := gabF hB
      refine w_i (v' := nI 0) (by rw [hB]; rfl) ?_
      refine lv_if_eq (tgt := 18) X.1 X.2.1 dL_slope_11 (by decide) (fun _ => ?_) (fun h9 => absurd (by decide) h9)
      refine lv_lconst (v := lN 0) X.1 X.2.1 dL_slope_18 (by decide) ?_
      refine w_last (F := fun q => q = r ∨ q = ou) X hou (k := 0) (by decide) (by decide) (Or.inl (Or.inr rfl)) hlo dL_slope_19 (fun H2 locs hpa hlo hat => ?_)
      have hX := hX.tra (Or.inr rfl) hpa
      have hRP := RP.exa hRP hpa hUn
      refine lv_goto (tgt := 31) X.1 X.2.1 dL_slope_20 (by decide) ?_
      refine lv_iconst (v := nI 0) X.1 X.2.1 dL_slope_31 (by decide) ?_
      exact w_iret X hX hlo (Or.inr ⟨by simp only [hcs, Bool.and_self], rfl, ⟨b9, by omega, hDn, hRP⟩, _, hat, by rw [hB]; rfl⟩) ⟨by decide, by decide⟩ dL_slope_32
set_option maxHeartbeats 4000000 in
set_option maxRecDepth 100000 in
theorem c_L_gable (l : Launch) (g : En) (o r : Nat) (A : Nat → Nat) (x1 y1 : Nat) (q : Nat → Rat) (ou : Nat) (f0 : Nat → Int64) (i : Int32) (N0 : Nat) (hl0 : l.stackTraces = false) (hO : OK x1 y1 q) (hU : OD o r ou A) (hD : DD o r A) : WM l yL_gable cL_gable 4 [(0, 16, 19, 19), (0, 16, 22, 25)] { frames := 9, cells := 3, slots := 14, locals := 137 } g [.ref o, .int i, .ref ou] (fun H => (RP g o r A x1 y1 q H ∧ va_at g.1 cl0 (oua g ou f0) H) ∧ N0 ≤ H.size) (fun q => q = r ∨ q = ou) 3 14 (fun v H => ((inI i 4 && oth q (toN i)) = false ∧ v = some (.int (nI (mk3 2 2 (inI i 4) (oth q (toN i)) (true)))) ∧ RP g o r A x1 y1 q H ∧ ∃ f : Nat → Int64, va_at g.1 cl0 (oua g ou f) H) ∨ ((inI i 4 && oth q (toN i)) = true ∧ v = some (.int (nI 0)) ∧ (∃ b : Nat, N0 ≤ b ∧ DD o r (va_up A (toN i) b) ∧ RP g o r (va_up A (toN i) b) x1 y1 (va_up q (toN i) (0 : Rat)) H) ∧ ∃ f : Nat → Int64, va_at g.1 cl0 (oua g ou f) H ∧ f 0 = lN (if !decide ((0 : Rat) = q (toN i)) then 1 else 0))) := by
  refine WM.of (by decide) (Nat.le_of_ble_eq_true rfl) (fun p e s m below meth c ls X hE hG hl => ?_)
  obtain ⟨⟨⟨hP, hF⟩, hou⟩, hN0⟩ := hG
  have hP := PP.cons hou hP
  have hol : ou < s.heap.size := va_at.lt hou
  have hl : lv_has ls 4 [(0, .ref o), (1, .int i), (2, .ref ou)] := hl
  have hX : hxf (fun q => q = r ∨ q = ou) s.heap s.heap := hxf.rf
  have hlo : lok (fun q => q = r ∨ q = ou) s.heap.size ([] : List Loc) := lok.nil
  have hP : PP g [oua g ou f0, ob o x1 y1 r, ar g r A] s.heap := hP
  refine lv_aload_n X.1 X.2.1 dL_gable_0 rfl (lv_at hl 2 rfl) ?_
  refine lv_iconst (v := nI 0) X.1 X.2.1 dL_gable_1 (by decide) ?_
  refine lv_aload_n X.1 X.2.1 dL_gable_2 rfl (lv_at hl 0 rfl) ?_
  refine lv_iload_n X.1 X.2.1 dL_gable_3 rfl (lv_at hl 1 rfl) ?_
  refine w_callY (F := fun q => q = r ∨ q = ou) (C := RX1) (b := o) (As := [.int i]) (rest := [.int (nI 0), .ref ou]) X hE (c_X1_gable l g o r A x1 y1 q i s.heap.size hl0 hO hD) ⟨mw_212, mw_213, mw_214, mw_38, mw_215⟩ sgX1_gable ⟨rfl, rfl, ⟨by decide, by decide⟩, by decide, by decide⟩ (hP.at 1 rfl) rfl rfl ⟨RP.of hP [1, 2] rfl hF, Nat.le_refl _⟩ hxt.rf (fun q h => Or.inl h) hlo rfl hl.1 rfl (Nat.le_of_ble_eq_true rfl) dL_gable_4 (fun E ce q9 H1 locs hk hlo hpx h1 h2 h3 => ?_) (fun v H1 locs hk hlo hp => ?_)
  ·
    have hX := hX.tr hk
    have hou := (PP.ext (PP.one hou) hk) 0 _ rfl
    have hRP := RP.ext (RP.of hP [1, 2] rfl hF) hk
    obtain ⟨ha, rfl⟩ | ⟨ha, hs, rfl⟩ | ⟨ha, hs, hg, rfl⟩ := hpx
    ·
      refine hn_catch (own := yL_gable.cls) (name := eA) (pc := 4) (E := eA) X.2.2.2.1 [] (⟨0, 16, 19, 19⟩ : ExceptionTableEntry) [(⟨0, 16, 22, 25⟩ : ExceptionTableEntry)] (X.2.2.2.2.2.2.2.2) (fun z hz => nomatch hz) (by decide) (by decide) (X.2.2.2.2.1 _ (List.mem_cons_of_mem _ mw_170)) (w_cast hE cA) h1 h2 h3 ?_
      refine W.eq (g2 := F0 m 19 ls [.ref q9]) rfl ?_
      refine lv_astore_n (lv' := [(3, .ref q9), (0, .ref o), (1, .int i), (2, .ref ou)]) X.1 X.2.1 dL_gable_19 rfl hl (by decide) rfl (fun ls hl => ?_)
      refine lv_iconst (v := nI 1) X.1 X.2.1 dL_gable_20 (by decide) ?_
      exact w_iret X hX hlo (Or.inl ⟨by simp [ha], by rw [mk3, ha]; rfl, hRP, _, hou⟩) ⟨by decide, by decide⟩ dL_gable_21
    ·
      refine hn_catch (own := yL_gable.cls) (name := eS) (pc := 4) (E := eS) X.2.2.2.1 [(⟨0, 16, 19, 19⟩ : ExceptionTableEntry)] (⟨0, 16, 22, 25⟩ : ExceptionTableEntry) [] (X.2.2.2.2.2.2.2.2) (fun z hz => by simp only [List.mem_cons, List.not_mem_nil, or_false] at hz; subst hz <;> first | exact Or.inr ⟨by decide, eA, X.2.2.2.2.1 _ (List.mem_cons_of_mem _ mw_170), hE.2.2.2.1.1⟩) (by decide) (by decide) (X.2.2.2.2.1 _ (List.mem_cons_of_mem _ mw_211)) (w_cast hE cS) h1 h2 h3 ?_
      refine W.eq (g2 := F0 m 22 ls [.ref q9]) rfl ?_
      refine lv_astore_n (lv' := [(3, .ref q9), (0, .ref o), (1, .int i), (2, .ref ou)]) X.1 X.2.1 dL_gable_22 rfl hl (by decide) rfl (fun ls hl => ?_)
      refine lv_iconst (v := nI 2) X.1 X.2.1 dL_gable_23 (by decide) ?_
      exact w_iret X hX hlo (Or.inl ⟨by simp [ha, hs], by rw [mk3, ha, hs]; rfl, hRP, _, hou⟩) ⟨by decide, by decide⟩ dL_gable_24
    ·
      exact absurd hg (by decide)
  ·
    have hou := (PP.exf (PP.one hou) hk (fun z hz => by simp only [List.mem_cons, List.not_mem_nil, or_false] at hz; subst hz; exact hU.2.1.symm)) 0 _ rfl
    have hX := hX.trf (fun q h => Or.inl h) hk
    obtain ⟨hcs, rfl, b9, hb9, hDn, hRP⟩ := hp
    have hUn := hU.up (k := toN i) (b := b9) (by omega)
    refine W.eq (g2 := F0 m 7 ls [.int (bI (!decide ((0 : Rat) = q (toN i)))), .int (nI 0), .ref ou]) rfl ?_
    by_cases hB : (!decide ((0 : Rat) = q (toN i))) = true
    ·
      refine w_i (v' := nI 1) (by rw [hB]; rfl) ?_
      refine lv_if_eq (tgt := 14) X.1 X.2.1 dL_gable_7 (by decide) (fun h9 => absurd h9 (by decide)) (fun _ => ?_)
      refine lv_lconst (v := lN 1) X.1 X.2.1 dL_gable_10 (by decide) ?_
      refine lv_goto (tgt := 15) X.1 X.2.1 dL_gable_11 (by decide) ?_
      refine w_last (F := fun q => q = r ∨ q = ou) X hou (k := 0) (by decide) (by decide) (Or.inl (Or.inr rfl)) hlo dL_gable_15 (fun H2 locs hpa hlo hat => ?_)
      have hX := hX.tra (Or.inr rfl) hpa
      have hRP := RP.exa hRP hpa hUn
      refine lv_goto (tgt := 25) X.1 X.2.1 dL_gable_16 (by decide) ?_
      refine lv_iconst (v := nI 0) X.1 X.2.1 dL_gable_25 (by decide) ?_
      exact w_iret X hX hlo (Or.inr ⟨by simp only [hcs, Bool.and_self], rfl, ⟨b9, by omega, hDn, hRP⟩, _, hat, by rw [hB]; rfl⟩) ⟨by decide, by decide⟩ dL_gable_26
    ·
      have hB : (!decide ((0 : Rat) = q (toN i))) = false := gabF hB
      refine w_i (v' := nI 0) (by rw [hB]; rfl) ?_
      refine lv_if_eq (tgt := 14) X.1 X.2.1 dL_gable_7 (by decide) (fun _ => ?_) (fun h9 => absurd (by decide) h9)
      refine lv_lconst (v := lN 0) X.1 X.2.1 dL_gable_14 (by decide) ?_
      refine w_last (F := fun q => q = r ∨ q = ou) X hou (k := 0) (by decide) (by decide) (Or.inl (Or.inr rfl)) hlo dL_gable_15 (fun H2 locs hpa hlo hat => ?_)
      have hX := hX.tra (Or.inr rfl) hpa
      have hRP := RP.exa hRP hpa hUn
      refine lv_goto (tgt := 25) X.1 X.2.1 dL_gable_16 (by decide) ?_
      refine lv_iconst (v := nI 0) X.1 X.2.1 dL_gable_25 (by decide) ?_
      exact w_iret X hX hlo (Or.inr ⟨by simp only [hcs, Bool.and_self], rfl, ⟨b9, by omega, hDn, hRP⟩, _, hat, by rw [hB]; rfl⟩) ⟨by decide, by decide⟩ dL_gable_26
