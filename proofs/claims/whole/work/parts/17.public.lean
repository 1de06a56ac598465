def rK (a s g : Bool) (val : Value) : Option Value → Heap → Prop := fun v _ => (a = true ∧ s = true ∧ g = true) ∧ v = some val
def prt (x : Rat) (p : Nat) : Nat := if p = 0 then nu x else x.den
def lenv (S : Rat) (j : Nat) : Nat := if j = 0 ∨ isq (nu S / S.den) * isq (nu S / S.den) * S.den = nu S then isq (nu S / S.den) else isq (nu S / S.den) + 1
theorem sq_le {a n : Nat} (h : a * a ≤ n) : a ≤ n := by
  rcases Nat.eq_zero_or_pos a with h9 | h9
  · omega
  · exact Nat.le_trans (Nat.le_mul_of_pos_left a h9) h
theorem andL {a b : Bool} (h : (a && b) = true) : a = true ∧ b = true := by simpa using h
theorem notL {a : Bool} (h : (!a) = true) : a = false := by simpa using h
theorem lwp_ok {X Y : Nat} {q : Nat → Rat} (h : OK X Y q) (x y : Nat) : lwp X Y q x y 3 < 4 ∧ gab q (lwp X Y q x y 3) = false := by
  refine ⟨Nat.lt_of_le_of_lt (lwp_le _ _ _ _ _ _) (by decide), ?_⟩
  have key : ∀ n, (∃ j, j ≤ n ∧ gab q j = false) → gab q (lwp X Y q x y n) = false := by
    intro n
    induction n with
    | zero => rintro ⟨j, hj, hg⟩; rw [show j = 0 by omega] at hg; exact hg
    | succ n ih =>
      rintro ⟨j, hj, hg⟩
      rw [lwp]
      split
      · rename_i h1; exact h1.1
      · rename_i h1
        by_cases h2 : gab q (lwp X Y q x y n) = true
        · exfalso
          by_cases h3 : gab q (n + 1) = false
          · exact h1 ⟨h3, Or.inl h2⟩
          · by_cases h4 : j = n + 1
            · rw [h4] at hg; exact h3 hg
            · rw [ih ⟨j, by omega, hg⟩] at h2; cases h2
        · simpa using h2
  obtain ⟨k, hk, hne⟩ := h.2.2.2
  exact key 3 ⟨k, by omega, decide_eq_false hne⟩
set_option maxHeartbeats 4000000 in
set_option maxRecDepth 100000 in
theorem c_X1_end (l : Launch) (g : En) (o r : Nat) (A : Nat → Nat) (x1 y1 : Nat) (q : Nat → Rat) (i : Int32) (v0 : Int64) (j : Int32) (hl0 : l.stackTraces = false) (hO : OK x1 y1 q) : XM l yX1_end cX1_end 5 (some FieldType.long) { frames := 8, cells := 22, slots := 60, locals := 158 } g [.ref o, .int i, .long v0, .int j] (fun H => RP g o r A x1 y1 q H) 22 60 (rK (inI i 4 && inI j 2) (!gab q (toN i)) (inL v0 0 (slen x1 y1 (toN i))) (.long (lN (prt (raf x1 y1 q (toN i) (toL v0)) (toN j))))) (xk (inI i 4 && inI j 2) (!gab q (toN i)) (inL v0 0 (slen x1 y1 (toN i)))) := by
  refine XM.of (by decide) (Nat.le_of_ble_eq_true rfl) (fun p e s m below meth c ls X hne hE hG hl => ?_)
  obtain ⟨hP, hF⟩ := hG
  have hl : lv_has ls 5 [(0, .ref o), (1, .int i), (2, .long v0), (4, .int j)] := hl
  have hX : hxt s.heap s.heap := hxt.rf
  have hP : PP g [ob o x1 y1 r, ar g r A] s.heap := hP
  refine lv_iload_n X.1 X.2.1 dX1_end_0 rfl (lv_at hl 1 rfl) ?_
  refine lv_iconst (v := nI 4) X.1 X.2.1 dX1_end_1 (by decide) ?_
  refine x_callS (As := [.int i, .int (nI 4)]) (rest := []) X hne hE (c_X1_checkIndex l g i 4 hl0 (by decide)) ⟨mw_175, mw_176, mw_38, mw_177⟩ sgX1_checkIndex ⟨rfl, rfl, ⟨by decide, by decide⟩, by decide, by decide⟩ (trivial) hX rfl hl.1 rfl (Nat.le_of_ble_eq_true rfl) dX1_end_2 (fun E h => xk_A (fun h9 => by simp only [h9, Bool.false_and, Bool.and_false, Bool.true_and]) h) ⟨by decide, by decide⟩ (fun v H1 hk2 hp => ?_)
  obtain ⟨rfl, hi⟩ := hp
  have hX := hX.tr hk2
  have hP := PP.ext hP hk2
  have hF := RF.ext hF hk2
  refine W.eq (g2 := F0 m 5 ls []) rfl ?_
  obtain ⟨k, hk, rfl⟩ := inI_of hi (by decide)
  have ek : toN (nI k) = k := toN_k (by omega)
  refine lv_iload X.1 X.2.1 dX1_end_5 (lv_at hl 3 rfl) ?_
  refine lv_iconst (v := nI 2) X.1 X.2.1 dX1_end_7 (by decide) ?_
  refine x_callS (As := [.int j, .int (nI 2)]) (rest := []) X hne hE (c_X1_checkIndex l g j 2 hl0 (by decide)) ⟨mw_175, mw_176, mw_38, mw_177⟩ sgX1_checkIndex ⟨rfl, rfl, ⟨by decide, by decide⟩, by decide, by decide⟩ (trivial) hX rfl hl.1 rfl (Nat.le_of_ble_eq_true rfl) dX1_end_8 (fun E h => xk_A (fun h9 => by simp only [h9, hi, Bool.false_and, Bool.and_false, Bool.true_and]) h) ⟨by decide, by decide⟩ (fun v H3 hk4 hp => ?_)
  obtain ⟨rfl, hj⟩ := hp
  have hX := hX.tr hk4
  have hP := PP.ext hP hk4
  have hF := RF.ext hF hk4
  refine W.eq (g2 := F0 m 11 ls []) rfl ?_
  obtain ⟨pn, hpn, rfl⟩ := inI_of hj (by decide)
  have epn : toN (nI pn) = pn := toN_k (by omega)
  refine lv_aload_n X.1 X.2.1 dX1_end_11 rfl (lv_at hl 0 rfl) ?_
  refine lv_iload_n X.1 X.2.1 dX1_end_12 rfl (lv_at hl 1 rfl) ?_
  refine lv_lload_n X.1 X.2.1 dX1_end_13 rfl (lv_at hl 2 rfl) ?_
  have hsl := slen_le hO k
  refine x_callV (C := RX1) (b := o) (As := [.int (nI k), .long v0]) (rest := []) X hne hE (c_X1_checkRafter l g o r A x1 y1 q k v0 hl0 hO hk) ⟨mw_309, mw_311, mw_11, mw_38, mw_312⟩ sgX1_checkRafter ⟨rfl, rfl, ⟨by decide, by decide⟩, by decide, by decide⟩ (hP.at 0 rfl) rfl rfl (RP.of hP [0, 1] rfl hF) hX rfl hl.1 rfl (Nat.le_of_ble_eq_true rfl) dX1_end_14 (fun E h => xk_SG (by simp only [hi, hj, Bool.and_self]) (by rw [ek]) (by rw [ek]) h) ⟨by decide, by decide⟩ (fun v H5 hk6 hp => ?_)
  obtain ⟨rfl, hr⟩ := hp
  have hX := hX.tr hk6
  have hP := PP.ext hP hk6
  have hF := RF.ext hF hk6
  refine W.eq (g2 := F0 m 17 ls []) rfl ?_
  obtain ⟨hr1, hr2⟩ := andL hr
  have hg := notL hr1
  obtain ⟨t, -, ht, rfl⟩ := inL_of hr2 (by omega)
  have eT : toL (lN t) = t := toL_k (by omega)
  refine lv_aload_n X.1 X.2.1 dX1_end_17 rfl (lv_at hl 0 rfl) ?_
  refine lv_iload_n X.1 X.2.1 dX1_end_18 rfl (lv_at hl 1 rfl) ?_
  refine lv_lload_n X.1 X.2.1 dX1_end_19 rfl (lv_at hl 2 rfl) ?_
  refine p_callV (C := RX1) (b := o) (As := [.int (nI k), .long (lN t)]) (rest := []) X (c_X1_rafterEnd l g o r A x1 y1 q k t hO hk ht hg) ⟨mw_313, mw_315, mw_12, mw_38, mw_316⟩ sgX1_rafterEnd ⟨rfl, rfl, ⟨by decide, by decide⟩, by decide, by decide⟩ (hP.at 0 rfl) rfl rfl (RP.of hP [0, 1] rfl hF) hX.1 rfl hl.1 rfl (Nat.le_of_ble_eq_true rfl) dX1_end_20 (fun v H7 hk8 hp => ?_)
  obtain ⟨r9, rfl, hr9⟩ := hp
  have hX := hX.tr hk8
  have hP := PP.ext hP hk8
  have hF := RF.ext hF hk8
  have hP := PP.cons hr9 hP
  refine W.eq (g2 := F0 m 23 ls [.ref r9]) rfl ?_
  refine lv_iload X.1 X.2.1 dX1_end_23 (lv_at hl 3 rfl) ?_
  refine p_callV (C := RX0) (b := r9) (As := [.int (nI pn)]) (rest := []) X (c_X0_part l g _ pn _ hpn) ⟨mw_271, mw_272, mw_273, mw_39, mw_274⟩ sgX0_part ⟨rfl, rfl, ⟨by decide, by decide⟩, by decide, by decide⟩ (hP.at 0 rfl) rfl rfl (hP.sub [0] rfl) hX.1 rfl hl.1 rfl (Nat.le_of_ble_eq_true rfl) dX1_end_25 (fun v H10 hk11 hp => ?_)
  obtain rfl := hp
  have hX := hX.tr hk11
  have hP := PP.ext hP hk11
  have hF := RF.ext hF hk11
  refine W.eq (g2 := F0 m 28 ls [.long (lN (prt (raf x1 y1 q k t) pn))]) rfl ?_
  exact vx_ret (p_lret X hX (⟨⟨by simp only [hi, hj, Bool.and_self], by rw [ek, hg]; rfl, by rw [ek]; exact hr2⟩, by simp only [ek, eT, epn]⟩) ⟨by decide, by decide⟩ dX1_end_28)
set_option maxHeartbeats 4000000 in
set_option maxRecDepth 100000 in
theorem c_X1_against (l : Launch) (g : En) (o r : Nat) (A : Nat → Nat) (x1 y1 : Nat) (q : Nat → Rat) (i : Int32) (v0 : Int64) (hl0 : l.stackTraces = false) (hO : OK x1 y1 q) : XM l yX1_against cX1_against 4 (some FieldType.int) { frames := 8, cells := 18, slots := 48, locals := 135 } g [.ref o, .int i, .long v0] (fun H => RP g o r A x1 y1 q H) 18 48 (rK (inI i 4) (!gab q (toN i)) (inL v0 0 (slen x1 y1 (toN i))) (.int (nI (enp x1 y1 q (toN i) (toL v0) 4)))) (xk (inI i 4) (!gab q (toN i)) (inL v0 0 (slen x1 y1 (toN i)))) := by
  refine XM.of (by decide) (Nat.le_of_ble_eq_true rfl) (fun p e s m below meth c ls X hne hE hG hl => ?_)
  obtain ⟨hP, hF⟩ := hG
  have hl : lv_has ls 4 [(0, .ref o), (1, .int i), (2, .long v0)] := hl
  have hX : hxt s.heap s.heap := hxt.rf
  have hP : PP g [ob o x1 y1 r, ar g r A] s.heap := hP
  refine lv_iload_n X.1 X.2.1 dX1_against_0 rfl (lv_at hl 1 rfl) ?_
  refine lv_iconst (v := nI 4) X.1 X.2.1 dX1_against_1 (by decide) ?_
  refine x_callS (As := [.int i, .int (nI 4)]) (rest := []) X hne hE (c_X1_checkIndex l g i 4 hl0 (by decide)) ⟨mw_175, mw_176, mw_38, mw_177⟩ sgX1_checkIndex ⟨rfl, rfl, ⟨by decide, by decide⟩, by decide, by decide⟩ (trivial) hX rfl hl.1 rfl (Nat.le_of_ble_eq_true rfl) dX1_against_2 (fun E h => xk_A (fun h9 => by simp only [h9, Bool.false_and, Bool.and_false, Bool.true_and]) h) ⟨by decide, by decide⟩ (fun v H1 hk2 hp => ?_)
  obtain ⟨rfl, hi⟩ := hp
  have hX := hX.tr hk2
  have hP := PP.ext hP hk2
  have hF := RF.ext hF hk2
  refine W.eq (g2 := F0 m 5 ls []) rfl ?_
  obtain ⟨k, hk, rfl⟩ := inI_of hi (by decide)
  have ek : toN (nI k) = k := toN_k (by omega)
  refine lv_aload_n X.1 X.2.1 dX1_against_5 rfl (lv_at hl 0 rfl) ?_
  refine lv_iload_n X.1 X.2.1 dX1_against_6 rfl (lv_at hl 1 rfl) ?_
  refine lv_lload_n X.1 X.2.1 dX1_against_7 rfl (lv_at hl 2 rfl) ?_
  have hsl := slen_le hO k
  refine x_callV (C := RX1) (b := o) (As := [.int (nI k), .long v0]) (rest := []) X hne hE (c_X1_checkRafter l g o r A x1 y1 q k v0 hl0 hO hk) ⟨mw_309, mw_311, mw_11, mw_38, mw_312⟩ sgX1_checkRafter ⟨rfl, rfl, ⟨by decide, by decide⟩, by decide, by decide⟩ (hP.at 0 rfl) rfl rfl (RP.of hP [0, 1] rfl hF) hX rfl hl.1 rfl (Nat.le_of_ble_eq_true rfl) dX1_against_8 (fun E h => xk_SG (by simp only [hi, Bool.and_self]) (by rw [ek]) (by rw [ek]) h) ⟨by decide, by decide⟩ (fun v H3 hk4 hp => ?_)
  obtain ⟨rfl, hr⟩ := hp
  have hX := hX.tr hk4
  have hP := PP.ext hP hk4
  have hF := RF.ext hF hk4
  refine W.eq (g2 := F0 m 11 ls []) rfl ?_
  obtain ⟨hr1, hr2⟩ := andL hr
  have hg := notL hr1
  obtain ⟨t, -, ht, rfl⟩ := inL_of hr2 (by omega)
  have eT : toL (lN t) = t := toL_k (by omega)
  refine lv_aload_n X.1 X.2.1 dX1_against_11 rfl (lv_at hl 0 rfl) ?_
  refine lv_iload_n X.1 X.2.1 dX1_against_12 rfl (lv_at hl 1 rfl) ?_
  refine lv_lload_n X.1 X.2.1 dX1_against_13 rfl (lv_at hl 2 rfl) ?_
  refine p_callV (C := RX1) (b := o) (As := [.int (nI k), .long (lN t)]) (rest := []) X (c_X1_endingSide l g o r A x1 y1 q k t hO hk ht hg) ⟨mw_317, mw_319, mw_13, mw_38, mw_320⟩ sgX1_endingSide ⟨rfl, rfl, ⟨by decide, by decide⟩, by decide, by decide⟩ (hP.at 0 rfl) rfl rfl (RP.of hP [0, 1] rfl hF) hX.1 rfl hl.1 rfl (Nat.le_of_ble_eq_true rfl) dX1_against_14 (fun v H5 hk6 hp => ?_)
  obtain rfl := hp
  have hX := hX.tr hk6
  have hP := PP.ext hP hk6
  have hF := RF.ext hF hk6
  refine W.eq (g2 := F0 m 17 ls [.int (nI (enp x1 y1 q k t 4))]) rfl ?_
  exact vx_ret (p_iret X hX (⟨⟨by simp only [hi], by rw [ek, hg]; rfl, by rw [ek]; exact hr2⟩, by simp only [ek, eT]⟩) ⟨by decide, by decide⟩ dX1_against_17)
set_option maxHeartbeats 4000000 in
set_option maxRecDepth 100000 in
theorem c_X1_length (l : Launch) (g : En) (o r : Nat) (A : Nat → Nat) (x1 y1 : Nat) (q : Nat → Rat) (i : Int32) (v0 : Int64) (j : Int32) (hl0 : l.stackTraces = false) (hO : OK x1 y1 q) : XM l yX1_length cX1_length 9 (some FieldType.long) { frames := 8, cells := 28, slots := 72, locals := 158 } g [.ref o, .int i, .long v0, .int j] (fun H => RP g o r A x1 y1 q H) 28 72 (rK (inI i 4 && inI j 2) (!gab q (toN i)) (inL v0 0 (slen x1 y1 (toN i))) (.long (lN (lenv (sqr q (toN i) (raf x1 y1 q (toN i) (toL v0))) (toN j))))) (xk (inI i 4 && inI j 2) (!gab q (toN i)) (inL v0 0 (slen x1 y1 (toN i)))) := by
  refine XM.of (by decide) (Nat.le_of_ble_eq_true rfl) (fun p e s m below meth c ls X hne hE hG hl => ?_)
  obtain ⟨hP, hF⟩ := hG
  have hl : lv_has ls 9 [(0, .ref o), (1, .int i), (2, .long v0), (4, .int j)] := hl
  have hX : hxt s.heap s.heap := hxt.rf
  have hP : PP g [ob o x1 y1 r, ar g r A] s.heap := hP
  refine lv_iload_n X.1 X.2.1 dX1_length_0 rfl (lv_at hl 1 rfl) ?_
  refine lv_iconst (v := nI 4) X.1 X.2.1 dX1_length_1 (by decide) ?_
  refine x_callS (As := [.int i, .int (nI 4)]) (rest := []) X hne hE (c_X1_checkIndex l g i 4 hl0 (by decide)) ⟨mw_175, mw_176, mw_38, mw_177⟩ sgX1_checkIndex ⟨rfl, rfl, ⟨by decide, by decide⟩, by decide, by decide⟩ (trivial) hX rfl hl.1 rfl (Nat.le_of_ble_eq_true rfl) dX1_length_2 (fun E h => xk_A (fun h9 => by simp only [h9, Bool.false_and, Bool.and_false, Bool.true_and]) h) ⟨by decide, by decide⟩ (fun v H1 hk2 hp => ?_)
  obtain ⟨rfl, hi⟩ := hp
  have hX := hX.tr hk2
  have hP := PP.ext hP hk2
  have hF := RF.ext hF hk2
  refine W.eq (g2 := F0 m 5 ls []) rfl ?_
  obtain ⟨k, hk, rfl⟩ := inI_of hi (by decide)
  have ek : toN (nI k) = k := toN_k (by omega)
  refine lv_iload X.1 X.2.1 dX1_length_5 (lv_at hl 3 rfl) ?_
  refine lv_iconst (v := nI 2) X.1 X.2.1 dX1_length_7 (by decide) ?_
  refine x_callS (As := [.int j, .int (nI 2)]) (rest := []) X hne hE (c_X1_checkIndex l g j 2 hl0 (by decide)) ⟨mw_175, mw_176, mw_38, mw_177⟩ sgX1_checkIndex ⟨rfl, rfl, ⟨by decide, by decide⟩, by decide, by decide⟩ (trivial) hX rfl hl.1 rfl (Nat.le_of_ble_eq_true rfl) dX1_length_8 (fun E h => xk_A (fun h9 => by simp only [h9, hi, Bool.false_and, Bool.and_false, Bool.true_and]) h) ⟨by decide, by decide⟩ (fun v H3 hk4 hp => ?_)
  obtain ⟨rfl, hj⟩ := hp
  have hX := hX.tr hk4
  have hP := PP.ext hP hk4
  have hF := RF.ext hF hk4
  refine W.eq (g2 := F0 m 11 ls []) rfl ?_
  obtain ⟨pn, hpn, rfl⟩ := inI_of hj (by decide)
  have epn : toN (nI pn) = pn := toN_k (by omega)
  refine lv_aload_n X.1 X.2.1 dX1_length_11 rfl (lv_at hl 0 rfl) ?_
  refine lv_iload_n X.1 X.2.1 dX1_length_12 rfl (lv_at hl 1 rfl) ?_
  refine lv_lload_n X.1 X.2.1 dX1_length_13 rfl (lv_at hl 2 rfl) ?_
  have hsl := slen_le hO k
  refine x_callV (C := RX1) (b := o) (As := [.int (nI k), .long v0]) (rest := []) X hne hE (c_X1_checkRafter l g o r A x1 y1 q k v0 hl0 hO hk) ⟨mw_309, mw_311, mw_11, mw_38, mw_312⟩ sgX1_checkRafter ⟨rfl, rfl, ⟨by decide, by decide⟩, by decide, by decide⟩ (hP.at 0 rfl) rfl rfl (RP.of hP [0, 1] rfl hF) hX rfl hl.1 rfl (Nat.le_of_ble_eq_true rfl) dX1_length_14 (fun E h => xk_SG (by simp only [hi, hj, Bool.and_self]) (by rw [ek]) (by rw [ek]) h) ⟨by decide, by decide⟩ (fun v H5 hk6 hp => ?_)
  obtain ⟨rfl, hr⟩ := hp
  have hX := hX.tr hk6
  have hP := PP.ext hP hk6
  have hF := RF.ext hF hk6
  refine W.eq (g2 := F0 m 17 ls []) rfl ?_
  obtain ⟨hr1, hr2⟩ := andL hr
  have hg := notL hr1
  obtain ⟨t, -, ht, rfl⟩ := inL_of hr2 (by omega)
  have eT : toL (lN t) = t := toL_k (by omega)
  refine lv_aload_n X.1 X.2.1 dX1_length_17 rfl (lv_at hl 0 rfl) ?_
  refine lv_iload_n X.1 X.2.1 dX1_length_18 rfl (lv_at hl 1 rfl) ?_
  refine lv_aload_n X.1 X.2.1 dX1_length_19 rfl (lv_at hl 0 rfl) ?_
  refine lv_iload_n X.1 X.2.1 dX1_length_20 rfl (lv_at hl 1 rfl) ?_
  refine lv_lload_n X.1 X.2.1 dX1_length_21 rfl (lv_at hl 2 rfl) ?_
  have bz := bd_raf hO hk ht hg
  have bs := bd_sqr (hO.2.2.1 k hk) (gab_pos (hO.2.2.1 k hk) hg) bz
  refine p_callV (C := RX1) (b := o) (As := [.int (nI k), .long (lN t)]) (rest := [.int (nI k), .ref o]) X (c_X1_rafterEnd l g o r A x1 y1 q k t hO hk ht hg) ⟨mw_313, mw_315, mw_12, mw_38, mw_316⟩ sgX1_rafterEnd ⟨rfl, rfl, ⟨by decide, by decide⟩, by decide, by decide⟩ (hP.at 0 rfl) rfl rfl (RP.of hP [0, 1] rfl hF) hX.1 rfl hl.1 rfl (Nat.le_of_ble_eq_true rfl) dX1_length_22 (fun v H7 hk8 hp => ?_)
  obtain ⟨r9, rfl, hr9⟩ := hp
  have hX := hX.tr hk8
  have hP := PP.ext hP hk8
  have hF := RF.ext hF hk8
  have hP := PP.cons hr9 hP
  refine W.eq (g2 := F0 m 25 ls [.ref r9, .int (nI k), .ref o]) rfl ?_
  refine p_callV (C := RX1) (b := o) (As := [.int (nI k), .ref r9]) (rest := []) X (c_X1_squareAlongSlope l g o r A x1 y1 q k r9 _ hO hk hg bz) ⟨mw_360, mw_362, mw_16, mw_38, mw_363⟩ sgX1_squareAlongSlope ⟨rfl, rfl, ⟨by decide, by decide⟩, by decide, by decide⟩ (hP.at 1 rfl) rfl rfl (⟨RP.of hP [1, 2] rfl hF, hP.at 0 rfl⟩) hX.1 rfl hl.1 rfl (Nat.le_of_ble_eq_true rfl) dX1_length_25 (fun v H10 hk11 hp => ?_)
  obtain ⟨r12, rfl, hr12⟩ := hp
  have hX := hX.tr hk11
  have hP := PP.ext hP hk11
  have hF := RF.ext hF hk11
  have hP := PP.cons hr12 hP
  refine W.eq (g2 := F0 m 28 ls [.ref r12]) rfl ?_
  refine lv_astore (lv' := [(5, .ref r12), (0, .ref o), (1, .int (nI k)), (2, .long (lN t)), (4, .int (nI pn))]) X.1 X.2.1 dX1_length_28 hl (by decide) rfl (fun ls hl => ?_)
  refine lv_aload X.1 X.2.1 dX1_length_30 (lv_at hl 0 rfl) ?_
  generalize hSS : sqr q k (raf x1 y1 q k t) = SS at bs hP
  refine p_callV (C := RX0) (b := r12) (As := []) (rest := []) X (b_cut l g _ bs (by decide) (by decide)) ⟨mw_372, mw_373, mw_374, mw_39, mw_375⟩ sgX0_cutOff ⟨rfl, rfl, ⟨by decide, by decide⟩, by decide, by decide⟩ (hP.at 0 rfl) rfl rfl (hP.sub [0] rfl) hX.1 rfl hl.1 rfl (Nat.le_of_ble_eq_true rfl) dX1_length_32 (fun v H13 hk14 hp => ?_)
  obtain rfl := hp
  have hX := hX.tr hk14
  have hP := PP.ext hP hk14
  have hF := RF.ext hF hk14
  refine W.eq (g2 := F0 m 35 ls [.long (lN (nu SS / SS.den))]) rfl ?_
  have hn1 := bs.2.1
  have hd0 := dn_pos SS
  have hq9 : nu SS / SS.den ≤ nu SS := Nat.div_le_self _ _
  have hsq := isq_ok (n := nu SS / SS.den) (by omega)
  refine p_callS (As := [.long (lN (nu SS / SS.den))]) (rest := []) X (c_X1_root l g _ (by omega)) ⟨mw_376, mw_377, mw_38, mw_378⟩ sgX1_root ⟨rfl, rfl, ⟨by decide, by decide⟩, by decide, by decide⟩ (trivial) hX.1 rfl hl.1 rfl (Nat.le_of_ble_eq_true rfl) dX1_length_35 (fun v H15 hk16 hp => ?_)
  obtain rfl := hp
  have hX := hX.tr hk16
  have hP := PP.ext hP hk16
  have hF := RF.ext hF hk16
  refine W.eq (g2 := F0 m 38 ls [.long (lN (isq (nu SS / SS.den)))]) rfl ?_
  have hw9 : isq (nu SS / SS.den) * isq (nu SS / SS.den) * SS.den ≤ nu SS := Nat.le_trans (Nat.mul_le_mul_right _ hsq.1) (Nat.div_mul_le_self _ _)
  generalize hcc : isq (nu SS / SS.den) = cc at hw9 hsq ⊢
  have hl := hl
  refine lv_lstore (lv' := [(6, .long (lN cc)), (5, .ref r12), (0, .ref o), (1, .int (nI k)), (2, .long (lN t)), (4, .int (nI pn))]) X.1 X.2.1 dX1_length_38 hl (by decide) rfl (fun ls hl => ?_)
  refine lv_lload X.1 X.2.1 dX1_length_40 (lv_at hl 0 rfl) ?_
  refine lv_lload X.1 X.2.1 dX1_length_42 (lv_at hl 0 rfl) ?_
  refine lv_lmul X.1 X.2.1 dX1_length_44 ?_
  refine w_l (lN_mul _ _) ?_
  refine lv_aload X.1 X.2.1 dX1_length_45 (lv_at hl 1 rfl) ?_
  refine p_get (T := TX0) X uX0 (hP.at 0 rfl) rfl 1 (by decide) mw_71 rfl rfl dX1_length_47 ?_
  refine lv_lmul X.1 X.2.1 dX1_length_50 ?_
  refine w_l (lN_mul _ _) ?_
  refine lv_aload X.1 X.2.1 dX1_length_51 (lv_at hl 1 rfl) ?_
  refine p_get (T := TX0) X uX0 (hP.at 0 rfl) rfl 0 (by decide) mw_69 rfl rfl dX1_length_53 ?_
  refine q_Nne X (by omega) (by omega) (tgt := 64) dX1_length_56 dX1_length_57 (by decide) (fun hB17 => ?_) (fun hB17 => ?_)
  ·
    refine lv_iconst (v := nI 0) X.1 X.2.1 dX1_length_64 (by decide) ?_
    refine lv_istore (lv' := [(8, .int (nI 0)), (6, .long (lN cc)), (5, .ref r12), (0, .ref o), (1, .int (nI k)), (2, .long (lN t)), (4, .int (nI pn))]) X.1 X.2.1 dX1_length_65 hl (by decide) rfl (fun ls hl => ?_)
    refine lv_iload X.1 X.2.1 dX1_length_67 (lv_at hl 6 rfl) ?_
    refine q_Zeq X (by omega) (tgt := 77) dX1_length_69 (by decide) (fun hB18 => ?_) (fun hB18 => ?_)
    ·
      refine lv_lload X.1 X.2.1 dX1_length_77 (lv_at hl 1 rfl) ?_
      refine lv_goto (tgt := 86) X.1 X.2.1 dX1_length_79 (by decide) ?_
      exact vx_ret (p_lret X hX (⟨⟨by simp only [hi, hj, Bool.and_self], by rw [ek, hg]; rfl, by rw [ek]; exact hr2⟩, by simp only [ek, eT, epn, hSS]; rw [lenv, hcc, if_pos (Or.inl hB18)]⟩) ⟨by decide, by decide⟩ dX1_length_86)
    ·
      refine lv_iload X.1 X.2.1 dX1_length_72 (lv_at hl 0 rfl) ?_
      refine q_Zeq X (by omega) (tgt := 82) dX1_length_74 (by decide) (fun hB19 => ?_) (fun hB19 => ?_)
      ·
        refine lv_lload X.1 X.2.1 dX1_length_82 (lv_at hl 1 rfl) ?_
        refine lv_lconst (v := lN 1) X.1 X.2.1 dX1_length_84 (by decide) ?_
        refine lv_ladd X.1 X.2.1 dX1_length_85 ?_
        refine w_l (lN_add _ _) ?_
        exact vx_ret (p_lret X hX (⟨⟨by simp only [hi, hj, Bool.and_self], by rw [ek, hg]; rfl, by rw [ek]; exact hr2⟩, by simp only [ek, eT, epn, hSS]; rw [lenv, hcc, if_neg (fun h8 => h8.elim hB18 hB17)]⟩) ⟨by decide, by decide⟩ dX1_length_86)
      ·
        exact absurd rfl hB19
  ·
    refine lv_iconst (v := nI 1) X.1 X.2.1 dX1_length_60 (by decide) ?_
    refine lv_goto (tgt := 65) X.1 X.2.1 dX1_length_61 (by decide) ?_
    refine lv_istore (lv' := [(8, .int (nI 1)), (6, .long (lN cc)), (5, .ref r12), (0, .ref o), (1, .int (nI k)), (2, .long (lN t)), (4, .int (nI pn))]) X.1 X.2.1 dX1_length_65 hl (by decide) rfl (fun ls hl => ?_)
    refine lv_iload X.1 X.2.1 dX1_length_67 (lv_at hl 6 rfl) ?_
    refine q_Zeq X (by omega) (tgt := 77) dX1_length_69 (by decide) (fun hB20 => ?_) (fun hB20 => ?_)
    ·
      refine lv_lload X.1 X.2.1 dX1_length_77 (lv_at hl 1 rfl) ?_
      refine lv_goto (tgt := 86) X.1 X.2.1 dX1_length_79 (by decide) ?_
      exact vx_ret (p_lret X hX (⟨⟨by simp only [hi, hj, Bool.and_self], by rw [ek, hg]; rfl, by rw [ek]; exact hr2⟩, by simp only [ek, eT, epn, hSS]; rw [lenv, hcc, if_pos (Or.inl hB20)]⟩) ⟨by decide, by decide⟩ dX1_length_86)
    ·
      refine lv_iload X.1 X.2.1 dX1_length_72 (lv_at hl 0 rfl) ?_
      refine q_Zeq X (by omega) (tgt := 82) dX1_length_74 (by decide) (fun hB21 => ?_) (fun hB21 => ?_)
      ·
        exact absurd hB21 (by decide)
      ·
        refine lv_lload X.1 X.2.1 dX1_length_77 (lv_at hl 1 rfl) ?_
        refine lv_goto (tgt := 86) X.1 X.2.1 dX1_length_79 (by decide) ?_
        exact vx_ret (p_lret X hX (⟨⟨by simp only [hi, hj, Bool.and_self], by rw [ek, hg]; rfl, by rw [ek]; exact hr2⟩, by simp only [ek, eT, epn, hSS]; rw [lenv, hcc, if_pos (Or.inr hB17)]⟩) ⟨by decide, by decide⟩ dX1_length_86)
set_option maxHeartbeats 4000000 in
set_option maxRecDepth 100000 in
theorem c_X1_tangent (l : Launch) (g : En) (o r : Nat) (A : Nat → Nat) (x1 y1 : Nat) (q : Nat → Rat) (i : Int32) (v0 : Int64) (cu j : Int32) (hl0 : l.stackTraces = false) (hO : OK x1 y1 q) : XM l yX1_tangent cX1_tangent 6 (some FieldType.long) { frames := 8, cells := 21, slots := 62, locals := 161 } g [.ref o, .int i, .long v0, .int cu, .int j] (fun H => RP g o r A x1 y1 q H) 21 62 (rK (inI i 4 && inI cu 3 && inI j 2) (!gab q (toN i)) (inL v0 0 (slen x1 y1 (toN i))) (.long (lN (prt (tng x1 y1 q (toN i) (toL v0) (toN cu)) (toN j))))) (xk (inI i 4 && inI cu 3 && inI j 2) (!gab q (toN i)) (inL v0 0 (slen x1 y1 (toN i)))) := by
  refine XM.of (by decide) (Nat.le_of_ble_eq_true rfl) (fun p e s m below meth c ls X hne hE hG hl => ?_)
  obtain ⟨hP, hF⟩ := hG
  have hl : lv_has ls 6 [(0, .ref o), (1, .int i), (2, .long v0), (4, .int cu), (5, .int j)] := hl
  have hX : hxt s.heap s.heap := hxt.rf
  have hP : PP g [ob o x1 y1 r, ar g r A] s.heap := hP
  refine lv_iload_n X.1 X.2.1 dX1_tangent_0 rfl (lv_at hl 1 rfl) ?_
  refine lv_iconst (v := nI 4) X.1 X.2.1 dX1_tangent_1 (by decide) ?_
  refine x_callS (As := [.int i, .int (nI 4)]) (rest := []) X hne hE (c_X1_checkIndex l g i 4 hl0 (by decide)) ⟨mw_175, mw_176, mw_38, mw_177⟩ sgX1_checkIndex ⟨rfl, rfl, ⟨by decide, by decide⟩, by decide, by decide⟩ (trivial) hX rfl hl.1 rfl (Nat.le_of_ble_eq_true rfl) dX1_tangent_2 (fun E h => xk_A (fun h9 => by simp only [h9, Bool.false_and, Bool.and_false, Bool.true_and]) h) ⟨by decide, by decide⟩ (fun v H1 hk2 hp => ?_)
  obtain ⟨rfl, hi⟩ := hp
  have hX := hX.tr hk2
  have hP := PP.ext hP hk2
  have hF := RF.ext hF hk2
  refine W.eq (g2 := F0 m 5 ls []) rfl ?_
  obtain ⟨k, hk, rfl⟩ := inI_of hi (by decide)
  have ek : toN (nI k) = k := toN_k (by omega)
  refine lv_iload X.1 X.2.1 dX1_tangent_5 (lv_at hl 3 rfl) ?_
  refine lv_iconst (v := nI 3) X.1 X.2.1 dX1_tangent_7 (by decide) ?_
  refine x_callS (As := [.int cu, .int (nI 3)]) (rest := []) X hne hE (c_X1_checkIndex l g cu 3 hl0 (by decide)) ⟨mw_175, mw_176, mw_38, mw_177⟩ sgX1_checkIndex ⟨rfl, rfl, ⟨by decide, by decide⟩, by decide, by decide⟩ (trivial) hX rfl hl.1 rfl (Nat.le_of_ble_eq_true rfl) dX1_tangent_8 (fun E h => xk_A (fun h9 => by simp only [h9, hi, Bool.false_and, Bool.and_false, Bool.true_and]) h) ⟨by decide, by decide⟩ (fun v H3 hk4 hp => ?_)
  obtain ⟨rfl, hcu⟩ := hp
  have hX := hX.tr hk4
  have hP := PP.ext hP hk4
  have hF := RF.ext hF hk4
  refine W.eq (g2 := F0 m 11 ls []) rfl ?_
  obtain ⟨cn, hcn, rfl⟩ := inI_of hcu (by decide)
  have ecn : toN (nI cn) = cn := toN_k (by omega)
  refine lv_iload X.1 X.2.1 dX1_tangent_11 (lv_at hl 4 rfl) ?_
  refine lv_iconst (v := nI 2) X.1 X.2.1 dX1_tangent_13 (by decide) ?_
  refine x_callS (As := [.int j, .int (nI 2)]) (rest := []) X hne hE (c_X1_checkIndex l g j 2 hl0 (by decide)) ⟨mw_175, mw_176, mw_38, mw_177⟩ sgX1_checkIndex ⟨rfl, rfl, ⟨by decide, by decide⟩, by decide, by decide⟩ (trivial) hX rfl hl.1 rfl (Nat.le_of_ble_eq_true rfl) dX1_tangent_14 (fun E h => xk_A (fun h9 => by simp only [h9, hi, hcu, Bool.false_and, Bool.and_false, Bool.true_and]) h) ⟨by decide, by decide⟩ (fun v H5 hk6 hp => ?_)
  obtain ⟨rfl, hj⟩ := hp
  have hX := hX.tr hk6
  have hP := PP.ext hP hk6
  have hF := RF.ext hF hk6
  refine W.eq (g2 := F0 m 17 ls []) rfl ?_
  obtain ⟨pn, hpn, rfl⟩ := inI_of hj (by decide)
  have epn : toN (nI pn) = pn := toN_k (by omega)
  refine lv_aload_n X.1 X.2.1 dX1_tangent_17 rfl (lv_at hl 0 rfl) ?_
  refine lv_iload_n X.1 X.2.1 dX1_tangent_18 rfl (lv_at hl 1 rfl) ?_
  refine lv_lload_n X.1 X.2.1 dX1_tangent_19 rfl (lv_at hl 2 rfl) ?_
  have hsl := slen_le hO k
  refine x_callV (C := RX1) (b := o) (As := [.int (nI k), .long v0]) (rest := []) X hne hE (c_X1_checkRafter l g o r A x1 y1 q k v0 hl0 hO hk) ⟨mw_309, mw_311, mw_11, mw_38, mw_312⟩ sgX1_checkRafter ⟨rfl, rfl, ⟨by decide, by decide⟩, by decide, by decide⟩ (hP.at 0 rfl) rfl rfl (RP.of hP [0, 1] rfl hF) hX rfl hl.1 rfl (Nat.le_of_ble_eq_true rfl) dX1_tangent_20 (fun E h => xk_SG (by simp only [hi, hcu, hj, Bool.and_self]) (by rw [ek]) (by rw [ek]) h) ⟨by decide, by decide⟩ (fun v H7 hk8 hp => ?_)
  obtain ⟨rfl, hr⟩ := hp
  have hX := hX.tr hk8
  have hP := PP.ext hP hk8
  have hF := RF.ext hF hk8
  refine W.eq (g2 := F0 m 23 ls []) rfl ?_
  obtain ⟨hr1, hr2⟩ := andL hr
  have hg := notL hr1
  obtain ⟨t, -, ht, rfl⟩ := inL_of hr2 (by omega)
  have eT : toL (lN t) = t := toL_k (by omega)
  refine lv_aload_n X.1 X.2.1 dX1_tangent_23 rfl (lv_at hl 0 rfl) ?_
  refine lv_iload_n X.1 X.2.1 dX1_tangent_24 rfl (lv_at hl 1 rfl) ?_
  refine lv_lload_n X.1 X.2.1 dX1_tangent_25 rfl (lv_at hl 2 rfl) ?_
  refine lv_iload X.1 X.2.1 dX1_tangent_26 (lv_at hl 3 rfl) ?_
  refine p_callV (C := RX1) (b := o) (As := [.int (nI k), .long (lN t), .int (nI cn)]) (rest := []) X (c_X1_cutTangent l g o r A x1 y1 q k t cn hO hk ht hg hcn) ⟨mw_386, mw_388, mw_17, mw_38, mw_389⟩ sgX1_cutTangent ⟨rfl, rfl, ⟨by decide, by decide⟩, by decide, by decide⟩ (hP.at 0 rfl) rfl rfl (RP.of hP [0, 1] rfl hF) hX.1 rfl hl.1 rfl (Nat.le_of_ble_eq_true rfl) dX1_tangent_28 (fun v H9 hk10 hp => ?_)
  obtain ⟨r11, rfl, hr11⟩ := hp
  have hX := hX.tr hk10
  have hP := PP.ext hP hk10
  have hF := RF.ext hF hk10
  have hP := PP.cons hr11 hP
  refine W.eq (g2 := F0 m 31 ls [.ref r11]) rfl ?_
  refine lv_iload X.1 X.2.1 dX1_tangent_31 (lv_at hl 4 rfl) ?_
  refine p_callV (C := RX0) (b := r11) (As := [.int (nI pn)]) (rest := []) X (c_X0_part l g _ pn _ hpn) ⟨mw_271, mw_272, mw_273, mw_39, mw_274⟩ sgX0_part ⟨rfl, rfl, ⟨by decide, by decide⟩, by decide, by decide⟩ (hP.at 0 rfl) rfl rfl (hP.sub [0] rfl) hX.1 rfl hl.1 rfl (Nat.le_of_ble_eq_true rfl) dX1_tangent_33 (fun v H12 hk13 hp => ?_)
  obtain rfl := hp
  have hX := hX.tr hk13
  have hP := PP.ext hP hk13
  have hF := RF.ext hF hk13
  refine W.eq (g2 := F0 m 36 ls [.long (lN (prt (tng x1 y1 q k t cn) pn))]) rfl ?_
  exact vx_ret (p_lret X hX (⟨⟨by simp only [hi, hcu, hj, Bool.and_self], by rw [ek, hg]; rfl, by rw [ek]; exact hr2⟩, by simp only [ek, eT, ecn, epn]⟩) ⟨by decide, by decide⟩ dX1_tangent_36)
set_option maxHeartbeats 4000000 in
set_option maxRecDepth 100000 in
theorem c_X1_peak (l : Launch) (g : En) (o r : Nat) (A : Nat → Nat) (x1 y1 : Nat) (q : Nat → Rat) (j : Int32) (hl0 : l.stackTraces = false) (hO : OK x1 y1 q) : XM l yX1_peak cX1_peak 2 (some FieldType.long) { frames := 8, cells := 7, slots := 18, locals := 116 } g [.ref o, .int j] (fun H => RP g o r A x1 y1 q H) 7 18 (rK (inI j 2) (true) (true) (.long (lN (prt (pk x1 y1 q) (toN j))))) (xk (inI j 2) (true) (true)) := by
  refine XM.of (by decide) (Nat.le_of_ble_eq_true rfl) (fun p e s m below meth c ls X hne hE hG hl => ?_)
  obtain ⟨hP, hF⟩ := hG
  have hl : lv_has ls 2 [(0, .ref o), (1, .int j)] := hl
  have hX : hxt s.heap s.heap := hxt.rf
  have hP : PP g [ob o x1 y1 r, ar g r A] s.heap := hP
  refine lv_iload_n X.1 X.2.1 dX1_peak_0 rfl (lv_at hl 1 rfl) ?_
  refine lv_iconst (v := nI 2) X.1 X.2.1 dX1_peak_1 (by decide) ?_
  refine x_callS (As := [.int j, .int (nI 2)]) (rest := []) X hne hE (c_X1_checkIndex l g j 2 hl0 (by decide)) ⟨mw_175, mw_176, mw_38, mw_177⟩ sgX1_checkIndex ⟨rfl, rfl, ⟨by decide, by decide⟩, by decide, by decide⟩ (trivial) hX rfl hl.1 rfl (Nat.le_of_ble_eq_true rfl) dX1_peak_2 (fun E h => xk_A (fun h9 => by simp only [h9, Bool.false_and, Bool.and_false, Bool.true_and]) h) ⟨by decide, by decide⟩ (fun v H1 hk2 hp => ?_)
  obtain ⟨rfl, hj⟩ := hp
  have hX := hX.tr hk2
  have hP := PP.ext hP hk2
  have hF := RF.ext hF hk2
  refine W.eq (g2 := F0 m 5 ls []) rfl ?_
  obtain ⟨pn, hpn, rfl⟩ := inI_of hj (by decide)
  have epn : toN (nI pn) = pn := toN_k (by omega)
  refine lv_aload_n X.1 X.2.1 dX1_peak_5 rfl (lv_at hl 0 rfl) ?_
  refine p_callV (C := RX1) (b := o) (As := []) (rest := []) X (c_X1_peakHeight l g o r A x1 y1 q hO) ⟨mw_411, mw_413, mw_19, mw_38, mw_414⟩ sgX1_peakHeight ⟨rfl, rfl, ⟨by decide, by decide⟩, by decide, by decide⟩ (hP.at 0 rfl) rfl rfl (RP.of hP [0, 1] rfl hF) hX.1 rfl hl.1 rfl (Nat.le_of_ble_eq_true rfl) dX1_peak_6 (fun v H3 hk4 hp => ?_)
  obtain ⟨r5, rfl, hr5⟩ := hp
  have hX := hX.tr hk4
  have hP := PP.ext hP hk4
  have hF := RF.ext hF hk4
  have hP := PP.cons hr5 hP
  refine W.eq (g2 := F0 m 9 ls [.ref r5]) rfl ?_
  refine lv_iload_n X.1 X.2.1 dX1_peak_9 rfl (lv_at hl 1 rfl) ?_
  refine p_callV (C := RX0) (b := r5) (As := [.int (nI pn)]) (rest := []) X (c_X0_part l g _ pn _ hpn) ⟨mw_271, mw_272, mw_273, mw_39, mw_274⟩ sgX0_part ⟨rfl, rfl, ⟨by decide, by decide⟩, by decide, by decide⟩ (hP.at 0 rfl) rfl rfl (hP.sub [0] rfl) hX.1 rfl hl.1 rfl (Nat.le_of_ble_eq_true rfl) dX1_peak_10 (fun v H6 hk7 hp => ?_)
  obtain rfl := hp
  have hX := hX.tr hk7
  have hP := PP.ext hP hk7
  have hF := RF.ext hF hk7
  refine W.eq (g2 := F0 m 13 ls [.long (lN (prt (pk x1 y1 q) pn))]) rfl ?_
  exact vx_ret (p_lret X hX (⟨⟨hj, rfl, rfl⟩, by simp only [epn]⟩) ⟨by decide, by decide⟩ dX1_peak_13)
set_option maxHeartbeats 4000000 in
set_option maxRecDepth 100000 in
theorem c_X1_ridge (l : Launch) (g : En) (o r : Nat) (A : Nat → Nat) (x1 y1 : Nat) (q : Nat → Rat) (i j : Int32) (hl0 : l.stackTraces = false) (hO : OK x1 y1 q) : XM l yX1_ridge cX1_ridge 3 (some FieldType.long) { frames := 8, cells := 10, slots := 28, locals := 146 } g [.ref o, .int i, .int j] (fun H => RP g o r A x1 y1 q H) 10 28 (rK (inI i 4 && inI j 2) (true) (true) (.long (lN (prt (rdg x1 y1 q (toN i)) (toN j))))) (xk (inI i 4 && inI j 2) (true) (true)) := by
  refine XM.of (by decide) (Nat.le_of_ble_eq_true rfl) (fun p e s m below meth c ls X hne hE hG hl => ?_)
  obtain ⟨hP, hF⟩ := hG
  have hl : lv_has ls 3 [(0, .ref o), (1, .int i), (2, .int j)] := hl
  have hX : hxt s.heap s.heap := hxt.rf
  have hP : PP g [ob o x1 y1 r, ar g r A] s.heap := hP
  refine lv_iload_n X.1 X.2.1 dX1_ridge_0 rfl (lv_at hl 1 rfl) ?_
  refine lv_iconst (v := nI 4) X.1 X.2.1 dX1_ridge_1 (by decide) ?_
  refine x_callS (As := [.int i, .int (nI 4)]) (rest := []) X hne hE (c_X1_checkIndex l g i 4 hl0 (by decide)) ⟨mw_175, mw_176, mw_38, mw_177⟩ sgX1_checkIndex ⟨rfl, rfl, ⟨by decide, by decide⟩, by decide, by decide⟩ (trivial) hX rfl hl.1 rfl (Nat.le_of_ble_eq_true rfl) dX1_ridge_2 (fun E h => xk_A (fun h9 => by simp only [h9, Bool.false_and, Bool.and_false, Bool.true_and]) h) ⟨by decide, by decide⟩ (fun v H1 hk2 hp => ?_)
  obtain ⟨rfl, hi⟩ := hp
  have hX := hX.tr hk2
  have hP := PP.ext hP hk2
  have hF := RF.ext hF hk2
  refine W.eq (g2 := F0 m 5 ls []) rfl ?_
  obtain ⟨k, hk, rfl⟩ := inI_of hi (by decide)
  have ek : toN (nI k) = k := toN_k (by omega)
  refine lv_iload_n X.1 X.2.1 dX1_ridge_5 rfl (lv_at hl 2 rfl) ?_
  refine lv_iconst (v := nI 2) X.1 X.2.1 dX1_ridge_6 (by decide) ?_
  refine x_callS (As := [.int j, .int (nI 2)]) (rest := []) X hne hE (c_X1_checkIndex l g j 2 hl0 (by decide)) ⟨mw_175, mw_176, mw_38, mw_177⟩ sgX1_checkIndex ⟨rfl, rfl, ⟨by decide, by decide⟩, by decide, by decide⟩ (trivial) hX rfl hl.1 rfl (Nat.le_of_ble_eq_true rfl) dX1_ridge_7 (fun E h => xk_A (fun h9 => by simp only [h9, hi, Bool.false_and, Bool.and_false, Bool.true_and]) h) ⟨by decide, by decide⟩ (fun v H3 hk4 hp => ?_)
  obtain ⟨rfl, hj⟩ := hp
  have hX := hX.tr hk4
  have hP := PP.ext hP hk4
  have hF := RF.ext hF hk4
  refine W.eq (g2 := F0 m 10 ls []) rfl ?_
  obtain ⟨pn, hpn, rfl⟩ := inI_of hj (by decide)
  have epn : toN (nI pn) = pn := toN_k (by omega)
  refine lv_aload_n X.1 X.2.1 dX1_ridge_10 rfl (lv_at hl 0 rfl) ?_
  refine lv_iload_n X.1 X.2.1 dX1_ridge_11 rfl (lv_at hl 1 rfl) ?_
  refine p_callV (C := RX1) (b := o) (As := [.int (nI k)]) (rest := []) X (c_X1_ridgeBound l g o r A x1 y1 q k hO hk) ⟨mw_429, mw_431, mw_20, mw_38, mw_432⟩ sgX1_ridgeBound ⟨rfl, rfl, ⟨by decide, by decide⟩, by decide, by decide⟩ (hP.at 0 rfl) rfl rfl (RP.of hP [0, 1] rfl hF) hX.1 rfl hl.1 rfl (Nat.le_of_ble_eq_true rfl) dX1_ridge_12 (fun v H5 hk6 hp => ?_)
  obtain ⟨r7, rfl, hr7⟩ := hp
  have hX := hX.tr hk6
  have hP := PP.ext hP hk6
  have hF := RF.ext hF hk6
  have hP := PP.cons hr7 hP
  refine W.eq (g2 := F0 m 15 ls [.ref r7]) rfl ?_
  refine lv_iload_n X.1 X.2.1 dX1_ridge_15 rfl (lv_at hl 2 rfl) ?_
  refine p_callV (C := RX0) (b := r7) (As := [.int (nI pn)]) (rest := []) X (c_X0_part l g _ pn _ hpn) ⟨mw_271, mw_272, mw_273, mw_39, mw_274⟩ sgX0_part ⟨rfl, rfl, ⟨by decide, by decide⟩, by decide, by decide⟩ (hP.at 0 rfl) rfl rfl (hP.sub [0] rfl) hX.1 rfl hl.1 rfl (Nat.le_of_ble_eq_true rfl) dX1_ridge_16 (fun v H8 hk9 hp => ?_)
  obtain rfl := hp
  have hX := hX.tr hk9
  have hP := PP.ext hP hk9
  have hF := RF.ext hF hk9
  refine W.eq (g2 := F0 m 19 ls [.long (lN (prt (rdg x1 y1 q k) pn))]) rfl ?_
  exact vx_ret (p_lret X hX (⟨⟨by simp only [hi, hj, Bool.and_self], rfl, rfl⟩, by simp only [ek, epn]⟩) ⟨by decide, by decide⟩ dX1_ridge_19)
set_option maxHeartbeats 4000000 in
set_option maxRecDepth 100000 in
theorem c_X1_area (l : Launch) (g : En) (o r : Nat) (A : Nat → Nat) (x1 y1 : Nat) (q : Nat → Rat) (i j : Int32) (hl0 : l.stackTraces = false) (hO : OK x1 y1 q) : XM l yX1_area cX1_area 3 (some FieldType.long) { frames := 8, cells := 14, slots := 40, locals := 128 } g [.ref o, .int i, .int j] (fun H => RP g o r A x1 y1 q H) 14 40 (rK (inI i 4 && inI j 2) (!gab q (toN i)) (true) (.long (lN (prt (are x1 y1 q (toN i)) (toN j))))) (xk (inI i 4 && inI j 2) (!gab q (toN i)) (true)) := by
  refine XM.of (by decide) (Nat.le_of_ble_eq_true rfl) (fun p e s m below meth c ls X hne hE hG hl => ?_)
  obtain ⟨hP, hF⟩ := hG
  have hl : lv_has ls 3 [(0, .ref o), (1, .int i), (2, .int j)] := hl
  have hX : hxt s.heap s.heap := hxt.rf
  have hP : PP g [ob o x1 y1 r, ar g r A] s.heap := hP
  refine lv_iload_n X.1 X.2.1 dX1_area_0 rfl (lv_at hl 1 rfl) ?_
  refine lv_iconst (v := nI 4) X.1 X.2.1 dX1_area_1 (by decide) ?_
  refine x_callS (As := [.int i, .int (nI 4)]) (rest := []) X hne hE (c_X1_checkIndex l g i 4 hl0 (by decide)) ⟨mw_175, mw_176, mw_38, mw_177⟩ sgX1_checkIndex ⟨rfl, rfl, ⟨by decide, by decide⟩, by decide, by decide⟩ (trivial) hX rfl hl.1 rfl (Nat.le_of_ble_eq_true rfl) dX1_area_2 (fun E h => xk_A (fun h9 => by simp only [h9, Bool.false_and, Bool.and_false, Bool.true_and]) h) ⟨by decide, by decide⟩ (fun v H1 hk2 hp => ?_)
  obtain ⟨rfl, hi⟩ := hp
  have hX := hX.tr hk2
  have hP := PP.ext hP hk2
  have hF := RF.ext hF hk2
  refine W.eq (g2 := F0 m 5 ls []) rfl ?_
  obtain ⟨k, hk, rfl⟩ := inI_of hi (by decide)
  have ek : toN (nI k) = k := toN_k (by omega)
  refine lv_iload_n X.1 X.2.1 dX1_area_5 rfl (lv_at hl 2 rfl) ?_
  refine lv_iconst (v := nI 2) X.1 X.2.1 dX1_area_6 (by decide) ?_
  refine x_callS (As := [.int j, .int (nI 2)]) (rest := []) X hne hE (c_X1_checkIndex l g j 2 hl0 (by decide)) ⟨mw_175, mw_176, mw_38, mw_177⟩ sgX1_checkIndex ⟨rfl, rfl, ⟨by decide, by decide⟩, by decide, by decide⟩ (trivial) hX rfl hl.1 rfl (Nat.le_of_ble_eq_true rfl) dX1_area_7 (fun E h => xk_A (fun h9 => by simp only [h9, hi, Bool.false_and, Bool.and_false, Bool.true_and]) h) ⟨by decide, by decide⟩ (fun v H3 hk4 hp => ?_)
  obtain ⟨rfl, hj⟩ := hp
  have hX := hX.tr hk4
  have hP := PP.ext hP hk4
  have hF := RF.ext hF hk4
  refine W.eq (g2 := F0 m 10 ls []) rfl ?_
  obtain ⟨pn, hpn, rfl⟩ := inI_of hj (by decide)
  have epn : toN (nI pn) = pn := toN_k (by omega)
  refine lv_aload_n X.1 X.2.1 dX1_area_10 rfl (lv_at hl 0 rfl) ?_
  refine lv_iload_n X.1 X.2.1 dX1_area_11 rfl (lv_at hl 1 rfl) ?_
  refine x_callV (C := RX1) (b := o) (As := [.int (nI k)]) (rest := []) X hne hE (c_X1_checkNoGable l g o r A x1 y1 q k hl0 hk (hO.2.2.1 _ hk)) ⟨mw_289, mw_291, mw_9, mw_38, mw_292⟩ sgX1_checkNoGable ⟨rfl, rfl, ⟨by decide, by decide⟩, by decide, by decide⟩ (hP.at 0 rfl) rfl rfl (RP.of hP [0, 1] rfl hF) hX rfl hl.1 rfl (Nat.le_of_ble_eq_true rfl) dX1_area_12 (fun E h => xk_S (by simp only [hi, hj, Bool.and_self]) (fun h9 => by rw [ek]; exact h9) h) ⟨by decide, by decide⟩ (fun v H5 hk6 hp => ?_)
  obtain ⟨rfl, hr1⟩ := hp
  have hX := hX.tr hk6
  have hP := PP.ext hP hk6
  have hF := RF.ext hF hk6
  refine W.eq (g2 := F0 m 15 ls []) rfl ?_
  have hg := notL hr1
  refine lv_aload_n X.1 X.2.1 dX1_area_15 rfl (lv_at hl 0 rfl) ?_
  refine lv_iload_n X.1 X.2.1 dX1_area_16 rfl (lv_at hl 1 rfl) ?_
  refine p_callV (C := RX1) (b := o) (As := [.int (nI k)]) (rest := []) X (c_X1_twiceArea l g o r A x1 y1 q k hO hk) ⟨mw_444, mw_446, mw_21, mw_38, mw_447⟩ sgX1_twiceArea ⟨rfl, rfl, ⟨by decide, by decide⟩, by decide, by decide⟩ (hP.at 0 rfl) rfl rfl (RP.of hP [0, 1] rfl hF) hX.1 rfl hl.1 rfl (Nat.le_of_ble_eq_true rfl) dX1_area_17 (fun v H7 hk8 hp => ?_)
  obtain ⟨r9, rfl, hr9⟩ := hp
  have hX := hX.tr hk8
  have hP := PP.ext hP hk8
  have hF := RF.ext hF hk8
  have hP := PP.cons hr9 hP
  refine W.eq (g2 := F0 m 20 ls [.ref r9]) rfl ?_
  refine lv_iload_n X.1 X.2.1 dX1_area_20 rfl (lv_at hl 2 rfl) ?_
  refine p_callV (C := RX0) (b := r9) (As := [.int (nI pn)]) (rest := []) X (c_X0_part l g _ pn _ hpn) ⟨mw_271, mw_272, mw_273, mw_39, mw_274⟩ sgX0_part ⟨rfl, rfl, ⟨by decide, by decide⟩, by decide, by decide⟩ (hP.at 0 rfl) rfl rfl (hP.sub [0] rfl) hX.1 rfl hl.1 rfl (Nat.le_of_ble_eq_true rfl) dX1_area_21 (fun v H10 hk11 hp => ?_)
  obtain rfl := hp
  have hX := hX.tr hk11
  have hP := PP.ext hP hk11
  have hF := RF.ext hF hk11
  refine W.eq (g2 := F0 m 24 ls [.long (lN (prt (are x1 y1 q k) pn))]) rfl ?_
  exact vx_ret (p_lret X hX (⟨⟨by simp only [hi, hj, Bool.and_self], by rw [ek, hg]; rfl, rfl⟩, by simp only [ek, epn]⟩) ⟨by decide, by decide⟩ dX1_area_24)
set_option maxHeartbeats 4000000 in
set_option maxRecDepth 100000 in
theorem c_X1_mouth (l : Launch) (g : En) (o r : Nat) (A : Nat → Nat) (x1 y1 : Nat) (q : Nat → Rat) (i : Int32) (v0 : Int64) (j : Int32) (hl0 : l.stackTraces = false) (hO : OK x1 y1 q) : XM l yX1_mouth cX1_mouth 5 (some FieldType.long) { frames := 8, cells := 5, slots := 26, locals := 116 } g [.ref o, .int i, .long v0, .int j] (fun H => RP g o r A x1 y1 q H) 5 26 (rK (inI i 4 && inI j 2) (!gab q (toN i)) (inL v0 0 1000) (.long (lN (prt (q (toN i) * ((toL v0 : Nat) : Rat)) (toN j))))) (xk (inI i 4 && inI j 2) (!gab q (toN i)) (inL v0 0 1000)) := by
  refine XM.of (by decide) (Nat.le_of_ble_eq_true rfl) (fun p e s m below meth c ls X hne hE hG hl => ?_)
  obtain ⟨hP, hF⟩ := hG
  have hl : lv_has ls 5 [(0, .ref o), (1, .int i), (2, .long v0), (4, .int j)] := hl
  have hX : hxt s.heap s.heap := hxt.rf
  have hP : PP g [ob o x1 y1 r, ar g r A] s.heap := hP
  refine lv_iload_n X.1 X.2.1 dX1_mouth_0 rfl (lv_at hl 1 rfl) ?_
  refine lv_iconst (v := nI 4) X.1 X.2.1 dX1_mouth_1 (by decide) ?_
  refine x_callS (As := [.int i, .int (nI 4)]) (rest := []) X hne hE (c_X1_checkIndex l g i 4 hl0 (by decide)) ⟨mw_175, mw_176, mw_38, mw_177⟩ sgX1_checkIndex ⟨rfl, rfl, ⟨by decide, by decide⟩, by decide, by decide⟩ (trivial) hX rfl hl.1 rfl (Nat.le_of_ble_eq_true rfl) dX1_mouth_2 (fun E h => xk_A (fun h9 => by simp only [h9, Bool.false_and, Bool.and_false, Bool.true_and]) h) ⟨by decide, by decide⟩ (fun v H1 hk2 hp => ?_)
  obtain ⟨rfl, hi⟩ := hp
  have hX := hX.tr hk2
  have hP := PP.ext hP hk2
  have hF := RF.ext hF hk2
  refine W.eq (g2 := F0 m 5 ls []) rfl ?_
  obtain ⟨k, hk, rfl⟩ := inI_of hi (by decide)
  have ek : toN (nI k) = k := toN_k (by omega)
  refine lv_iload X.1 X.2.1 dX1_mouth_5 (lv_at hl 3 rfl) ?_
  refine lv_iconst (v := nI 2) X.1 X.2.1 dX1_mouth_7 (by decide) ?_
  refine x_callS (As := [.int j, .int (nI 2)]) (rest := []) X hne hE (c_X1_checkIndex l g j 2 hl0 (by decide)) ⟨mw_175, mw_176, mw_38, mw_177⟩ sgX1_checkIndex ⟨rfl, rfl, ⟨by decide, by decide⟩, by decide, by decide⟩ (trivial) hX rfl hl.1 rfl (Nat.le_of_ble_eq_true rfl) dX1_mouth_8 (fun E h => xk_A (fun h9 => by simp only [h9, hi, Bool.false_and, Bool.and_false, Bool.true_and]) h) ⟨by decide, by decide⟩ (fun v H3 hk4 hp => ?_)
  obtain ⟨rfl, hj⟩ := hp
  have hX := hX.tr hk4
  have hP := PP.ext hP hk4
  have hF := RF.ext hF hk4
  refine W.eq (g2 := F0 m 11 ls []) rfl ?_
  obtain ⟨pn, hpn, rfl⟩ := inI_of hj (by decide)
  have epn : toN (nI pn) = pn := toN_k (by omega)
  refine lv_aload_n X.1 X.2.1 dX1_mouth_11 rfl (lv_at hl 0 rfl) ?_
  refine lv_iload_n X.1 X.2.1 dX1_mouth_12 rfl (lv_at hl 1 rfl) ?_
  refine x_callV (C := RX1) (b := o) (As := [.int (nI k)]) (rest := []) X hne hE (c_X1_checkNoGable l g o r A x1 y1 q k hl0 hk (hO.2.2.1 _ hk)) ⟨mw_289, mw_291, mw_9, mw_38, mw_292⟩ sgX1_checkNoGable ⟨rfl, rfl, ⟨by decide, by decide⟩, by decide, by decide⟩ (hP.at 0 rfl) rfl rfl (RP.of hP [0, 1] rfl hF) hX rfl hl.1 rfl (Nat.le_of_ble_eq_true rfl) dX1_mouth_13 (fun E h => xk_S (by simp only [hi, hj, Bool.and_self]) (fun h9 => by rw [ek]; exact h9) h) ⟨by decide, by decide⟩ (fun v H5 hk6 hp => ?_)
  obtain ⟨rfl, hr1⟩ := hp
  have hX := hX.tr hk6
  have hP := PP.ext hP hk6
  have hF := RF.ext hF hk6
  refine W.eq (g2 := F0 m 16 ls []) rfl ?_
  have hg := notL hr1
  refine lv_lload_n X.1 X.2.1 dX1_mouth_16 rfl (lv_at hl 2 rfl) ?_
  refine lv_lconst (v := lN 0) X.1 X.2.1 dX1_mouth_17 (by decide) ?_
  refine lv_ldc2 (v := 1000) X.1 X.2.1 X.2.2.2.1 (X.2.2.2.2.1 _ (List.mem_cons_of_mem _ mw_56)) dX1_mouth_18 ?_
  refine w_l (v' := lN 1000) (by decide) ?_
  refine x_callS (As := [.long v0, .long (lN 0), .long (lN 1000)]) (rest := []) X hne hE (c_X1_checkNumber l g v0 0 1000 hl0 (by decide) (by decide)) ⟨mw_96, mw_97, mw_38, mw_98⟩ sgX1_checkNumber ⟨rfl, rfl, ⟨by decide, by decide⟩, by decide, by decide⟩ (trivial) hX rfl hl.1 rfl (Nat.le_of_ble_eq_true rfl) dX1_mouth_21 (fun E h => xk_G (by simp only [hi, hj, Bool.and_self]) (by rw [ek, hg]; rfl) (fun h9 => h9) h) ⟨by decide, by decide⟩ (fun v H7 hk8 hp => ?_)
  obtain ⟨rfl, hr2⟩ := hp
  have hX := hX.tr hk8
  have hP := PP.ext hP hk8
  have hF := RF.ext hF hk8
  refine W.eq (g2 := F0 m 24 ls []) rfl ?_
  obtain ⟨t, ht0, ht, rfl⟩ := inL_of hr2 (by decide)
  have eT : toL (lN t) = t := toL_k (by omega)
  refine lv_aload_n X.1 X.2.1 dX1_mouth_24 rfl (lv_at hl 0 rfl) ?_
  refine p_get (T := TX1) X uX1 (hP.at 0 rfl) rfl 2 (by decide) mw_79 rfl rfl dX1_mouth_25 ?_
  refine lv_iload_n X.1 X.2.1 dX1_mouth_28 rfl (lv_at hl 1 rfl) ?_
  refine p_aald X (hP.at 1 rfl) hk (by decide) (r := A k) rfl dX1_mouth_29 ?_
  have hP := PP.cons (hF k hk) hP
  refine lv_lload_n X.1 X.2.1 dX1_mouth_30 rfl (lv_at hl 2 rfl) ?_
  refine p_callV (C := RX0) (b := A k) (As := [.long (lN t)]) (rest := []) X (b_timesn l g _ (hO.2.2.1 k hk) ht (by decide) (by decide)) ⟨mw_342, mw_343, mw_344, mw_39, mw_345⟩ sgX0_times_ ⟨rfl, rfl, ⟨by decide, by decide⟩, by decide, by decide⟩ (hP.at 0 rfl) rfl rfl (hP.sub [0] rfl) hX.1 rfl hl.1 rfl (Nat.le_of_ble_eq_true rfl) dX1_mouth_31 (fun v H9 hk10 hp => ?_)
  obtain ⟨r11, rfl, hr11⟩ := hp
  have hX := hX.tr hk10
  have hP := PP.ext hP hk10
  have hF := RF.ext hF hk10
  have hP := PP.cons hr11 hP
  refine W.eq (g2 := F0 m 34 ls [.ref r11]) rfl ?_
  refine lv_iload X.1 X.2.1 dX1_mouth_34 (lv_at hl 3 rfl) ?_
  refine p_callV (C := RX0) (b := r11) (As := [.int (nI pn)]) (rest := []) X (c_X0_part l g _ pn _ hpn) ⟨mw_271, mw_272, mw_273, mw_39, mw_274⟩ sgX0_part ⟨rfl, rfl, ⟨by decide, by decide⟩, by decide, by decide⟩ (hP.at 0 rfl) rfl rfl (hP.sub [0] rfl) hX.1 rfl hl.1 rfl (Nat.le_of_ble_eq_true rfl) dX1_mouth_36 (fun v H12 hk13 hp => ?_)
  obtain rfl := hp
  have hX := hX.tr hk13
  have hP := PP.ext hP hk13
  have hF := RF.ext hF hk13
  refine W.eq (g2 := F0 m 39 ls [.long (lN (prt (q k * ((t : Nat) : Rat)) pn))]) rfl ?_
  exact vx_ret (p_lret X hX (⟨⟨by simp only [hi, hj, Bool.and_self], by rw [ek, hg]; rfl, hr2⟩, by simp only [ek, eT, epn]⟩) ⟨by decide, by decide⟩ dX1_mouth_39)
set_option maxHeartbeats 4000000 in
set_option maxRecDepth 100000 in
theorem c_X1_rafter (l : Launch) (g : En) (o r : Nat) (A : Nat → Nat) (x1 y1 : Nat) (q : Nat → Rat) (i : Int32) (v0 : Int64) (hl0 : l.stackTraces = false) (hO : OK x1 y1 q) : XM l yX1_rafter cX1_rafter 4 (some FieldType.int) { frames := 8, cells := 3, slots := 18, locals := 116 } g [.ref o, .int i, .long v0] (fun H => RP g o r A x1 y1 q H) 3 18 (rK (inI i 4) (!gab q (toN i)) (inL v0 1 10000) (.int (nI (slen x1 y1 (toN i) / toL v0 + 1)))) (xk (inI i 4) (!gab q (toN i)) (inL v0 1 10000)) := by
  refine XM.of (by decide) (Nat.le_of_ble_eq_true rfl) (fun p e s m below meth c ls X hne hE hG hl => ?_)
  obtain ⟨hP, hF⟩ := hG
  have hl : lv_has ls 4 [(0, .ref o), (1, .int i), (2, .long v0)] := hl
  have hX : hxt s.heap s.heap := hxt.rf
  have hP : PP g [ob o x1 y1 r, ar g r A] s.heap := hP
  refine lv_iload_n X.1 X.2.1 dX1_rafter_0 rfl (lv_at hl 1 rfl) ?_
  refine lv_iconst (v := nI 4) X.1 X.2.1 dX1_rafter_1 (by decide) ?_
  refine x_callS (As := [.int i, .int (nI 4)]) (rest := []) X hne hE (c_X1_checkIndex l g i 4 hl0 (by decide)) ⟨mw_175, mw_176, mw_38, mw_177⟩ sgX1_checkIndex ⟨rfl, rfl, ⟨by decide, by decide⟩, by decide, by decide⟩ (trivial) hX rfl hl.1 rfl (Nat.le_of_ble_eq_true rfl) dX1_rafter_2 (fun E h => xk_A (fun h9 => by simp only [h9, Bool.false_and, Bool.and_false, Bool.true_and]) h) ⟨by decide, by decide⟩ (fun v H1 hk2 hp => ?_)
  obtain ⟨rfl, hi⟩ := hp
  have hX := hX.tr hk2
  have hP := PP.ext hP hk2
  have hF := RF.ext hF hk2
  refine W.eq (g2 := F0 m 5 ls []) rfl ?_
  obtain ⟨k, hk, rfl⟩ := inI_of hi (by decide)
  have ek : toN (nI k) = k := toN_k (by omega)
  refine lv_aload_n X.1 X.2.1 dX1_rafter_5 rfl (lv_at hl 0 rfl) ?_
  refine lv_iload_n X.1 X.2.1 dX1_rafter_6 rfl (lv_at hl 1 rfl) ?_
  refine x_callV (C := RX1) (b := o) (As := [.int (nI k)]) (rest := []) X hne hE (c_X1_checkNoGable l g o r A x1 y1 q k hl0 hk (hO.2.2.1 _ hk)) ⟨mw_289, mw_291, mw_9, mw_38, mw_292⟩ sgX1_checkNoGable ⟨rfl, rfl, ⟨by decide, by decide⟩, by decide, by decide⟩ (hP.at 0 rfl) rfl rfl (RP.of hP [0, 1] rfl hF) hX rfl hl.1 rfl (Nat.le_of_ble_eq_true rfl) dX1_rafter_7 (fun E h => xk_S (by simp only [hi, Bool.and_self]) (fun h9 => by rw [ek]; exact h9) h) ⟨by decide, by decide⟩ (fun v H3 hk4 hp => ?_)
  obtain ⟨rfl, hr1⟩ := hp
  have hX := hX.tr hk4
  have hP := PP.ext hP hk4
  have hF := RF.ext hF hk4
  refine W.eq (g2 := F0 m 10 ls []) rfl ?_
  have hg := notL hr1
  refine lv_lload_n X.1 X.2.1 dX1_rafter_10 rfl (lv_at hl 2 rfl) ?_
  refine lv_lconst (v := lN 1) X.1 X.2.1 dX1_rafter_11 (by decide) ?_
  refine lv_ldc2 (v := 10000) X.1 X.2.1 X.2.2.2.1 (X.2.2.2.2.1 _ (List.mem_cons_of_mem _ mw_294)) dX1_rafter_12 ?_
  refine w_l (v' := lN 10000) (by decide) ?_
  refine x_callS (As := [.long v0, .long (lN 1), .long (lN 10000)]) (rest := []) X hne hE (c_X1_checkNumber l g v0 1 10000 hl0 (by decide) (by decide)) ⟨mw_96, mw_97, mw_38, mw_98⟩ sgX1_checkNumber ⟨rfl, rfl, ⟨by decide, by decide⟩, by decide, by decide⟩ (trivial) hX rfl hl.1 rfl (Nat.le_of_ble_eq_true rfl) dX1_rafter_15 (fun E h => xk_G (by simp only [hi, Bool.and_self]) (by rw [ek, hg]; rfl) (fun h9 => h9) h) ⟨by decide, by decide⟩ (fun v H5 hk6 hp => ?_)
  obtain ⟨rfl, hr2⟩ := hp
  have hX := hX.tr hk6
  have hP := PP.ext hP hk6
  have hF := RF.ext hF hk6
  refine W.eq (g2 := F0 m 18 ls []) rfl ?_
  obtain ⟨t, ht0, ht, rfl⟩ := inL_of hr2 (by decide)
  have eT : toL (lN t) = t := toL_k (by omega)
  refine lv_aload_n X.1 X.2.1 dX1_rafter_18 rfl (lv_at hl 0 rfl) ?_
  refine lv_iload_n X.1 X.2.1 dX1_rafter_19 rfl (lv_at hl 1 rfl) ?_
  have hsl := slen_le hO k
  refine p_callV (C := RX1) (b := o) (As := [.int (nI k)]) (rest := []) X (c_X1_sideLength l g o r A x1 y1 q k hk) ⟨mw_295, mw_297, mw_10, mw_38, mw_298⟩ sgX1_sideLength ⟨rfl, rfl, ⟨by decide, by decide⟩, by decide, by decide⟩ (hP.at 0 rfl) rfl rfl (RP.of hP [0, 1] rfl hF) hX.1 rfl hl.1 rfl (Nat.le_of_ble_eq_true rfl) dX1_rafter_20 (fun v H7 hk8 hp => ?_)
  obtain rfl := hp
  have hX := hX.tr hk8
  have hP := PP.ext hP hk8
  have hF := RF.ext hF hk8
  refine W.eq (g2 := F0 m 23 ls [.long (lN (slen x1 y1 k))]) rfl ?_
  refine lv_lload_n X.1 X.2.1 dX1_rafter_23 rfl (lv_at hl 2 rfl) ?_
  refine lv_ldiv X.1 X.2.1 dX1_rafter_24 (ln_ne (by omega) (by omega)) ?_
  refine w_l (pk_lDiv (by omega) (by omega) (by omega)) ?_
  refine lv_l2i X.1 X.2.1 dX1_rafter_25 (lN_i _) ?_
  refine lv_iconst (v := nI 1) X.1 X.2.1 dX1_rafter_26 (by decide) ?_
  refine lv_iadd X.1 X.2.1 dX1_rafter_27 ?_
  refine w_i (nI_add _ _) ?_
  exact vx_ret (p_iret X hX (⟨⟨hi, by rw [ek, hg]; rfl, hr2⟩, by simp only [ek, eT]⟩) ⟨by decide, by decide⟩ dX1_rafter_28)
set_option maxHeartbeats 4000000 in
set_option maxRecDepth 100000 in
theorem c_X1_batten (l : Launch) (g : En) (o r : Nat) (A : Nat → Nat) (x1 y1 : Nat) (q : Nat → Rat) (i : Int32) (v0 : Int64) (hl0 : l.stackTraces = false) (hO : OK x1 y1 q) : XM l yX1_batten cX1_batten 6 (some FieldType.int) { frames := 8, cells := 16, slots := 44, locals := 125 } g [.ref o, .int i, .long v0] (fun H => RP g o r A x1 y1 q H) 16 44 (rK (inI i 4) (!gab q (toN i)) (inL v0 1 10000) (.int (nI (isq (nu (sqr q (toN i) (pk x1 y1 q * q (toN i))) / (sqr q (toN i) (pk x1 y1 q * q (toN i))).den) / toL v0)))) (xk (inI i 4) (!gab q (toN i)) (inL v0 1 10000)) := by
  refine XM.of (by decide) (Nat.le_of_ble_eq_true rfl) (fun p e s m below meth c ls X hne hE hG hl => ?_)
  obtain ⟨hP, hF⟩ := hG
  have hl : lv_has ls 6 [(0, .ref o), (1, .int i), (2, .long v0)] := hl
  have hX : hxt s.heap s.heap := hxt.rf
  have hP : PP g [ob o x1 y1 r, ar g r A] s.heap := hP
  refine lv_iload_n X.1 X.2.1 dX1_batten_0 rfl (lv_at hl 1 rfl) ?_
  refine lv_iconst (v := nI 4) X.1 X.2.1 dX1_batten_1 (by decide) ?_
  refine x_callS (As := [.int i, .int (nI 4)]) (rest := []) X hne hE (c_X1_checkIndex l g i 4 hl0 (by decide)) ⟨mw_175, mw_176, mw_38, mw_177⟩ sgX1_checkIndex ⟨rfl, rfl, ⟨by decide, by decide⟩, by decide, by decide⟩ (trivial) hX rfl hl.1 rfl (Nat.le_of_ble_eq_true rfl) dX1_batten_2 (fun E h => xk_A (fun h9 => by simp only [h9, Bool.false_and, Bool.and_false, Bool.true_and]) h) ⟨by decide, by decide⟩ (fun v H1 hk2 hp => ?_)
  obtain ⟨rfl, hi⟩ := hp
  have hX := hX.tr hk2
  have hP := PP.ext hP hk2
  have hF := RF.ext hF hk2
  refine W.eq (g2 := F0 m 5 ls []) rfl ?_
  obtain ⟨k, hk, rfl⟩ := inI_of hi (by decide)
  have ek : toN (nI k) = k := toN_k (by omega)
  refine lv_aload_n X.1 X.2.1 dX1_batten_5 rfl (lv_at hl 0 rfl) ?_
  refine lv_iload_n X.1 X.2.1 dX1_batten_6 rfl (lv_at hl 1 rfl) ?_
  refine x_callV (C := RX1) (b := o) (As := [.int (nI k)]) (rest := []) X hne hE (c_X1_checkNoGable l g o r A x1 y1 q k hl0 hk (hO.2.2.1 _ hk)) ⟨mw_289, mw_291, mw_9, mw_38, mw_292⟩ sgX1_checkNoGable ⟨rfl, rfl, ⟨by decide, by decide⟩, by decide, by decide⟩ (hP.at 0 rfl) rfl rfl (RP.of hP [0, 1] rfl hF) hX rfl hl.1 rfl (Nat.le_of_ble_eq_true rfl) dX1_batten_7 (fun E h => xk_S (by simp only [hi, Bool.and_self]) (fun h9 => by rw [ek]; exact h9) h) ⟨by decide, by decide⟩ (fun v H3 hk4 hp => ?_)
  obtain ⟨rfl, hr1⟩ := hp
  have hX := hX.tr hk4
  have hP := PP.ext hP hk4
  have hF := RF.ext hF hk4
  refine W.eq (g2 := F0 m 10 ls []) rfl ?_
  have hg := notL hr1
  refine lv_lload_n X.1 X.2.1 dX1_batten_10 rfl (lv_at hl 2 rfl) ?_
  refine lv_lconst (v := lN 1) X.1 X.2.1 dX1_batten_11 (by decide) ?_
  refine lv_ldc2 (v := 10000) X.1 X.2.1 X.2.2.2.1 (X.2.2.2.2.1 _ (List.mem_cons_of_mem _ mw_294)) dX1_batten_12 ?_
  refine w_l (v' := lN 10000) (by decide) ?_
  refine x_callS (As := [.long v0, .long (lN 1), .long (lN 10000)]) (rest := []) X hne hE (c_X1_checkNumber l g v0 1 10000 hl0 (by decide) (by decide)) ⟨mw_96, mw_97, mw_38, mw_98⟩ sgX1_checkNumber ⟨rfl, rfl, ⟨by decide, by decide⟩, by decide, by decide⟩ (trivial) hX rfl hl.1 rfl (Nat.le_of_ble_eq_true rfl) dX1_batten_15 (fun E h => xk_G (by simp only [hi, Bool.and_self]) (by rw [ek, hg]; rfl) (fun h9 => h9) h) ⟨by decide, by decide⟩ (fun v H5 hk6 hp => ?_)
  obtain ⟨rfl, hr2⟩ := hp
  have hX := hX.tr hk6
  have hP := PP.ext hP hk6
  have hF := RF.ext hF hk6
  refine W.eq (g2 := F0 m 18 ls []) rfl ?_
  obtain ⟨t, ht0, ht, rfl⟩ := inL_of hr2 (by decide)
  have eT : toL (lN t) = t := toL_k (by omega)
  refine lv_aload_n X.1 X.2.1 dX1_batten_18 rfl (lv_at hl 0 rfl) ?_
  refine lv_iload_n X.1 X.2.1 dX1_batten_19 rfl (lv_at hl 1 rfl) ?_
  refine lv_aload_n X.1 X.2.1 dX1_batten_20 rfl (lv_at hl 0 rfl) ?_
  refine lv_iload_n X.1 X.2.1 dX1_batten_21 rfl (lv_at hl 1 rfl) ?_
  have bz := bd_in hO hk
  have bs := bd_sqr (hO.2.2.1 k hk) (gab_pos (hO.2.2.1 k hk) hg) bz
  refine p_callV (C := RX1) (b := o) (As := [.int (nI k)]) (rest := [.int (nI k), .ref o]) X (c_X1_inAtPeak l g o r A x1 y1 q k hO hk) ⟨mw_407, mw_409, mw_18, mw_38, mw_410⟩ sgX1_inAtPeak ⟨rfl, rfl, ⟨by decide, by decide⟩, by decide, by decide⟩ (hP.at 0 rfl) rfl rfl (RP.of hP [0, 1] rfl hF) hX.1 rfl hl.1 rfl (Nat.le_of_ble_eq_true rfl) dX1_batten_22 (fun v H7 hk8 hp => ?_)
  obtain ⟨r9, rfl, hr9⟩ := hp
  have hX := hX.tr hk8
  have hP := PP.ext hP hk8
  have hF := RF.ext hF hk8
  have hP := PP.cons hr9 hP
  refine W.eq (g2 := F0 m 25 ls [.ref r9, .int (nI k), .ref o]) rfl ?_
  refine p_callV (C := RX1) (b := o) (As := [.int (nI k), .ref r9]) (rest := []) X (c_X1_squareAlongSlope l g o r A x1 y1 q k r9 _ hO hk hg bz) ⟨mw_360, mw_362, mw_16, mw_38, mw_363⟩ sgX1_squareAlongSlope ⟨rfl, rfl, ⟨by decide, by decide⟩, by decide, by decide⟩ (hP.at 1 rfl) rfl rfl (⟨RP.of hP [1, 2] rfl hF, hP.at 0 rfl⟩) hX.1 rfl hl.1 rfl (Nat.le_of_ble_eq_true rfl) dX1_batten_25 (fun v H10 hk11 hp => ?_)
  obtain ⟨r12, rfl, hr12⟩ := hp
  have hX := hX.tr hk11
  have hP := PP.ext hP hk11
  have hF := RF.ext hF hk11
  have hP := PP.cons hr12 hP
  refine W.eq (g2 := F0 m 28 ls [.ref r12]) rfl ?_
  generalize hSS : sqr q k (pk x1 y1 q * q k) = SS at bs hP
  refine p_callV (C := RX0) (b := r12) (As := []) (rest := []) X (b_cut l g _ bs (by decide) (by decide)) ⟨mw_372, mw_373, mw_374, mw_39, mw_375⟩ sgX0_cutOff ⟨rfl, rfl, ⟨by decide, by decide⟩, by decide, by decide⟩ (hP.at 0 rfl) rfl rfl (hP.sub [0] rfl) hX.1 rfl hl.1 rfl (Nat.le_of_ble_eq_true rfl) dX1_batten_28 (fun v H13 hk14 hp => ?_)
  obtain rfl := hp
  have hX := hX.tr hk14
  have hP := PP.ext hP hk14
  have hF := RF.ext hF hk14
  refine W.eq (g2 := F0 m 31 ls [.long (lN (nu SS / SS.den))]) rfl ?_
  have hn1 := bs.2.1
  have hq9 : nu SS / SS.den ≤ nu SS := Nat.div_le_self _ _
  have hsq := isq_ok (n := nu SS / SS.den) (by omega)
  refine p_callS (As := [.long (lN (nu SS / SS.den))]) (rest := []) X (c_X1_root l g _ (by omega)) ⟨mw_376, mw_377, mw_38, mw_378⟩ sgX1_root ⟨rfl, rfl, ⟨by decide, by decide⟩, by decide, by decide⟩ (trivial) hX.1 rfl hl.1 rfl (Nat.le_of_ble_eq_true rfl) dX1_batten_31 (fun v H15 hk16 hp => ?_)
  obtain rfl := hp
  have hX := hX.tr hk16
  have hP := PP.ext hP hk16
  have hF := RF.ext hF hk16
  refine W.eq (g2 := F0 m 34 ls [.long (lN (isq (nu SS / SS.den)))]) rfl ?_
  have hle9 : isq (nu SS / SS.den) ≤ nu SS / SS.den := sq_le hsq.1
  refine lv_lstore (lv' := [(4, .long (lN (isq (nu SS / SS.den)))), (0, .ref o), (1, .int (nI k)), (2, .long (lN t))]) X.1 X.2.1 dX1_batten_34 hl (by decide) rfl (fun ls hl => ?_)
  refine lv_lload X.1 X.2.1 dX1_batten_36 (lv_at hl 0 rfl) ?_
  refine lv_lload_n X.1 X.2.1 dX1_batten_38 rfl (lv_at hl 3 rfl) ?_
  refine lv_ldiv X.1 X.2.1 dX1_batten_39 (ln_ne (by omega) (by omega)) ?_
  refine w_l (pk_lDiv (by omega) (by omega) (by omega)) ?_
  refine lv_l2i X.1 X.2.1 dX1_batten_40 (lN_i _) ?_
  exact vx_ret (p_iret X hX (⟨⟨hi, by rw [ek, hg]; rfl, hr2⟩, by simp only [ek, eT, hSS]⟩) ⟨by decide, by decide⟩ dX1_batten_41)
set_option maxHeartbeats 4000000 in
set_option maxRecDepth 100000 in
theorem c_X1_hip (l : Launch) (g : En) (o r : Nat) (A : Nat → Nat) (x1 y1 : Nat) (q : Nat → Rat) (i wh j : Int32) (hl0 : l.stackTraces = false) (hO : OK x1 y1 q) : XM l yX1_hip cX1_hip 5 (some FieldType.long) { frames := 8, cells := 12, slots := 44, locals := 125 } g [.ref o, .int i, .int wh, .int j] (fun H => RP g o r A x1 y1 q H) 12 44 (rK (inI i 4 && inI wh 2 && inI j 2) (!gab q (toN i) && !gab q (behind (toN i))) (true) (.long (lN (prt (pk x1 y1 q * q (if toN wh = 0 then toN i else behind (toN i))) (toN j))))) (xk (inI i 4 && inI wh 2 && inI j 2) (!gab q (toN i) && !gab q (behind (toN i))) (true)) := by
  refine XM.of (by decide) (Nat.le_of_ble_eq_true rfl) (fun p e s m below meth c ls X hne hE hG hl => ?_)
  obtain ⟨hP, hF⟩ := hG
  have hl : lv_has ls 5 [(0, .ref o), (1, .int i), (2, .int wh), (3, .int j)] := hl
  have hX : hxt s.heap s.heap := hxt.rf
  have hP : PP g [ob o x1 y1 r, ar g r A] s.heap := hP
  refine lv_iload_n X.1 X.2.1 dX1_hip_0 rfl (lv_at hl 1 rfl) ?_
  refine lv_iconst (v := nI 4) X.1 X.2.1 dX1_hip_1 (by decide) ?_
  refine x_callS (As := [.int i, .int (nI 4)]) (rest := []) X hne hE (c_X1_checkIndex l g i 4 hl0 (by decide)) ⟨mw_175, mw_176, mw_38, mw_177⟩ sgX1_checkIndex ⟨rfl, rfl, ⟨by decide, by decide⟩, by decide, by decide⟩ (trivial) hX rfl hl.1 rfl (Nat.le_of_ble_eq_true rfl) dX1_hip_2 (fun E h => xk_A (fun h9 => by simp only [h9, Bool.false_and, Bool.and_false, Bool.true_and]) h) ⟨by decide, by decide⟩ (fun v H1 hk2 hp => ?_)
  obtain ⟨rfl, hi⟩ := hp
  have hX := hX.tr hk2
  have hP := PP.ext hP hk2
  have hF := RF.ext hF hk2
  refine W.eq (g2 := F0 m 5 ls []) rfl ?_
  obtain ⟨k, hk, rfl⟩ := inI_of hi (by decide)
  have ek : toN (nI k) = k := toN_k (by omega)
  refine lv_iload_n X.1 X.2.1 dX1_hip_5 rfl (lv_at hl 2 rfl) ?_
  refine lv_iconst (v := nI 2) X.1 X.2.1 dX1_hip_6 (by decide) ?_
  refine x_callS (As := [.int wh, .int (nI 2)]) (rest := []) X hne hE (c_X1_checkIndex l g wh 2 hl0 (by decide)) ⟨mw_175, mw_176, mw_38, mw_177⟩ sgX1_checkIndex ⟨rfl, rfl, ⟨by decide, by decide⟩, by decide, by decide⟩ (trivial) hX rfl hl.1 rfl (Nat.le_of_ble_eq_true rfl) dX1_hip_7 (fun E h => xk_A (fun h9 => by simp only [h9, hi, Bool.false_and, Bool.and_false, Bool.true_and]) h) ⟨by decide, by decide⟩ (fun v H3 hk4 hp => ?_)
  obtain ⟨rfl, hwh⟩ := hp
  have hX := hX.tr hk4
  have hP := PP.ext hP hk4
  have hF := RF.ext hF hk4
  refine W.eq (g2 := F0 m 10 ls []) rfl ?_
  obtain ⟨wn, hwn, rfl⟩ := inI_of hwh (by decide)
  have ewn : toN (nI wn) = wn := toN_k (by omega)
  refine lv_iload_n X.1 X.2.1 dX1_hip_10 rfl (lv_at hl 3 rfl) ?_
  refine lv_iconst (v := nI 2) X.1 X.2.1 dX1_hip_11 (by decide) ?_
  refine x_callS (As := [.int j, .int (nI 2)]) (rest := []) X hne hE (c_X1_checkIndex l g j 2 hl0 (by decide)) ⟨mw_175, mw_176, mw_38, mw_177⟩ sgX1_checkIndex ⟨rfl, rfl, ⟨by decide, by decide⟩, by decide, by decide⟩ (trivial) hX rfl hl.1 rfl (Nat.le_of_ble_eq_true rfl) dX1_hip_12 (fun E h => xk_A (fun h9 => by simp only [h9, hi, hwh, Bool.false_and, Bool.and_false, Bool.true_and]) h) ⟨by decide, by decide⟩ (fun v H5 hk6 hp => ?_)
  obtain ⟨rfl, hj⟩ := hp
  have hX := hX.tr hk6
  have hP := PP.ext hP hk6
  have hF := RF.ext hF hk6
  refine W.eq (g2 := F0 m 15 ls []) rfl ?_
  obtain ⟨pn, hpn, rfl⟩ := inI_of hj (by decide)
  have epn : toN (nI pn) = pn := toN_k (by omega)
  refine lv_iload_n X.1 X.2.1 dX1_hip_15 rfl (lv_at hl 1 rfl) ?_
  have hb := behind_lt k
  refine p_callS (As := [.int (nI k)]) (rest := []) X (c_X1_sideBehind l g k hk) ⟨mw_404, mw_405, mw_38, mw_406⟩ sgX1_sideBehind ⟨rfl, rfl, ⟨by decide, by decide⟩, by decide, by decide⟩ (trivial) hX.1 rfl hl.1 rfl (Nat.le_of_ble_eq_true rfl) dX1_hip_16 (fun v H7 hk8 hp => ?_)
  obtain rfl := hp
  have hX := hX.tr hk8
  have hP := PP.ext hP hk8
  have hF := RF.ext hF hk8
  refine W.eq (g2 := F0 m 19 ls [.int (nI (behind k))]) rfl ?_
  refine lv_istore (lv' := [(4, .int (nI (behind k))), (0, .ref o), (1, .int (nI k)), (2, .int (nI wn)), (3, .int (nI pn))]) X.1 X.2.1 dX1_hip_19 hl (by decide) rfl (fun ls hl => ?_)
  refine lv_aload_n X.1 X.2.1 dX1_hip_21 rfl (lv_at hl 1 rfl) ?_
  refine lv_iload_n X.1 X.2.1 dX1_hip_22 rfl (lv_at hl 2 rfl) ?_
  refine x_callV (C := RX1) (b := o) (As := [.int (nI k)]) (rest := []) X hne hE (c_X1_checkNoGable l g o r A x1 y1 q k hl0 hk (hO.2.2.1 _ hk)) ⟨mw_289, mw_291, mw_9, mw_38, mw_292⟩ sgX1_checkNoGable ⟨rfl, rfl, ⟨by decide, by decide⟩, by decide, by decide⟩ (hP.at 0 rfl) rfl rfl (RP.of hP [0, 1] rfl hF) hX rfl hl.1 rfl (Nat.le_of_ble_eq_true rfl) dX1_hip_23 (fun E h => xk_S (by simp only [hi, hwh, hj, Bool.and_self]) (fun h9 => by rw [ek, h9]; rfl) h) ⟨by decide, by decide⟩ (fun v H9 hk10 hp => ?_)
  obtain ⟨rfl, hr1⟩ := hp
  have hX := hX.tr hk10
  have hP := PP.ext hP hk10
  have hF := RF.ext hF hk10
  refine W.eq (g2 := F0 m 26 ls []) rfl ?_
  refine lv_aload_n X.1 X.2.1 dX1_hip_26 rfl (lv_at hl 1 rfl) ?_
  refine lv_iload X.1 X.2.1 dX1_hip_27 (lv_at hl 0 rfl) ?_
  refine x_callV (C := RX1) (b := o) (As := [.int (nI (behind k))]) (rest := []) X hne hE (c_X1_checkNoGable l g o r A x1 y1 q (behind k) hl0 hb (hO.2.2.1 _ hb)) ⟨mw_289, mw_291, mw_9, mw_38, mw_292⟩ sgX1_checkNoGable ⟨rfl, rfl, ⟨by decide, by decide⟩, by decide, by decide⟩ (hP.at 0 rfl) rfl rfl (RP.of hP [0, 1] rfl hF) hX rfl hl.1 rfl (Nat.le_of_ble_eq_true rfl) dX1_hip_29 (fun E h => xk_S (by simp only [hi, hwh, hj, Bool.and_self]) (fun h9 => by rw [ek, h9, hr1]; rfl) h) ⟨by decide, by decide⟩ (fun v H11 hk12 hp => ?_)
  obtain ⟨rfl, hr2⟩ := hp
  have hX := hX.tr hk12
  have hP := PP.ext hP hk12
  have hF := RF.ext hF hk12
  refine W.eq (g2 := F0 m 32 ls []) rfl ?_
  refine lv_aload_n X.1 X.2.1 dX1_hip_32 rfl (lv_at hl 1 rfl) ?_
  refine lv_iload_n X.1 X.2.1 dX1_hip_33 rfl (lv_at hl 3 rfl) ?_
  refine q_Zne X (by omega) (tgt := 41) dX1_hip_34 (by decide) (fun hB13 => ?_) (fun hB13 => ?_)
  ·
    refine lv_iload X.1 X.2.1 dX1_hip_41 (lv_at hl 0 rfl) ?_
    refine p_callV (C := RX1) (b := o) (As := [.int (nI (behind k))]) (rest := []) X (c_X1_inAtPeak l g o r A x1 y1 q (behind k) hO hb) ⟨mw_407, mw_409, mw_18, mw_38, mw_410⟩ sgX1_inAtPeak ⟨rfl, rfl, ⟨by decide, by decide⟩, by decide, by decide⟩ (hP.at 0 rfl) rfl rfl (RP.of hP [0, 1] rfl hF) hX.1 rfl hl.1 rfl (Nat.le_of_ble_eq_true rfl) dX1_hip_43 (fun v H14 hk15 hp => ?_)
    obtain ⟨r16, rfl, hr16⟩ := hp
    have hX := hX.tr hk15
    have hP := PP.ext hP hk15
    have hF := RF.ext hF hk15
    have hP := PP.cons hr16 hP
    refine W.eq (g2 := F0 m 46 ls [.ref r16]) rfl ?_
    refine lv_iload_n X.1 X.2.1 dX1_hip_46 rfl (lv_at hl 4 rfl) ?_
    refine p_callV (C := RX0) (b := r16) (As := [.int (nI pn)]) (rest := []) X (c_X0_part l g _ pn _ hpn) ⟨mw_271, mw_272, mw_273, mw_39, mw_274⟩ sgX0_part ⟨rfl, rfl, ⟨by decide, by decide⟩, by decide, by decide⟩ (hP.at 0 rfl) rfl rfl (hP.sub [0] rfl) hX.1 rfl hl.1 rfl (Nat.le_of_ble_eq_true rfl) dX1_hip_47 (fun v H17 hk18 hp => ?_)
    obtain rfl := hp
    have hX := hX.tr hk18
    have hP := PP.ext hP hk18
    have hF := RF.ext hF hk18
    refine W.eq (g2 := F0 m 50 ls [.long (lN (prt (pk x1 y1 q * q (behind k)) pn))]) rfl ?_
    exact vx_ret (p_lret X hX (⟨⟨by simp only [hi, hwh, hj, Bool.and_self], by rw [ek, hr1, hr2]; rfl, rfl⟩, by simp only [ek, ewn, epn]; rw [if_neg hB13]⟩) ⟨by decide, by decide⟩ dX1_hip_50)
  ·
    refine lv_iload_n X.1 X.2.1 dX1_hip_37 rfl (lv_at hl 2 rfl) ?_
    refine lv_goto (tgt := 43) X.1 X.2.1 dX1_hip_38 (by decide) ?_
    refine p_callV (C := RX1) (b := o) (As := [.int (nI k)]) (rest := []) X (c_X1_inAtPeak l g o r A x1 y1 q k hO hk) ⟨mw_407, mw_409, mw_18, mw_38, mw_410⟩ sgX1_inAtPeak ⟨rfl, rfl, ⟨by decide, by decide⟩, by decide, by decide⟩ (hP.at 0 rfl) rfl rfl (RP.of hP [0, 1] rfl hF) hX.1 rfl hl.1 rfl (Nat.le_of_ble_eq_true rfl) dX1_hip_43 (fun v H19 hk20 hp => ?_)
    obtain ⟨r21, rfl, hr21⟩ := hp
    have hX := hX.tr hk20
    have hP := PP.ext hP hk20
    have hF := RF.ext hF hk20
    have hP := PP.cons hr21 hP
    refine W.eq (g2 := F0 m 46 ls [.ref r21]) rfl ?_
    refine lv_iload_n X.1 X.2.1 dX1_hip_46 rfl (lv_at hl 4 rfl) ?_
    refine p_callV (C := RX0) (b := r21) (As := [.int (nI pn)]) (rest := []) X (c_X0_part l g _ pn _ hpn) ⟨mw_271, mw_272, mw_273, mw_39, mw_274⟩ sgX0_part ⟨rfl, rfl, ⟨by decide, by decide⟩, by decide, by decide⟩ (hP.at 0 rfl) rfl rfl (hP.sub [0] rfl) hX.1 rfl hl.1 rfl (Nat.le_of_ble_eq_true rfl) dX1_hip_47 (fun v H22 hk23 hp => ?_)
    obtain rfl := hp
    have hX := hX.tr hk23
    have hP := PP.ext hP hk23
    have hF := RF.ext hF hk23
    refine W.eq (g2 := F0 m 50 ls [.long (lN (prt (pk x1 y1 q * q k) pn))]) rfl ?_
    exact vx_ret (p_lret X hX (⟨⟨by simp only [hi, hwh, hj, Bool.and_self], by rw [ek, hr1, hr2]; rfl, rfl⟩, by simp only [ek, ewn, epn]; rw [if_pos hB13]⟩) ⟨by decide, by decide⟩ dX1_hip_50)
set_option maxHeartbeats 4000000 in
set_option maxRecDepth 100000 in
theorem c_X1_place (l : Launch) (g : En) (o r : Nat) (A : Nat → Nat) (x1 y1 : Nat) (q : Nat → Rat) (vx vy : Int64) (j : Int32) (hl0 : l.stackTraces = false) (hO : OK x1 y1 q) : XM l yX1_place cX1_place 6 (some FieldType.long) { frames := 8, cells := 10, slots := 32, locals := 135 } g [.ref o, .long vx, .long vy, .int j] (fun H => RP g o r A x1 y1 q H) 10 32 (rK (inI j 2) (true) (inL vx 0 x1 && inL vy 0 y1) (.long (lN (prt (hgt x1 y1 q (toL vx) (toL vy) (lwp x1 y1 q (toL vx) (toL vy) 3)) (toN j))))) (xk (inI j 2) (true) (inL vx 0 x1 && inL vy 0 y1)) := by
  refine XM.of (by decide) (Nat.le_of_ble_eq_true rfl) (fun p e s m below meth c ls X hne hE hG hl => ?_)
  obtain ⟨hP, hF⟩ := hG
  have hl : lv_has ls 6 [(0, .ref o), (1, .long vx), (3, .long vy), (5, .int j)] := hl
  have hX : hxt s.heap s.heap := hxt.rf
  have hP : PP g [ob o x1 y1 r, ar g r A] s.heap := hP
  refine lv_iload X.1 X.2.1 dX1_place_0 (lv_at hl 3 rfl) ?_
  refine lv_iconst (v := nI 2) X.1 X.2.1 dX1_place_2 (by decide) ?_
  refine x_callS (As := [.int j, .int (nI 2)]) (rest := []) X hne hE (c_X1_checkIndex l g j 2 hl0 (by decide)) ⟨mw_175, mw_176, mw_38, mw_177⟩ sgX1_checkIndex ⟨rfl, rfl, ⟨by decide, by decide⟩, by decide, by decide⟩ (trivial) hX rfl hl.1 rfl (Nat.le_of_ble_eq_true rfl) dX1_place_3 (fun E h => xk_A (fun h9 => by simp only [h9, Bool.false_and, Bool.and_false, Bool.true_and]) h) ⟨by decide, by decide⟩ (fun v H1 hk2 hp => ?_)
  obtain ⟨rfl, hj⟩ := hp
  have hX := hX.tr hk2
  have hP := PP.ext hP hk2
  have hF := RF.ext hF hk2
  refine W.eq (g2 := F0 m 6 ls []) rfl ?_
  obtain ⟨pn, hpn, rfl⟩ := inI_of hj (by decide)
  have epn : toN (nI pn) = pn := toN_k (by omega)
  refine lv_aload_n X.1 X.2.1 dX1_place_6 rfl (lv_at hl 0 rfl) ?_
  refine lv_lload_n X.1 X.2.1 dX1_place_7 rfl (lv_at hl 1 rfl) ?_
  refine lv_lload_n X.1 X.2.1 dX1_place_8 rfl (lv_at hl 2 rfl) ?_
  have hX2 := hO.1.2
  have hY2 := hO.2.1.2
  refine x_callV (C := RX1) (b := o) (As := [.long vx, .long vy]) (rest := []) X hne hE (c_X1_checkInOutline l g o r A x1 y1 q vx vy hl0 hO) ⟨mw_247, mw_249, mw_4, mw_38, mw_250⟩ sgX1_checkInOutline ⟨rfl, rfl, ⟨by decide, by decide⟩, by decide, by decide⟩ (hP.at 0 rfl) rfl rfl (RP.of hP [0, 1] rfl hF) hX rfl hl.1 rfl (Nat.le_of_ble_eq_true rfl) dX1_place_9 (fun E h => xk_G (hj) rfl (fun h9 => h9) h) ⟨by decide, by decide⟩ (fun v H3 hk4 hp => ?_)
  obtain ⟨rfl, hr⟩ := hp
  have hX := hX.tr hk4
  have hP := PP.ext hP hk4
  have hF := RF.ext hF hk4
  refine W.eq (g2 := F0 m 12 ls []) rfl ?_
  obtain ⟨hr1, hr2⟩ := andL hr
  obtain ⟨x, -, hx, rfl⟩ := inL_of hr1 (by omega)
  obtain ⟨y, -, hy, rfl⟩ := inL_of hr2 (by omega)
  have eX : toL (lN x) = x := toL_k (by omega)
  have eY : toL (lN y) = y := toL_k (by omega)
  obtain ⟨hlo, hlg⟩ := lwp_ok hO x y
  refine lv_aload_n X.1 X.2.1 dX1_place_12 rfl (lv_at hl 0 rfl) ?_
  refine lv_aload_n X.1 X.2.1 dX1_place_13 rfl (lv_at hl 0 rfl) ?_
  refine lv_lload_n X.1 X.2.1 dX1_place_14 rfl (lv_at hl 1 rfl) ?_
  refine lv_lload_n X.1 X.2.1 dX1_place_15 rfl (lv_at hl 2 rfl) ?_
  refine p_callV (C := RX1) (b := o) (As := [.long (lN x), .long (lN y)]) (rest := [.ref o]) X (c_X1_lowestSide l g o r A x1 y1 q x y hO hx hy) ⟨mw_251, mw_253, mw_5, mw_38, mw_254⟩ sgX1_lowestSide ⟨rfl, rfl, ⟨by decide, by decide⟩, by decide, by decide⟩ (hP.at 0 rfl) rfl rfl (RP.of hP [0, 1] rfl hF) hX.1 rfl hl.1 rfl (Nat.le_of_ble_eq_true rfl) dX1_place_16 (fun v H5 hk6 hp => ?_)
  obtain rfl := hp
  have hX := hX.tr hk6
  have hP := PP.ext hP hk6
  have hF := RF.ext hF hk6
  refine W.eq (g2 := F0 m 19 ls [.int (nI (lwp x1 y1 q x y 3)), .ref o]) rfl ?_
  refine lv_lload_n X.1 X.2.1 dX1_place_19 rfl (lv_at hl 1 rfl) ?_
  refine lv_lload_n X.1 X.2.1 dX1_place_20 rfl (lv_at hl 2 rfl) ?_
  refine p_callV (C := RX1) (b := o) (As := [.int (nI (lwp x1 y1 q x y 3)), .long (lN x), .long (lN y)]) (rest := []) X (c_X1_planeHeight l g o r A x1 y1 q _ x y hO hlo hx hy hlg) ⟨mw_259, mw_261, mw_7, mw_38, mw_262⟩ sgX1_planeHeight ⟨rfl, rfl, ⟨by decide, by decide⟩, by decide, by decide⟩ (hP.at 0 rfl) rfl rfl (RP.of hP [0, 1] rfl hF) hX.1 rfl hl.1 rfl (Nat.le_of_ble_eq_true rfl) dX1_place_21 (fun v H7 hk8 hp => ?_)
  obtain ⟨r9, rfl, hr9⟩ := hp
  have hX := hX.tr hk8
  have hP := PP.ext hP hk8
  have hF := RF.ext hF hk8
  have hP := PP.cons hr9 hP
  refine W.eq (g2 := F0 m 24 ls [.ref r9]) rfl ?_
  refine lv_iload X.1 X.2.1 dX1_place_24 (lv_at hl 3 rfl) ?_
  refine p_callV (C := RX0) (b := r9) (As := [.int (nI pn)]) (rest := []) X (c_X0_part l g _ pn _ hpn) ⟨mw_271, mw_272, mw_273, mw_39, mw_274⟩ sgX0_part ⟨rfl, rfl, ⟨by decide, by decide⟩, by decide, by decide⟩ (hP.at 0 rfl) rfl rfl (hP.sub [0] rfl) hX.1 rfl hl.1 rfl (Nat.le_of_ble_eq_true rfl) dX1_place_26 (fun v H10 hk11 hp => ?_)
  obtain rfl := hp
  have hX := hX.tr hk11
  have hP := PP.ext hP hk11
  have hF := RF.ext hF hk11
  refine W.eq (g2 := F0 m 29 ls [.long (lN (prt (hgt x1 y1 q x y (lwp x1 y1 q x y 3)) pn))]) rfl ?_
  exact vx_ret (p_lret X hX (⟨⟨hj, rfl, hr⟩, by simp only [eX, eY, epn]⟩) ⟨by decide, by decide⟩ dX1_place_29)
set_option maxHeartbeats 4000000 in
set_option maxRecDepth 100000 in
theorem c_X1_face (l : Launch) (g : En) (o r : Nat) (A : Nat → Nat) (x1 y1 : Nat) (q : Nat → Rat) (vx vy : Int64) (hl0 : l.stackTraces = false) (hO : OK x1 y1 q) : XM l yX1_face cX1_face 5 (some FieldType.int) { frames := 8, cells := 8, slots := 24, locals := 135 } g [.ref o, .long vx, .long vy] (fun H => RP g o r A x1 y1 q H) 8 24 (rK (true) (true) (inL vx 0 x1 && inL vy 0 y1) (.int (nI (lwp x1 y1 q (toL vx) (toL vy) 3)))) (xk (true) (true) (inL vx 0 x1 && inL vy 0 y1)) := by
  refine XM.of (by decide) (Nat.le_of_ble_eq_true rfl) (fun p e s m below meth c ls X hne hE hG hl => ?_)
  obtain ⟨hP, hF⟩ := hG
  have hl : lv_has ls 5 [(0, .ref o), (1, .long vx), (3, .long vy)] := hl
  have hX : hxt s.heap s.heap := hxt.rf
  have hP : PP g [ob o x1 y1 r, ar g r A] s.heap := hP
  refine lv_aload_n X.1 X.2.1 dX1_face_0 rfl (lv_at hl 0 rfl) ?_
  refine lv_lload_n X.1 X.2.1 dX1_face_1 rfl (lv_at hl 1 rfl) ?_
  refine lv_lload_n X.1 X.2.1 dX1_face_2 rfl (lv_at hl 2 rfl) ?_
  have hX2 := hO.1.2
  have hY2 := hO.2.1.2
  refine x_callV (C := RX1) (b := o) (As := [.long vx, .long vy]) (rest := []) X hne hE (c_X1_checkInOutline l g o r A x1 y1 q vx vy hl0 hO) ⟨mw_247, mw_249, mw_4, mw_38, mw_250⟩ sgX1_checkInOutline ⟨rfl, rfl, ⟨by decide, by decide⟩, by decide, by decide⟩ (hP.at 0 rfl) rfl rfl (RP.of hP [0, 1] rfl hF) hX rfl hl.1 rfl (Nat.le_of_ble_eq_true rfl) dX1_face_3 (fun E h => xk_G (rfl) rfl (fun h9 => h9) h) ⟨by decide, by decide⟩ (fun v H1 hk2 hp => ?_)
  obtain ⟨rfl, hr⟩ := hp
  have hX := hX.tr hk2
  have hP := PP.ext hP hk2
  have hF := RF.ext hF hk2
  refine W.eq (g2 := F0 m 6 ls []) rfl ?_
  obtain ⟨hr1, hr2⟩ := andL hr
  obtain ⟨x, -, hx, rfl⟩ := inL_of hr1 (by omega)
  obtain ⟨y, -, hy, rfl⟩ := inL_of hr2 (by omega)
  have eX : toL (lN x) = x := toL_k (by omega)
  have eY : toL (lN y) = y := toL_k (by omega)
  obtain ⟨hlo, hlg⟩ := lwp_ok hO x y
  refine lv_aload_n X.1 X.2.1 dX1_face_6 rfl (lv_at hl 0 rfl) ?_
  refine lv_lload_n X.1 X.2.1 dX1_face_7 rfl (lv_at hl 1 rfl) ?_
  refine lv_lload_n X.1 X.2.1 dX1_face_8 rfl (lv_at hl 2 rfl) ?_
  refine p_callV (C := RX1) (b := o) (As := [.long (lN x), .long (lN y)]) (rest := []) X (c_X1_lowestSide l g o r A x1 y1 q x y hO hx hy) ⟨mw_251, mw_253, mw_5, mw_38, mw_254⟩ sgX1_lowestSide ⟨rfl, rfl, ⟨by decide, by decide⟩, by decide, by decide⟩ (hP.at 0 rfl) rfl rfl (RP.of hP [0, 1] rfl hF) hX.1 rfl hl.1 rfl (Nat.le_of_ble_eq_true rfl) dX1_face_9 (fun v H3 hk4 hp => ?_)
  obtain rfl := hp
  have hX := hX.tr hk4
  have hP := PP.ext hP hk4
  have hF := RF.ext hF hk4
  refine W.eq (g2 := F0 m 12 ls [.int (nI (lwp x1 y1 q x y 3))]) rfl ?_
  exact vx_ret (p_iret X hX (⟨⟨rfl, rfl, hr⟩, by simp only [eX, eY]⟩) ⟨by decide, by decide⟩ dX1_face_12)
