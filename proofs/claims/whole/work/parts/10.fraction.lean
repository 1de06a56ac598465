theorem ln_ne {d : Nat} (h0 : 0 < d) (hd : d < 2 ^ 63) : ¬ lN d = 0 := fun h => by
  have h1 := (pk_lEQ hd (by decide : 0 < 2 ^ 63)).mp (h.trans (by decide : (0 : Int64) = lN 0))
  omega
theorem eu_step {n a b : Nat} (h : b ≠ 0) : eu (n + 1) a b = eu n b (a % b) := by rw [eu, if_neg h]
theorem eu_zero {n a : Nat} : eu n a 0 = a := by cases n <;> simp [eu]
theorem eu_pos : ∀ (n a b : Nat), 0 < a ∨ 0 < b → (n = 0 → 0 < a) → 0 < eu n a b := by
  intro n
  induction n with
  | zero => intro a b _ h2; exact h2 rfl
  | succ n ih =>
    intro a b h1 _
    by_cases hb : b = 0
    · subst hb; rw [eu_zero]; omega
    · rw [eu_step hb]; exact ih b (a % b) (Or.inl (by omega)) (fun _ => by omega)
set_option maxHeartbeats 4000000 in
set_option maxRecDepth 100000 in
theorem c_X0_commonDivisor (l : Launch) (g : En) (a b : Nat) (ha : a < 2 ^ 63) (hb : b < 2 ^ 63) (h0 : 0 < b) : PM l yX0_commonDivisor cX0_commonDivisor 11 (some FieldType.long) { frames := 0, cells := 0, slots := 0, locals := 0 } g [.long (lN a), .long (lN b)] (fun H => True) 0 0 (rL (Nat.gcd a b)) := by
  refine PM.of (by decide) (Nat.le_of_ble_eq_true rfl) (fun p e s m below meth c ls X _ hl => ?_)
  have loop : ∀ (n i a1 b1 : Nat), i + n = 100 → a1 < 2 ^ 63 → b1 < 2 ^ 63 → eu n a1 b1 = Nat.gcd a b → ∀ (ls : Array Slot), lv_has ls 11 [(8, .int (nI i)), (6, .long (lN b1)), (4, .long (lN a1)), (0, .long (lN a)), (2, .long (lN b))] →
      W p l e { frames := 0, cells := 0, slots := 0, locals := 0 } s m ([.long (lN a), .long (lN b)] : List Value).toArray below meth c s.heap [] 0 0 (MQ below (pQ (rL (Nat.gcd a b))) ([.long (lN a), .long (lN b)] : List Value).toArray s 0 0 (fun q => s.heap.size ≤ q)) (F0 m 9 ls []) := by
    intro n
    induction n with
    | zero =>
      intro i a1 b1 hi ha1 hb1 hg ls hl
      have hX : hxt s.heap s.heap := hxt.rf
      have hg : a1 = Nat.gcd a b := hg
      refine lv_iload X.1 X.2.1 dX0_commonDivisor_9 (lv_at hl 0 rfl) ?_
      refine lv_bipush (v := nI 100) X.1 X.2.1 dX0_commonDivisor_11 (by decide) ?_
      refine q_Ige X (by omega) (by omega) (tgt := 44) dX0_commonDivisor_13 (by decide) (fun hB1 => ?_) (fun hB1 => ?_)
      ·
        refine lv_lload X.1 X.2.1 dX0_commonDivisor_44 (lv_at hl 2 rfl) ?_
        refine lv_lconst (v := lN 0) X.1 X.2.1 dX0_commonDivisor_46 (by decide) ?_
        refine q_Nle X (by omega) (by omega) (tgt := 56) dX0_commonDivisor_47 dX0_commonDivisor_48 (by decide) (fun hB2 => ?_) (fun hB2 => ?_)
        ·
          exact absurd hB2 (by have := Nat.gcd_pos_of_pos_right a h0; omega)
        ·
          refine lv_lload X.1 X.2.1 dX0_commonDivisor_51 (lv_at hl 2 rfl) ?_
          refine lv_goto (tgt := 57) X.1 X.2.1 dX0_commonDivisor_53 (by decide) ?_
          exact p_lret X hX (by rw [rL, hg]) ⟨by decide, by decide⟩ dX0_commonDivisor_57
      ·
        exact absurd hB1 (by omega)
    | succ n ih =>
      intro i a1 b1 hi ha1 hb1 hg ls hl
      have hX : hxt s.heap s.heap := hxt.rf
      refine lv_iload X.1 X.2.1 dX0_commonDivisor_9 (lv_at hl 0 rfl) ?_
      refine lv_bipush (v := nI 100) X.1 X.2.1 dX0_commonDivisor_11 (by decide) ?_
      refine q_Ige X (by omega) (by omega) (tgt := 44) dX0_commonDivisor_13 (by decide) (fun hB1 => ?_) (fun hB1 => ?_)
      ·
        exact absurd hB1 (by omega)
      ·
        refine lv_lload X.1 X.2.1 dX0_commonDivisor_16 (lv_at hl 1 rfl) ?_
        refine lv_lconst (v := lN 0) X.1 X.2.1 dX0_commonDivisor_18 (by decide) ?_
        refine q_Neq X (by omega) (by omega) (tgt := 44) dX0_commonDivisor_19 dX0_commonDivisor_20 (by decide) (fun hB2 => ?_) (fun hB2 => ?_)
        ·
          subst hB2
          have hg : a1 = Nat.gcd a b := by rw [← hg, eu_zero]
          refine lv_lload X.1 X.2.1 dX0_commonDivisor_44 (lv_at hl 2 rfl) ?_
          refine lv_lconst (v := lN 0) X.1 X.2.1 dX0_commonDivisor_46 (by decide) ?_
          refine q_Nle X (by omega) (by omega) (tgt := 56) dX0_commonDivisor_47 dX0_commonDivisor_48 (by decide) (fun hB3 => ?_) (fun hB3 => ?_)
          ·
            exact absurd hB3 (by have := Nat.gcd_pos_of_pos_right a h0; omega)
          ·
            refine lv_lload X.1 X.2.1 dX0_commonDivisor_51 (lv_at hl 2 rfl) ?_
            refine lv_goto (tgt := 57) X.1 X.2.1 dX0_commonDivisor_53 (by decide) ?_
            exact p_lret X hX (by rw [rL, hg]) ⟨by decide, by decide⟩ dX0_commonDivisor_57
        ·
          have hlt : a1 % b1 < b1 := Nat.mod_lt _ (by omega)
          refine lv_lload X.1 X.2.1 dX0_commonDivisor_23 (lv_at hl 2 rfl) ?_
          refine lv_lload X.1 X.2.1 dX0_commonDivisor_25 (lv_at hl 1 rfl) ?_
          refine lv_lrem X.1 X.2.1 dX0_commonDivisor_27 (ln_ne (by omega) hb1) ?_
          refine w_l (pk_lRem ha1 (by omega) hb1) ?_
          refine lv_lstore (lv' := [(9, .long (lN (a1 % b1))), (8, .int (nI i)), (6, .long (lN b1)), (4, .long (lN a1)), (0, .long (lN a)), (2, .long (lN b))]) X.1 X.2.1 dX0_commonDivisor_28 hl (by decide) rfl (fun ls hl => ?_)
          refine lv_lload X.1 X.2.1 dX0_commonDivisor_30 (lv_at hl 2 rfl) ?_
          refine lv_lstore (lv' := [(4, .long (lN b1)), (9, .long (lN (a1 % b1))), (8, .int (nI i)), (6, .long (lN b1)), (0, .long (lN a)), (2, .long (lN b))]) X.1 X.2.1 dX0_commonDivisor_32 hl (by decide) rfl (fun ls hl => ?_)
          refine lv_lload X.1 X.2.1 dX0_commonDivisor_34 (lv_at hl 1 rfl) ?_
          refine lv_lstore (lv' := [(6, .long (lN (a1 % b1))), (4, .long (lN b1)), (9, .long (lN (a1 % b1))), (8, .int (nI i)), (0, .long (lN a)), (2, .long (lN b))]) X.1 X.2.1 dX0_commonDivisor_36 hl (by decide) rfl (fun ls hl => ?_)
          refine lv_iinc (v := nI (i + 1)) (lv' := [(8, .int (nI (i + 1))), (6, .long (lN (a1 % b1))), (4, .long (lN b1)), (9, .long (lN (a1 % b1))), (0, .long (lN a)), (2, .long (lN b))]) X.1 X.2.1 dX0_commonDivisor_38 hl (k := 3) rfl (nI_1 i) (by decide) rfl (fun ls hl => ?_)
          refine lv_goto (tgt := 9) X.1 X.2.1 dX0_commonDivisor_41 (by decide) ?_
          exact ih (i + 1) b1 (a1 % b1) (by omega) hb1 (by omega) (by rw [← hg, eu_step hB2]) ls (lv_sub hl [0, 1, 2, 4, 5] rfl)
  have hl : lv_has ls 11 [(0, .long (lN a)), (2, .long (lN b))] := hl
  have hX : hxt s.heap s.heap := hxt.rf
  refine lv_lload_n X.1 X.2.1 dX0_commonDivisor_0 rfl (lv_at hl 0 rfl) ?_
  refine lv_lstore (lv' := [(4, .long (lN a)), (0, .long (lN a)), (2, .long (lN b))]) X.1 X.2.1 dX0_commonDivisor_1 hl (by decide) rfl (fun ls hl => ?_)
  refine lv_lload_n X.1 X.2.1 dX0_commonDivisor_3 rfl (lv_at hl 2 rfl) ?_
  refine lv_lstore (lv' := [(6, .long (lN b)), (4, .long (lN a)), (0, .long (lN a)), (2, .long (lN b))]) X.1 X.2.1 dX0_commonDivisor_4 hl (by decide) rfl (fun ls hl => ?_)
  refine lv_iconst (v := nI 0) X.1 X.2.1 dX0_commonDivisor_6 (by decide) ?_
  refine lv_istore (lv' := [(8, .int (nI 0)), (6, .long (lN b)), (4, .long (lN a)), (0, .long (lN a)), (2, .long (lN b))]) X.1 X.2.1 dX0_commonDivisor_7 hl (by decide) rfl (fun ls hl => ?_)
  exact loop 100 0 a b rfl ha hb (eu_gcd hb) ls (lv_sub hl [0, 1, 2, 3, 4] rfl)
set_option maxHeartbeats 4000000 in
set_option maxRecDepth 100000 in
theorem c_X0_init (l : Launch) (g : En) (o n d : Nat) (h0 : 0 < d) (hn : n < 2 ^ 63) (hd : d < 2 ^ 63) : IM l yX0_init cX0_init 9 { frames := 1, cells := 0, slots := 0, locals := 30 } g o [.long (lN n), .long (lN d)] (fun H => PP g [(o, .inr (0, [.long 0, .long 0]))] H) 0 0 (fun H => va_at g.1 cl0 (fq o ((n : Rat) / (d : Rat))) H) := by
  refine IM.of (by decide) (Nat.le_of_ble_eq_true rfl) (fun p e s m below meth c ls X hP hl => ?_)
  obtain ⟨f1, f2, f3⟩ := fr_mk (n := n) h0
  have hg := Nat.gcd_pos_of_pos_right n h0
  have hg2 : Nat.gcd n d ≤ d := Nat.le_of_dvd h0 (Nat.gcd_dvd_right n d)
  have hq : 0 < d / Nat.gcd n d := Nat.div_pos hg2 hg
  have hq2 : d / Nat.gcd n d ≤ d := Nat.div_le_self _ _
  have hl : lv_has ls 9 [(0, .ref o), (1, .long (lN n)), (3, .long (lN d))] := hl
  have hX : hxt s.heap s.heap := hxt.rf
  have hP : PP g [(o, .inr (0, [.long 0, .long 0]))] s.heap := hP
  refine lv_aload_n X.1 X.2.1 dX0_init_0 rfl (lv_at hl 0 rfl) ?_
  refine W.objInit X.1 X.2.1 X.2.2.2.1 (X.2.2.2.2.1 _ (List.mem_cons_of_mem _ mw_64)) (X.2.2.2.2.1 _ (List.mem_cons_of_mem _ mw_54)) (X.2.2.2.2.1 _ (List.mem_cons_of_mem _ mw_55)) rfl (by rw [X.2.2.1]; exact hl.1) rfl dX0_init_1 (Nat.le_of_ble_eq_true rfl) (Nat.le_of_ble_eq_true rfl) ?_
  refine W.eq (g2 := F0 m 4 ls []) rfl ?_
  refine lv_lload_n X.1 X.2.1 dX0_init_4 rfl (lv_at hl 1 rfl) ?_
  refine lv_lload_n X.1 X.2.1 dX0_init_5 rfl (lv_at hl 2 rfl) ?_
  refine p_callS (As := [.long (lN n), .long (lN d)]) (rest := []) X (c_X0_commonDivisor l g n d hn hd h0) ⟨mw_65, mw_66, mw_39, mw_67⟩ sgX0_commonDivisor ⟨rfl, rfl, ⟨by decide, by decide⟩, by decide, by decide⟩ (trivial) hX.1 rfl hl.1 rfl (Nat.le_of_ble_eq_true rfl) dX0_init_6 (fun v H1 hk2 hp => ?_)
  obtain rfl := hp
  have hX := hX.tr hk2
  have hP := PP.ext hP hk2
  refine W.eq (g2 := F0 m 9 ls [.long (lN (Nat.gcd n d))]) rfl ?_
  refine lv_lstore (lv' := [(5, .long (lN (Nat.gcd n d))), (0, .ref o), (1, .long (lN n)), (3, .long (lN d))]) X.1 X.2.1 dX0_init_9 hl (by decide) rfl (fun ls hl => ?_)
  refine lv_lload_n X.1 X.2.1 dX0_init_11 rfl (lv_at hl 3 rfl) ?_
  refine lv_lload X.1 X.2.1 dX0_init_12 (lv_at hl 0 rfl) ?_
  refine lv_ldiv X.1 X.2.1 dX0_init_14 (ln_ne hg (by omega)) ?_
  refine w_l (pk_lDiv hd hg (by omega)) ?_
  refine lv_lstore (lv' := [(7, .long (lN (d / (Nat.gcd n d)))), (5, .long (lN (Nat.gcd n d))), (0, .ref o), (1, .long (lN n)), (3, .long (lN d))]) X.1 X.2.1 dX0_init_15 hl (by decide) rfl (fun ls hl => ?_)
  refine lv_aload_n X.1 X.2.1 dX0_init_17 rfl (lv_at hl 2 rfl) ?_
  refine lv_lload_n X.1 X.2.1 dX0_init_18 rfl (lv_at hl 3 rfl) ?_
  refine lv_lload X.1 X.2.1 dX0_init_19 (lv_at hl 1 rfl) ?_
  refine lv_ldiv X.1 X.2.1 dX0_init_21 (ln_ne hg (by omega)) ?_
  refine w_l (pk_lDiv hn hg (by omega)) ?_
  refine p_putF (T := TX0) (N := 2) (ci := 0) X tyX0 tyX0_ok nmX0 uX0 (hP.at 0 rfl) rfl 0 (by decide) mw_68 rfl rfl rfl (ty := .long) (by decide +kernel) rfl rfl (Nat.le_of_ble_eq_true rfl) (fun q h => nomatch h) dX0_init_22 (fun H3 locs hpa hloc hat => ?_)
  have hP : PP g [(o, .inr (0, [.long (lN (n / Nat.gcd n d)), .long 0]))] H3 := PP.one hat
  have hA : hxa o s.heap H3 := ⟨Nat.le_trans hX.1 hpa.1, fun q h1 h2 => (hpa.2 q (Nat.lt_of_lt_of_le h1 hX.1) h2).trans (hX.2 q h1)⟩
  refine lv_aload_n X.1 X.2.1 dX0_init_25 rfl (lv_at hl 2 rfl) ?_
  refine lv_lload X.1 X.2.1 dX0_init_26 (lv_at hl 0 rfl) ?_
  refine lv_lconst (v := lN 0) X.1 X.2.1 dX0_init_28 (by decide) ?_
  refine q_Nle X (by omega) (by omega) (tgt := 38) dX0_init_29 dX0_init_30 (by decide) (fun hB4 => ?_) (fun hB4 => ?_)
  ·
    exact absurd hB4 (by omega)
  ·
    refine lv_lload X.1 X.2.1 dX0_init_33 (lv_at hl 0 rfl) ?_
    refine lv_goto (tgt := 39) X.1 X.2.1 dX0_init_35 (by decide) ?_
    refine p_putF (T := TX0) (N := 2) (ci := 0) X tyX0 tyX0_ok nmX0 uX0 (hP.at 0 rfl) rfl 1 (by decide) mw_70 rfl rfl rfl (ty := .long) (by decide +kernel) rfl rfl (Nat.le_of_ble_eq_true rfl) hloc dX0_init_39 (fun H5 locs hpa hloc hat => ?_)
    have hP : PP g [(o, .inr (0, [.long (lN (n / Nat.gcd n d)), .long (lN (d / Nat.gcd n d))]))] H5 := PP.one hat
    have hA : hxa o s.heap H5 := ⟨Nat.le_trans hA.1 hpa.1, fun q h1 h2 => (hpa.2 q (Nat.lt_of_lt_of_le h1 hA.1) h2).trans (hA.2 q h1 h2)⟩
    rw [← f1, ← f2] at hP
    exact p_ivret X hA hloc (hP.at 0 rfl) ⟨by decide, by decide⟩ dX0_init_42
set_option maxHeartbeats 4000000 in
set_option maxRecDepth 100000 in
theorem c_X0_part (l : Launch) (g : En) (a k : Nat) (x : Rat) (hk : k < 2) : PM l yX0_part cX0_part 2 (some FieldType.long) { frames := 0, cells := 0, slots := 0, locals := 0 } g [.ref a, .int (nI k)] (fun H => PP g [fq a x] H) 0 0 (rL (if k = 0 then nu x else x.den)) := by
  refine PM.of (by decide) (Nat.le_of_ble_eq_true rfl) (fun p e s m below meth c ls X hP hl => ?_)
  have hl : lv_has ls 2 [(0, .ref a), (1, .int (nI k))] := hl
  have hX : hxt s.heap s.heap := hxt.rf
  have hP : PP g [fq a x] s.heap := hP
  refine lv_iload_n X.1 X.2.1 dX0_part_0 rfl (lv_at hl 1 rfl) ?_
  refine q_Zne X (by omega) (tgt := 11) dX0_part_1 (by decide) (fun hB1 => ?_) (fun hB1 => ?_)
  ·
    refine lv_aload_n X.1 X.2.1 dX0_part_11 rfl (lv_at hl 0 rfl) ?_
    refine p_get (T := TX0) X uX0 (hP.at 0 rfl) rfl 1 (by decide) mw_70 rfl rfl dX0_part_12 ?_
    exact p_lret X hX (by rw [rL, if_neg hB1]) ⟨by decide, by decide⟩ dX0_part_15
  ·
    refine lv_aload_n X.1 X.2.1 dX0_part_4 rfl (lv_at hl 0 rfl) ?_
    refine p_get (T := TX0) X uX0 (hP.at 0 rfl) rfl 0 (by decide) mw_68 rfl rfl dX0_part_5 ?_
    refine lv_goto (tgt := 15) X.1 X.2.1 dX0_part_8 (by decide) ?_
    exact p_lret X hX (by rw [rL, if_pos hB1]) ⟨by decide, by decide⟩ dX0_part_15
set_option maxHeartbeats 4000000 in
set_option maxRecDepth 100000 in
theorem c_X0_cutOff (l : Launch) (g : En) (a : Nat) (x : Rat) (hn : nu x < 2 ^ 63) (hd : x.den < 2 ^ 63) : PM l yX0_cutOff cX0_cutOff 1 (some FieldType.long) { frames := 0, cells := 0, slots := 0, locals := 0 } g [.ref a] (fun H => PP g [fq a x] H) 0 0 (rL (nu x / x.den)) := by
  refine PM.of (by decide) (Nat.le_of_ble_eq_true rfl) (fun p e s m below meth c ls X hP hl => ?_)
  have hl : lv_has ls 1 [(0, .ref a)] := hl
  have hX : hxt s.heap s.heap := hxt.rf
  have hP : PP g [fq a x] s.heap := hP
  refine lv_aload_n X.1 X.2.1 dX0_cutOff_0 rfl (lv_at hl 0 rfl) ?_
  refine p_get (T := TX0) X uX0 (hP.at 0 rfl) rfl 0 (by decide) mw_68 rfl rfl dX0_cutOff_1 ?_
  refine lv_aload_n X.1 X.2.1 dX0_cutOff_4 rfl (lv_at hl 0 rfl) ?_
  refine p_get (T := TX0) X uX0 (hP.at 0 rfl) rfl 1 (by decide) mw_70 rfl rfl dX0_cutOff_5 ?_
  refine lv_ldiv X.1 X.2.1 dX0_cutOff_8 (ln_ne (dn_pos x) hd) ?_
  refine w_l (pk_lDiv hn (dn_pos x) hd) ?_
  exact p_lret X hX (rfl) ⟨by decide, by decide⟩ dX0_cutOff_9
set_option maxHeartbeats 4000000 in
set_option maxRecDepth 100000 in
theorem c_X0_isLess (l : Launch) (g : En) (a b : Nat) (x y : Rat) (hx0 : 0 ≤ x) (hy0 : 0 ≤ y) (h1 : nu x * y.den < 2 ^ 63) (h2 : nu y * x.den < 2 ^ 63) : PM l yX0_isLess cX0_isLess 2 (some FieldType.boolean) { frames := 0, cells := 0, slots := 0, locals := 0 } g [.ref a, .ref b] (fun H => PP g [fq a x, fq b y] H) 0 0 (rB (decide (x < y))) := by
  refine PM.of (by decide) (Nat.le_of_ble_eq_true rfl) (fun p e s m below meth c ls X hP hl => ?_)
  have hlt := lt_nu hx0 hy0
  have hl : lv_has ls 2 [(0, .ref a), (1, .ref b)] := hl
  have hX : hxt s.heap s.heap := hxt.rf
  have hP : PP g [fq a x, fq b y] s.heap := hP
  refine lv_aload_n X.1 X.2.1 dX0_isLess_0 rfl (lv_at hl 0 rfl) ?_
  refine p_get (T := TX0) X uX0 (hP.at 0 rfl) rfl 0 (by decide) mw_68 rfl rfl dX0_isLess_1 ?_
  refine lv_aload_n X.1 X.2.1 dX0_isLess_4 rfl (lv_at hl 1 rfl) ?_
  refine p_get (T := TX0) X uX0 (hP.at 1 rfl) rfl 1 (by decide) mw_70 rfl rfl dX0_isLess_5 ?_
  refine lv_lmul X.1 X.2.1 dX0_isLess_8 ?_
  refine w_l (lN_mul _ _) ?_
  refine lv_aload_n X.1 X.2.1 dX0_isLess_9 rfl (lv_at hl 1 rfl) ?_
  refine p_get (T := TX0) X uX0 (hP.at 1 rfl) rfl 0 (by decide) mw_68 rfl rfl dX0_isLess_10 ?_
  refine lv_aload_n X.1 X.2.1 dX0_isLess_13 rfl (lv_at hl 0 rfl) ?_
  refine p_get (T := TX0) X uX0 (hP.at 0 rfl) rfl 1 (by decide) mw_70 rfl rfl dX0_isLess_14 ?_
  refine lv_lmul X.1 X.2.1 dX0_isLess_17 ?_
  refine w_l (lN_mul _ _) ?_
  refine q_Nge X h1 h2 (tgt := 26) dX0_isLess_18 dX0_isLess_19 (by decide) (fun hB1 => ?_) (fun hB1 => ?_)
  ·
    refine lv_iconst (v := nI 0) X.1 X.2.1 dX0_isLess_26 (by decide) ?_
    refine w_i (v' := bI false) (by decide) ?_
    exact p_zret (v := false) X hX (by rw [rB, show decide (x < y) = false from decide_eq_false (fun h => by have := hlt.mp h; omega)]; rfl) ⟨by decide, by decide⟩ dX0_isLess_27
  ·
    refine lv_iconst (v := nI 1) X.1 X.2.1 dX0_isLess_22 (by decide) ?_
    refine lv_goto (tgt := 27) X.1 X.2.1 dX0_isLess_23 (by decide) ?_
    refine w_i (v' := bI true) (by decide) ?_
    exact p_zret (v := true) X hX (by rw [rB, show decide (x < y) = true from decide_eq_true (hlt.mpr hB1)]; rfl) ⟨by decide, by decide⟩ dX0_isLess_27
set_option maxHeartbeats 4000000 in
set_option maxRecDepth 100000 in
theorem c_X0_isSame (l : Launch) (g : En) (a b : Nat) (x y : Rat) (hx0 : 0 ≤ x) (hy0 : 0 ≤ y) (h1 : nu x < 2 ^ 63) (h2 : nu y < 2 ^ 63) (h3 : x.den < 2 ^ 63) (h4 : y.den < 2 ^ 63) : PM l yX0_isSame cX0_isSame 2 (some FieldType.boolean) { frames := 0, cells := 0, slots := 0, locals := 0 } g [.ref a, .ref b] (fun H => PP g [fq a x, fq b y] H) 0 0 (rB (decide (x = y))) := by
  refine PM.of (by decide) (Nat.le_of_ble_eq_true rfl) (fun p e s m below meth c ls X hP hl => ?_)
  have hs := same_nu hx0 hy0
  have hl : lv_has ls 2 [(0, .ref a), (1, .ref b)] := hl
  have hX : hxt s.heap s.heap := hxt.rf
  have hP : PP g [fq a x, fq b y] s.heap := hP
  refine lv_aload_n X.1 X.2.1 dX0_isSame_0 rfl (lv_at hl 0 rfl) ?_
  refine p_get (T := TX0) X uX0 (hP.at 0 rfl) rfl 0 (by decide) mw_68 rfl rfl dX0_isSame_1 ?_
  refine lv_aload_n X.1 X.2.1 dX0_isSame_4 rfl (lv_at hl 1 rfl) ?_
  refine p_get (T := TX0) X uX0 (hP.at 1 rfl) rfl 0 (by decide) mw_68 rfl rfl dX0_isSame_5 ?_
  refine q_Nne X h1 h2 (tgt := 28) dX0_isSame_8 dX0_isSame_9 (by decide) (fun hB1 => ?_) (fun hB1 => ?_)
  ·
    refine lv_iconst (v := nI 0) X.1 X.2.1 dX0_isSame_28 (by decide) ?_
    refine w_i (v' := bI false) (by decide) ?_
    exact p_zret (v := false) X hX (by rw [rB, show decide (x = y) = false from decide_eq_false (fun h => hB1 (hs.mp h).1)]; rfl) ⟨by decide, by decide⟩ dX0_isSame_29
  ·
    refine lv_aload_n X.1 X.2.1 dX0_isSame_12 rfl (lv_at hl 0 rfl) ?_
    refine p_get (T := TX0) X uX0 (hP.at 0 rfl) rfl 1 (by decide) mw_70 rfl rfl dX0_isSame_13 ?_
    refine lv_aload_n X.1 X.2.1 dX0_isSame_16 rfl (lv_at hl 1 rfl) ?_
    refine p_get (T := TX0) X uX0 (hP.at 1 rfl) rfl 1 (by decide) mw_70 rfl rfl dX0_isSame_17 ?_
    refine q_Nne X h3 h4 (tgt := 28) dX0_isSame_20 dX0_isSame_21 (by decide) (fun hB2 => ?_) (fun hB2 => ?_)
    ·
      refine lv_iconst (v := nI 0) X.1 X.2.1 dX0_isSame_28 (by decide) ?_
      refine w_i (v' := bI false) (by decide) ?_
      exact p_zret (v := false) X hX (by rw [rB, show decide (x = y) = false from decide_eq_false (fun h => hB2 (hs.mp h).2)]; rfl) ⟨by decide, by decide⟩ dX0_isSame_29
    ·
      refine lv_iconst (v := nI 1) X.1 X.2.1 dX0_isSame_24 (by decide) ?_
      refine lv_goto (tgt := 29) X.1 X.2.1 dX0_isSame_25 (by decide) ?_
      refine w_i (v' := bI true) (by decide) ?_
      exact p_zret (v := true) X hX (by rw [rB, show decide (x = y) = true from decide_eq_true (hs.mpr ⟨hB1, hB2⟩)]; rfl) ⟨by decide, by decide⟩ dX0_isSame_29
set_option maxHeartbeats 4000000 in
set_option maxRecDepth 100000 in
theorem c_X0_plus (l : Launch) (g : En) (a b : Nat) (x y : Rat) (hx0 : 0 ≤ x) (hy0 : 0 ≤ y) (h1 : nu x * y.den + nu y * x.den < 2 ^ 63) (h2 : x.den * y.den < 2 ^ 63) : PM l yX0_plus cX0_plus 2 (some (FieldType.object "RafterPlaces$Fraction")) { frames := 2, cells := 1, slots := 2, locals := 58 } g [.ref a, .ref b] (fun H => PP g [fq a x, fq b y] H) 1 2 (rF g (x + y)) := by
  refine PM.of (by decide) (Nat.le_of_ble_eq_true rfl) (fun p e s m below meth c ls X hP hl => ?_)
  have hl : lv_has ls 2 [(0, .ref a), (1, .ref b)] := hl
  have hX : hxt s.heap s.heap := hxt.rf
  have hP : PP g [fq a x, fq b y] s.heap := hP
  refine p_new (C := RX0) (T := TX0) (N := 2) (ci := 0) X tyX0 tyX0_ok uX0 ⟨mw_332, mw_60, mw_39⟩ rfl [.long 0, .long 0] (fun j hj => by rcases (show j = 0 ∨ j = 1 by omega) with rfl | rfl <;> rfl) ⟨by decide, by decide⟩ dX0_plus_0 (fun q1 H2 eq1 zq1 kq1 hq1 => ?_)
  have hX0 := hX
  have hX := hX.tr kq1
  have hP0 := hP
  have hP := PP.ext hP kq1
  refine lv_dup X.1 X.2.1 dX0_plus_3 rfl ?_
  refine lv_aload_n X.1 X.2.1 dX0_plus_4 rfl (lv_at hl 0 rfl) ?_
  refine p_get (T := TX0) X uX0 (hP.at 0 rfl) rfl 0 (by decide) mw_68 rfl rfl dX0_plus_5 ?_
  refine lv_aload_n X.1 X.2.1 dX0_plus_8 rfl (lv_at hl 1 rfl) ?_
  refine p_get (T := TX0) X uX0 (hP.at 1 rfl) rfl 1 (by decide) mw_70 rfl rfl dX0_plus_9 ?_
  refine lv_lmul X.1 X.2.1 dX0_plus_12 ?_
  refine w_l (lN_mul _ _) ?_
  refine lv_aload_n X.1 X.2.1 dX0_plus_13 rfl (lv_at hl 1 rfl) ?_
  refine p_get (T := TX0) X uX0 (hP.at 1 rfl) rfl 0 (by decide) mw_68 rfl rfl dX0_plus_14 ?_
  refine lv_aload_n X.1 X.2.1 dX0_plus_17 rfl (lv_at hl 0 rfl) ?_
  refine p_get (T := TX0) X uX0 (hP.at 0 rfl) rfl 1 (by decide) mw_70 rfl rfl dX0_plus_18 ?_
  refine lv_lmul X.1 X.2.1 dX0_plus_21 ?_
  refine w_l (lN_mul _ _) ?_
  refine lv_ladd X.1 X.2.1 dX0_plus_22 ?_
  refine w_l (lN_add _ _) ?_
  refine lv_aload_n X.1 X.2.1 dX0_plus_23 rfl (lv_at hl 0 rfl) ?_
  refine p_get (T := TX0) X uX0 (hP.at 0 rfl) rfl 1 (by decide) mw_70 rfl rfl dX0_plus_24 ?_
  refine lv_aload_n X.1 X.2.1 dX0_plus_27 rfl (lv_at hl 1 rfl) ?_
  refine p_get (T := TX0) X uX0 (hP.at 1 rfl) rfl 1 (by decide) mw_70 rfl rfl dX0_plus_28 ?_
  refine lv_lmul X.1 X.2.1 dX0_plus_31 ?_
  refine w_l (lN_mul _ _) ?_
  refine p_callI (b := q1) (As := [.long (lN (((nu x) * y.den) + ((nu y) * x.den))), .long (lN (x.den * y.den))]) (rest := [.ref q1]) X (c_X0_init l g q1 (nu x * y.den + nu y * x.den) (x.den * y.den) (Nat.mul_pos (dn_pos x) (dn_pos y)) h1 h2) ⟨mw_333, mw_62, mw_39, mw_63⟩ rfl sgX0_init ⟨rfl, rfl, ⟨by decide, by decide⟩, by decide, by decide⟩ (PP.one hq1) hX.1 (by rw [eq1]; exact hX0.1) rfl hl.1 rfl (Nat.le_of_ble_eq_true rfl) dX0_plus_32 (fun H3 hkq1 hp => ?_)
  have keq1 := kq1.init (Nat.le_of_eq eq1.symm) hkq1
  have hX := hX0.tr keq1
  rw [← add_mk hx0 hy0] at hp
  have hP := PP.cons hp (PP.ext hP0 keq1)
  refine W.eq (g2 := F0 m 35 ls [.ref q1]) rfl ?_
  exact p_aret X hX (⟨_, rfl, hP.at 0 rfl⟩) ⟨by decide, by decide⟩ dX0_plus_35
set_option maxHeartbeats 4000000 in
set_option maxRecDepth 100000 in
theorem c_X0_times (l : Launch) (g : En) (a b : Nat) (x y : Rat) (hx0 : 0 ≤ x) (hy0 : 0 ≤ y) (h1 : nu x * nu y < 2 ^ 63) (h2 : x.den * y.den < 2 ^ 63) : PM l yX0_times cX0_times 2 (some (FieldType.object "RafterPlaces$Fraction")) { frames := 2, cells := 1, slots := 2, locals := 58 } g [.ref a, .ref b] (fun H => PP g [fq a x, fq b y] H) 1 2 (rF g (x * y)) := by
  refine PM.of (by decide) (Nat.le_of_ble_eq_true rfl) (fun p e s m below meth c ls X hP hl => ?_)
  have hl : lv_has ls 2 [(0, .ref a), (1, .ref b)] := hl
  have hX : hxt s.heap s.heap := hxt.rf
  have hP : PP g [fq a x, fq b y] s.heap := hP
  refine p_new (C := RX0) (T := TX0) (N := 2) (ci := 0) X tyX0 tyX0_ok uX0 ⟨mw_332, mw_60, mw_39⟩ rfl [.long 0, .long 0] (fun j hj => by rcases (show j = 0 ∨ j = 1 by omega) with rfl | rfl <;> rfl) ⟨by decide, by decide⟩ dX0_times_0 (fun q1 H2 eq1 zq1 kq1 hq1 => ?_)
  have hX0 := hX
  have hX := hX.tr kq1
  have hP0 := hP
  have hP := PP.ext hP kq1
  refine lv_dup X.1 X.2.1 dX0_times_3 rfl ?_
  refine lv_aload_n X.1 X.2.1 dX0_times_4 rfl (lv_at hl 0 rfl) ?_
  refine p_get (T := TX0) X uX0 (hP.at 0 rfl) rfl 0 (by decide) mw_68 rfl rfl dX0_times_5 ?_
  refine lv_aload_n X.1 X.2.1 dX0_times_8 rfl (lv_at hl 1 rfl) ?_
  refine p_get (T := TX0) X uX0 (hP.at 1 rfl) rfl 0 (by decide) mw_68 rfl rfl dX0_times_9 ?_
  refine lv_lmul X.1 X.2.1 dX0_times_12 ?_
  refine w_l (lN_mul _ _) ?_
  refine lv_aload_n X.1 X.2.1 dX0_times_13 rfl (lv_at hl 0 rfl) ?_
  refine p_get (T := TX0) X uX0 (hP.at 0 rfl) rfl 1 (by decide) mw_70 rfl rfl dX0_times_14 ?_
  refine lv_aload_n X.1 X.2.1 dX0_times_17 rfl (lv_at hl 1 rfl) ?_
  refine p_get (T := TX0) X uX0 (hP.at 1 rfl) rfl 1 (by decide) mw_70 rfl rfl dX0_times_18 ?_
  refine lv_lmul X.1 X.2.1 dX0_times_21 ?_
  refine w_l (lN_mul _ _) ?_
  refine p_callI (b := q1) (As := [.long (lN ((nu x) * (nu y))), .long (lN (x.den * y.den))]) (rest := [.ref q1]) X (c_X0_init l g q1 (nu x * nu y) (x.den * y.den) (Nat.mul_pos (dn_pos x) (dn_pos y)) h1 h2) ⟨mw_333, mw_62, mw_39, mw_63⟩ rfl sgX0_init ⟨rfl, rfl, ⟨by decide, by decide⟩, by decide, by decide⟩ (PP.one hq1) hX.1 (by rw [eq1]; exact hX0.1) rfl hl.1 rfl (Nat.le_of_ble_eq_true rfl) dX0_times_22 (fun H3 hkq1 hp => ?_)
  have keq1 := kq1.init (Nat.le_of_eq eq1.symm) hkq1
  have hX := hX0.tr keq1
  rw [← mul_mk hx0 hy0] at hp
  have hP := PP.cons hp (PP.ext hP0 keq1)
  refine W.eq (g2 := F0 m 25 ls [.ref q1]) rfl ?_
  exact p_aret X hX (⟨_, rfl, hP.at 0 rfl⟩) ⟨by decide, by decide⟩ dX0_times_25
set_option maxHeartbeats 4000000 in
set_option maxRecDepth 100000 in
theorem c_X0_dividedBy (l : Launch) (g : En) (a b : Nat) (x y : Rat) (hx0 : 0 ≤ x) (hy0 : 0 < y) (h1 : nu x * y.den < 2 ^ 63) (h2 : x.den * nu y < 2 ^ 63) : PM l yX0_dividedBy cX0_dividedBy 2 (some (FieldType.object "RafterPlaces$Fraction")) { frames := 2, cells := 1, slots := 2, locals := 58 } g [.ref a, .ref b] (fun H => PP g [fq a x, fq b y] H) 1 2 (rF g (x / y)) := by
  refine PM.of (by decide) (Nat.le_of_ble_eq_true rfl) (fun p e s m below meth c ls X hP hl => ?_)
  have hl : lv_has ls 2 [(0, .ref a), (1, .ref b)] := hl
  have hX : hxt s.heap s.heap := hxt.rf
  have hP : PP g [fq a x, fq b y] s.heap := hP
  refine p_new (C := RX0) (T := TX0) (N := 2) (ci := 0) X tyX0 tyX0_ok uX0 ⟨mw_332, mw_60, mw_39⟩ rfl [.long 0, .long 0] (fun j hj => by rcases (show j = 0 ∨ j = 1 by omega) with rfl | rfl <;> rfl) ⟨by decide, by decide⟩ dX0_dividedBy_0 (fun q1 H2 eq1 zq1 kq1 hq1 => ?_)
  have hX0 := hX
  have hX := hX.tr kq1
  have hP0 := hP
  have hP := PP.ext hP kq1
  refine lv_dup X.1 X.2.1 dX0_dividedBy_3 rfl ?_
  refine lv_aload_n X.1 X.2.1 dX0_dividedBy_4 rfl (lv_at hl 0 rfl) ?_
  refine p_get (T := TX0) X uX0 (hP.at 0 rfl) rfl 0 (by decide) mw_68 rfl rfl dX0_dividedBy_5 ?_
  refine lv_aload_n X.1 X.2.1 dX0_dividedBy_8 rfl (lv_at hl 1 rfl) ?_
  refine p_get (T := TX0) X uX0 (hP.at 1 rfl) rfl 1 (by decide) mw_70 rfl rfl dX0_dividedBy_9 ?_
  refine lv_lmul X.1 X.2.1 dX0_dividedBy_12 ?_
  refine w_l (lN_mul _ _) ?_
  refine lv_aload_n X.1 X.2.1 dX0_dividedBy_13 rfl (lv_at hl 0 rfl) ?_
  refine p_get (T := TX0) X uX0 (hP.at 0 rfl) rfl 1 (by decide) mw_70 rfl rfl dX0_dividedBy_14 ?_
  refine lv_aload_n X.1 X.2.1 dX0_dividedBy_17 rfl (lv_at hl 1 rfl) ?_
  refine p_get (T := TX0) X uX0 (hP.at 1 rfl) rfl 0 (by decide) mw_68 rfl rfl dX0_dividedBy_18 ?_
  refine lv_lmul X.1 X.2.1 dX0_dividedBy_21 ?_
  refine w_l (lN_mul _ _) ?_
  refine p_callI (b := q1) (As := [.long (lN ((nu x) * y.den)), .long (lN (x.den * (nu y)))]) (rest := [.ref q1]) X (c_X0_init l g q1 (nu x * y.den) (x.den * nu y) (Nat.mul_pos (dn_pos x) (nu_pos hy0)) h1 h2) ⟨mw_333, mw_62, mw_39, mw_63⟩ rfl sgX0_init ⟨rfl, rfl, ⟨by decide, by decide⟩, by decide, by decide⟩ (PP.one hq1) hX.1 (by rw [eq1]; exact hX0.1) rfl hl.1 rfl (Nat.le_of_ble_eq_true rfl) dX0_dividedBy_22 (fun H3 hkq1 hp => ?_)
  have keq1 := kq1.init (Nat.le_of_eq eq1.symm) hkq1
  have hX := hX0.tr keq1
  rw [← div_mk hx0 hy0] at hp
  have hP := PP.cons hp (PP.ext hP0 keq1)
  refine W.eq (g2 := F0 m 25 ls [.ref q1]) rfl ?_
  exact p_aret X hX (⟨_, rfl, hP.at 0 rfl⟩) ⟨by decide, by decide⟩ dX0_dividedBy_25
set_option maxHeartbeats 4000000 in
set_option maxRecDepth 100000 in
theorem c_X0_inverse (l : Launch) (g : En) (a : Nat) (x : Rat) (hx0 : 0 < x) (h1 : nu x < 2 ^ 63) (h2 : x.den < 2 ^ 63) : PM l yX0_inverse cX0_inverse 1 (some (FieldType.object "RafterPlaces$Fraction")) { frames := 2, cells := 1, slots := 2, locals := 58 } g [.ref a] (fun H => PP g [fq a x] H) 1 2 (rF g (x⁻¹)) := by
  refine PM.of (by decide) (Nat.le_of_ble_eq_true rfl) (fun p e s m below meth c ls X hP hl => ?_)
  have hl : lv_has ls 1 [(0, .ref a)] := hl
  have hX : hxt s.heap s.heap := hxt.rf
  have hP : PP g [fq a x] s.heap := hP
  refine p_new (C := RX0) (T := TX0) (N := 2) (ci := 0) X tyX0 tyX0_ok uX0 ⟨mw_332, mw_60, mw_39⟩ rfl [.long 0, .long 0] (fun j hj => by rcases (show j = 0 ∨ j = 1 by omega) with rfl | rfl <;> rfl) ⟨by decide, by decide⟩ dX0_inverse_0 (fun q1 H2 eq1 zq1 kq1 hq1 => ?_)
  have hX0 := hX
  have hX := hX.tr kq1
  have hP0 := hP
  have hP := PP.ext hP kq1
  refine lv_dup X.1 X.2.1 dX0_inverse_3 rfl ?_
  refine lv_aload_n X.1 X.2.1 dX0_inverse_4 rfl (lv_at hl 0 rfl) ?_
  refine p_get (T := TX0) X uX0 (hP.at 0 rfl) rfl 1 (by decide) mw_70 rfl rfl dX0_inverse_5 ?_
  refine lv_aload_n X.1 X.2.1 dX0_inverse_8 rfl (lv_at hl 0 rfl) ?_
  refine p_get (T := TX0) X uX0 (hP.at 0 rfl) rfl 0 (by decide) mw_68 rfl rfl dX0_inverse_9 ?_
  refine p_callI (b := q1) (As := [.long (lN x.den), .long (lN (nu x))]) (rest := [.ref q1]) X (c_X0_init l g q1 x.den (nu x) (nu_pos hx0) h2 h1) ⟨mw_333, mw_62, mw_39, mw_63⟩ rfl sgX0_init ⟨rfl, rfl, ⟨by decide, by decide⟩, by decide, by decide⟩ (PP.one hq1) hX.1 (by rw [eq1]; exact hX0.1) rfl hl.1 rfl (Nat.le_of_ble_eq_true rfl) dX0_inverse_12 (fun H3 hkq1 hp => ?_)
  have keq1 := kq1.init (Nat.le_of_eq eq1.symm) hkq1
  have hX := hX0.tr keq1
  rw [← inv_mk hx0] at hp
  have hP := PP.cons hp (PP.ext hP0 keq1)
  refine W.eq (g2 := F0 m 15 ls [.ref q1]) rfl ?_
  exact p_aret X hX (⟨_, rfl, hP.at 0 rfl⟩) ⟨by decide, by decide⟩ dX0_inverse_15
set_option maxHeartbeats 4000000 in
set_option maxRecDepth 100000 in
theorem c_X0_times_ (l : Launch) (g : En) (a w : Nat) (x : Rat) (hx0 : 0 ≤ x) (h1 : nu x * w < 2 ^ 63) (h2 : x.den < 2 ^ 63) : PM l yX0_times_ cX0_times_ 3 (some (FieldType.object "RafterPlaces$Fraction")) { frames := 2, cells := 1, slots := 2, locals := 58 } g [.ref a, .long (lN w)] (fun H => PP g [fq a x] H) 1 2 (rF g (x * (w : Rat))) := by
  refine PM.of (by decide) (Nat.le_of_ble_eq_true rfl) (fun p e s m below meth c ls X hP hl => ?_)
  have hl : lv_has ls 3 [(0, .ref a), (1, .long (lN w))] := hl
  have hX : hxt s.heap s.heap := hxt.rf
  have hP : PP g [fq a x] s.heap := hP
  refine p_new (C := RX0) (T := TX0) (N := 2) (ci := 0) X tyX0 tyX0_ok uX0 ⟨mw_332, mw_60, mw_39⟩ rfl [.long 0, .long 0] (fun j hj => by rcases (show j = 0 ∨ j = 1 by omega) with rfl | rfl <;> rfl) ⟨by decide, by decide⟩ dX0_times__0 (fun q1 H2 eq1 zq1 kq1 hq1 => ?_)
  have hX0 := hX
  have hX := hX.tr kq1
  have hP0 := hP
  have hP := PP.ext hP kq1
  refine lv_dup X.1 X.2.1 dX0_times__3 rfl ?_
  refine lv_aload_n X.1 X.2.1 dX0_times__4 rfl (lv_at hl 0 rfl) ?_
  refine p_get (T := TX0) X uX0 (hP.at 0 rfl) rfl 0 (by decide) mw_68 rfl rfl dX0_times__5 ?_
  refine lv_lload_n X.1 X.2.1 dX0_times__8 rfl (lv_at hl 1 rfl) ?_
  refine lv_lmul X.1 X.2.1 dX0_times__9 ?_
  refine w_l (lN_mul _ _) ?_
  refine lv_aload_n X.1 X.2.1 dX0_times__10 rfl (lv_at hl 0 rfl) ?_
  refine p_get (T := TX0) X uX0 (hP.at 0 rfl) rfl 1 (by decide) mw_70 rfl rfl dX0_times__11 ?_
  refine p_callI (b := q1) (As := [.long (lN ((nu x) * w)), .long (lN x.den)]) (rest := [.ref q1]) X (c_X0_init l g q1 (nu x * w) x.den (dn_pos x) h1 h2) ⟨mw_333, mw_62, mw_39, mw_63⟩ rfl sgX0_init ⟨rfl, rfl, ⟨by decide, by decide⟩, by decide, by decide⟩ (PP.one hq1) hX.1 (by rw [eq1]; exact hX0.1) rfl hl.1 rfl (Nat.le_of_ble_eq_true rfl) dX0_times__14 (fun H3 hkq1 hp => ?_)
  have keq1 := kq1.init (Nat.le_of_eq eq1.symm) hkq1
  have hX := hX0.tr keq1
  rw [← muln_mk hx0] at hp
  have hP := PP.cons hp (PP.ext hP0 keq1)
  refine W.eq (g2 := F0 m 17 ls [.ref q1]) rfl ?_
  exact p_aret X hX (⟨_, rfl, hP.at 0 rfl⟩) ⟨by decide, by decide⟩ dX0_times__17
set_option maxHeartbeats 4000000 in
set_option maxRecDepth 100000 in
theorem c_X0_takenFrom (l : Launch) (g : En) (a w : Nat) (x : Rat) (hx0 : 0 ≤ x) (hw : x ≤ (w : Rat)) (h1 : w * x.den < 2 ^ 63) (h2 : x.den < 2 ^ 63) : PM l yX0_takenFrom cX0_takenFrom 3 (some (FieldType.object "RafterPlaces$Fraction")) { frames := 2, cells := 1, slots := 2, locals := 58 } g [.ref a, .long (lN w)] (fun H => PP g [fq a x] H) 1 2 (rF g ((w : Rat) - x)) := by
  refine PM.of (by decide) (Nat.le_of_ble_eq_true rfl) (fun p e s m below meth c ls X hP hl => ?_)
  have hl : lv_has ls 3 [(0, .ref a), (1, .long (lN w))] := hl
  have hX : hxt s.heap s.heap := hxt.rf
  have hP : PP g [fq a x] s.heap := hP
  refine p_new (C := RX0) (T := TX0) (N := 2) (ci := 0) X tyX0 tyX0_ok uX0 ⟨mw_332, mw_60, mw_39⟩ rfl [.long 0, .long 0] (fun j hj => by rcases (show j = 0 ∨ j = 1 by omega) with rfl | rfl <;> rfl) ⟨by decide, by decide⟩ dX0_takenFrom_0 (fun q1 H2 eq1 zq1 kq1 hq1 => ?_)
  have hX0 := hX
  have hX := hX.tr kq1
  have hP0 := hP
  have hP := PP.ext hP kq1
  refine lv_dup X.1 X.2.1 dX0_takenFrom_3 rfl ?_
  refine lv_lload_n X.1 X.2.1 dX0_takenFrom_4 rfl (lv_at hl 1 rfl) ?_
  refine lv_aload_n X.1 X.2.1 dX0_takenFrom_5 rfl (lv_at hl 0 rfl) ?_
  refine p_get (T := TX0) X uX0 (hP.at 0 rfl) rfl 1 (by decide) mw_70 rfl rfl dX0_takenFrom_6 ?_
  refine lv_lmul X.1 X.2.1 dX0_takenFrom_9 ?_
  refine w_l (lN_mul _ _) ?_
  refine lv_aload_n X.1 X.2.1 dX0_takenFrom_10 rfl (lv_at hl 0 rfl) ?_
  refine p_get (T := TX0) X uX0 (hP.at 0 rfl) rfl 0 (by decide) mw_68 rfl rfl dX0_takenFrom_11 ?_
  refine lv_lsub X.1 X.2.1 dX0_takenFrom_14 ?_
  refine w_l (lN_sub ((le_nu hx0).mp hw)) ?_
  refine lv_aload_n X.1 X.2.1 dX0_takenFrom_15 rfl (lv_at hl 0 rfl) ?_
  refine p_get (T := TX0) X uX0 (hP.at 0 rfl) rfl 1 (by decide) mw_70 rfl rfl dX0_takenFrom_16 ?_
  refine p_callI (b := q1) (As := [.long (lN ((w * x.den) - (nu x))), .long (lN x.den)]) (rest := [.ref q1]) X (c_X0_init l g q1 (w * x.den - nu x) x.den (dn_pos x) (by omega) h2) ⟨mw_333, mw_62, mw_39, mw_63⟩ rfl sgX0_init ⟨rfl, rfl, ⟨by decide, by decide⟩, by decide, by decide⟩ (PP.one hq1) hX.1 (by rw [eq1]; exact hX0.1) rfl hl.1 rfl (Nat.le_of_ble_eq_true rfl) dX0_takenFrom_19 (fun H3 hkq1 hp => ?_)
  have keq1 := kq1.init (Nat.le_of_eq eq1.symm) hkq1
  have hX := hX0.tr keq1
  rw [← sub_mk hx0 ((le_nu hx0).mp hw)] at hp
  have hP := PP.cons hp (PP.ext hP0 keq1)
  refine W.eq (g2 := F0 m 22 ls [.ref q1]) rfl ?_
  exact p_aret X hX (⟨_, rfl, hP.at 0 rfl⟩) ⟨by decide, by decide⟩ dX0_takenFrom_22
