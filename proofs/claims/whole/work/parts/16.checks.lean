/-! raw ints and longs as numbers; which kind of answer a call has -/
def toN (i : Int32) : Nat := i.toInt.toNat
def toL (v : Int64) : Nat := v.toInt.toNat
def inI (i : Int32) (n : Nat) : Bool := decide (0 ≤ i.toInt ∧ i.toInt < (n : Int))
def inL (v : Int64) (lo hi : Nat) : Bool := decide ((lo : Int) ≤ v.toInt ∧ v.toInt ≤ (hi : Int))
theorem toN_k {k : Nat} (h : k < 2 ^ 31) : toN (nI k) = k := by rw [toN, nI_toInt h, Int.toNat_natCast]
theorem toL_k {k : Nat} (h : k < 2 ^ 63) : toL (lN k) = k := by rw [toL, pk_lT h, Int.toNat_natCast]
theorem inI_k {k n : Nat} (h : k < n) (hn : n < 2 ^ 31) : inI (nI k) n = true := by rw [inI, nI_toInt (by omega)]; exact decide_eq_true (by omega)
theorem inL_k {k lo hi : Nat} (h1 : lo ≤ k) (h2 : k ≤ hi) (hn : hi < 2 ^ 63) : inL (lN k) lo hi = true := by rw [inL, pk_lT (by omega)]; exact decide_eq_true (by omega)
theorem inI_of {i : Int32} {n : Nat} (h : inI i n = true) (hn : n < 2 ^ 31) : ∃ k, k < n ∧ i = nI k := by
  have h1 := of_decide_eq_true h
  refine ⟨i.toInt.toNat, by omega, Int32.toInt_inj.mp ?_⟩
  rw [nI_toInt (by omega)]; omega
theorem inL_of {v : Int64} {lo hi : Nat} (h : inL v lo hi = true) (hn : hi < 2 ^ 63) : ∃ k, lo ≤ k ∧ k ≤ hi ∧ v = lN k := by
  have h1 := of_decide_eq_true h
  refine ⟨v.toInt.toNat, by omega, by omega, Int64.toInt_inj.mp ?_⟩
  rw [pk_lT (by omega)]; omega
theorem inI_lo {i : Int32} {n : Nat} (h : i < 0) : inI i n = false := by
  rw [Int32.lt_iff_toInt_lt, Int32.toInt_zero] at h
  exact decide_eq_false (by omega)
theorem inI_hi {i : Int32} {n : Nat} (hn : n < 2 ^ 31) (h : ¬ i < nI n) : inI i n = false := by
  rw [Int32.lt_iff_toInt_lt, nI_toInt hn] at h
  exact decide_eq_false (by omega)
theorem inI_in {i : Int32} {n : Nat} (hn : n < 2 ^ 31) (h0 : ¬ i < 0) (h : i < nI n) : inI i n = true := by
  rw [Int32.lt_iff_toInt_lt, Int32.toInt_zero] at h0
  rw [Int32.lt_iff_toInt_lt, nI_toInt hn] at h
  exact decide_eq_true (by omega)
theorem inL_lo {v : Int64} {lo hi : Nat} (hn : lo < 2 ^ 63) (h : v < lN lo) : inL v lo hi = false := by
  rw [Int64.lt_iff_toInt_lt, pk_lT hn] at h
  exact decide_eq_false (by omega)
theorem inL_hi {v : Int64} {lo hi : Nat} (hn : hi < 2 ^ 63) (h : ¬ v ≤ lN hi) : inL v lo hi = false := by
  rw [Int64.le_iff_toInt_le, pk_lT hn] at h
  exact decide_eq_false (by omega)
theorem inL_in {v : Int64} {lo hi : Nat} (h1 : lo < 2 ^ 63) (h2 : hi < 2 ^ 63) (h : ¬ v < lN lo) (h3 : v ≤ lN hi) : inL v lo hi = true := by
  rw [Int64.lt_iff_toInt_lt, pk_lT h1] at h
  rw [Int64.le_iff_toInt_le, pk_lT h2] at h3
  exact decide_eq_true (by omega)
def xk (a s g : Bool) : String → Prop := fun E => (a = false ∧ E = eA) ∨ (a = true ∧ s = false ∧ E = eS) ∨ (a = true ∧ s = true ∧ g = false ∧ E = eG)
theorem xk_A {a a' s g : Bool} {E : String} (ha : a = false → a' = false) (h : xk a true true E) : xk a' s g E := by
  rcases h with h | h | h
  · exact Or.inl ⟨ha h.1, h.2⟩
  · exact absurd h.2.1 (by decide)
  · exact absurd h.2.2.1 (by decide)
theorem xk_S {s a' s' g : Bool} {E : String} (ha : a' = true) (hs : s = false → s' = false) (h : xk true s true E) : xk a' s' g E := by
  rcases h with h | h | h
  · exact absurd h.1 (by decide)
  · exact Or.inr (Or.inl ⟨ha, hs h.2.1, h.2.2⟩)
  · exact absurd h.2.2.1 (by decide)
theorem xk_G {g a' s' g' : Bool} {E : String} (ha : a' = true) (hs : s' = true) (hg : g = false → g' = false) (h : xk true true g E) : xk a' s' g' E := by
  rcases h with h | h | h
  · exact absurd h.1 (by decide)
  · exact absurd h.2.1 (by decide)
  · exact Or.inr (Or.inr ⟨ha, hs, hg h.2.2.1, h.2.2.2⟩)
theorem xk_SG {s g a' s' g' : Bool} {E : String} (ha : a' = true) (hs : s = s') (hg : g = g') (h : xk true s g E) : xk a' s' g' E := by
  subst ha; subst hs; subst hg; exact h
/-- a void method that checks -/
def rC (b : Bool) : Option Value → Heap → Prop := fun v _ => v = none ∧ b = true
def bt : Nat → Int32
  | 0 => -1
  | k + 1 => nI k
theorem bt_dec (k : Nat) : nI k + Int32.ofInt (-1) = bt k := by
  cases k with
  | zero => decide
  | succ k => rw [show Int32.ofInt (-1) = -1 from by decide]; exact pk_m1 k
set_option maxHeartbeats 4000000 in
set_option maxRecDepth 100000 in
theorem c_X1_root (l : Launch) (g : En) (n : Nat) (hn : n < 2 ^ 62) : PM l yX1_root cX1_root 7 (some FieldType.long) { frames := 0, cells := 0, slots := 0, locals := 0 } g [.long (lN n)] (fun H => True) 0 0 (rL (isq n)) := by
  refine PM.of (by decide) (Nat.le_of_ble_eq_true rfl) (fun p e s m below meth c ls X _ hl => ?_)
  have hX : hxt s.heap s.heap := hxt.rf
  have loop : ∀ (k r0 : Nat), k ≤ 31 → r0 + 2 ^ k ≤ 2 ^ 31 → rt k r0 n = isq n → ∀ (ls : Array Slot), lv_has ls 7 [(4, .int (bt k)), (2, .long (lN r0)), (0, .long (lN n))] → W p l e { frames := 0, cells := 0, slots := 0, locals := 0 } s m ([.long (lN n)] : List Value).toArray below meth c s.heap [] 0 0 (MQ below (pQ (rL (isq n))) ([.long (lN n)] : List Value).toArray s 0 0 (fun q => s.heap.size ≤ q)) (F0 m 6 ls []) := by
    intro k
    induction k with
    | zero =>
      intro r0 hk hr hg ls hl
      refine lv_iload X.1 X.2.1 dX1_root_6 (lv_at hl 0 rfl) ?_
      refine lv_if_lt (tgt := 38) X.1 X.2.1 dX1_root_8 (by decide) (fun hB101 => ?_) (fun hB101 => ?_)
      ·
        refine lv_lload_n X.1 X.2.1 dX1_root_38 rfl (lv_at hl 1 rfl) ?_
        exact p_lret X hX (by rw [rL, ← hg]; rfl) ⟨by decide, by decide⟩ dX1_root_39
      ·
        exact absurd (show bt 0 < 0 by decide) hB101
    | succ k ih =>
      intro r0 hk hr hg ls hl
      have hp : 2 ^ (k + 1) = 2 ^ k + 2 ^ k := by rw [Nat.pow_succ]; omega
      have hp0 : 0 < 2 ^ k := Nat.two_pow_pos k
      have ht : r0 + 2 ^ k ≤ 2 ^ 31 := by omega
      have hsq : (r0 + 2 ^ k) * (r0 + 2 ^ k) ≤ 2 ^ 31 * 2 ^ 31 := Nat.mul_le_mul ht ht
      have hl : lv_has ls 7 [(4, .int (nI k)), (2, .long (lN r0)), (0, .long (lN n))] := hl
      refine lv_iload X.1 X.2.1 dX1_root_6 (lv_at hl 0 rfl) ?_
      refine lv_if_lt (tgt := 38) X.1 X.2.1 dX1_root_8 (by decide) (fun hB101 => ?_) (fun hB101 => ?_)
      ·
        exact absurd hB101 (nI_pos (by omega))
      ·
        refine lv_lload_n X.1 X.2.1 dX1_root_11 rfl (lv_at hl 1 rfl) ?_
        refine lv_lconst (v := lN 1) X.1 X.2.1 dX1_root_12 (by decide) ?_
        refine lv_iload X.1 X.2.1 dX1_root_13 (lv_at hl 0 rfl) ?_
        refine lv_lshl (v := lN (1 * 2 ^ k)) X.1 X.2.1 dX1_root_15 (wb_shl 1 (by omega)) ?_
        refine w_l (v' := lN (2 ^ k)) (by rw [Nat.one_mul]) ?_
        refine lv_ladd X.1 X.2.1 dX1_root_16 ?_
        refine w_l (lN_add _ _) ?_
        refine lv_lstore (lv' := [(5, .long (lN (r0 + (2 ^ k)))), (4, .int (nI k)), (2, .long (lN r0)), (0, .long (lN n))]) X.1 X.2.1 dX1_root_17 hl (by decide) rfl (fun ls hl => ?_)
        refine lv_lload X.1 X.2.1 dX1_root_19 (lv_at hl 0 rfl) ?_
        refine lv_lload X.1 X.2.1 dX1_root_21 (lv_at hl 0 rfl) ?_
        refine lv_lmul X.1 X.2.1 dX1_root_23 ?_
        refine w_l (lN_mul _ _) ?_
        refine lv_lload_n X.1 X.2.1 dX1_root_24 rfl (lv_at hl 3 rfl) ?_
        refine q_Ngt X (by omega) (by omega) (tgt := 32) dX1_root_25 dX1_root_26 (by decide) (fun hB102 => ?_) (fun hB102 => ?_)
        ·
          refine lv_iinc (v := bt k) (lv' := [(4, .int (bt k)), (5, .long (lN (r0 + (2 ^ k)))), (2, .long (lN r0)), (0, .long (lN n))]) X.1 X.2.1 dX1_root_32 hl (k := 1) rfl (bt_dec k) (by decide) rfl (fun ls hl => ?_)
          refine lv_goto (tgt := 6) X.1 X.2.1 dX1_root_35 (by decide) ?_
          exact ih (r0) (by omega) (by omega) (by rw [← hg, rt, if_neg (by omega)]) ls (lv_sub hl [0, 2, 3] rfl)
        ·
          refine lv_lload X.1 X.2.1 dX1_root_29 (lv_at hl 0 rfl) ?_
          refine lv_lstore_n (lv' := [(2, .long (lN (r0 + (2 ^ k)))), (5, .long (lN (r0 + (2 ^ k)))), (4, .int (nI k)), (0, .long (lN n))]) X.1 X.2.1 dX1_root_31 rfl hl (by decide) rfl (fun ls hl => ?_)
          refine lv_iinc (v := bt k) (lv' := [(4, .int (bt k)), (2, .long (lN (r0 + (2 ^ k)))), (5, .long (lN (r0 + (2 ^ k)))), (0, .long (lN n))]) X.1 X.2.1 dX1_root_32 hl (k := 2) rfl (bt_dec k) (by decide) rfl (fun ls hl => ?_)
          refine lv_goto (tgt := 6) X.1 X.2.1 dX1_root_35 (by decide) ?_
          exact ih (r0 + (2 ^ k)) (by omega) (by omega) (by rw [← hg, rt, if_pos hB102]) ls (lv_sub hl [0, 1, 3] rfl)
  have hl : lv_has ls 7 [(0, .long (lN n))] := hl
  have hX : hxt s.heap s.heap := hxt.rf
  refine lv_lconst (v := lN 0) X.1 X.2.1 dX1_root_0 (by decide) ?_
  refine lv_lstore_n (lv' := [(2, .long (lN 0)), (0, .long (lN n))]) X.1 X.2.1 dX1_root_1 rfl hl (by decide) rfl (fun ls hl => ?_)
  refine lv_bipush (v := nI 30) X.1 X.2.1 dX1_root_2 (by decide) ?_
  refine lv_istore (lv' := [(4, .int (nI 30)), (2, .long (lN 0)), (0, .long (lN n))]) X.1 X.2.1 dX1_root_4 hl (by decide) rfl (fun ls hl => ?_)
  exact loop 31 0 (by decide) (by decide) rfl ls (lv_sub hl [0, 1, 2] rfl)
set_option maxHeartbeats 4000000 in
set_option maxRecDepth 100000 in
theorem c_X1_checkIndex (l : Launch) (g : En) (i : Int32) (n : Nat) (hl0 : l.stackTraces = false) (hn : n < 2 ^ 31) : XM l yX1_checkIndex cX1_checkIndex 2 none { frames := 7, cells := 1, slots := 6, locals := 95 } g [.int i, .int (nI n)] (fun H => True) 1 6 (rC (inI i n)) (xk (inI i n) true true) := by
  refine XM.of (by decide) (Nat.le_of_ble_eq_true rfl) (fun p e s m below meth c ls X hne hE hG hl => ?_)
  have hl : lv_has ls 2 [(0, .int i), (1, .int (nI n))] := hl
  have hX : hxt s.heap s.heap := hxt.rf
  refine lv_iload_n X.1 X.2.1 dX1_checkIndex_0 rfl (lv_at hl 0 rfl) ?_
  refine lv_if_lt (tgt := 9) X.1 X.2.1 dX1_checkIndex_1 (by decide) (fun hB1 => ?_) (fun hB1 => ?_)
  ·
    exact x_throw (cls := eA) (names := ["java/lang/IndexOutOfBoundsException", "java/lang/RuntimeException", "java/lang/Exception"]) X hne hE hl0 rfl (by decide) (by decide) ⟨mw_178, mw_46⟩ (hE.2.2.2.2.1) tA1 tA2 tA3 hX hl.1 dX1_checkIndex_9 dX1_checkIndex_12 dX1_checkIndex_13 dX1_checkIndex_15 dX1_checkIndex_18 ⟨by decide, by decide, by decide, by decide⟩ (Or.inl ⟨inI_lo hB1, rfl⟩) ⟨by decide, by decide⟩
  ·
    refine lv_iload_n X.1 X.2.1 dX1_checkIndex_4 rfl (lv_at hl 0 rfl) ?_
    refine lv_iload_n X.1 X.2.1 dX1_checkIndex_5 rfl (lv_at hl 1 rfl) ?_
    refine lv_icmp_lt (tgt := 19) X.1 X.2.1 dX1_checkIndex_6 (by decide) (fun hB2 => ?_) (fun hB2 => ?_)
    ·
      exact vx_ret (p_vret X hX (⟨rfl, inI_in hn hB1 hB2⟩) ⟨by decide, by decide⟩ dX1_checkIndex_19)
    ·
      exact x_throw (cls := eA) (names := ["java/lang/IndexOutOfBoundsException", "java/lang/RuntimeException", "java/lang/Exception"]) X hne hE hl0 rfl (by decide) (by decide) ⟨mw_178, mw_46⟩ (hE.2.2.2.2.1) tA1 tA2 tA3 hX hl.1 dX1_checkIndex_9 dX1_checkIndex_12 dX1_checkIndex_13 dX1_checkIndex_15 dX1_checkIndex_18 ⟨by decide, by decide, by decide, by decide⟩ (Or.inl ⟨inI_hi hn hB2, rfl⟩) ⟨by decide, by decide⟩
set_option maxHeartbeats 4000000 in
set_option maxRecDepth 100000 in
theorem c_X1_checkNumber (l : Launch) (g : En) (v0 : Int64) (lo hi : Nat) (hl0 : l.stackTraces = false) (h1 : lo < 2 ^ 63) (h2 : hi < 2 ^ 63) : XM l yX1_checkNumber cX1_checkNumber 6 none { frames := 6, cells := 1, slots := 6, locals := 82 } g [.long v0, .long (lN lo), .long (lN hi)] (fun H => True) 1 6 (rC (inL v0 lo hi)) (xk true true (inL v0 lo hi)) := by
  refine XM.of (by decide) (Nat.le_of_ble_eq_true rfl) (fun p e s m below meth c ls X hne hE hG hl => ?_)
  have hl : lv_has ls 6 [(0, .long v0), (2, .long (lN lo)), (4, .long (lN hi))] := hl
  have hX : hxt s.heap s.heap := hxt.rf
  refine lv_lload_n X.1 X.2.1 dX1_checkNumber_0 rfl (lv_at hl 0 rfl) ?_
  refine lv_lload_n X.1 X.2.1 dX1_checkNumber_1 rfl (lv_at hl 1 rfl) ?_
  refine q_llt X (tgt := 13) dX1_checkNumber_2 dX1_checkNumber_3 (by decide) (fun hB1 => ?_) (fun hB1 => ?_)
  ·
    exact x_throw (cls := eG) (names := ["java/lang/RuntimeException", "java/lang/Exception"]) X hne hE hl0 rfl (by decide) (by decide) ⟨mw_99, mw_44⟩ (hE.2.2.2.2.2.1) tG1 tG2 tG3 hX hl.1 dX1_checkNumber_13 dX1_checkNumber_16 dX1_checkNumber_17 dX1_checkNumber_19 dX1_checkNumber_22 ⟨by decide, by decide, by decide, by decide⟩ (Or.inr (Or.inr ⟨rfl, rfl, inL_lo h1 hB1, rfl⟩)) ⟨by decide, by decide⟩
  ·
    refine lv_lload_n X.1 X.2.1 dX1_checkNumber_6 rfl (lv_at hl 0 rfl) ?_
    refine lv_lload X.1 X.2.1 dX1_checkNumber_7 (lv_at hl 2 rfl) ?_
    refine q_lle X (tgt := 23) dX1_checkNumber_9 dX1_checkNumber_10 (by decide) (fun hB2 => ?_) (fun hB2 => ?_)
    ·
      exact vx_ret (p_vret X hX (⟨rfl, inL_in h1 h2 hB1 hB2⟩) ⟨by decide, by decide⟩ dX1_checkNumber_23)
    ·
      exact x_throw (cls := eG) (names := ["java/lang/RuntimeException", "java/lang/Exception"]) X hne hE hl0 rfl (by decide) (by decide) ⟨mw_99, mw_44⟩ (hE.2.2.2.2.2.1) tG1 tG2 tG3 hX hl.1 dX1_checkNumber_13 dX1_checkNumber_16 dX1_checkNumber_17 dX1_checkNumber_19 dX1_checkNumber_22 ⟨by decide, by decide, by decide, by decide⟩ (Or.inr (Or.inr ⟨rfl, rfl, inL_hi h2 hB2, rfl⟩)) ⟨by decide, by decide⟩
set_option maxHeartbeats 4000000 in
set_option maxRecDepth 100000 in
theorem c_X1_checkNoGable (l : Launch) (g : En) (o r : Nat) (A : Nat → Nat) (x1 y1 : Nat) (q : Nat → Rat) (k : Nat) (hl0 : l.stackTraces = false) (hk : k < 4) (hq : bd (q k) 20 20) : XM l yX1_checkNoGable cX1_checkNoGable 2 none { frames := 6, cells := 1, slots := 6, locals := 82 } g [.ref o, .int (nI k)] (fun H => RP g o r A x1 y1 q H) 1 6 (rC (!gab q k)) (xk true (!gab q k) true) := by
  refine XM.of (by decide) (Nat.le_of_ble_eq_true rfl) (fun p e s m below meth c ls X hne hE hG hl => ?_)
  obtain ⟨hP, hF⟩ := hG
  have hl : lv_has ls 2 [(0, .ref o), (1, .int (nI k))] := hl
  have hX : hxt s.heap s.heap := hxt.rf
  have hP : PP g [ob o x1 y1 r, ar g r A] s.heap := hP
  refine lv_aload_n X.1 X.2.1 dX1_checkNoGable_0 rfl (lv_at hl 0 rfl) ?_
  refine lv_iload_n X.1 X.2.1 dX1_checkNoGable_1 rfl (lv_at hl 1 rfl) ?_
  refine p_callV (C := RX1) (b := o) (As := [.int (nI k)]) (rest := []) X (c_X1_isGable l g o r A x1 y1 q k hk hq) ⟨mw_220, mw_222, mw_3, mw_38, mw_223⟩ sgX1_isGable ⟨rfl, rfl, ⟨by decide, by decide⟩, by decide, by decide⟩ (hP.at 0 rfl) rfl rfl (RP.of hP [0, 1] rfl hF) hX.1 rfl hl.1 rfl (Nat.le_of_ble_eq_true rfl) dX1_checkNoGable_2 (fun v H1 hk2 hp => ?_)
  obtain rfl := hp
  have hX := hX.tr hk2
  have hP := PP.ext hP hk2
  have hF := RF.ext hF hk2
  refine W.eq (g2 := F0 m 5 ls [.int (bI (gab q k))]) rfl ?_
  refine q_Beq X (tgt := 18) dX1_checkNoGable_5 (by decide) (fun hB3 => ?_) (fun hB3 => ?_)
  ·
    exact vx_ret (p_vret X hX (⟨rfl, by rw [hB3]; rfl⟩) ⟨by decide, by decide⟩ dX1_checkNoGable_18)
  ·
    exact x_throw (cls := eS) (names := ["java/lang/RuntimeException", "java/lang/Exception"]) X hne hE hl0 rfl (by decide) (by decide) ⟨mw_224, mw_47⟩ (hE.2.2.2.2.2.2.1) tS1 tS2 tS3 hX hl.1 dX1_checkNoGable_8 dX1_checkNoGable_11 dX1_checkNoGable_12 dX1_checkNoGable_14 dX1_checkNoGable_17 ⟨by decide, by decide, by decide, by decide⟩ (Or.inr (Or.inl ⟨rfl, by rw [hB3]; rfl, rfl⟩)) ⟨by decide, by decide⟩
set_option maxHeartbeats 4000000 in
set_option maxRecDepth 100000 in
theorem c_X1_checkInOutline (l : Launch) (g : En) (o r : Nat) (A : Nat → Nat) (x1 y1 : Nat) (q : Nat → Rat) (vx vy : Int64) (hl0 : l.stackTraces = false) (hO : OK x1 y1 q) : XM l yX1_checkInOutline cX1_checkInOutline 5 none { frames := 7, cells := 2, slots := 12, locals := 107 } g [.ref o, .long vx, .long vy] (fun H => RP g o r A x1 y1 q H) 2 12 (rC (inL vx 0 x1 && inL vy 0 y1)) (xk true true (inL vx 0 x1 && inL vy 0 y1)) := by
  refine XM.of (by decide) (Nat.le_of_ble_eq_true rfl) (fun p e s m below meth c ls X hne hE hG hl => ?_)
  obtain ⟨hP, hF⟩ := hG
  have hX2 := hO.1.2
  have hY2 := hO.2.1.2
  have hl : lv_has ls 5 [(0, .ref o), (1, .long vx), (3, .long vy)] := hl
  have hX : hxt s.heap s.heap := hxt.rf
  have hP : PP g [ob o x1 y1 r, ar g r A] s.heap := hP
  refine lv_lload_n X.1 X.2.1 dX1_checkInOutline_0 rfl (lv_at hl 1 rfl) ?_
  refine lv_lconst (v := lN 0) X.1 X.2.1 dX1_checkInOutline_1 (by decide) ?_
  refine lv_aload_n X.1 X.2.1 dX1_checkInOutline_2 rfl (lv_at hl 0 rfl) ?_
  refine p_get (T := TX1) X uX1 (hP.at 0 rfl) rfl 0 (by decide) mw_77 rfl rfl dX1_checkInOutline_3 ?_
  refine x_callS (As := [.long vx, .long (lN 0), .long (lN x1)]) (rest := []) X hne hE (c_X1_checkNumber l g vx 0 x1 hl0 (by decide) (by omega)) ⟨mw_96, mw_97, mw_38, mw_98⟩ sgX1_checkNumber ⟨rfl, rfl, ⟨by decide, by decide⟩, by decide, by decide⟩ (trivial) hX rfl hl.1 rfl (Nat.le_of_ble_eq_true rfl) dX1_checkInOutline_6 (fun E h => xk_G rfl rfl (fun h9 => by rw [h9]; rfl) h) ⟨by decide, by decide⟩ (fun v H1 hk2 hp => ?_)
  obtain ⟨rfl, ha⟩ := hp
  have hX := hX.tr hk2
  have hP := PP.ext hP hk2
  have hF := RF.ext hF hk2
  refine W.eq (g2 := F0 m 9 ls []) rfl ?_
  refine lv_lload_n X.1 X.2.1 dX1_checkInOutline_9 rfl (lv_at hl 2 rfl) ?_
  refine lv_lconst (v := lN 0) X.1 X.2.1 dX1_checkInOutline_10 (by decide) ?_
  refine lv_aload_n X.1 X.2.1 dX1_checkInOutline_11 rfl (lv_at hl 0 rfl) ?_
  refine p_get (T := TX1) X uX1 (hP.at 0 rfl) rfl 1 (by decide) mw_78 rfl rfl dX1_checkInOutline_12 ?_
  refine x_callS (As := [.long vy, .long (lN 0), .long (lN y1)]) (rest := []) X hne hE (c_X1_checkNumber l g vy 0 y1 hl0 (by decide) (by omega)) ⟨mw_96, mw_97, mw_38, mw_98⟩ sgX1_checkNumber ⟨rfl, rfl, ⟨by decide, by decide⟩, by decide, by decide⟩ (trivial) hX rfl hl.1 rfl (Nat.le_of_ble_eq_true rfl) dX1_checkInOutline_15 (fun E h => xk_G rfl rfl (fun h9 => by rw [h9, ha]; rfl) h) ⟨by decide, by decide⟩ (fun v H3 hk4 hp => ?_)
  obtain ⟨rfl, hb⟩ := hp
  have hX := hX.tr hk4
  have hP := PP.ext hP hk4
  have hF := RF.ext hF hk4
  refine W.eq (g2 := F0 m 18 ls []) rfl ?_
  exact vx_ret (p_vret X hX (⟨rfl, by rw [ha, hb]; rfl⟩) ⟨by decide, by decide⟩ dX1_checkInOutline_18)
set_option maxHeartbeats 4000000 in
set_option maxRecDepth 100000 in
theorem c_X1_checkRafter (l : Launch) (g : En) (o r : Nat) (A : Nat → Nat) (x1 y1 : Nat) (q : Nat → Rat) (k : Nat) (v0 : Int64) (hl0 : l.stackTraces = false) (hO : OK x1 y1 q) (hk : k < 4) : XM l yX1_checkRafter cX1_checkRafter 4 none { frames := 7, cells := 2, slots := 12, locals := 107 } g [.ref o, .int (nI k), .long v0] (fun H => RP g o r A x1 y1 q H) 2 12 (rC (!gab q k && inL v0 0 (slen x1 y1 k))) (xk true (!gab q k) (inL v0 0 (slen x1 y1 k))) := by
  refine XM.of (by decide) (Nat.le_of_ble_eq_true rfl) (fun p e s m below meth c ls X hne hE hG hl => ?_)
  obtain ⟨hP, hF⟩ := hG
  have hsl := slen_le hO k
  have hl : lv_has ls 4 [(0, .ref o), (1, .int (nI k)), (2, .long v0)] := hl
  have hX : hxt s.heap s.heap := hxt.rf
  have hP : PP g [ob o x1 y1 r, ar g r A] s.heap := hP
  refine lv_aload_n X.1 X.2.1 dX1_checkRafter_0 rfl (lv_at hl 0 rfl) ?_
  refine lv_iload_n X.1 X.2.1 dX1_checkRafter_1 rfl (lv_at hl 1 rfl) ?_
  refine x_callV (C := RX1) (b := o) (As := [.int (nI k)]) (rest := []) X hne hE (c_X1_checkNoGable l g o r A x1 y1 q k hl0 hk (hO.2.2.1 k hk)) ⟨mw_289, mw_291, mw_9, mw_38, mw_292⟩ sgX1_checkNoGable ⟨rfl, rfl, ⟨by decide, by decide⟩, by decide, by decide⟩ (hP.at 0 rfl) rfl rfl (RP.of hP [0, 1] rfl hF) hX rfl hl.1 rfl (Nat.le_of_ble_eq_true rfl) dX1_checkRafter_2 (fun E h => xk_S rfl (fun h9 => h9) h) ⟨by decide, by decide⟩ (fun v H1 hk2 hp => ?_)
  obtain ⟨rfl, ha⟩ := hp
  have hX := hX.tr hk2
  have hP := PP.ext hP hk2
  have hF := RF.ext hF hk2
  refine W.eq (g2 := F0 m 5 ls []) rfl ?_
  refine lv_lload_n X.1 X.2.1 dX1_checkRafter_5 rfl (lv_at hl 2 rfl) ?_
  refine lv_lconst (v := lN 0) X.1 X.2.1 dX1_checkRafter_6 (by decide) ?_
  refine lv_aload_n X.1 X.2.1 dX1_checkRafter_7 rfl (lv_at hl 0 rfl) ?_
  refine lv_iload_n X.1 X.2.1 dX1_checkRafter_8 rfl (lv_at hl 1 rfl) ?_
  refine p_callV (C := RX1) (b := o) (As := [.int (nI k)]) (rest := [.long (lN 0), .long v0]) X (c_X1_sideLength l g o r A x1 y1 q k hk) ⟨mw_295, mw_297, mw_10, mw_38, mw_298⟩ sgX1_sideLength ⟨rfl, rfl, ⟨by decide, by decide⟩, by decide, by decide⟩ (hP.at 0 rfl) rfl rfl (RP.of hP [0, 1] rfl hF) hX.1 rfl hl.1 rfl (Nat.le_of_ble_eq_true rfl) dX1_checkRafter_9 (fun v H3 hk4 hp => ?_)
  obtain rfl := hp
  have hX := hX.tr hk4
  have hP := PP.ext hP hk4
  have hF := RF.ext hF hk4
  refine W.eq (g2 := F0 m 12 ls [.long (lN (slen x1 y1 k)), .long (lN 0), .long v0]) rfl ?_
  refine x_callS (As := [.long v0, .long (lN 0), .long (lN (slen x1 y1 k))]) (rest := []) X hne hE (c_X1_checkNumber l g v0 0 (slen x1 y1 k) hl0 (by decide) (by omega)) ⟨mw_96, mw_97, mw_38, mw_98⟩ sgX1_checkNumber ⟨rfl, rfl, ⟨by decide, by decide⟩, by decide, by decide⟩ (trivial) hX rfl hl.1 rfl (Nat.le_of_ble_eq_true rfl) dX1_checkRafter_12 (fun E h => xk_G rfl ha (fun h9 => h9) h) ⟨by decide, by decide⟩ (fun v H5 hk6 hp => ?_)
  obtain ⟨rfl, hb⟩ := hp
  have hX := hX.tr hk6
  have hP := PP.ext hP hk6
  have hF := RF.ext hF hk6
  refine W.eq (g2 := F0 m 15 ls []) rfl ?_
  exact vx_ret (p_vret X hX (⟨rfl, by rw [ha, hb]; rfl⟩) ⟨by decide, by decide⟩ dX1_checkRafter_15)
/-- is another side no gable? -/
def oth (q : Nat → Rat) (k : Nat) : Bool := (!decide (0 = k) && !gab q 0) || (!decide (1 = k) && !gab q 1) || (!decide (2 = k) && !gab q 2) || (!decide (3 = k) && !gab q 3)
set_option maxHeartbeats 4000000 in
set_option maxRecDepth 100000 in
theorem c_X1_checkOthersAreNotAllGables (l : Launch) (g : En) (o r : Nat) (A : Nat → Nat) (x1 y1 : Nat) (q : Nat → Rat) (k : Nat) (hl0 : l.stackTraces = false) (hO : OK x1 y1 q) (hk : k < 4) : XM l yX1_checkOthersAreNotAllGables cX1_checkOthersAreNotAllGables 3 none { frames := 6, cells := 1, slots := 6, locals := 82 } g [.ref o, .int (nI k)] (fun H => RP g o r A x1 y1 q H) 1 6 (rC (oth q k)) (xk true (oth q k) true) := by
  refine XM.of (by decide) (Nat.le_of_ble_eq_true rfl) (fun p e s m below meth c ls X hne hE hG hl => ?_)
  obtain ⟨hP, hF⟩ := hG
  have hq := hO.2.2.1
  have L4 : ∀ (H : Heap) (ls : Array Slot), hxt s.heap H → PP g [ob o x1 y1 r, ar g r A] H → RF g A q H → lv_has ls 3 [(2, .int (nI 4)), (0, .ref o), (1, .int (nI k))] → (!decide (0 = k) && !gab q 0) = false → (!decide (1 = k) && !gab q 1) = false → (!decide (2 = k) && !gab q 2) = false → (!decide (3 = k) && !gab q 3) = false → W p l e { frames := 6, cells := 1, slots := 6, locals := 82 } s m ([.ref o, .int (nI k)] : List Value).toArray below meth c H [] 0 0 (vx_MQ below (pQ (rC (oth q k))) (xQ (xk true (oth q k) true)) ([.ref o, .int (nI k)] : List Value).toArray s 1 6 (fun q => s.heap.size ≤ q)) (F0 m 2 ls []) := by
    intro H ls hX hP hF hl t0 t1 t2 t3
    refine lv_iload_n X.1 X.2.1 dX1_checkOthersAreNotAllGables_2 rfl (lv_at hl 0 rfl) ?_
    refine lv_iconst (v := nI 4) X.1 X.2.1 dX1_checkOthersAreNotAllGables_3 (by decide) ?_
    refine q_Ige X (by omega) (by omega) (tgt := 27) dX1_checkOthersAreNotAllGables_4 (by decide) (fun hB101 => ?_) (fun hB101 => ?_)
    ·
      exact x_throw (cls := eS) (names := ["java/lang/RuntimeException", "java/lang/Exception"]) X hne hE hl0 rfl (by decide) (by decide) ⟨mw_224, mw_47⟩ (hE.2.2.2.2.2.2.2) tS1 tS2 tS3 hX hl.1 dX1_checkOthersAreNotAllGables_27 dX1_checkOthersAreNotAllGables_30 dX1_checkOthersAreNotAllGables_31 dX1_checkOthersAreNotAllGables_33 dX1_checkOthersAreNotAllGables_36 ⟨by decide, by decide, by decide, by decide⟩ (Or.inr (Or.inl ⟨rfl, by rw [oth, t0, t1, t2, t3]; rfl, rfl⟩)) ⟨by decide, by decide⟩
    ·
      exact absurd hB101 (by decide)
  have L3 : ∀ (H : Heap) (ls : Array Slot), hxt s.heap H → PP g [ob o x1 y1 r, ar g r A] H → RF g A q H → lv_has ls 3 [(2, .int (nI 3)), (0, .ref o), (1, .int (nI k))] → (!decide (0 = k) && !gab q 0) = false → (!decide (1 = k) && !gab q 1) = false → (!decide (2 = k) && !gab q 2) = false → W p l e { frames := 6, cells := 1, slots := 6, locals := 82 } s m ([.ref o, .int (nI k)] : List Value).toArray below meth c H [] 0 0 (vx_MQ below (pQ (rC (oth q k))) (xQ (xk true (oth q k) true)) ([.ref o, .int (nI k)] : List Value).toArray s 1 6 (fun q => s.heap.size ≤ q)) (F0 m 2 ls []) := by
    intro H ls hX hP hF hl t0 t1 t2
    refine lv_iload_n X.1 X.2.1 dX1_checkOthersAreNotAllGables_2 rfl (lv_at hl 0 rfl) ?_
    refine lv_iconst (v := nI 4) X.1 X.2.1 dX1_checkOthersAreNotAllGables_3 (by decide) ?_
    refine q_Ige X (by omega) (by omega) (tgt := 27) dX1_checkOthersAreNotAllGables_4 (by decide) (fun hB101 => ?_) (fun hB101 => ?_)
    ·
      exact absurd hB101 (by decide)
    ·
      refine lv_iload_n X.1 X.2.1 dX1_checkOthersAreNotAllGables_7 rfl (lv_at hl 0 rfl) ?_
      refine lv_iload_n X.1 X.2.1 dX1_checkOthersAreNotAllGables_8 rfl (lv_at hl 2 rfl) ?_
      refine q_Ieq X (by omega) (by omega) (tgt := 21) dX1_checkOthersAreNotAllGables_9 (by decide) (fun hB102 => ?_) (fun hB102 => ?_)
      ·
        refine lv_iinc (v := nI (3 + 1)) (lv' := [(2, .int (nI (3 + 1))), (0, .ref o), (1, .int (nI k))]) X.1 X.2.1 dX1_checkOthersAreNotAllGables_21 hl (k := 0) rfl (nI_1 _) (by decide) rfl (fun ls hl => ?_)
        refine lv_goto (tgt := 2) X.1 X.2.1 dX1_checkOthersAreNotAllGables_24 (by decide) ?_
        exact L4 _ ls hX (hP.sub [0, 1] rfl) hF (lv_sub hl [0, 1, 2] rfl) t0 t1 t2 (by rw [decide_eq_true hB102]; rfl)
      ·
        refine lv_aload_n X.1 X.2.1 dX1_checkOthersAreNotAllGables_12 rfl (lv_at hl 1 rfl) ?_
        refine lv_iload_n X.1 X.2.1 dX1_checkOthersAreNotAllGables_13 rfl (lv_at hl 0 rfl) ?_
        refine p_callV (C := RX1) (b := o) (As := [.int (nI 3)]) (rest := []) X (c_X1_isGable l g o r A x1 y1 q 3 (by decide) (hq 3 (by decide))) ⟨mw_220, mw_222, mw_3, mw_38, mw_223⟩ sgX1_isGable ⟨rfl, rfl, ⟨by decide, by decide⟩, by decide, by decide⟩ (hP.at 0 rfl) rfl rfl (RP.of hP [0, 1] rfl hF) hX.1 rfl hl.1 rfl (Nat.le_of_ble_eq_true rfl) dX1_checkOthersAreNotAllGables_14 (fun v H103 hk104 hp => ?_)
        obtain rfl := hp
        have hX := hX.tr hk104
        have hP := PP.ext hP hk104
        have hF := RF.ext hF hk104
        refine W.eq (g2 := F0 m 17 ls [.int (bI (gab q 3))]) rfl ?_
        refine q_Bne X (tgt := 21) dX1_checkOthersAreNotAllGables_17 (by decide) (fun hB105 => ?_) (fun hB105 => ?_)
        ·
          refine lv_iinc (v := nI (3 + 1)) (lv' := [(2, .int (nI (3 + 1))), (0, .ref o), (1, .int (nI k))]) X.1 X.2.1 dX1_checkOthersAreNotAllGables_21 hl (k := 0) rfl (nI_1 _) (by decide) rfl (fun ls hl => ?_)
          refine lv_goto (tgt := 2) X.1 X.2.1 dX1_checkOthersAreNotAllGables_24 (by decide) ?_
          exact L4 _ ls hX (hP.sub [0, 1] rfl) hF (lv_sub hl [0, 1, 2] rfl) t0 t1 t2 (by rw [hB105]; simp)
        ·
          exact vx_ret (p_vret X hX (⟨rfl, by have h8 : decide (3 = k) = false := decide_eq_false hB102; rw [oth, h8, hB105]; simp⟩) ⟨by decide, by decide⟩ dX1_checkOthersAreNotAllGables_20)
  have L2 : ∀ (H : Heap) (ls : Array Slot), hxt s.heap H → PP g [ob o x1 y1 r, ar g r A] H → RF g A q H → lv_has ls 3 [(2, .int (nI 2)), (0, .ref o), (1, .int (nI k))] → (!decide (0 = k) && !gab q 0) = false → (!decide (1 = k) && !gab q 1) = false → W p l e { frames := 6, cells := 1, slots := 6, locals := 82 } s m ([.ref o, .int (nI k)] : List Value).toArray below meth c H [] 0 0 (vx_MQ below (pQ (rC (oth q k))) (xQ (xk true (oth q k) true)) ([.ref o, .int (nI k)] : List Value).toArray s 1 6 (fun q => s.heap.size ≤ q)) (F0 m 2 ls []) := by
    intro H ls hX hP hF hl t0 t1
    refine lv_iload_n X.1 X.2.1 dX1_checkOthersAreNotAllGables_2 rfl (lv_at hl 0 rfl) ?_
    refine lv_iconst (v := nI 4) X.1 X.2.1 dX1_checkOthersAreNotAllGables_3 (by decide) ?_
    refine q_Ige X (by omega) (by omega) (tgt := 27) dX1_checkOthersAreNotAllGables_4 (by decide) (fun hB101 => ?_) (fun hB101 => ?_)
    ·
      exact absurd hB101 (by decide)
    ·
      refine lv_iload_n X.1 X.2.1 dX1_checkOthersAreNotAllGables_7 rfl (lv_at hl 0 rfl) ?_
      refine lv_iload_n X.1 X.2.1 dX1_checkOthersAreNotAllGables_8 rfl (lv_at hl 2 rfl) ?_
      refine q_Ieq X (by omega) (by omega) (tgt := 21) dX1_checkOthersAreNotAllGables_9 (by decide) (fun hB102 => ?_) (fun hB102 => ?_)
      ·
        refine lv_iinc (v := nI (2 + 1)) (lv' := [(2, .int (nI (2 + 1))), (0, .ref o), (1, .int (nI k))]) X.1 X.2.1 dX1_checkOthersAreNotAllGables_21 hl (k := 0) rfl (nI_1 _) (by decide) rfl (fun ls hl => ?_)
        refine lv_goto (tgt := 2) X.1 X.2.1 dX1_checkOthersAreNotAllGables_24 (by decide) ?_
        exact L3 _ ls hX (hP.sub [0, 1] rfl) hF (lv_sub hl [0, 1, 2] rfl) t0 t1 (by rw [decide_eq_true hB102]; rfl)
      ·
        refine lv_aload_n X.1 X.2.1 dX1_checkOthersAreNotAllGables_12 rfl (lv_at hl 1 rfl) ?_
        refine lv_iload_n X.1 X.2.1 dX1_checkOthersAreNotAllGables_13 rfl (lv_at hl 0 rfl) ?_
        refine p_callV (C := RX1) (b := o) (As := [.int (nI 2)]) (rest := []) X (c_X1_isGable l g o r A x1 y1 q 2 (by decide) (hq 2 (by decide))) ⟨mw_220, mw_222, mw_3, mw_38, mw_223⟩ sgX1_isGable ⟨rfl, rfl, ⟨by decide, by decide⟩, by decide, by decide⟩ (hP.at 0 rfl) rfl rfl (RP.of hP [0, 1] rfl hF) hX.1 rfl hl.1 rfl (Nat.le_of_ble_eq_true rfl) dX1_checkOthersAreNotAllGables_14 (fun v H103 hk104 hp => ?_)
        obtain rfl := hp
        have hX := hX.tr hk104
        have hP := PP.ext hP hk104
        have hF := RF.ext hF hk104
        refine W.eq (g2 := F0 m 17 ls [.int (bI (gab q 2))]) rfl ?_
        refine q_Bne X (tgt := 21) dX1_checkOthersAreNotAllGables_17 (by decide) (fun hB105 => ?_) (fun hB105 => ?_)
        ·
          refine lv_iinc (v := nI (2 + 1)) (lv' := [(2, .int (nI (2 + 1))), (0, .ref o), (1, .int (nI k))]) X.1 X.2.1 dX1_checkOthersAreNotAllGables_21 hl (k := 0) rfl (nI_1 _) (by decide) rfl (fun ls hl => ?_)
          refine lv_goto (tgt := 2) X.1 X.2.1 dX1_checkOthersAreNotAllGables_24 (by decide) ?_
          exact L3 _ ls hX (hP.sub [0, 1] rfl) hF (lv_sub hl [0, 1, 2] rfl) t0 t1 (by rw [hB105]; simp)
        ·
          exact vx_ret (p_vret X hX (⟨rfl, by have h8 : decide (2 = k) = false := decide_eq_false hB102; rw [oth, h8, hB105]; simp⟩) ⟨by decide, by decide⟩ dX1_checkOthersAreNotAllGables_20)
  have L1 : ∀ (H : Heap) (ls : Array Slot), hxt s.heap H → PP g [ob o x1 y1 r, ar g r A] H → RF g A q H → lv_has ls 3 [(2, .int (nI 1)), (0, .ref o), (1, .int (nI k))] → (!decide (0 = k) && !gab q 0) = false → W p l e { frames := 6, cells := 1, slots := 6, locals := 82 } s m ([.ref o, .int (nI k)] : List Value).toArray below meth c H [] 0 0 (vx_MQ below (pQ (rC (oth q k))) (xQ (xk true (oth q k) true)) ([.ref o, .int (nI k)] : List Value).toArray s 1 6 (fun q => s.heap.size ≤ q)) (F0 m 2 ls []) := by
    intro H ls hX hP hF hl t0
    refine lv_iload_n X.1 X.2.1 dX1_checkOthersAreNotAllGables_2 rfl (lv_at hl 0 rfl) ?_
    refine lv_iconst (v := nI 4) X.1 X.2.1 dX1_checkOthersAreNotAllGables_3 (by decide) ?_
    refine q_Ige X (by omega) (by omega) (tgt := 27) dX1_checkOthersAreNotAllGables_4 (by decide) (fun hB101 => ?_) (fun hB101 => ?_)
    ·
      exact absurd hB101 (by decide)
    ·
      refine lv_iload_n X.1 X.2.1 dX1_checkOthersAreNotAllGables_7 rfl (lv_at hl 0 rfl) ?_
      refine lv_iload_n X.1 X.2.1 dX1_checkOthersAreNotAllGables_8 rfl (lv_at hl 2 rfl) ?_
      refine q_Ieq X (by omega) (by omega) (tgt := 21) dX1_checkOthersAreNotAllGables_9 (by decide) (fun hB102 => ?_) (fun hB102 => ?_)
      ·
        refine lv_iinc (v := nI (1 + 1)) (lv' := [(2, .int (nI (1 + 1))), (0, .ref o), (1, .int (nI k))]) X.1 X.2.1 dX1_checkOthersAreNotAllGables_21 hl (k := 0) rfl (nI_1 _) (by decide) rfl (fun ls hl => ?_)
        refine lv_goto (tgt := 2) X.1 X.2.1 dX1_checkOthersAreNotAllGables_24 (by decide) ?_
        exact L2 _ ls hX (hP.sub [0, 1] rfl) hF (lv_sub hl [0, 1, 2] rfl) t0 (by rw [decide_eq_true hB102]; rfl)
      ·
        refine lv_aload_n X.1 X.2.1 dX1_checkOthersAreNotAllGables_12 rfl (lv_at hl 1 rfl) ?_
        refine lv_iload_n X.1 X.2.1 dX1_checkOthersAreNotAllGables_13 rfl (lv_at hl 0 rfl) ?_
        refine p_callV (C := RX1) (b := o) (As := [.int (nI 1)]) (rest := []) X (c_X1_isGable l g o r A x1 y1 q 1 (by decide) (hq 1 (by decide))) ⟨mw_220, mw_222, mw_3, mw_38, mw_223⟩ sgX1_isGable ⟨rfl, rfl, ⟨by decide, by decide⟩, by decide, by decide⟩ (hP.at 0 rfl) rfl rfl (RP.of hP [0, 1] rfl hF) hX.1 rfl hl.1 rfl (Nat.le_of_ble_eq_true rfl) dX1_checkOthersAreNotAllGables_14 (fun v H103 hk104 hp => ?_)
        obtain rfl := hp
        have hX := hX.tr hk104
        have hP := PP.ext hP hk104
        have hF := RF.ext hF hk104
        refine W.eq (g2 := F0 m 17 ls [.int (bI (gab q 1))]) rfl ?_
        refine q_Bne X (tgt := 21) dX1_checkOthersAreNotAllGables_17 (by decide) (fun hB105 => ?_) (fun hB105 => ?_)
        ·
          refine lv_iinc (v := nI (1 + 1)) (lv' := [(2, .int (nI (1 + 1))), (0, .ref o), (1, .int (nI k))]) X.1 X.2.1 dX1_checkOthersAreNotAllGables_21 hl (k := 0) rfl (nI_1 _) (by decide) rfl (fun ls hl => ?_)
          refine lv_goto (tgt := 2) X.1 X.2.1 dX1_checkOthersAreNotAllGables_24 (by decide) ?_
          exact L2 _ ls hX (hP.sub [0, 1] rfl) hF (lv_sub hl [0, 1, 2] rfl) t0 (by rw [hB105]; simp)
        ·
          exact vx_ret (p_vret X hX (⟨rfl, by have h8 : decide (1 = k) = false := decide_eq_false hB102; rw [oth, h8, hB105]; simp⟩) ⟨by decide, by decide⟩ dX1_checkOthersAreNotAllGables_20)
  have L0 : ∀ (H : Heap) (ls : Array Slot), hxt s.heap H → PP g [ob o x1 y1 r, ar g r A] H → RF g A q H → lv_has ls 3 [(2, .int (nI 0)), (0, .ref o), (1, .int (nI k))] → W p l e { frames := 6, cells := 1, slots := 6, locals := 82 } s m ([.ref o, .int (nI k)] : List Value).toArray below meth c H [] 0 0 (vx_MQ below (pQ (rC (oth q k))) (xQ (xk true (oth q k) true)) ([.ref o, .int (nI k)] : List Value).toArray s 1 6 (fun q => s.heap.size ≤ q)) (F0 m 2 ls []) := by
    intro H ls hX hP hF hl
    refine lv_iload_n X.1 X.2.1 dX1_checkOthersAreNotAllGables_2 rfl (lv_at hl 0 rfl) ?_
    refine lv_iconst (v := nI 4) X.1 X.2.1 dX1_checkOthersAreNotAllGables_3 (by decide) ?_
    refine q_Ige X (by omega) (by omega) (tgt := 27) dX1_checkOthersAreNotAllGables_4 (by decide) (fun hB101 => ?_) (fun hB101 => ?_)
    ·
      exact absurd hB101 (by decide)
    ·
      refine lv_iload_n X.1 X.2.1 dX1_checkOthersAreNotAllGables_7 rfl (lv_at hl 0 rfl) ?_
      refine lv_iload_n X.1 X.2.1 dX1_checkOthersAreNotAllGables_8 rfl (lv_at hl 2 rfl) ?_
      refine q_Ieq X (by omega) (by omega) (tgt := 21) dX1_checkOthersAreNotAllGables_9 (by decide) (fun hB102 => ?_) (fun hB102 => ?_)
      ·
        refine lv_iinc (v := nI (0 + 1)) (lv' := [(2, .int (nI (0 + 1))), (0, .ref o), (1, .int (nI k))]) X.1 X.2.1 dX1_checkOthersAreNotAllGables_21 hl (k := 0) rfl (nI_1 _) (by decide) rfl (fun ls hl => ?_)
        refine lv_goto (tgt := 2) X.1 X.2.1 dX1_checkOthersAreNotAllGables_24 (by decide) ?_
        exact L1 _ ls hX (hP.sub [0, 1] rfl) hF (lv_sub hl [0, 1, 2] rfl) (by rw [decide_eq_true hB102]; rfl)
      ·
        refine lv_aload_n X.1 X.2.1 dX1_checkOthersAreNotAllGables_12 rfl (lv_at hl 1 rfl) ?_
        refine lv_iload_n X.1 X.2.1 dX1_checkOthersAreNotAllGables_13 rfl (lv_at hl 0 rfl) ?_
        refine p_callV (C := RX1) (b := o) (As := [.int (nI 0)]) (rest := []) X (c_X1_isGable l g o r A x1 y1 q 0 (by decide) (hq 0 (by decide))) ⟨mw_220, mw_222, mw_3, mw_38, mw_223⟩ sgX1_isGable ⟨rfl, rfl, ⟨by decide, by decide⟩, by decide, by decide⟩ (hP.at 0 rfl) rfl rfl (RP.of hP [0, 1] rfl hF) hX.1 rfl hl.1 rfl (Nat.le_of_ble_eq_true rfl) dX1_checkOthersAreNotAllGables_14 (fun v H103 hk104 hp => ?_)
        obtain rfl := hp
        have hX := hX.tr hk104
        have hP := PP.ext hP hk104
        have hF := RF.ext hF hk104
        refine W.eq (g2 := F0 m 17 ls [.int (bI (gab q 0))]) rfl ?_
        refine q_Bne X (tgt := 21) dX1_checkOthersAreNotAllGables_17 (by decide) (fun hB105 => ?_) (fun hB105 => ?_)
        ·
          refine lv_iinc (v := nI (0 + 1)) (lv' := [(2, .int (nI (0 + 1))), (0, .ref o), (1, .int (nI k))]) X.1 X.2.1 dX1_checkOthersAreNotAllGables_21 hl (k := 0) rfl (nI_1 _) (by decide) rfl (fun ls hl => ?_)
          refine lv_goto (tgt := 2) X.1 X.2.1 dX1_checkOthersAreNotAllGables_24 (by decide) ?_
          exact L1 _ ls hX (hP.sub [0, 1] rfl) hF (lv_sub hl [0, 1, 2] rfl) (by rw [hB105]; simp)
        ·
          exact vx_ret (p_vret X hX (⟨rfl, by have h8 : decide (0 = k) = false := decide_eq_false hB102; rw [oth, h8, hB105]; simp⟩) ⟨by decide, by decide⟩ dX1_checkOthersAreNotAllGables_20)
  have hl : lv_has ls 3 [(0, .ref o), (1, .int (nI k))] := hl
  have hX : hxt s.heap s.heap := hxt.rf
  have hP : PP g [ob o x1 y1 r, ar g r A] s.heap := hP
  refine lv_iconst (v := nI 0) X.1 X.2.1 dX1_checkOthersAreNotAllGables_0 (by decide) ?_
  refine lv_istore_n (lv' := [(2, .int (nI 0)), (0, .ref o), (1, .int (nI k))]) X.1 X.2.1 dX1_checkOthersAreNotAllGables_1 rfl hl (by decide) rfl (fun ls hl => ?_)
  exact L0 _ ls hX hP hF (lv_sub hl [0, 1, 2] rfl)
