theorem lim_o {X Y : Nat} {q : Nat → Rat} {side t other : Nat} (h : other = opp side) : lim X Y q side t other = q side / (q side + q other) * ((wayo X Y side : Nat) : Rat) := if_pos h
theorem lim_n {X Y : Nat} {q : Nat → Rat} {side t other d : Nat} (h : other ≠ opp side) (hd : (if other = 0 ∨ other = 3 then t else slen X Y side - t) = d) : lim X Y q side t other = q side / q other * ((d : Nat) : Rat) := by rw [← hd]; exact if_neg h
/-- who may end a rafter of this side -/
def EL (q : Nat → Rat) (side j : Nat) : Prop := j ≠ side ∧ (j = opp side ∨ gab q j = false)
def BST (X Y : Nat) (q : Nat → Rat) (side t n f : Nat) : Prop := f < n ∧ EL q side f ∧ ∀ j, j < n → EL q side j → lim X Y q side t f ≤ lim X Y q side t j ∧ (lim X Y q side t j = lim X Y q side t f → f ≤ j)
def NON (q : Nat → Rat) (side n : Nat) : Prop := ∀ j, j < n → ¬ EL q side j
theorem NON.skip {q : Nat → Rat} {side n : Nat} (h : NON q side n) (h1 : ¬ EL q side n) : NON q side (n + 1) := fun j hj => by
  by_cases e : j = n
  · rw [e]; exact h1
  · exact h j (by omega)
theorem BST.skip {X Y : Nat} {q : Nat → Rat} {side t n f : Nat} (h : BST X Y q side t n f) (h1 : ¬ EL q side n) : BST X Y q side t (n + 1) f := ⟨by have := h.1; omega, h.2.1, fun j hj he => by
  by_cases e : j = n
  · exact absurd (e ▸ he) h1
  · exact h.2.2 j (by omega) he⟩
theorem BST.keep {X Y : Nat} {q : Nat → Rat} {side t n f : Nat} (h : BST X Y q side t n f) (h1 : ¬ lim X Y q side t n < lim X Y q side t f) : BST X Y q side t (n + 1) f := ⟨by have := h.1; omega, h.2.1, fun j hj he => by
  by_cases e : j = n
  · subst e; exact ⟨Rat.not_lt.mp h1, fun _ => Nat.le_of_lt h.1⟩
  · exact h.2.2 j (by omega) he⟩
theorem BST.new {X Y : Nat} {q : Nat → Rat} {side t n f : Nat} (h : BST X Y q side t n f) (he : EL q side n) (h1 : lim X Y q side t n < lim X Y q side t f) : BST X Y q side t (n + 1) n := ⟨by omega, he, fun j hj hej => by
  by_cases e : j = n
  · subst e; exact ⟨Rat.le_refl, fun _ => Nat.le_refl _⟩
  · have h2 := (h.2.2 j (by omega) hej).1
    exact ⟨Rat.le_trans (Rat.le_of_lt h1) h2, fun h3 => absurd (h3 ▸ h2) (Rat.not_le.mpr h1)⟩⟩
theorem BST.first {X Y : Nat} {q : Nat → Rat} {side t n : Nat} (h : NON q side n) (he : EL q side n) : BST X Y q side t (n + 1) n := ⟨by omega, he, fun j hj hej => by
  by_cases e : j = n
  · subst e; exact ⟨Rat.le_refl, fun _ => Nat.le_refl _⟩
  · exact absurd hej (h j (by omega))⟩
theorem opp_ne {k : Nat} (hk : k < 4) : opp k ≠ k := by rcases (show k = 0 ∨ k = 1 ∨ k = 2 ∨ k = 3 by omega) with rfl | rfl | rfl | rfl <;> decide
theorem enp_min (X Y : Nat) (q : Nat → Rat) (side t : Nat) : ∀ n, ∀ j, (j = opp side ∨ (j < n ∧ EL q side j)) → lim X Y q side t (enp X Y q side t n) ≤ lim X Y q side t j ∧ (lim X Y q side t j = lim X Y q side t (enp X Y q side t n) → enp X Y q side t n ≤ j) := by
  intro n
  induction n with
  | zero =>
    intro j hj
    rcases hj with rfl | hj
    · exact ⟨Rat.le_refl, fun _ => Nat.le_refl _⟩
    · omega
  | succ n ih =>
    intro j hj
    by_cases hc : n ≠ side ∧ n ≠ opp side ∧ gab q n = false ∧ (lim X Y q side t n < lim X Y q side t (enp X Y q side t n) ∨ (lim X Y q side t n = lim X Y q side t (enp X Y q side t n) ∧ n < enp X Y q side t n))
    · have e : enp X Y q side t (n + 1) = n := by rw [enp, if_pos hc]
      rw [e]
      by_cases ej : j = n
      · subst ej; exact ⟨Rat.le_refl, fun _ => Nat.le_refl _⟩
      · obtain ⟨h1, h2⟩ := ih j (by rcases hj with h | h; exact Or.inl h; exact Or.inr ⟨by omega, h.2⟩)
        rcases hc.2.2.2 with h3 | ⟨h3, h4⟩
        · exact ⟨Rat.le_trans (Rat.le_of_lt h3) h1, fun h5 => absurd (h5 ▸ h1) (Rat.not_le.mpr h3)⟩
        · rw [h3]
          exact ⟨h1, fun h5 => by have := h2 h5; omega⟩
    · have e : enp X Y q side t (n + 1) = enp X Y q side t n := by rw [enp, if_neg hc]
      rw [e]
      by_cases ej : j = n ∧ j ≠ opp side
      · obtain ⟨rfl, hjo⟩ := ej
        have hel : EL q side j := by
          rcases hj with h | h
          · exact absurd h hjo
          · exact h.2
        have hg : gab q j = false := by
          rcases hel.2 with h | h
          · exact absurd h hjo
          · exact h
        have h9 : ¬ (lim X Y q side t j < lim X Y q side t (enp X Y q side t j) ∨ (lim X Y q side t j = lim X Y q side t (enp X Y q side t j) ∧ j < enp X Y q side t j)) := fun h => hc ⟨hel.1, hjo, hg, h⟩
        exact ⟨Rat.not_lt.mp (fun h => h9 (Or.inl h)), fun h => Nat.le_of_not_lt (fun h8 => h9 (Or.inr ⟨h, h8⟩))⟩
      · refine ih j ?_
        by_cases ho : j = opp side
        · exact Or.inl ho
        · rcases hj with h | h
          · exact Or.inl h
          · exact Or.inr ⟨by omega, h.2⟩
theorem enp_ns {X Y : Nat} {q : Nat → Rat} {side t : Nat} (hs : side < 4) : ∀ n, enp X Y q side t n ≠ side := by
  intro n
  induction n with
  | zero => exact opp_ne hs
  | succ n ih =>
    rw [enp]
    split
    · rename_i h; exact h.1
    · exact ih
theorem BST.fin {X Y : Nat} {q : Nat → Rat} {side t f : Nat} (hs : side < 4) (h : BST X Y q side t 4 f) : f = enp X Y q side t 4 := by
  obtain ⟨e1, e2⟩ := enp_ok X Y q side t 4 (by decide)
  obtain ⟨m1, m2⟩ := enp_min X Y q side t 4 f (Or.inr ⟨h.1, h.2.1⟩)
  obtain ⟨n1, n2⟩ := h.2.2 _ e1 ⟨enp_ns hs 4, e2⟩
  have e : lim X Y q side t f = lim X Y q side t (enp X Y q side t 4) := Rat.le_antisymm n1 m1
  exact Nat.le_antisymm (n2 e.symm) (m2 e)
theorem NON.fin {q : Nat → Rat} {side : Nat} (hs : side < 4) (h : NON q side 4) : False := h (opp side) (opp_lt side) ⟨opp_ne hs, Or.inl rfl⟩
theorem el_iff {q : Nat → Rat} {side j : Nat} (h : j ≠ side) : (decide (j = opp side) || !gab q j) = true ↔ EL q side j := by
  constructor
  · intro h1
    refine ⟨h, ?_⟩
    by_cases e : j = opp side
    · exact Or.inl e
    · rw [decide_eq_false e, Bool.false_or] at h1
      exact Or.inr (notT h1)
  · rintro ⟨-, h1 | h1⟩
    · rw [decide_eq_true h1]; rfl
    · rw [h1]; exact Bool.or_true _
set_option maxHeartbeats 4000000 in
set_option maxRecDepth 100000 in
theorem c_X2_ends (l : Launch) (g : En) (mo ua oa ga : Nat) (cd : Int32) (ab be : Int64) (x1 y1 : Nat) (U O : Nat → Nat) (q : Nat → Rat) (k j t : Nat) (hO : OK x1 y1 q) (hR : MR q U O) (hM : MD mo ua oa ga) (hk : k < 4) (hj : j < 4) (hne : j ≠ k) (hg : gab q k = false) (ht : t ≤ slen x1 y1 k) : FM l yX2_ends cX2_ends 10 (some FieldType.boolean) { frames := 1, cells := 0, slots := 0, locals := 30 } g [.ref mo, .int (nI k), .int (nI j), .long (lN t)] (fun H => MO g mo ua oa ga cd ab be x1 y1 U O q H) (fun q => q = mo) 0 0 (fun v H => v = some (.int (bI (decide (j = opp k) || !gab q j))) ∧ ∃ ab1 be1 : Int64, MO g mo ua oa ga cd ab1 be1 x1 y1 U O q H ∧ ((decide (j = opp k) || !gab q j) = true → ab1 = lN (nu (lim x1 y1 q k t j)) ∧ be1 = lN (lim x1 y1 q k t j).den)) := by
  refine FM.of (by decide) (Nat.le_of_ble_eq_true rfl) (fun p e s m below meth c ls X hP hl => ?_)
  have hl : lv_has ls 10 [(0, .ref mo), (1, .int (nI k)), (2, .int (nI j)), (3, .long (lN t))] := hl
  have hX : hxf (fun q => q = mo) s.heap s.heap := hxf.rf
  have hlo : lok (fun q => q = mo) s.heap.size ([] : List Loc) := lok.nil
  have hP : PP g [(mo, .inr (2, [.int cd, .long (lN x1), .long (lN y1), .ref ua, .ref oa, .ref ga, .long ab, .long be])), mla g ua U, mla g oa O, mza g ga q] s.heap := hP
  rcases (show k = 0 ∨ k = 1 ∨ k = 2 ∨ k = 3 by omega) with rfl | rfl | rfl | rfl
  ·
    rcases (show j = 0 ∨ j = 1 ∨ j = 2 ∨ j = 3 by omega) with rfl | rfl | rfl | rfl
    ·
      exact absurd rfl hne
    ·
      have pq := gab_pos (hO.2.2.1 0 (by decide)) hg
      have eA := hR 0 (by decide) hg
      have b1 := hO.2.2.1 0 (by decide)
      have b2 := hO.2.2.1 1 (by decide)
      have hw := wayo_le hO 0
      have hsl := slen_le hO 0
      refine lv_iload_n X.1 X.2.1 dX2_ends_0 rfl (lv_at hl 1 rfl) ?_
      refine lv_iload_n X.1 X.2.1 dX2_ends_1 rfl (lv_at hl 2 rfl) ?_
      refine lv_ixor X.1 X.2.1 dX2_ends_2 ?_
      refine w_i (v' := nI 1) (by decide) ?_
      refine lv_iconst (v := nI 2) X.1 X.2.1 dX2_ends_3 (by decide) ?_
      refine lv_icmp_ne (tgt := 11) X.1 X.2.1 dX2_ends_4 (by decide) (fun _ => ?_) (fun h9 => absurd h9 (by decide))
      refine lv_iconst (v := nI 0) X.1 X.2.1 dX2_ends_11 (by decide) ?_
      refine lv_istore (lv' := [(5, .int (nI 0)), (0, .ref mo), (1, .int (nI 0)), (2, .int (nI 1)), (3, .long (lN t))]) X.1 X.2.1 dX2_ends_12 hl (by decide) rfl (fun ls hl => ?_)
      refine lv_iload X.1 X.2.1 dX2_ends_14 (lv_at hl 0 rfl) ?_
      refine lv_if_eq (tgt := 41) X.1 X.2.1 dX2_ends_16 (by decide) (fun _ => ?_) (fun h9 => absurd (by decide) h9)
      refine lv_iload X.1 X.2.1 dX2_ends_41 (lv_at hl 0 rfl) ?_
      refine lv_if_eq (tgt := 99) X.1 X.2.1 dX2_ends_43 (by decide) (fun _ => ?_) (fun h9 => absurd (by decide) h9)
      refine lv_aload_n X.1 X.2.1 dX2_ends_99 rfl (lv_at hl 1 rfl) ?_
      refine p_get (T := TX2) X uX2 (hP.at 0 rfl) rfl 5 (by decide) mw_469 rfl rfl dX2_ends_100 ?_
      refine lv_iload_n X.1 X.2.1 dX2_ends_103 rfl (lv_at hl 3 rfl) ?_
      refine f_zald X (hP.at 3 rfl) (by decide) (by decide) dX2_ends_104 ?_
      refine q_Bne X (tgt := 206) dX2_ends_105 (by decide) (fun hB1 => ?_) (fun hB1 => ?_)
      ·
        refine lv_iconst (v := nI 0) X.1 X.2.1 dX2_ends_206 (by decide) ?_
        refine w_i (v' := bI false) (by decide) ?_
        exact f_zret (v := false) X hX hlo (⟨by rw [hB1]; rfl, _, _, hP, fun h9 => by rw [hB1] at h9; cases h9⟩) ⟨by decide, by decide⟩ dX2_ends_207
      ·
        have p2 := gab_pos b2 hB1
        have eB := hR 1 (by decide) hB1
        refine lv_iload_n X.1 X.2.1 dX2_ends_108 rfl (lv_at hl 2 rfl) ?_
        refine lv_if_ne (tgt := 116) X.1 X.2.1 dX2_ends_109 (by decide) (fun h9 => absurd (by decide) h9) (fun _ => ?_)
        refine lv_lload_n X.1 X.2.1 dX2_ends_112 rfl (lv_at hl 4 rfl) ?_
        refine lv_goto (tgt := 138) X.1 X.2.1 dX2_ends_113 (by decide) ?_
        refine lv_lstore (lv' := [(6, .long (lN t)), (5, .int (nI 0)), (0, .ref mo), (1, .int (nI 0)), (2, .int (nI 1)), (3, .long (lN t))]) X.1 X.2.1 dX2_ends_138 hl (by decide) rfl (fun ls hl => ?_)
        refine lv_iload_n X.1 X.2.1 dX2_ends_140 rfl (lv_at hl 3 rfl) ?_
        refine lv_if_ne (tgt := 148) X.1 X.2.1 dX2_ends_141 (by decide) (fun h9 => absurd (by decide) h9) (fun _ => ?_)
        refine lv_lconst (v := lN 0) X.1 X.2.1 dX2_ends_144 (by decide) ?_
        refine lv_goto (tgt := 161) X.1 X.2.1 dX2_ends_145 (by decide) ?_
        refine lv_lstore (lv' := [(8, .long (lN 0)), (6, .long (lN t)), (5, .int (nI 0)), (0, .ref mo), (1, .int (nI 0)), (2, .int (nI 1)), (3, .long (lN t))]) X.1 X.2.1 dX2_ends_161 hl (by decide) rfl (fun ls hl => ?_)
        refine lv_aload_n X.1 X.2.1 dX2_ends_163 rfl (lv_at hl 3 rfl) ?_
        refine lv_aload_n X.1 X.2.1 dX2_ends_164 rfl (lv_at hl 3 rfl) ?_
        refine p_get (T := TX2) X uX2 (hP.at 0 rfl) rfl 3 (by decide) mw_467 rfl rfl dX2_ends_165 ?_
        refine lv_iload_n X.1 X.2.1 dX2_ends_168 rfl (lv_at hl 5 rfl) ?_
        refine f_lald X (hP.at 1 rfl) (by decide) (by decide) dX2_ends_169 ?_
        refine w_l (v' := lN ((q 1).den)) (by rw [(eB).2]) ?_
        refine lv_aload_n X.1 X.2.1 dX2_ends_170 rfl (lv_at hl 3 rfl) ?_
        refine lv_iload_n X.1 X.2.1 dX2_ends_171 rfl (lv_at hl 5 rfl) ?_
        refine lv_lload X.1 X.2.1 dX2_ends_172 (lv_at hl 1 rfl) ?_
        refine lv_lload X.1 X.2.1 dX2_ends_174 (lv_at hl 0 rfl) ?_
        refine p_callV (C := RX2) (b := mo) (As := [.int (nI 1), .long (lN t), .long (lN 0)]) (rest := [.long (lN ((q 1).den)), .ref mo]) X (c_X2_far l g mo ua oa ga cd _ _ x1 y1 U O q 1 (t) (0) (by decide) ht (Nat.zero_le _)) ⟨mw_528, mw_530, mw_25, mw_40, mw_531⟩ sgX2_far ⟨rfl, rfl, ⟨by decide, by decide⟩, by decide, by decide⟩ (hP.at 0 rfl) rfl rfl (hP.sub [0, 1, 2, 3] rfl) hX.1 rfl hl.1 rfl (Nat.le_of_ble_eq_true rfl) dX2_ends_176 (fun v H2 hk3 hp => ?_)
        obtain rfl := hp
        have hX := hX.tr hk3
        have hP := PP.ext hP hk3
        refine W.eq (g2 := F0 m 179 ls [.long (lN (dst x1 y1 1 t 0)), .long (lN ((q 1).den)), .ref mo]) rfl ?_
        have hD : dst x1 y1 1 t 0 ≤ 2000 := dst_le hO ht (Nat.zero_le _) 1
        refine lv_lmul X.1 X.2.1 dX2_ends_179 ?_
        refine w_l (lN_mul _ _) ?_
        refine lv_aload_n X.1 X.2.1 dX2_ends_180 rfl (lv_at hl 3 rfl) ?_
        refine p_get (T := TX2) X uX2 (hP.at 0 rfl) rfl 4 (by decide) mw_468 rfl rfl dX2_ends_181 ?_
        refine lv_iload_n X.1 X.2.1 dX2_ends_184 rfl (lv_at hl 4 rfl) ?_
        refine f_lald X (hP.at 2 rfl) (by decide) (by decide) dX2_ends_185 ?_
        refine w_l (v' := lN (nu (q 0))) (by rw [(eA).1]) ?_
        refine lv_lmul X.1 X.2.1 dX2_ends_186 ?_
        refine w_l (lN_mul _ _) ?_
        refine lv_aload_n X.1 X.2.1 dX2_ends_187 rfl (lv_at hl 3 rfl) ?_
        refine p_get (T := TX2) X uX2 (hP.at 0 rfl) rfl 4 (by decide) mw_468 rfl rfl dX2_ends_188 ?_
        refine lv_iload_n X.1 X.2.1 dX2_ends_191 rfl (lv_at hl 5 rfl) ?_
        refine f_lald X (hP.at 2 rfl) (by decide) (by decide) dX2_ends_192 ?_
        refine w_l (v' := lN (nu (q 1))) (by rw [(eB).1]) ?_
        refine lv_aload_n X.1 X.2.1 dX2_ends_193 rfl (lv_at hl 3 rfl) ?_
        refine p_get (T := TX2) X uX2 (hP.at 0 rfl) rfl 3 (by decide) mw_467 rfl rfl dX2_ends_194 ?_
        refine lv_iload_n X.1 X.2.1 dX2_ends_197 rfl (lv_at hl 4 rfl) ?_
        refine f_lald X (hP.at 1 rfl) (by decide) (by decide) dX2_ends_198 ?_
        refine w_l (v' := lN ((q 0).den)) (by rw [(eA).2]) ?_
        refine lv_lmul X.1 X.2.1 dX2_ends_199 ?_
        refine w_l (lN_mul _ _) ?_
        refine f_callV (F := fun q => q = mo) (C := RX2) (b := mo) (As := [.long (lN ((((q 1).den) * (dst x1 y1 1 t 0)) * (nu (q 0)))), .long (lN ((nu (q 1)) * ((q 0).den)))]) (rest := []) X (c_X2_put l g mo ua oa ga cd _ _ x1 y1 U O q ((q 1).den * dst x1 y1 1 t 0 * nu (q 0)) (nu (q 1) * (q 0).den) hM (Nat.lt_of_le_of_lt (Nat.mul_le_mul (Nat.mul_le_mul b2.2.2 hD) b1.2.1) (by decide)) (mlt b2.2.1 b1.2.2 (by decide)) (Nat.mul_pos (nu_pos p2) (dn_pos _))) ⟨mw_508, mw_510, mw_22, mw_40, mw_511⟩ sgX2_put ⟨rfl, rfl, ⟨by decide, by decide⟩, by decide, by decide⟩ (hP.at 0 rfl) rfl rfl (hP) hX.1 (fun q h => h) hlo rfl hl.1 rfl (Nat.le_of_ble_eq_true rfl) dX2_ends_200 (fun v H4 locs hk5 hlo hp => ?_)
        obtain ⟨rfl, hP⟩ := hp
        have hX := hX.trf (fun q h => h) hk5
        refine W.eq (g2 := F0 m 203 ls []) rfl ?_
        rw [(show (((q 1).den * dst x1 y1 1 t 0 * nu (q 0) : Nat) : Rat) / ((nu (q 1) * (q 0).den : Nat) : Rat) = lim x1 y1 q 0 t 1 by rw [lim_n (d := dst x1 y1 1 t 0) (by decide) rfl]; exact ed3 pq p2 _)] at hP
        refine lv_goto (tgt := 208) X.1 X.2.1 dX2_ends_203 (by decide) ?_
        refine lv_iconst (v := nI 1) X.1 X.2.1 dX2_ends_208 (by decide) ?_
        refine w_i (v' := bI true) (by decide) ?_
        exact f_zret (v := true) X hX hlo (⟨by rw [hB1]; rfl, _, _, hP, fun _ => ⟨rfl, rfl⟩⟩) ⟨by decide, by decide⟩ dX2_ends_209
    ·
      have pq := gab_pos (hO.2.2.1 0 (by decide)) hg
      have eA := hR 0 (by decide) hg
      have b1 := hO.2.2.1 0 (by decide)
      have b2 := hO.2.2.1 2 (by decide)
      have hw := wayo_le hO 0
      have hsl := slen_le hO 0
      refine lv_iload_n X.1 X.2.1 dX2_ends_0 rfl (lv_at hl 1 rfl) ?_
      refine lv_iload_n X.1 X.2.1 dX2_ends_1 rfl (lv_at hl 2 rfl) ?_
      refine lv_ixor X.1 X.2.1 dX2_ends_2 ?_
      refine w_i (v' := nI 2) (by decide) ?_
      refine lv_iconst (v := nI 2) X.1 X.2.1 dX2_ends_3 (by decide) ?_
      refine lv_icmp_ne (tgt := 11) X.1 X.2.1 dX2_ends_4 (by decide) (fun h9 => absurd (by decide) h9) (fun _ => ?_)
      refine lv_iconst (v := nI 1) X.1 X.2.1 dX2_ends_7 (by decide) ?_
      refine lv_goto (tgt := 12) X.1 X.2.1 dX2_ends_8 (by decide) ?_
      refine lv_istore (lv' := [(5, .int (nI 1)), (0, .ref mo), (1, .int (nI 0)), (2, .int (nI 2)), (3, .long (lN t))]) X.1 X.2.1 dX2_ends_12 hl (by decide) rfl (fun ls hl => ?_)
      refine lv_iload X.1 X.2.1 dX2_ends_14 (lv_at hl 0 rfl) ?_
      refine lv_if_eq (tgt := 41) X.1 X.2.1 dX2_ends_16 (by decide) (fun h9 => absurd h9 (by decide)) (fun _ => ?_)
      refine lv_aload_n X.1 X.2.1 dX2_ends_19 rfl (lv_at hl 1 rfl) ?_
      refine p_get (T := TX2) X uX2 (hP.at 0 rfl) rfl 5 (by decide) mw_469 rfl rfl dX2_ends_20 ?_
      refine lv_iload_n X.1 X.2.1 dX2_ends_23 rfl (lv_at hl 3 rfl) ?_
      refine f_zald X (hP.at 3 rfl) (by decide) (by decide) dX2_ends_24 ?_
      refine q_Beq X (tgt := 41) dX2_ends_25 (by decide) (fun hB6 => ?_) (fun hB6 => ?_)
      ·
        have p2 := gab_pos b2 hB6
        have eB := hR 2 (by decide) hB6
        refine lv_iload X.1 X.2.1 dX2_ends_41 (lv_at hl 0 rfl) ?_
        refine lv_if_eq (tgt := 99) X.1 X.2.1 dX2_ends_43 (by decide) (fun h9 => absurd h9 (by decide)) (fun _ => ?_)
        refine lv_aload_n X.1 X.2.1 dX2_ends_46 rfl (lv_at hl 1 rfl) ?_
        refine lv_aload_n X.1 X.2.1 dX2_ends_47 rfl (lv_at hl 1 rfl) ?_
        refine lv_iload_n X.1 X.2.1 dX2_ends_48 rfl (lv_at hl 2 rfl) ?_
        refine p_callV (C := RX2) (b := mo) (As := [.int (nI 0)]) (rest := [.ref mo]) X (c_X2_depth l g mo ua oa ga cd _ _ x1 y1 U O q 0 (by decide)) ⟨mw_569, mw_571, mw_32, mw_40, mw_572⟩ sgX2_depth ⟨rfl, rfl, ⟨by decide, by decide⟩, by decide, by decide⟩ (hP.at 0 rfl) rfl rfl (hP.sub [0, 1, 2, 3] rfl) hX.1 rfl hl.1 rfl (Nat.le_of_ble_eq_true rfl) dX2_ends_49 (fun v H7 hk8 hp => ?_)
        obtain rfl := hp
        have hX := hX.tr hk8
        have hP := PP.ext hP hk8
        refine W.eq (g2 := F0 m 52 ls [.long (lN (wayo x1 y1 0)), .ref mo]) rfl ?_
        refine lv_aload_n X.1 X.2.1 dX2_ends_52 rfl (lv_at hl 1 rfl) ?_
        refine p_get (T := TX2) X uX2 (hP.at 0 rfl) rfl 3 (by decide) mw_467 rfl rfl dX2_ends_53 ?_
        refine lv_iload_n X.1 X.2.1 dX2_ends_56 rfl (lv_at hl 3 rfl) ?_
        refine f_lald X (hP.at 1 rfl) (by decide) (by decide) dX2_ends_57 ?_
        refine w_l (v' := lN ((q 2).den)) (by rw [(eB).2]) ?_
        refine lv_lmul X.1 X.2.1 dX2_ends_58 ?_
        refine w_l (lN_mul _ _) ?_
        refine lv_aload_n X.1 X.2.1 dX2_ends_59 rfl (lv_at hl 1 rfl) ?_
        refine p_get (T := TX2) X uX2 (hP.at 0 rfl) rfl 4 (by decide) mw_468 rfl rfl dX2_ends_60 ?_
        refine lv_iload_n X.1 X.2.1 dX2_ends_63 rfl (lv_at hl 2 rfl) ?_
        refine f_lald X (hP.at 2 rfl) (by decide) (by decide) dX2_ends_64 ?_
        refine w_l (v' := lN (nu (q 0))) (by rw [(eA).1]) ?_
        refine lv_lmul X.1 X.2.1 dX2_ends_65 ?_
        refine w_l (lN_mul _ _) ?_
        refine lv_aload_n X.1 X.2.1 dX2_ends_66 rfl (lv_at hl 1 rfl) ?_
        refine p_get (T := TX2) X uX2 (hP.at 0 rfl) rfl 3 (by decide) mw_467 rfl rfl dX2_ends_67 ?_
        refine lv_iload_n X.1 X.2.1 dX2_ends_70 rfl (lv_at hl 2 rfl) ?_
        refine f_lald X (hP.at 1 rfl) (by decide) (by decide) dX2_ends_71 ?_
        refine w_l (v' := lN ((q 0).den)) (by rw [(eA).2]) ?_
        refine lv_aload_n X.1 X.2.1 dX2_ends_72 rfl (lv_at hl 1 rfl) ?_
        refine p_get (T := TX2) X uX2 (hP.at 0 rfl) rfl 4 (by decide) mw_468 rfl rfl dX2_ends_73 ?_
        refine lv_iload_n X.1 X.2.1 dX2_ends_76 rfl (lv_at hl 3 rfl) ?_
        refine f_lald X (hP.at 2 rfl) (by decide) (by decide) dX2_ends_77 ?_
        refine w_l (v' := lN (nu (q 2))) (by rw [(eB).1]) ?_
        refine lv_lmul X.1 X.2.1 dX2_ends_78 ?_
        refine w_l (lN_mul _ _) ?_
        refine lv_aload_n X.1 X.2.1 dX2_ends_79 rfl (lv_at hl 1 rfl) ?_
        refine p_get (T := TX2) X uX2 (hP.at 0 rfl) rfl 3 (by decide) mw_467 rfl rfl dX2_ends_80 ?_
        refine lv_iload_n X.1 X.2.1 dX2_ends_83 rfl (lv_at hl 3 rfl) ?_
        refine f_lald X (hP.at 1 rfl) (by decide) (by decide) dX2_ends_84 ?_
        refine w_l (v' := lN ((q 2).den)) (by rw [(eB).2]) ?_
        refine lv_aload_n X.1 X.2.1 dX2_ends_85 rfl (lv_at hl 1 rfl) ?_
        refine p_get (T := TX2) X uX2 (hP.at 0 rfl) rfl 4 (by decide) mw_468 rfl rfl dX2_ends_86 ?_
        refine lv_iload_n X.1 X.2.1 dX2_ends_89 rfl (lv_at hl 2 rfl) ?_
        refine f_lald X (hP.at 2 rfl) (by decide) (by decide) dX2_ends_90 ?_
        refine w_l (v' := lN (nu (q 0))) (by rw [(eA).1]) ?_
        refine lv_lmul X.1 X.2.1 dX2_ends_91 ?_
        refine w_l (lN_mul _ _) ?_
        refine lv_ladd X.1 X.2.1 dX2_ends_92 ?_
        refine w_l (lN_add _ _) ?_
        have hs1 : (q 0).den * nu (q 2) ≤ 20 * 20 := Nat.mul_le_mul b1.2.2 b2.2.1
        have hs2 : (q 2).den * nu (q 0) ≤ 20 * 20 := Nat.mul_le_mul b2.2.2 b1.2.1
        have hs3 : 0 < (q 0).den * nu (q 2) := Nat.mul_pos (dn_pos _) (nu_pos p2)
        refine f_callV (F := fun q => q = mo) (C := RX2) (b := mo) (As := [.long (lN (((wayo x1 y1 0) * ((q 2).den)) * (nu (q 0)))), .long (lN ((((q 0).den) * (nu (q 2))) + (((q 2).den) * (nu (q 0)))))]) (rest := []) X (c_X2_put l g mo ua oa ga cd _ _ x1 y1 U O q (wayo x1 y1 0 * (q 2).den * nu (q 0)) ((q 0).den * nu (q 2) + (q 2).den * nu (q 0)) hM (Nat.lt_of_le_of_lt (Nat.mul_le_mul (Nat.mul_le_mul hw b2.2.2) b1.2.1) (by decide)) (by omega) (by omega)) ⟨mw_508, mw_510, mw_22, mw_40, mw_511⟩ sgX2_put ⟨rfl, rfl, ⟨by decide, by decide⟩, by decide, by decide⟩ (hP.at 0 rfl) rfl rfl (hP) hX.1 (fun q h => h) hlo rfl hl.1 rfl (Nat.le_of_ble_eq_true rfl) dX2_ends_93 (fun v H9 locs hk10 hlo hp => ?_)
        obtain ⟨rfl, hP⟩ := hp
        have hX := hX.trf (fun q h => h) hk10
        refine W.eq (g2 := F0 m 96 ls []) rfl ?_
        rw [(show ((wayo x1 y1 0 * (q 2).den * nu (q 0) : Nat) : Rat) / (((q 0).den * nu (q 2) + (q 2).den * nu (q 0) : Nat) : Rat) = lim x1 y1 q 0 t 2 by rw [lim_o (show 2 = opp 0 from rfl)]; exact ed2 pq p2 _)] at hP
        refine lv_goto (tgt := 208) X.1 X.2.1 dX2_ends_96 (by decide) ?_
        refine lv_iconst (v := nI 1) X.1 X.2.1 dX2_ends_208 (by decide) ?_
        refine w_i (v' := bI true) (by decide) ?_
        exact f_zret (v := true) X hX hlo (⟨rfl, _, _, hP, fun _ => ⟨rfl, rfl⟩⟩) ⟨by decide, by decide⟩ dX2_ends_209
      ·
        refine lv_aload_n X.1 X.2.1 dX2_ends_28 rfl (lv_at hl 1 rfl) ?_
        refine lv_aload_n X.1 X.2.1 dX2_ends_29 rfl (lv_at hl 1 rfl) ?_
        refine lv_iload_n X.1 X.2.1 dX2_ends_30 rfl (lv_at hl 2 rfl) ?_
        refine p_callV (C := RX2) (b := mo) (As := [.int (nI 0)]) (rest := [.ref mo]) X (c_X2_depth l g mo ua oa ga cd _ _ x1 y1 U O q 0 (by decide)) ⟨mw_569, mw_571, mw_32, mw_40, mw_572⟩ sgX2_depth ⟨rfl, rfl, ⟨by decide, by decide⟩, by decide, by decide⟩ (hP.at 0 rfl) rfl rfl (hP.sub [0, 1, 2, 3] rfl) hX.1 rfl hl.1 rfl (Nat.le_of_ble_eq_true rfl) dX2_ends_31 (fun v H11 hk12 hp => ?_)
        obtain rfl := hp
        have hX := hX.tr hk12
        have hP := PP.ext hP hk12
        refine W.eq (g2 := F0 m 34 ls [.long (lN (wayo x1 y1 0)), .ref mo]) rfl ?_
        refine lv_lconst (v := lN 1) X.1 X.2.1 dX2_ends_34 (by decide) ?_
        refine f_callV (F := fun q => q = mo) (C := RX2) (b := mo) (As := [.long (lN (wayo x1 y1 0)), .long (lN 1)]) (rest := []) X (c_X2_put l g mo ua oa ga cd _ _ x1 y1 U O q (wayo x1 y1 0) (1) hM (by omega) (by decide) (by decide)) ⟨mw_508, mw_510, mw_22, mw_40, mw_511⟩ sgX2_put ⟨rfl, rfl, ⟨by decide, by decide⟩, by decide, by decide⟩ (hP.at 0 rfl) rfl rfl (hP) hX.1 (fun q h => h) hlo rfl hl.1 rfl (Nat.le_of_ble_eq_true rfl) dX2_ends_35 (fun v H13 locs hk14 hlo hp => ?_)
        obtain ⟨rfl, hP⟩ := hp
        have hX := hX.trf (fun q h => h) hk14
        refine W.eq (g2 := F0 m 38 ls []) rfl ?_
        rw [(show ((wayo x1 y1 0 : Nat) : Rat) / ((1 : Nat) : Rat) = lim x1 y1 q 0 t 2 by rw [lim_o (show 2 = opp 0 from rfl), gab0 hB6]; exact ed1 pq _)] at hP
        refine lv_goto (tgt := 208) X.1 X.2.1 dX2_ends_38 (by decide) ?_
        refine lv_iconst (v := nI 1) X.1 X.2.1 dX2_ends_208 (by decide) ?_
        refine w_i (v' := bI true) (by decide) ?_
        exact f_zret (v := true) X hX hlo (⟨rfl, _, _, hP, fun _ => ⟨rfl, rfl⟩⟩) ⟨by decide, by decide⟩ dX2_ends_209
    ·
      have pq := gab_pos (hO.2.2.1 0 (by decide)) hg
      have eA := hR 0 (by decide) hg
      have b1 := hO.2.2.1 0 (by decide)
      have b2 := hO.2.2.1 3 (by decide)
      have hw := wayo_le hO 0
      have hsl := slen_le hO 0
      refine lv_iload_n X.1 X.2.1 dX2_ends_0 rfl (lv_at hl 1 rfl) ?_
      refine lv_iload_n X.1 X.2.1 dX2_ends_1 rfl (lv_at hl 2 rfl) ?_
      refine lv_ixor X.1 X.2.1 dX2_ends_2 ?_
      refine w_i (v' := nI 3) (by decide) ?_
      refine lv_iconst (v := nI 2) X.1 X.2.1 dX2_ends_3 (by decide) ?_
      refine lv_icmp_ne (tgt := 11) X.1 X.2.1 dX2_ends_4 (by decide) (fun _ => ?_) (fun h9 => absurd h9 (by decide))
      refine lv_iconst (v := nI 0) X.1 X.2.1 dX2_ends_11 (by decide) ?_
      refine lv_istore (lv' := [(5, .int (nI 0)), (0, .ref mo), (1, .int (nI 0)), (2, .int (nI 3)), (3, .long (lN t))]) X.1 X.2.1 dX2_ends_12 hl (by decide) rfl (fun ls hl => ?_)
      refine lv_iload X.1 X.2.1 dX2_ends_14 (lv_at hl 0 rfl) ?_
      refine lv_if_eq (tgt := 41) X.1 X.2.1 dX2_ends_16 (by decide) (fun _ => ?_) (fun h9 => absurd (by decide) h9)
      refine lv_iload X.1 X.2.1 dX2_ends_41 (lv_at hl 0 rfl) ?_
      refine lv_if_eq (tgt := 99) X.1 X.2.1 dX2_ends_43 (by decide) (fun _ => ?_) (fun h9 => absurd (by decide) h9)
      refine lv_aload_n X.1 X.2.1 dX2_ends_99 rfl (lv_at hl 1 rfl) ?_
      refine p_get (T := TX2) X uX2 (hP.at 0 rfl) rfl 5 (by decide) mw_469 rfl rfl dX2_ends_100 ?_
      refine lv_iload_n X.1 X.2.1 dX2_ends_103 rfl (lv_at hl 3 rfl) ?_
      refine f_zald X (hP.at 3 rfl) (by decide) (by decide) dX2_ends_104 ?_
      refine q_Bne X (tgt := 206) dX2_ends_105 (by decide) (fun hB15 => ?_) (fun hB15 => ?_)
      ·
        refine lv_iconst (v := nI 0) X.1 X.2.1 dX2_ends_206 (by decide) ?_
        refine w_i (v' := bI false) (by decide) ?_
        exact f_zret (v := false) X hX hlo (⟨by rw [hB15]; rfl, _, _, hP, fun h9 => by rw [hB15] at h9; cases h9⟩) ⟨by decide, by decide⟩ dX2_ends_207
      ·
        have p2 := gab_pos b2 hB15
        have eB := hR 3 (by decide) hB15
        refine lv_iload_n X.1 X.2.1 dX2_ends_108 rfl (lv_at hl 2 rfl) ?_
        refine lv_if_ne (tgt := 116) X.1 X.2.1 dX2_ends_109 (by decide) (fun h9 => absurd (by decide) h9) (fun _ => ?_)
        refine lv_lload_n X.1 X.2.1 dX2_ends_112 rfl (lv_at hl 4 rfl) ?_
        refine lv_goto (tgt := 138) X.1 X.2.1 dX2_ends_113 (by decide) ?_
        refine lv_lstore (lv' := [(6, .long (lN t)), (5, .int (nI 0)), (0, .ref mo), (1, .int (nI 0)), (2, .int (nI 3)), (3, .long (lN t))]) X.1 X.2.1 dX2_ends_138 hl (by decide) rfl (fun ls hl => ?_)
        refine lv_iload_n X.1 X.2.1 dX2_ends_140 rfl (lv_at hl 3 rfl) ?_
        refine lv_if_ne (tgt := 148) X.1 X.2.1 dX2_ends_141 (by decide) (fun h9 => absurd (by decide) h9) (fun _ => ?_)
        refine lv_lconst (v := lN 0) X.1 X.2.1 dX2_ends_144 (by decide) ?_
        refine lv_goto (tgt := 161) X.1 X.2.1 dX2_ends_145 (by decide) ?_
        refine lv_lstore (lv' := [(8, .long (lN 0)), (6, .long (lN t)), (5, .int (nI 0)), (0, .ref mo), (1, .int (nI 0)), (2, .int (nI 3)), (3, .long (lN t))]) X.1 X.2.1 dX2_ends_161 hl (by decide) rfl (fun ls hl => ?_)
        refine lv_aload_n X.1 X.2.1 dX2_ends_163 rfl (lv_at hl 3 rfl) ?_
        refine lv_aload_n X.1 X.2.1 dX2_ends_164 rfl (lv_at hl 3 rfl) ?_
        refine p_get (T := TX2) X uX2 (hP.at 0 rfl) rfl 3 (by decide) mw_467 rfl rfl dX2_ends_165 ?_
        refine lv_iload_n X.1 X.2.1 dX2_ends_168 rfl (lv_at hl 5 rfl) ?_
        refine f_lald X (hP.at 1 rfl) (by decide) (by decide) dX2_ends_169 ?_
        refine w_l (v' := lN ((q 3).den)) (by rw [(eB).2]) ?_
        refine lv_aload_n X.1 X.2.1 dX2_ends_170 rfl (lv_at hl 3 rfl) ?_
        refine lv_iload_n X.1 X.2.1 dX2_ends_171 rfl (lv_at hl 5 rfl) ?_
        refine lv_lload X.1 X.2.1 dX2_ends_172 (lv_at hl 1 rfl) ?_
        refine lv_lload X.1 X.2.1 dX2_ends_174 (lv_at hl 0 rfl) ?_
        refine p_callV (C := RX2) (b := mo) (As := [.int (nI 3), .long (lN t), .long (lN 0)]) (rest := [.long (lN ((q 3).den)), .ref mo]) X (c_X2_far l g mo ua oa ga cd _ _ x1 y1 U O q 3 (t) (0) (by decide) ht (Nat.zero_le _)) ⟨mw_528, mw_530, mw_25, mw_40, mw_531⟩ sgX2_far ⟨rfl, rfl, ⟨by decide, by decide⟩, by decide, by decide⟩ (hP.at 0 rfl) rfl rfl (hP.sub [0, 1, 2, 3] rfl) hX.1 rfl hl.1 rfl (Nat.le_of_ble_eq_true rfl) dX2_ends_176 (fun v H16 hk17 hp => ?_)
        obtain rfl := hp
        have hX := hX.tr hk17
        have hP := PP.ext hP hk17
        refine W.eq (g2 := F0 m 179 ls [.long (lN (dst x1 y1 3 t 0)), .long (lN ((q 3).den)), .ref mo]) rfl ?_
        have hD : dst x1 y1 3 t 0 ≤ 2000 := dst_le hO ht (Nat.zero_le _) 3
        refine lv_lmul X.1 X.2.1 dX2_ends_179 ?_
        refine w_l (lN_mul _ _) ?_
        refine lv_aload_n X.1 X.2.1 dX2_ends_180 rfl (lv_at hl 3 rfl) ?_
        refine p_get (T := TX2) X uX2 (hP.at 0 rfl) rfl 4 (by decide) mw_468 rfl rfl dX2_ends_181 ?_
        refine lv_iload_n X.1 X.2.1 dX2_ends_184 rfl (lv_at hl 4 rfl) ?_
        refine f_lald X (hP.at 2 rfl) (by decide) (by decide) dX2_ends_185 ?_
        refine w_l (v' := lN (nu (q 0))) (by rw [(eA).1]) ?_
        refine lv_lmul X.1 X.2.1 dX2_ends_186 ?_
        refine w_l (lN_mul _ _) ?_
        refine lv_aload_n X.1 X.2.1 dX2_ends_187 rfl (lv_at hl 3 rfl) ?_
        refine p_get (T := TX2) X uX2 (hP.at 0 rfl) rfl 4 (by decide) mw_468 rfl rfl dX2_ends_188 ?_
        refine lv_iload_n X.1 X.2.1 dX2_ends_191 rfl (lv_at hl 5 rfl) ?_
        refine f_lald X (hP.at 2 rfl) (by decide) (by decide) dX2_ends_192 ?_
        refine w_l (v' := lN (nu (q 3))) (by rw [(eB).1]) ?_
        refine lv_aload_n X.1 X.2.1 dX2_ends_193 rfl (lv_at hl 3 rfl) ?_
        refine p_get (T := TX2) X uX2 (hP.at 0 rfl) rfl 3 (by decide) mw_467 rfl rfl dX2_ends_194 ?_
        refine lv_iload_n X.1 X.2.1 dX2_ends_197 rfl (lv_at hl 4 rfl) ?_
        refine f_lald X (hP.at 1 rfl) (by decide) (by decide) dX2_ends_198 ?_
        refine w_l (v' := lN ((q 0).den)) (by rw [(eA).2]) ?_
        refine lv_lmul X.1 X.2.1 dX2_ends_199 ?_
        refine w_l (lN_mul _ _) ?_
        refine f_callV (F := fun q => q = mo) (C := RX2) (b := mo) (As := [.long (lN ((((q 3).den) * (dst x1 y1 3 t 0)) * (nu (q 0)))), .long (lN ((nu (q 3)) * ((q 0).den)))]) (rest := []) X (c_X2_put l g mo ua oa ga cd _ _ x1 y1 U O q ((q 3).den * dst x1 y1 3 t 0 * nu (q 0)) (nu (q 3) * (q 0).den) hM (Nat.lt_of_le_of_lt (Nat.mul_le_mul (Nat.mul_le_mul b2.2.2 hD) b1.2.1) (by decide)) (mlt b2.2.1 b1.2.2 (by decide)) (Nat.mul_pos (nu_pos p2) (dn_pos _))) ⟨mw_508, mw_510, mw_22, mw_40, mw_511⟩ sgX2_put ⟨rfl, rfl, ⟨by decide, by decide⟩, by decide, by decide⟩ (hP.at 0 rfl) rfl rfl (hP) hX.1 (fun q h => h) hlo rfl hl.1 rfl (Nat.le_of_ble_eq_true rfl) dX2_ends_200 (fun v H18 locs hk19 hlo hp => ?_)
        obtain ⟨rfl, hP⟩ := hp
        have hX := hX.trf (fun q h => h) hk19
        refine W.eq (g2 := F0 m 203 ls []) rfl ?_
        rw [(show (((q 3).den * dst x1 y1 3 t 0 * nu (q 0) : Nat) : Rat) / ((nu (q 3) * (q 0).den : Nat) : Rat) = lim x1 y1 q 0 t 3 by rw [lim_n (d := dst x1 y1 3 t 0) (by decide) rfl]; exact ed3 pq p2 _)] at hP
        refine lv_goto (tgt := 208) X.1 X.2.1 dX2_ends_203 (by decide) ?_
        refine lv_iconst (v := nI 1) X.1 X.2.1 dX2_ends_208 (by decide) ?_
        refine w_i (v' := bI true) (by decide) ?_
        exact f_zret (v := true) X hX hlo (⟨by rw [hB15]; rfl, _, _, hP, fun _ => ⟨rfl, rfl⟩⟩) ⟨by decide, by decide⟩ dX2_ends_209
  ·
    rcases (show j = 0 ∨ j = 1 ∨ j = 2 ∨ j = 3 by omega) with rfl | rfl | rfl | rfl
    ·
      have pq := gab_pos (hO.2.2.1 1 (by decide)) hg
      have eA := hR 1 (by decide) hg
      have b1 := hO.2.2.1 1 (by decide)
      have b2 := hO.2.2.1 0 (by decide)
      have hw := wayo_le hO 1
      have hsl := slen_le hO 1
      refine lv_iload_n X.1 X.2.1 dX2_ends_0 rfl (lv_at hl 1 rfl) ?_
      refine lv_iload_n X.1 X.2.1 dX2_ends_1 rfl (lv_at hl 2 rfl) ?_
      refine lv_ixor X.1 X.2.1 dX2_ends_2 ?_
      refine w_i (v' := nI 1) (by decide) ?_
      refine lv_iconst (v := nI 2) X.1 X.2.1 dX2_ends_3 (by decide) ?_
      refine lv_icmp_ne (tgt := 11) X.1 X.2.1 dX2_ends_4 (by decide) (fun _ => ?_) (fun h9 => absurd h9 (by decide))
      refine lv_iconst (v := nI 0) X.1 X.2.1 dX2_ends_11 (by decide) ?_
      refine lv_istore (lv' := [(5, .int (nI 0)), (0, .ref mo), (1, .int (nI 1)), (2, .int (nI 0)), (3, .long (lN t))]) X.1 X.2.1 dX2_ends_12 hl (by decide) rfl (fun ls hl => ?_)
      refine lv_iload X.1 X.2.1 dX2_ends_14 (lv_at hl 0 rfl) ?_
      refine lv_if_eq (tgt := 41) X.1 X.2.1 dX2_ends_16 (by decide) (fun _ => ?_) (fun h9 => absurd (by decide) h9)
      refine lv_iload X.1 X.2.1 dX2_ends_41 (lv_at hl 0 rfl) ?_
      refine lv_if_eq (tgt := 99) X.1 X.2.1 dX2_ends_43 (by decide) (fun _ => ?_) (fun h9 => absurd (by decide) h9)
      refine lv_aload_n X.1 X.2.1 dX2_ends_99 rfl (lv_at hl 1 rfl) ?_
      refine p_get (T := TX2) X uX2 (hP.at 0 rfl) rfl 5 (by decide) mw_469 rfl rfl dX2_ends_100 ?_
      refine lv_iload_n X.1 X.2.1 dX2_ends_103 rfl (lv_at hl 3 rfl) ?_
      refine f_zald X (hP.at 3 rfl) (by decide) (by decide) dX2_ends_104 ?_
      refine q_Bne X (tgt := 206) dX2_ends_105 (by decide) (fun hB20 => ?_) (fun hB20 => ?_)
      ·
        refine lv_iconst (v := nI 0) X.1 X.2.1 dX2_ends_206 (by decide) ?_
        refine w_i (v' := bI false) (by decide) ?_
        exact f_zret (v := false) X hX hlo (⟨by rw [hB20]; rfl, _, _, hP, fun h9 => by rw [hB20] at h9; cases h9⟩) ⟨by decide, by decide⟩ dX2_ends_207
      ·
        have p2 := gab_pos b2 hB20
        have eB := hR 0 (by decide) hB20
        refine lv_iload_n X.1 X.2.1 dX2_ends_108 rfl (lv_at hl 2 rfl) ?_
        refine lv_if_ne (tgt := 116) X.1 X.2.1 dX2_ends_109 (by decide) (fun _ => ?_) (fun h9 => absurd h9 (by decide))
        refine lv_iload_n X.1 X.2.1 dX2_ends_116 rfl (lv_at hl 2 rfl) ?_
        refine lv_iconst (v := nI 2) X.1 X.2.1 dX2_ends_117 (by decide) ?_
        refine lv_icmp_ne (tgt := 125) X.1 X.2.1 dX2_ends_118 (by decide) (fun _ => ?_) (fun h9 => absurd h9 (by decide))
        refine lv_iload_n X.1 X.2.1 dX2_ends_125 rfl (lv_at hl 2 rfl) ?_
        refine lv_iconst (v := nI 1) X.1 X.2.1 dX2_ends_126 (by decide) ?_
        refine lv_icmp_ne (tgt := 137) X.1 X.2.1 dX2_ends_127 (by decide) (fun h9 => absurd (by decide) h9) (fun _ => ?_)
        refine lv_aload_n X.1 X.2.1 dX2_ends_130 rfl (lv_at hl 1 rfl) ?_
        refine p_get (T := TX2) X uX2 (hP.at 0 rfl) rfl 1 (by decide) mw_465 rfl rfl dX2_ends_131 ?_
        refine lv_goto (tgt := 138) X.1 X.2.1 dX2_ends_134 (by decide) ?_
        refine lv_lstore (lv' := [(6, .long (lN x1)), (5, .int (nI 0)), (0, .ref mo), (1, .int (nI 1)), (2, .int (nI 0)), (3, .long (lN t))]) X.1 X.2.1 dX2_ends_138 hl (by decide) rfl (fun ls hl => ?_)
        refine lv_iload_n X.1 X.2.1 dX2_ends_140 rfl (lv_at hl 3 rfl) ?_
        refine lv_if_ne (tgt := 148) X.1 X.2.1 dX2_ends_141 (by decide) (fun _ => ?_) (fun h9 => absurd h9 (by decide))
        refine lv_iload_n X.1 X.2.1 dX2_ends_148 rfl (lv_at hl 3 rfl) ?_
        refine lv_iconst (v := nI 2) X.1 X.2.1 dX2_ends_149 (by decide) ?_
        refine lv_icmp_ne (tgt := 160) X.1 X.2.1 dX2_ends_150 (by decide) (fun _ => ?_) (fun h9 => absurd h9 (by decide))
        refine lv_lload_n X.1 X.2.1 dX2_ends_160 rfl (lv_at hl 5 rfl) ?_
        refine lv_lstore (lv' := [(8, .long (lN t)), (6, .long (lN x1)), (5, .int (nI 0)), (0, .ref mo), (1, .int (nI 1)), (2, .int (nI 0)), (3, .long (lN t))]) X.1 X.2.1 dX2_ends_161 hl (by decide) rfl (fun ls hl => ?_)
        refine lv_aload_n X.1 X.2.1 dX2_ends_163 rfl (lv_at hl 3 rfl) ?_
        refine lv_aload_n X.1 X.2.1 dX2_ends_164 rfl (lv_at hl 3 rfl) ?_
        refine p_get (T := TX2) X uX2 (hP.at 0 rfl) rfl 3 (by decide) mw_467 rfl rfl dX2_ends_165 ?_
        refine lv_iload_n X.1 X.2.1 dX2_ends_168 rfl (lv_at hl 5 rfl) ?_
        refine f_lald X (hP.at 1 rfl) (by decide) (by decide) dX2_ends_169 ?_
        refine w_l (v' := lN ((q 0).den)) (by rw [(eB).2]) ?_
        refine lv_aload_n X.1 X.2.1 dX2_ends_170 rfl (lv_at hl 3 rfl) ?_
        refine lv_iload_n X.1 X.2.1 dX2_ends_171 rfl (lv_at hl 5 rfl) ?_
        refine lv_lload X.1 X.2.1 dX2_ends_172 (lv_at hl 1 rfl) ?_
        refine lv_lload X.1 X.2.1 dX2_ends_174 (lv_at hl 0 rfl) ?_
        refine p_callV (C := RX2) (b := mo) (As := [.int (nI 0), .long (lN x1), .long (lN t)]) (rest := [.long (lN ((q 0).den)), .ref mo]) X (c_X2_far l g mo ua oa ga cd _ _ x1 y1 U O q 0 (x1) (t) (by decide) (Nat.le_refl _) ht) ⟨mw_528, mw_530, mw_25, mw_40, mw_531⟩ sgX2_far ⟨rfl, rfl, ⟨by decide, by decide⟩, by decide, by decide⟩ (hP.at 0 rfl) rfl rfl (hP.sub [0, 1, 2, 3] rfl) hX.1 rfl hl.1 rfl (Nat.le_of_ble_eq_true rfl) dX2_ends_176 (fun v H21 hk22 hp => ?_)
        obtain rfl := hp
        have hX := hX.tr hk22
        have hP := PP.ext hP hk22
        refine W.eq (g2 := F0 m 179 ls [.long (lN (dst x1 y1 0 x1 t)), .long (lN ((q 0).den)), .ref mo]) rfl ?_
        have hD : dst x1 y1 0 x1 t ≤ 2000 := dst_le hO (Nat.le_refl _) ht 0
        refine lv_lmul X.1 X.2.1 dX2_ends_179 ?_
        refine w_l (lN_mul _ _) ?_
        refine lv_aload_n X.1 X.2.1 dX2_ends_180 rfl (lv_at hl 3 rfl) ?_
        refine p_get (T := TX2) X uX2 (hP.at 0 rfl) rfl 4 (by decide) mw_468 rfl rfl dX2_ends_181 ?_
        refine lv_iload_n X.1 X.2.1 dX2_ends_184 rfl (lv_at hl 4 rfl) ?_
        refine f_lald X (hP.at 2 rfl) (by decide) (by decide) dX2_ends_185 ?_
        refine w_l (v' := lN (nu (q 1))) (by rw [(eA).1]) ?_
        refine lv_lmul X.1 X.2.1 dX2_ends_186 ?_
        refine w_l (lN_mul _ _) ?_
        refine lv_aload_n X.1 X.2.1 dX2_ends_187 rfl (lv_at hl 3 rfl) ?_
        refine p_get (T := TX2) X uX2 (hP.at 0 rfl) rfl 4 (by decide) mw_468 rfl rfl dX2_ends_188 ?_
        refine lv_iload_n X.1 X.2.1 dX2_ends_191 rfl (lv_at hl 5 rfl) ?_
        refine f_lald X (hP.at 2 rfl) (by decide) (by decide) dX2_ends_192 ?_
        refine w_l (v' := lN (nu (q 0))) (by rw [(eB).1]) ?_
        refine lv_aload_n X.1 X.2.1 dX2_ends_193 rfl (lv_at hl 3 rfl) ?_
        refine p_get (T := TX2) X uX2 (hP.at 0 rfl) rfl 3 (by decide) mw_467 rfl rfl dX2_ends_194 ?_
        refine lv_iload_n X.1 X.2.1 dX2_ends_197 rfl (lv_at hl 4 rfl) ?_
        refine f_lald X (hP.at 1 rfl) (by decide) (by decide) dX2_ends_198 ?_
        refine w_l (v' := lN ((q 1).den)) (by rw [(eA).2]) ?_
        refine lv_lmul X.1 X.2.1 dX2_ends_199 ?_
        refine w_l (lN_mul _ _) ?_
        refine f_callV (F := fun q => q = mo) (C := RX2) (b := mo) (As := [.long (lN ((((q 0).den) * (dst x1 y1 0 x1 t)) * (nu (q 1)))), .long (lN ((nu (q 0)) * ((q 1).den)))]) (rest := []) X (c_X2_put l g mo ua oa ga cd _ _ x1 y1 U O q ((q 0).den * dst x1 y1 0 x1 t * nu (q 1)) (nu (q 0) * (q 1).den) hM (Nat.lt_of_le_of_lt (Nat.mul_le_mul (Nat.mul_le_mul b2.2.2 hD) b1.2.1) (by decide)) (mlt b2.2.1 b1.2.2 (by decide)) (Nat.mul_pos (nu_pos p2) (dn_pos _))) ⟨mw_508, mw_510, mw_22, mw_40, mw_511⟩ sgX2_put ⟨rfl, rfl, ⟨by decide, by decide⟩, by decide, by decide⟩ (hP.at 0 rfl) rfl rfl (hP) hX.1 (fun q h => h) hlo rfl hl.1 rfl (Nat.le_of_ble_eq_true rfl) dX2_ends_200 (fun v H23 locs hk24 hlo hp => ?_)
        obtain ⟨rfl, hP⟩ := hp
        have hX := hX.trf (fun q h => h) hk24
        refine W.eq (g2 := F0 m 203 ls []) rfl ?_
        rw [(show (((q 0).den * dst x1 y1 0 x1 t * nu (q 1) : Nat) : Rat) / ((nu (q 0) * (q 1).den : Nat) : Rat) = lim x1 y1 q 1 t 0 by rw [lim_n (d := dst x1 y1 0 x1 t) (by decide) rfl]; exact ed3 pq p2 _)] at hP
        refine lv_goto (tgt := 208) X.1 X.2.1 dX2_ends_203 (by decide) ?_
        refine lv_iconst (v := nI 1) X.1 X.2.1 dX2_ends_208 (by decide) ?_
        refine w_i (v' := bI true) (by decide) ?_
        exact f_zret (v := true) X hX hlo (⟨by rw [hB20]; rfl, _, _, hP, fun _ => ⟨rfl, rfl⟩⟩) ⟨by decide, by decide⟩ dX2_ends_209
    ·
      exact absurd rfl hne
    ·
      have pq := gab_pos (hO.2.2.1 1 (by decide)) hg
      have eA := hR 1 (by decide) hg
      have b1 := hO.2.2.1 1 (by decide)
      have b2 := hO.2.2.1 2 (by decide)
      have hw := wayo_le hO 1
      have hsl := slen_le hO 1
      refine lv_iload_n X.1 X.2.1 dX2_ends_0 rfl (lv_at hl 1 rfl) ?_
      refine lv_iload_n X.1 X.2.1 dX2_ends_1 rfl (lv_at hl 2 rfl) ?_
      refine lv_ixor X.1 X.2.1 dX2_ends_2 ?_
      refine w_i (v' := nI 3) (by decide) ?_
      refine lv_iconst (v := nI 2) X.1 X.2.1 dX2_ends_3 (by decide) ?_
      refine lv_icmp_ne (tgt := 11) X.1 X.2.1 dX2_ends_4 (by decide) (fun _ => ?_) (fun h9 => absurd h9 (by decide))
      refine lv_iconst (v := nI 0) X.1 X.2.1 dX2_ends_11 (by decide) ?_
      refine lv_istore (lv' := [(5, .int (nI 0)), (0, .ref mo), (1, .int (nI 1)), (2, .int (nI 2)), (3, .long (lN t))]) X.1 X.2.1 dX2_ends_12 hl (by decide) rfl (fun ls hl => ?_)
      refine lv_iload X.1 X.2.1 dX2_ends_14 (lv_at hl 0 rfl) ?_
      refine lv_if_eq (tgt := 41) X.1 X.2.1 dX2_ends_16 (by decide) (fun _ => ?_) (fun h9 => absurd (by decide) h9)
      refine lv_iload X.1 X.2.1 dX2_ends_41 (lv_at hl 0 rfl) ?_
      refine lv_if_eq (tgt := 99) X.1 X.2.1 dX2_ends_43 (by decide) (fun _ => ?_) (fun h9 => absurd (by decide) h9)
      refine lv_aload_n X.1 X.2.1 dX2_ends_99 rfl (lv_at hl 1 rfl) ?_
      refine p_get (T := TX2) X uX2 (hP.at 0 rfl) rfl 5 (by decide) mw_469 rfl rfl dX2_ends_100 ?_
      refine lv_iload_n X.1 X.2.1 dX2_ends_103 rfl (lv_at hl 3 rfl) ?_
      refine f_zald X (hP.at 3 rfl) (by decide) (by decide) dX2_ends_104 ?_
      refine q_Bne X (tgt := 206) dX2_ends_105 (by decide) (fun hB25 => ?_) (fun hB25 => ?_)
      ·
        refine lv_iconst (v := nI 0) X.1 X.2.1 dX2_ends_206 (by decide) ?_
        refine w_i (v' := bI false) (by decide) ?_
        exact f_zret (v := false) X hX hlo (⟨by rw [hB25]; rfl, _, _, hP, fun h9 => by rw [hB25] at h9; cases h9⟩) ⟨by decide, by decide⟩ dX2_ends_207
      ·
        have p2 := gab_pos b2 hB25
        have eB := hR 2 (by decide) hB25
        refine lv_iload_n X.1 X.2.1 dX2_ends_108 rfl (lv_at hl 2 rfl) ?_
        refine lv_if_ne (tgt := 116) X.1 X.2.1 dX2_ends_109 (by decide) (fun _ => ?_) (fun h9 => absurd h9 (by decide))
        refine lv_iload_n X.1 X.2.1 dX2_ends_116 rfl (lv_at hl 2 rfl) ?_
        refine lv_iconst (v := nI 2) X.1 X.2.1 dX2_ends_117 (by decide) ?_
        refine lv_icmp_ne (tgt := 125) X.1 X.2.1 dX2_ends_118 (by decide) (fun _ => ?_) (fun h9 => absurd h9 (by decide))
        refine lv_iload_n X.1 X.2.1 dX2_ends_125 rfl (lv_at hl 2 rfl) ?_
        refine lv_iconst (v := nI 1) X.1 X.2.1 dX2_ends_126 (by decide) ?_
        refine lv_icmp_ne (tgt := 137) X.1 X.2.1 dX2_ends_127 (by decide) (fun h9 => absurd (by decide) h9) (fun _ => ?_)
        refine lv_aload_n X.1 X.2.1 dX2_ends_130 rfl (lv_at hl 1 rfl) ?_
        refine p_get (T := TX2) X uX2 (hP.at 0 rfl) rfl 1 (by decide) mw_465 rfl rfl dX2_ends_131 ?_
        refine lv_goto (tgt := 138) X.1 X.2.1 dX2_ends_134 (by decide) ?_
        refine lv_lstore (lv' := [(6, .long (lN x1)), (5, .int (nI 0)), (0, .ref mo), (1, .int (nI 1)), (2, .int (nI 2)), (3, .long (lN t))]) X.1 X.2.1 dX2_ends_138 hl (by decide) rfl (fun ls hl => ?_)
        refine lv_iload_n X.1 X.2.1 dX2_ends_140 rfl (lv_at hl 3 rfl) ?_
        refine lv_if_ne (tgt := 148) X.1 X.2.1 dX2_ends_141 (by decide) (fun _ => ?_) (fun h9 => absurd h9 (by decide))
        refine lv_iload_n X.1 X.2.1 dX2_ends_148 rfl (lv_at hl 3 rfl) ?_
        refine lv_iconst (v := nI 2) X.1 X.2.1 dX2_ends_149 (by decide) ?_
        refine lv_icmp_ne (tgt := 160) X.1 X.2.1 dX2_ends_150 (by decide) (fun _ => ?_) (fun h9 => absurd h9 (by decide))
        refine lv_lload_n X.1 X.2.1 dX2_ends_160 rfl (lv_at hl 5 rfl) ?_
        refine lv_lstore (lv' := [(8, .long (lN t)), (6, .long (lN x1)), (5, .int (nI 0)), (0, .ref mo), (1, .int (nI 1)), (2, .int (nI 2)), (3, .long (lN t))]) X.1 X.2.1 dX2_ends_161 hl (by decide) rfl (fun ls hl => ?_)
        refine lv_aload_n X.1 X.2.1 dX2_ends_163 rfl (lv_at hl 3 rfl) ?_
        refine lv_aload_n X.1 X.2.1 dX2_ends_164 rfl (lv_at hl 3 rfl) ?_
        refine p_get (T := TX2) X uX2 (hP.at 0 rfl) rfl 3 (by decide) mw_467 rfl rfl dX2_ends_165 ?_
        refine lv_iload_n X.1 X.2.1 dX2_ends_168 rfl (lv_at hl 5 rfl) ?_
        refine f_lald X (hP.at 1 rfl) (by decide) (by decide) dX2_ends_169 ?_
        refine w_l (v' := lN ((q 2).den)) (by rw [(eB).2]) ?_
        refine lv_aload_n X.1 X.2.1 dX2_ends_170 rfl (lv_at hl 3 rfl) ?_
        refine lv_iload_n X.1 X.2.1 dX2_ends_171 rfl (lv_at hl 5 rfl) ?_
        refine lv_lload X.1 X.2.1 dX2_ends_172 (lv_at hl 1 rfl) ?_
        refine lv_lload X.1 X.2.1 dX2_ends_174 (lv_at hl 0 rfl) ?_
        refine p_callV (C := RX2) (b := mo) (As := [.int (nI 2), .long (lN x1), .long (lN t)]) (rest := [.long (lN ((q 2).den)), .ref mo]) X (c_X2_far l g mo ua oa ga cd _ _ x1 y1 U O q 2 (x1) (t) (by decide) (Nat.le_refl _) ht) ⟨mw_528, mw_530, mw_25, mw_40, mw_531⟩ sgX2_far ⟨rfl, rfl, ⟨by decide, by decide⟩, by decide, by decide⟩ (hP.at 0 rfl) rfl rfl (hP.sub [0, 1, 2, 3] rfl) hX.1 rfl hl.1 rfl (Nat.le_of_ble_eq_true rfl) dX2_ends_176 (fun v H26 hk27 hp => ?_)
        obtain rfl := hp
        have hX := hX.tr hk27
        have hP := PP.ext hP hk27
        refine W.eq (g2 := F0 m 179 ls [.long (lN (dst x1 y1 2 x1 t)), .long (lN ((q 2).den)), .ref mo]) rfl ?_
        have hD : dst x1 y1 2 x1 t ≤ 2000 := dst_le hO (Nat.le_refl _) ht 2
        refine lv_lmul X.1 X.2.1 dX2_ends_179 ?_
        refine w_l (lN_mul _ _) ?_
        refine lv_aload_n X.1 X.2.1 dX2_ends_180 rfl (lv_at hl 3 rfl) ?_
        refine p_get (T := TX2) X uX2 (hP.at 0 rfl) rfl 4 (by decide) mw_468 rfl rfl dX2_ends_181 ?_
        refine lv_iload_n X.1 X.2.1 dX2_ends_184 rfl (lv_at hl 4 rfl) ?_
        refine f_lald X (hP.at 2 rfl) (by decide) (by decide) dX2_ends_185 ?_
        refine w_l (v' := lN (nu (q 1))) (by rw [(eA).1]) ?_
        refine lv_lmul X.1 X.2.1 dX2_ends_186 ?_
        refine w_l (lN_mul _ _) ?_
        refine lv_aload_n X.1 X.2.1 dX2_ends_187 rfl (lv_at hl 3 rfl) ?_
        refine p_get (T := TX2) X uX2 (hP.at 0 rfl) rfl 4 (by decide) mw_468 rfl rfl dX2_ends_188 ?_
        refine lv_iload_n X.1 X.2.1 dX2_ends_191 rfl (lv_at hl 5 rfl) ?_
        refine f_lald X (hP.at 2 rfl) (by decide) (by decide) dX2_ends_192 ?_
        refine w_l (v' := lN (nu (q 2))) (by rw [(eB).1]) ?_
        refine lv_aload_n X.1 X.2.1 dX2_ends_193 rfl (lv_at hl 3 rfl) ?_
        refine p_get (T := TX2) X uX2 (hP.at 0 rfl) rfl 3 (by decide) mw_467 rfl rfl dX2_ends_194 ?_
        refine lv_iload_n X.1 X.2.1 dX2_ends_197 rfl (lv_at hl 4 rfl) ?_
        refine f_lald X (hP.at 1 rfl) (by decide) (by decide) dX2_ends_198 ?_
        refine w_l (v' := lN ((q 1).den)) (by rw [(eA).2]) ?_
        refine lv_lmul X.1 X.2.1 dX2_ends_199 ?_
        refine w_l (lN_mul _ _) ?_
        refine f_callV (F := fun q => q = mo) (C := RX2) (b := mo) (As := [.long (lN ((((q 2).den) * (dst x1 y1 2 x1 t)) * (nu (q 1)))), .long (lN ((nu (q 2)) * ((q 1).den)))]) (rest := []) X (c_X2_put l g mo ua oa ga cd _ _ x1 y1 U O q ((q 2).den * dst x1 y1 2 x1 t * nu (q 1)) (nu (q 2) * (q 1).den) hM (Nat.lt_of_le_of_lt (Nat.mul_le_mul (Nat.mul_le_mul b2.2.2 hD) b1.2.1) (by decide)) (mlt b2.2.1 b1.2.2 (by decide)) (Nat.mul_pos (nu_pos p2) (dn_pos _))) ⟨mw_508, mw_510, mw_22, mw_40, mw_511⟩ sgX2_put ⟨rfl, rfl, ⟨by decide, by decide⟩, by decide, by decide⟩ (hP.at 0 rfl) rfl rfl (hP) hX.1 (fun q h => h) hlo rfl hl.1 rfl (Nat.le_of_ble_eq_true rfl) dX2_ends_200 (fun v H28 locs hk29 hlo hp => ?_)
        obtain ⟨rfl, hP⟩ := hp
        have hX := hX.trf (fun q h => h) hk29
        refine W.eq (g2 := F0 m 203 ls []) rfl ?_
        rw [(show (((q 2).den * dst x1 y1 2 x1 t * nu (q 1) : Nat) : Rat) / ((nu (q 2) * (q 1).den : Nat) : Rat) = lim x1 y1 q 1 t 2 by rw [lim_n (d := dst x1 y1 2 x1 t) (by decide) rfl]; exact ed3 pq p2 _)] at hP
        refine lv_goto (tgt := 208) X.1 X.2.1 dX2_ends_203 (by decide) ?_
        refine lv_iconst (v := nI 1) X.1 X.2.1 dX2_ends_208 (by decide) ?_
        refine w_i (v' := bI true) (by decide) ?_
        exact f_zret (v := true) X hX hlo (⟨by rw [hB25]; rfl, _, _, hP, fun _ => ⟨rfl, rfl⟩⟩) ⟨by decide, by decide⟩ dX2_ends_209
    ·
      have pq := gab_pos (hO.2.2.1 1 (by decide)) hg
      have eA := hR 1 (by decide) hg
      have b1 := hO.2.2.1 1 (by decide)
      have b2 := hO.2.2.1 3 (by decide)
      have hw := wayo_le hO 1
      have hsl := slen_le hO 1
      refine lv_iload_n X.1 X.2.1 dX2_ends_0 rfl (lv_at hl 1 rfl) ?_
      refine lv_iload_n X.1 X.2.1 dX2_ends_1 rfl (lv_at hl 2 rfl) ?_
      refine lv_ixor X.1 X.2.1 dX2_ends_2 ?_
      refine w_i (v' := nI 2) (by decide) ?_
      refine lv_iconst (v := nI 2) X.1 X.2.1 dX2_ends_3 (by decide) ?_
      refine lv_icmp_ne (tgt := 11) X.1 X.2.1 dX2_ends_4 (by decide) (fun h9 => absurd (by decide) h9) (fun _ => ?_)
      refine lv_iconst (v := nI 1) X.1 X.2.1 dX2_ends_7 (by decide) ?_
      refine lv_goto (tgt := 12) X.1 X.2.1 dX2_ends_8 (by decide) ?_
      refine lv_istore (lv' := [(5, .int (nI 1)), (0, .ref mo), (1, .int (nI 1)), (2, .int (nI 3)), (3, .long (lN t))]) X.1 X.2.1 dX2_ends_12 hl (by decide) rfl (fun ls hl => ?_)
      refine lv_iload X.1 X.2.1 dX2_ends_14 (lv_at hl 0 rfl) ?_
      refine lv_if_eq (tgt := 41) X.1 X.2.1 dX2_ends_16 (by decide) (fun h9 => absurd h9 (by decide)) (fun _ => ?_)
      refine lv_aload_n X.1 X.2.1 dX2_ends_19 rfl (lv_at hl 1 rfl) ?_
      refine p_get (T := TX2) X uX2 (hP.at 0 rfl) rfl 5 (by decide) mw_469 rfl rfl dX2_ends_20 ?_
      refine lv_iload_n X.1 X.2.1 dX2_ends_23 rfl (lv_at hl 3 rfl) ?_
      refine f_zald X (hP.at 3 rfl) (by decide) (by decide) dX2_ends_24 ?_
      refine q_Beq X (tgt := 41) dX2_ends_25 (by decide) (fun hB30 => ?_) (fun hB30 => ?_)
      ·
        have p2 := gab_pos b2 hB30
        have eB := hR 3 (by decide) hB30
        refine lv_iload X.1 X.2.1 dX2_ends_41 (lv_at hl 0 rfl) ?_
        refine lv_if_eq (tgt := 99) X.1 X.2.1 dX2_ends_43 (by decide) (fun h9 => absurd h9 (by decide)) (fun _ => ?_)
        refine lv_aload_n X.1 X.2.1 dX2_ends_46 rfl (lv_at hl 1 rfl) ?_
        refine lv_aload_n X.1 X.2.1 dX2_ends_47 rfl (lv_at hl 1 rfl) ?_
        refine lv_iload_n X.1 X.2.1 dX2_ends_48 rfl (lv_at hl 2 rfl) ?_
        refine p_callV (C := RX2) (b := mo) (As := [.int (nI 1)]) (rest := [.ref mo]) X (c_X2_depth l g mo ua oa ga cd _ _ x1 y1 U O q 1 (by decide)) ⟨mw_569, mw_571, mw_32, mw_40, mw_572⟩ sgX2_depth ⟨rfl, rfl, ⟨by decide, by decide⟩, by decide, by decide⟩ (hP.at 0 rfl) rfl rfl (hP.sub [0, 1, 2, 3] rfl) hX.1 rfl hl.1 rfl (Nat.le_of_ble_eq_true rfl) dX2_ends_49 (fun v H31 hk32 hp => ?_)
        obtain rfl := hp
        have hX := hX.tr hk32
        have hP := PP.ext hP hk32
        refine W.eq (g2 := F0 m 52 ls [.long (lN (wayo x1 y1 1)), .ref mo]) rfl ?_
        refine lv_aload_n X.1 X.2.1 dX2_ends_52 rfl (lv_at hl 1 rfl) ?_
        refine p_get (T := TX2) X uX2 (hP.at 0 rfl) rfl 3 (by decide) mw_467 rfl rfl dX2_ends_53 ?_
        refine lv_iload_n X.1 X.2.1 dX2_ends_56 rfl (lv_at hl 3 rfl) ?_
        refine f_lald X (hP.at 1 rfl) (by decide) (by decide) dX2_ends_57 ?_
        refine w_l (v' := lN ((q 3).den)) (by rw [(eB).2]) ?_
        refine lv_lmul X.1 X.2.1 dX2_ends_58 ?_
        refine w_l (lN_mul _ _) ?_
        refine lv_aload_n X.1 X.2.1 dX2_ends_59 rfl (lv_at hl 1 rfl) ?_
        refine p_get (T := TX2) X uX2 (hP.at 0 rfl) rfl 4 (by decide) mw_468 rfl rfl dX2_ends_60 ?_
        refine lv_iload_n X.1 X.2.1 dX2_ends_63 rfl (lv_at hl 2 rfl) ?_
        refine f_lald X (hP.at 2 rfl) (by decide) (by decide) dX2_ends_64 ?_
        refine w_l (v' := lN (nu (q 1))) (by rw [(eA).1]) ?_
        refine lv_lmul X.1 X.2.1 dX2_ends_65 ?_
        refine w_l (lN_mul _ _) ?_
        refine lv_aload_n X.1 X.2.1 dX2_ends_66 rfl (lv_at hl 1 rfl) ?_
        refine p_get (T := TX2) X uX2 (hP.at 0 rfl) rfl 3 (by decide) mw_467 rfl rfl dX2_ends_67 ?_
        refine lv_iload_n X.1 X.2.1 dX2_ends_70 rfl (lv_at hl 2 rfl) ?_
        refine f_lald X (hP.at 1 rfl) (by decide) (by decide) dX2_ends_71 ?_
        refine w_l (v' := lN ((q 1).den)) (by rw [(eA).2]) ?_
        refine lv_aload_n X.1 X.2.1 dX2_ends_72 rfl (lv_at hl 1 rfl) ?_
        refine p_get (T := TX2) X uX2 (hP.at 0 rfl) rfl 4 (by decide) mw_468 rfl rfl dX2_ends_73 ?_
        refine lv_iload_n X.1 X.2.1 dX2_ends_76 rfl (lv_at hl 3 rfl) ?_
        refine f_lald X (hP.at 2 rfl) (by decide) (by decide) dX2_ends_77 ?_
        refine w_l (v' := lN (nu (q 3))) (by rw [(eB).1]) ?_
        refine lv_lmul X.1 X.2.1 dX2_ends_78 ?_
        refine w_l (lN_mul _ _) ?_
        refine lv_aload_n X.1 X.2.1 dX2_ends_79 rfl (lv_at hl 1 rfl) ?_
        refine p_get (T := TX2) X uX2 (hP.at 0 rfl) rfl 3 (by decide) mw_467 rfl rfl dX2_ends_80 ?_
        refine lv_iload_n X.1 X.2.1 dX2_ends_83 rfl (lv_at hl 3 rfl) ?_
        refine f_lald X (hP.at 1 rfl) (by decide) (by decide) dX2_ends_84 ?_
        refine w_l (v' := lN ((q 3).den)) (by rw [(eB).2]) ?_
        refine lv_aload_n X.1 X.2.1 dX2_ends_85 rfl (lv_at hl 1 rfl) ?_
        refine p_get (T := TX2) X uX2 (hP.at 0 rfl) rfl 4 (by decide) mw_468 rfl rfl dX2_ends_86 ?_
        refine lv_iload_n X.1 X.2.1 dX2_ends_89 rfl (lv_at hl 2 rfl) ?_
        refine f_lald X (hP.at 2 rfl) (by decide) (by decide) dX2_ends_90 ?_
        refine w_l (v' := lN (nu (q 1))) (by rw [(eA).1]) ?_
        refine lv_lmul X.1 X.2.1 dX2_ends_91 ?_
        refine w_l (lN_mul _ _) ?_
        refine lv_ladd X.1 X.2.1 dX2_ends_92 ?_
        refine w_l (lN_add _ _) ?_
        have hs1 : (q 1).den * nu (q 3) ≤ 20 * 20 := Nat.mul_le_mul b1.2.2 b2.2.1
        have hs2 : (q 3).den * nu (q 1) ≤ 20 * 20 := Nat.mul_le_mul b2.2.2 b1.2.1
        have hs3 : 0 < (q 1).den * nu (q 3) := Nat.mul_pos (dn_pos _) (nu_pos p2)
        refine f_callV (F := fun q => q = mo) (C := RX2) (b := mo) (As := [.long (lN (((wayo x1 y1 1) * ((q 3).den)) * (nu (q 1)))), .long (lN ((((q 1).den) * (nu (q 3))) + (((q 3).den) * (nu (q 1)))))]) (rest := []) X (c_X2_put l g mo ua oa ga cd _ _ x1 y1 U O q (wayo x1 y1 1 * (q 3).den * nu (q 1)) ((q 1).den * nu (q 3) + (q 3).den * nu (q 1)) hM (Nat.lt_of_le_of_lt (Nat.mul_le_mul (Nat.mul_le_mul hw b2.2.2) b1.2.1) (by decide)) (by omega) (by omega)) ⟨mw_508, mw_510, mw_22, mw_40, mw_511⟩ sgX2_put ⟨rfl, rfl, ⟨by decide, by decide⟩, by decide, by decide⟩ (hP.at 0 rfl) rfl rfl (hP) hX.1 (fun q h => h) hlo rfl hl.1 rfl (Nat.le_of_ble_eq_true rfl) dX2_ends_93 (fun v H33 locs hk34 hlo hp => ?_)
        obtain ⟨rfl, hP⟩ := hp
        have hX := hX.trf (fun q h => h) hk34
        refine W.eq (g2 := F0 m 96 ls []) rfl ?_
        rw [(show ((wayo x1 y1 1 * (q 3).den * nu (q 1) : Nat) : Rat) / (((q 1).den * nu (q 3) + (q 3).den * nu (q 1) : Nat) : Rat) = lim x1 y1 q 1 t 3 by rw [lim_o (show 3 = opp 1 from rfl)]; exact ed2 pq p2 _)] at hP
        refine lv_goto (tgt := 208) X.1 X.2.1 dX2_ends_96 (by decide) ?_
        refine lv_iconst (v := nI 1) X.1 X.2.1 dX2_ends_208 (by decide) ?_
        refine w_i (v' := bI true) (by decide) ?_
        exact f_zret (v := true) X hX hlo (⟨rfl, _, _, hP, fun _ => ⟨rfl, rfl⟩⟩) ⟨by decide, by decide⟩ dX2_ends_209
      ·
        refine lv_aload_n X.1 X.2.1 dX2_ends_28 rfl (lv_at hl 1 rfl) ?_
        refine lv_aload_n X.1 X.2.1 dX2_ends_29 rfl (lv_at hl 1 rfl) ?_
        refine lv_iload_n X.1 X.2.1 dX2_ends_30 rfl (lv_at hl 2 rfl) ?_
        refine p_callV (C := RX2) (b := mo) (As := [.int (nI 1)]) (rest := [.ref mo]) X (c_X2_depth l g mo ua oa ga cd _ _ x1 y1 U O q 1 (by decide)) ⟨mw_569, mw_571, mw_32, mw_40, mw_572⟩ sgX2_depth ⟨rfl, rfl, ⟨by decide, by decide⟩, by decide, by decide⟩ (hP.at 0 rfl) rfl rfl (hP.sub [0, 1, 2, 3] rfl) hX.1 rfl hl.1 rfl (Nat.le_of_ble_eq_true rfl) dX2_ends_31 (fun v H35 hk36 hp => ?_)
        obtain rfl := hp
        have hX := hX.tr hk36
        have hP := PP.ext hP hk36
        refine W.eq (g2 := F0 m 34 ls [.long (lN (wayo x1 y1 1)), .ref mo]) rfl ?_
        refine lv_lconst (v := lN 1) X.1 X.2.1 dX2_ends_34 (by decide) ?_
        refine f_callV (F := fun q => q = mo) (C := RX2) (b := mo) (As := [.long (lN (wayo x1 y1 1)), .long (lN 1)]) (rest := []) X (c_X2_put l g mo ua oa ga cd _ _ x1 y1 U O q (wayo x1 y1 1) (1) hM (by omega) (by decide) (by decide)) ⟨mw_508, mw_510, mw_22, mw_40, mw_511⟩ sgX2_put ⟨rfl, rfl, ⟨by decide, by decide⟩, by decide, by decide⟩ (hP.at 0 rfl) rfl rfl (hP) hX.1 (fun q h => h) hlo rfl hl.1 rfl (Nat.le_of_ble_eq_true rfl) dX2_ends_35 (fun v H37 locs hk38 hlo hp => ?_)
        obtain ⟨rfl, hP⟩ := hp
        have hX := hX.trf (fun q h => h) hk38
        refine W.eq (g2 := F0 m 38 ls []) rfl ?_
        rw [(show ((wayo x1 y1 1 : Nat) : Rat) / ((1 : Nat) : Rat) = lim x1 y1 q 1 t 3 by rw [lim_o (show 3 = opp 1 from rfl), gab0 hB30]; exact ed1 pq _)] at hP
        refine lv_goto (tgt := 208) X.1 X.2.1 dX2_ends_38 (by decide) ?_
        refine lv_iconst (v := nI 1) X.1 X.2.1 dX2_ends_208 (by decide) ?_
        refine w_i (v' := bI true) (by decide) ?_
        exact f_zret (v := true) X hX hlo (⟨rfl, _, _, hP, fun _ => ⟨rfl, rfl⟩⟩) ⟨by decide, by decide⟩ dX2_ends_209
  ·
    rcases (show j = 0 ∨ j = 1 ∨ j = 2 ∨ j = 3 by omega) with rfl | rfl | rfl | rfl
    ·
      have pq := gab_pos (hO.2.2.1 2 (by decide)) hg
      have eA := hR 2 (by decide) hg
      have b1 := hO.2.2.1 2 (by decide)
      have b2 := hO.2.2.1 0 (by decide)
      have hw := wayo_le hO 2
      have hsl := slen_le hO 2
      refine lv_iload_n X.1 X.2.1 dX2_ends_0 rfl (lv_at hl 1 rfl) ?_
      refine lv_iload_n X.1 X.2.1 dX2_ends_1 rfl (lv_at hl 2 rfl) ?_
      refine lv_ixor X.1 X.2.1 dX2_ends_2 ?_
      refine w_i (v' := nI 2) (by decide) ?_
      refine lv_iconst (v := nI 2) X.1 X.2.1 dX2_ends_3 (by decide) ?_
      refine lv_icmp_ne (tgt := 11) X.1 X.2.1 dX2_ends_4 (by decide) (fun h9 => absurd (by decide) h9) (fun _ => ?_)
      refine lv_iconst (v := nI 1) X.1 X.2.1 dX2_ends_7 (by decide) ?_
      refine lv_goto (tgt := 12) X.1 X.2.1 dX2_ends_8 (by decide) ?_
      refine lv_istore (lv' := [(5, .int (nI 1)), (0, .ref mo), (1, .int (nI 2)), (2, .int (nI 0)), (3, .long (lN t))]) X.1 X.2.1 dX2_ends_12 hl (by decide) rfl (fun ls hl => ?_)
      refine lv_iload X.1 X.2.1 dX2_ends_14 (lv_at hl 0 rfl) ?_
      refine lv_if_eq (tgt := 41) X.1 X.2.1 dX2_ends_16 (by decide) (fun h9 => absurd h9 (by decide)) (fun _ => ?_)
      refine lv_aload_n X.1 X.2.1 dX2_ends_19 rfl (lv_at hl 1 rfl) ?_
      refine p_get (T := TX2) X uX2 (hP.at 0 rfl) rfl 5 (by decide) mw_469 rfl rfl dX2_ends_20 ?_
      refine lv_iload_n X.1 X.2.1 dX2_ends_23 rfl (lv_at hl 3 rfl) ?_
      refine f_zald X (hP.at 3 rfl) (by decide) (by decide) dX2_ends_24 ?_
      refine q_Beq X (tgt := 41) dX2_ends_25 (by decide) (fun hB39 => ?_) (fun hB39 => ?_)
      ·
        have p2 := gab_pos b2 hB39
        have eB := hR 0 (by decide) hB39
        refine lv_iload X.1 X.2.1 dX2_ends_41 (lv_at hl 0 rfl) ?_
        refine lv_if_eq (tgt := 99) X.1 X.2.1 dX2_ends_43 (by decide) (fun h9 => absurd h9 (by decide)) (fun _ => ?_)
        refine lv_aload_n X.1 X.2.1 dX2_ends_46 rfl (lv_at hl 1 rfl) ?_
        refine lv_aload_n X.1 X.2.1 dX2_ends_47 rfl (lv_at hl 1 rfl) ?_
        refine lv_iload_n X.1 X.2.1 dX2_ends_48 rfl (lv_at hl 2 rfl) ?_
        refine p_callV (C := RX2) (b := mo) (As := [.int (nI 2)]) (rest := [.ref mo]) X (c_X2_depth l g mo ua oa ga cd _ _ x1 y1 U O q 2 (by decide)) ⟨mw_569, mw_571, mw_32, mw_40, mw_572⟩ sgX2_depth ⟨rfl, rfl, ⟨by decide, by decide⟩, by decide, by decide⟩ (hP.at 0 rfl) rfl rfl (hP.sub [0, 1, 2, 3] rfl) hX.1 rfl hl.1 rfl (Nat.le_of_ble_eq_true rfl) dX2_ends_49 (fun v H40 hk41 hp => ?_)
        obtain rfl := hp
        have hX := hX.tr hk41
        have hP := PP.ext hP hk41
        refine W.eq (g2 := F0 m 52 ls [.long (lN (wayo x1 y1 2)), .ref mo]) rfl ?_
        refine lv_aload_n X.1 X.2.1 dX2_ends_52 rfl (lv_at hl 1 rfl) ?_
        refine p_get (T := TX2) X uX2 (hP.at 0 rfl) rfl 3 (by decide) mw_467 rfl rfl dX2_ends_53 ?_
        refine lv_iload_n X.1 X.2.1 dX2_ends_56 rfl (lv_at hl 3 rfl) ?_
        refine f_lald X (hP.at 1 rfl) (by decide) (by decide) dX2_ends_57 ?_
        refine w_l (v' := lN ((q 0).den)) (by rw [(eB).2]) ?_
        refine lv_lmul X.1 X.2.1 dX2_ends_58 ?_
        refine w_l (lN_mul _ _) ?_
        refine lv_aload_n X.1 X.2.1 dX2_ends_59 rfl (lv_at hl 1 rfl) ?_
        refine p_get (T := TX2) X uX2 (hP.at 0 rfl) rfl 4 (by decide) mw_468 rfl rfl dX2_ends_60 ?_
        refine lv_iload_n X.1 X.2.1 dX2_ends_63 rfl (lv_at hl 2 rfl) ?_
        refine f_lald X (hP.at 2 rfl) (by decide) (by decide) dX2_ends_64 ?_
        refine w_l (v' := lN (nu (q 2))) (by rw [(eA).1]) ?_
        refine lv_lmul X.1 X.2.1 dX2_ends_65 ?_
        refine w_l (lN_mul _ _) ?_
        refine lv_aload_n X.1 X.2.1 dX2_ends_66 rfl (lv_at hl 1 rfl) ?_
        refine p_get (T := TX2) X uX2 (hP.at 0 rfl) rfl 3 (by decide) mw_467 rfl rfl dX2_ends_67 ?_
        refine lv_iload_n X.1 X.2.1 dX2_ends_70 rfl (lv_at hl 2 rfl) ?_
        refine f_lald X (hP.at 1 rfl) (by decide) (by decide) dX2_ends_71 ?_
        refine w_l (v' := lN ((q 2).den)) (by rw [(eA).2]) ?_
        refine lv_aload_n X.1 X.2.1 dX2_ends_72 rfl (lv_at hl 1 rfl) ?_
        refine p_get (T := TX2) X uX2 (hP.at 0 rfl) rfl 4 (by decide) mw_468 rfl rfl dX2_ends_73 ?_
        refine lv_iload_n X.1 X.2.1 dX2_ends_76 rfl (lv_at hl 3 rfl) ?_
        refine f_lald X (hP.at 2 rfl) (by decide) (by decide) dX2_ends_77 ?_
        refine w_l (v' := lN (nu (q 0))) (by rw [(eB).1]) ?_
        refine lv_lmul X.1 X.2.1 dX2_ends_78 ?_
        refine w_l (lN_mul _ _) ?_
        refine lv_aload_n X.1 X.2.1 dX2_ends_79 rfl (lv_at hl 1 rfl) ?_
        refine p_get (T := TX2) X uX2 (hP.at 0 rfl) rfl 3 (by decide) mw_467 rfl rfl dX2_ends_80 ?_
        refine lv_iload_n X.1 X.2.1 dX2_ends_83 rfl (lv_at hl 3 rfl) ?_
        refine f_lald X (hP.at 1 rfl) (by decide) (by decide) dX2_ends_84 ?_
        refine w_l (v' := lN ((q 0).den)) (by rw [(eB).2]) ?_
        refine lv_aload_n X.1 X.2.1 dX2_ends_85 rfl (lv_at hl 1 rfl) ?_
        refine p_get (T := TX2) X uX2 (hP.at 0 rfl) rfl 4 (by decide) mw_468 rfl rfl dX2_ends_86 ?_
        refine lv_iload_n X.1 X.2.1 dX2_ends_89 rfl (lv_at hl 2 rfl) ?_
        refine f_lald X (hP.at 2 rfl) (by decide) (by decide) dX2_ends_90 ?_
        refine w_l (v' := lN (nu (q 2))) (by rw [(eA).1]) ?_
        refine lv_lmul X.1 X.2.1 dX2_ends_91 ?_
        refine w_l (lN_mul _ _) ?_
        refine lv_ladd X.1 X.2.1 dX2_ends_92 ?_
        refine w_l (lN_add _ _) ?_
        have hs1 : (q 2).den * nu (q 0) ≤ 20 * 20 := Nat.mul_le_mul b1.2.2 b2.2.1
        have hs2 : (q 0).den * nu (q 2) ≤ 20 * 20 := Nat.mul_le_mul b2.2.2 b1.2.1
        have hs3 : 0 < (q 2).den * nu (q 0) := Nat.mul_pos (dn_pos _) (nu_pos p2)
        refine f_callV (F := fun q => q = mo) (C := RX2) (b := mo) (As := [.long (lN (((wayo x1 y1 2) * ((q 0).den)) * (nu (q 2)))), .long (lN ((((q 2).den) * (nu (q 0))) + (((q 0).den) * (nu (q 2)))))]) (rest := []) X (c_X2_put l g mo ua oa ga cd _ _ x1 y1 U O q (wayo x1 y1 2 * (q 0).den * nu (q 2)) ((q 2).den * nu (q 0) + (q 0).den * nu (q 2)) hM (Nat.lt_of_le_of_lt (Nat.mul_le_mul (Nat.mul_le_mul hw b2.2.2) b1.2.1) (by decide)) (by omega) (by omega)) ⟨mw_508, mw_510, mw_22, mw_40, mw_511⟩ sgX2_put ⟨rfl, rfl, ⟨by decide, by decide⟩, by decide, by decide⟩ (hP.at 0 rfl) rfl rfl (hP) hX.1 (fun q h => h) hlo rfl hl.1 rfl (Nat.le_of_ble_eq_true rfl) dX2_ends_93 (fun v H42 locs hk43 hlo hp => ?_)
        obtain ⟨rfl, hP⟩ := hp
        have hX := hX.trf (fun q h => h) hk43
        refine W.eq (g2 := F0 m 96 ls []) rfl ?_
        rw [(show ((wayo x1 y1 2 * (q 0).den * nu (q 2) : Nat) : Rat) / (((q 2).den * nu (q 0) + (q 0).den * nu (q 2) : Nat) : Rat) = lim x1 y1 q 2 t 0 by rw [lim_o (show 0 = opp 2 from rfl)]; exact ed2 pq p2 _)] at hP
        refine lv_goto (tgt := 208) X.1 X.2.1 dX2_ends_96 (by decide) ?_
        refine lv_iconst (v := nI 1) X.1 X.2.1 dX2_ends_208 (by decide) ?_
        refine w_i (v' := bI true) (by decide) ?_
        exact f_zret (v := true) X hX hlo (⟨rfl, _, _, hP, fun _ => ⟨rfl, rfl⟩⟩) ⟨by decide, by decide⟩ dX2_ends_209
      ·
        refine lv_aload_n X.1 X.2.1 dX2_ends_28 rfl (lv_at hl 1 rfl) ?_
        refine lv_aload_n X.1 X.2.1 dX2_ends_29 rfl (lv_at hl 1 rfl) ?_
        refine lv_iload_n X.1 X.2.1 dX2_ends_30 rfl (lv_at hl 2 rfl) ?_
        refine p_callV (C := RX2) (b := mo) (As := [.int (nI 2)]) (rest := [.ref mo]) X (c_X2_depth l g mo ua oa ga cd _ _ x1 y1 U O q 2 (by decide)) ⟨mw_569, mw_571, mw_32, mw_40, mw_572⟩ sgX2_depth ⟨rfl, rfl, ⟨by decide, by decide⟩, by decide, by decide⟩ (hP.at 0 rfl) rfl rfl (hP.sub [0, 1, 2, 3] rfl) hX.1 rfl hl.1 rfl (Nat.le_of_ble_eq_true rfl) dX2_ends_31 (fun v H44 hk45 hp => ?_)
        obtain rfl := hp
        have hX := hX.tr hk45
        have hP := PP.ext hP hk45
        refine W.eq (g2 := F0 m 34 ls [.long (lN (wayo x1 y1 2)), .ref mo]) rfl ?_
        refine lv_lconst (v := lN 1) X.1 X.2.1 dX2_ends_34 (by decide) ?_
        refine f_callV (F := fun q => q = mo) (C := RX2) (b := mo) (As := [.long (lN (wayo x1 y1 2)), .long (lN 1)]) (rest := []) X (c_X2_put l g mo ua oa ga cd _ _ x1 y1 U O q (wayo x1 y1 2) (1) hM (by omega) (by decide) (by decide)) ⟨mw_508, mw_510, mw_22, mw_40, mw_511⟩ sgX2_put ⟨rfl, rfl, ⟨by decide, by decide⟩, by decide, by decide⟩ (hP.at 0 rfl) rfl rfl (hP) hX.1 (fun q h => h) hlo rfl hl.1 rfl (Nat.le_of_ble_eq_true rfl) dX2_ends_35 (fun v H46 locs hk47 hlo hp => ?_)
        obtain ⟨rfl, hP⟩ := hp
        have hX := hX.trf (fun q h => h) hk47
        refine W.eq (g2 := F0 m 38 ls []) rfl ?_
        rw [(show ((wayo x1 y1 2 : Nat) : Rat) / ((1 : Nat) : Rat) = lim x1 y1 q 2 t 0 by rw [lim_o (show 0 = opp 2 from rfl), gab0 hB39]; exact ed1 pq _)] at hP
        refine lv_goto (tgt := 208) X.1 X.2.1 dX2_ends_38 (by decide) ?_
        refine lv_iconst (v := nI 1) X.1 X.2.1 dX2_ends_208 (by decide) ?_
        refine w_i (v' := bI true) (by decide) ?_
        exact f_zret (v := true) X hX hlo (⟨rfl, _, _, hP, fun _ => ⟨rfl, rfl⟩⟩) ⟨by decide, by decide⟩ dX2_ends_209
    ·
      have pq := gab_pos (hO.2.2.1 2 (by decide)) hg
      have eA := hR 2 (by decide) hg
      have b1 := hO.2.2.1 2 (by decide)
      have b2 := hO.2.2.1 1 (by decide)
      have hw := wayo_le hO 2
      have hsl := slen_le hO 2
      refine lv_iload_n X.1 X.2.1 dX2_ends_0 rfl (lv_at hl 1 rfl) ?_
      refine lv_iload_n X.1 X.2.1 dX2_ends_1 rfl (lv_at hl 2 rfl) ?_
      refine lv_ixor X.1 X.2.1 dX2_ends_2 ?_
      refine w_i (v' := nI 3) (by decide) ?_
      refine lv_iconst (v := nI 2) X.1 X.2.1 dX2_ends_3 (by decide) ?_
      refine lv_icmp_ne (tgt := 11) X.1 X.2.1 dX2_ends_4 (by decide) (fun _ => ?_) (fun h9 => absurd h9 (by decide))
      refine lv_iconst (v := nI 0) X.1 X.2.1 dX2_ends_11 (by decide) ?_
      refine lv_istore (lv' := [(5, .int (nI 0)), (0, .ref mo), (1, .int (nI 2)), (2, .int (nI 1)), (3, .long (lN t))]) X.1 X.2.1 dX2_ends_12 hl (by decide) rfl (fun ls hl => ?_)
      refine lv_iload X.1 X.2.1 dX2_ends_14 (lv_at hl 0 rfl) ?_
      refine lv_if_eq (tgt := 41) X.1 X.2.1 dX2_ends_16 (by decide) (fun _ => ?_) (fun h9 => absurd (by decide) h9)
      refine lv_iload X.1 X.2.1 dX2_ends_41 (lv_at hl 0 rfl) ?_
      refine lv_if_eq (tgt := 99) X.1 X.2.1 dX2_ends_43 (by decide) (fun _ => ?_) (fun h9 => absurd (by decide) h9)
      refine lv_aload_n X.1 X.2.1 dX2_ends_99 rfl (lv_at hl 1 rfl) ?_
      refine p_get (T := TX2) X uX2 (hP.at 0 rfl) rfl 5 (by decide) mw_469 rfl rfl dX2_ends_100 ?_
      refine lv_iload_n X.1 X.2.1 dX2_ends_103 rfl (lv_at hl 3 rfl) ?_
      refine f_zald X (hP.at 3 rfl) (by decide) (by decide) dX2_ends_104 ?_
      refine q_Bne X (tgt := 206) dX2_ends_105 (by decide) (fun hB48 => ?_) (fun hB48 => ?_)
      ·
        refine lv_iconst (v := nI 0) X.1 X.2.1 dX2_ends_206 (by decide) ?_
        refine w_i (v' := bI false) (by decide) ?_
        exact f_zret (v := false) X hX hlo (⟨by rw [hB48]; rfl, _, _, hP, fun h9 => by rw [hB48] at h9; cases h9⟩) ⟨by decide, by decide⟩ dX2_ends_207
      ·
        have p2 := gab_pos b2 hB48
        have eB := hR 1 (by decide) hB48
        refine lv_iload_n X.1 X.2.1 dX2_ends_108 rfl (lv_at hl 2 rfl) ?_
        refine lv_if_ne (tgt := 116) X.1 X.2.1 dX2_ends_109 (by decide) (fun _ => ?_) (fun h9 => absurd h9 (by decide))
        refine lv_iload_n X.1 X.2.1 dX2_ends_116 rfl (lv_at hl 2 rfl) ?_
        refine lv_iconst (v := nI 2) X.1 X.2.1 dX2_ends_117 (by decide) ?_
        refine lv_icmp_ne (tgt := 125) X.1 X.2.1 dX2_ends_118 (by decide) (fun h9 => absurd (by decide) h9) (fun _ => ?_)
        refine lv_lload_n X.1 X.2.1 dX2_ends_121 rfl (lv_at hl 4 rfl) ?_
        refine lv_goto (tgt := 138) X.1 X.2.1 dX2_ends_122 (by decide) ?_
        refine lv_lstore (lv' := [(6, .long (lN t)), (5, .int (nI 0)), (0, .ref mo), (1, .int (nI 2)), (2, .int (nI 1)), (3, .long (lN t))]) X.1 X.2.1 dX2_ends_138 hl (by decide) rfl (fun ls hl => ?_)
        refine lv_iload_n X.1 X.2.1 dX2_ends_140 rfl (lv_at hl 3 rfl) ?_
        refine lv_if_ne (tgt := 148) X.1 X.2.1 dX2_ends_141 (by decide) (fun _ => ?_) (fun h9 => absurd h9 (by decide))
        refine lv_iload_n X.1 X.2.1 dX2_ends_148 rfl (lv_at hl 3 rfl) ?_
        refine lv_iconst (v := nI 2) X.1 X.2.1 dX2_ends_149 (by decide) ?_
        refine lv_icmp_ne (tgt := 160) X.1 X.2.1 dX2_ends_150 (by decide) (fun h9 => absurd (by decide) h9) (fun _ => ?_)
        refine lv_aload_n X.1 X.2.1 dX2_ends_153 rfl (lv_at hl 2 rfl) ?_
        refine p_get (T := TX2) X uX2 (hP.at 0 rfl) rfl 2 (by decide) mw_466 rfl rfl dX2_ends_154 ?_
        refine lv_goto (tgt := 161) X.1 X.2.1 dX2_ends_157 (by decide) ?_
        refine lv_lstore (lv' := [(8, .long (lN y1)), (6, .long (lN t)), (5, .int (nI 0)), (0, .ref mo), (1, .int (nI 2)), (2, .int (nI 1)), (3, .long (lN t))]) X.1 X.2.1 dX2_ends_161 hl (by decide) rfl (fun ls hl => ?_)
        refine lv_aload_n X.1 X.2.1 dX2_ends_163 rfl (lv_at hl 3 rfl) ?_
        refine lv_aload_n X.1 X.2.1 dX2_ends_164 rfl (lv_at hl 3 rfl) ?_
        refine p_get (T := TX2) X uX2 (hP.at 0 rfl) rfl 3 (by decide) mw_467 rfl rfl dX2_ends_165 ?_
        refine lv_iload_n X.1 X.2.1 dX2_ends_168 rfl (lv_at hl 5 rfl) ?_
        refine f_lald X (hP.at 1 rfl) (by decide) (by decide) dX2_ends_169 ?_
        refine w_l (v' := lN ((q 1).den)) (by rw [(eB).2]) ?_
        refine lv_aload_n X.1 X.2.1 dX2_ends_170 rfl (lv_at hl 3 rfl) ?_
        refine lv_iload_n X.1 X.2.1 dX2_ends_171 rfl (lv_at hl 5 rfl) ?_
        refine lv_lload X.1 X.2.1 dX2_ends_172 (lv_at hl 1 rfl) ?_
        refine lv_lload X.1 X.2.1 dX2_ends_174 (lv_at hl 0 rfl) ?_
        refine p_callV (C := RX2) (b := mo) (As := [.int (nI 1), .long (lN t), .long (lN y1)]) (rest := [.long (lN ((q 1).den)), .ref mo]) X (c_X2_far l g mo ua oa ga cd _ _ x1 y1 U O q 1 (t) (y1) (by decide) ht (Nat.le_refl _)) ⟨mw_528, mw_530, mw_25, mw_40, mw_531⟩ sgX2_far ⟨rfl, rfl, ⟨by decide, by decide⟩, by decide, by decide⟩ (hP.at 0 rfl) rfl rfl (hP.sub [0, 1, 2, 3] rfl) hX.1 rfl hl.1 rfl (Nat.le_of_ble_eq_true rfl) dX2_ends_176 (fun v H49 hk50 hp => ?_)
        obtain rfl := hp
        have hX := hX.tr hk50
        have hP := PP.ext hP hk50
        refine W.eq (g2 := F0 m 179 ls [.long (lN (dst x1 y1 1 t y1)), .long (lN ((q 1).den)), .ref mo]) rfl ?_
        have hD : dst x1 y1 1 t y1 ≤ 2000 := dst_le hO ht (Nat.le_refl _) 1
        refine lv_lmul X.1 X.2.1 dX2_ends_179 ?_
        refine w_l (lN_mul _ _) ?_
        refine lv_aload_n X.1 X.2.1 dX2_ends_180 rfl (lv_at hl 3 rfl) ?_
        refine p_get (T := TX2) X uX2 (hP.at 0 rfl) rfl 4 (by decide) mw_468 rfl rfl dX2_ends_181 ?_
        refine lv_iload_n X.1 X.2.1 dX2_ends_184 rfl (lv_at hl 4 rfl) ?_
        refine f_lald X (hP.at 2 rfl) (by decide) (by decide) dX2_ends_185 ?_
        refine w_l (v' := lN (nu (q 2))) (by rw [(eA).1]) ?_
        refine lv_lmul X.1 X.2.1 dX2_ends_186 ?_
        refine w_l (lN_mul _ _) ?_
        refine lv_aload_n X.1 X.2.1 dX2_ends_187 rfl (lv_at hl 3 rfl) ?_
        refine p_get (T := TX2) X uX2 (hP.at 0 rfl) rfl 4 (by decide) mw_468 rfl rfl dX2_ends_188 ?_
        refine lv_iload_n X.1 X.2.1 dX2_ends_191 rfl (lv_at hl 5 rfl) ?_
        refine f_lald X (hP.at 2 rfl) (by decide) (by decide) dX2_ends_192 ?_
        refine w_l (v' := lN (nu (q 1))) (by rw [(eB).1]) ?_
        refine lv_aload_n X.1 X.2.1 dX2_ends_193 rfl (lv_at hl 3 rfl) ?_
        refine p_get (T := TX2) X uX2 (hP.at 0 rfl) rfl 3 (by decide) mw_467 rfl rfl dX2_ends_194 ?_
        refine lv_iload_n X.1 X.2.1 dX2_ends_197 rfl (lv_at hl 4 rfl) ?_
        refine f_lald X (hP.at 1 rfl) (by decide) (by decide) dX2_ends_198 ?_
        refine w_l (v' := lN ((q 2).den)) (by rw [(eA).2]) ?_
        refine lv_lmul X.1 X.2.1 dX2_ends_199 ?_
        refine w_l (lN_mul _ _) ?_
        refine f_callV (F := fun q => q = mo) (C := RX2) (b := mo) (As := [.long (lN ((((q 1).den) * (dst x1 y1 1 t y1)) * (nu (q 2)))), .long (lN ((nu (q 1)) * ((q 2).den)))]) (rest := []) X (c_X2_put l g mo ua oa ga cd _ _ x1 y1 U O q ((q 1).den * dst x1 y1 1 t y1 * nu (q 2)) (nu (q 1) * (q 2).den) hM (Nat.lt_of_le_of_lt (Nat.mul_le_mul (Nat.mul_le_mul b2.2.2 hD) b1.2.1) (by decide)) (mlt b2.2.1 b1.2.2 (by decide)) (Nat.mul_pos (nu_pos p2) (dn_pos _))) ⟨mw_508, mw_510, mw_22, mw_40, mw_511⟩ sgX2_put ⟨rfl, rfl, ⟨by decide, by decide⟩, by decide, by decide⟩ (hP.at 0 rfl) rfl rfl (hP) hX.1 (fun q h => h) hlo rfl hl.1 rfl (Nat.le_of_ble_eq_true rfl) dX2_ends_200 (fun v H51 locs hk52 hlo hp => ?_)
        obtain ⟨rfl, hP⟩ := hp
        have hX := hX.trf (fun q h => h) hk52
        refine W.eq (g2 := F0 m 203 ls []) rfl ?_
        rw [(show (((q 1).den * dst x1 y1 1 t y1 * nu (q 2) : Nat) : Rat) / ((nu (q 1) * (q 2).den : Nat) : Rat) = lim x1 y1 q 2 t 1 by rw [lim_n (d := dst x1 y1 1 t y1) (by decide) rfl]; exact ed3 pq p2 _)] at hP
        refine lv_goto (tgt := 208) X.1 X.2.1 dX2_ends_203 (by decide) ?_
        refine lv_iconst (v := nI 1) X.1 X.2.1 dX2_ends_208 (by decide) ?_
        refine w_i (v' := bI true) (by decide) ?_
        exact f_zret (v := true) X hX hlo (⟨by rw [hB48]; rfl, _, _, hP, fun _ => ⟨rfl, rfl⟩⟩) ⟨by decide, by decide⟩ dX2_ends_209
    ·
      exact absurd rfl hne
    ·
      have pq := gab_pos (hO.2.2.1 2 (by decide)) hg
      have eA := hR 2 (by decide) hg
      have b1 := hO.2.2.1 2 (by decide)
      have b2 := hO.2.2.1 3 (by decide)
      have hw := wayo_le hO 2
      have hsl := slen_le hO 2
      refine lv_iload_n X.1 X.2.1 dX2_ends_0 rfl (lv_at hl 1 rfl) ?_
      refine lv_iload_n X.1 X.2.1 dX2_ends_1 rfl (lv_at hl 2 rfl) ?_
      refine lv_ixor X.1 X.2.1 dX2_ends_2 ?_
      refine w_i (v' := nI 1) (by decide) ?_
      refine lv_iconst (v := nI 2) X.1 X.2.1 dX2_ends_3 (by decide) ?_
      refine lv_icmp_ne (tgt := 11) X.1 X.2.1 dX2_ends_4 (by decide) (fun _ => ?_) (fun h9 => absurd h9 (by decide))
      refine lv_iconst (v := nI 0) X.1 X.2.1 dX2_ends_11 (by decide) ?_
      refine lv_istore (lv' := [(5, .int (nI 0)), (0, .ref mo), (1, .int (nI 2)), (2, .int (nI 3)), (3, .long (lN t))]) X.1 X.2.1 dX2_ends_12 hl (by decide) rfl (fun ls hl => ?_)
      refine lv_iload X.1 X.2.1 dX2_ends_14 (lv_at hl 0 rfl) ?_
      refine lv_if_eq (tgt := 41) X.1 X.2.1 dX2_ends_16 (by decide) (fun _ => ?_) (fun h9 => absurd (by decide) h9)
      refine lv_iload X.1 X.2.1 dX2_ends_41 (lv_at hl 0 rfl) ?_
      refine lv_if_eq (tgt := 99) X.1 X.2.1 dX2_ends_43 (by decide) (fun _ => ?_) (fun h9 => absurd (by decide) h9)
      refine lv_aload_n X.1 X.2.1 dX2_ends_99 rfl (lv_at hl 1 rfl) ?_
      refine p_get (T := TX2) X uX2 (hP.at 0 rfl) rfl 5 (by decide) mw_469 rfl rfl dX2_ends_100 ?_
      refine lv_iload_n X.1 X.2.1 dX2_ends_103 rfl (lv_at hl 3 rfl) ?_
      refine f_zald X (hP.at 3 rfl) (by decide) (by decide) dX2_ends_104 ?_
      refine q_Bne X (tgt := 206) dX2_ends_105 (by decide) (fun hB53 => ?_) (fun hB53 => ?_)
      ·
        refine lv_iconst (v := nI 0) X.1 X.2.1 dX2_ends_206 (by decide) ?_
        refine w_i (v' := bI false) (by decide) ?_
        exact f_zret (v := false) X hX hlo (⟨by rw [hB53]; rfl, _, _, hP, fun h9 => by rw [hB53] at h9; cases h9⟩) ⟨by decide, by decide⟩ dX2_ends_207
      ·
        have p2 := gab_pos b2 hB53
        have eB := hR 3 (by decide) hB53
        refine lv_iload_n X.1 X.2.1 dX2_ends_108 rfl (lv_at hl 2 rfl) ?_
        refine lv_if_ne (tgt := 116) X.1 X.2.1 dX2_ends_109 (by decide) (fun _ => ?_) (fun h9 => absurd h9 (by decide))
        refine lv_iload_n X.1 X.2.1 dX2_ends_116 rfl (lv_at hl 2 rfl) ?_
        refine lv_iconst (v := nI 2) X.1 X.2.1 dX2_ends_117 (by decide) ?_
        refine lv_icmp_ne (tgt := 125) X.1 X.2.1 dX2_ends_118 (by decide) (fun h9 => absurd (by decide) h9) (fun _ => ?_)
        refine lv_lload_n X.1 X.2.1 dX2_ends_121 rfl (lv_at hl 4 rfl) ?_
        refine lv_goto (tgt := 138) X.1 X.2.1 dX2_ends_122 (by decide) ?_
        refine lv_lstore (lv' := [(6, .long (lN t)), (5, .int (nI 0)), (0, .ref mo), (1, .int (nI 2)), (2, .int (nI 3)), (3, .long (lN t))]) X.1 X.2.1 dX2_ends_138 hl (by decide) rfl (fun ls hl => ?_)
        refine lv_iload_n X.1 X.2.1 dX2_ends_140 rfl (lv_at hl 3 rfl) ?_
        refine lv_if_ne (tgt := 148) X.1 X.2.1 dX2_ends_141 (by decide) (fun _ => ?_) (fun h9 => absurd h9 (by decide))
        refine lv_iload_n X.1 X.2.1 dX2_ends_148 rfl (lv_at hl 3 rfl) ?_
        refine lv_iconst (v := nI 2) X.1 X.2.1 dX2_ends_149 (by decide) ?_
        refine lv_icmp_ne (tgt := 160) X.1 X.2.1 dX2_ends_150 (by decide) (fun h9 => absurd (by decide) h9) (fun _ => ?_)
        refine lv_aload_n X.1 X.2.1 dX2_ends_153 rfl (lv_at hl 2 rfl) ?_
        refine p_get (T := TX2) X uX2 (hP.at 0 rfl) rfl 2 (by decide) mw_466 rfl rfl dX2_ends_154 ?_
        refine lv_goto (tgt := 161) X.1 X.2.1 dX2_ends_157 (by decide) ?_
        refine lv_lstore (lv' := [(8, .long (lN y1)), (6, .long (lN t)), (5, .int (nI 0)), (0, .ref mo), (1, .int (nI 2)), (2, .int (nI 3)), (3, .long (lN t))]) X.1 X.2.1 dX2_ends_161 hl (by decide) rfl (fun ls hl => ?_)
        refine lv_aload_n X.1 X.2.1 dX2_ends_163 rfl (lv_at hl 3 rfl) ?_
        refine lv_aload_n X.1 X.2.1 dX2_ends_164 rfl (lv_at hl 3 rfl) ?_
        refine p_get (T := TX2) X uX2 (hP.at 0 rfl) rfl 3 (by decide) mw_467 rfl rfl dX2_ends_165 ?_
        refine lv_iload_n X.1 X.2.1 dX2_ends_168 rfl (lv_at hl 5 rfl) ?_
        refine f_lald X (hP.at 1 rfl) (by decide) (by decide) dX2_ends_169 ?_
        refine w_l (v' := lN ((q 3).den)) (by rw [(eB).2]) ?_
        refine lv_aload_n X.1 X.2.1 dX2_ends_170 rfl (lv_at hl 3 rfl) ?_
        refine lv_iload_n X.1 X.2.1 dX2_ends_171 rfl (lv_at hl 5 rfl) ?_
        refine lv_lload X.1 X.2.1 dX2_ends_172 (lv_at hl 1 rfl) ?_
        refine lv_lload X.1 X.2.1 dX2_ends_174 (lv_at hl 0 rfl) ?_
        refine p_callV (C := RX2) (b := mo) (As := [.int (nI 3), .long (lN t), .long (lN y1)]) (rest := [.long (lN ((q 3).den)), .ref mo]) X (c_X2_far l g mo ua oa ga cd _ _ x1 y1 U O q 3 (t) (y1) (by decide) ht (Nat.le_refl _)) ⟨mw_528, mw_530, mw_25, mw_40, mw_531⟩ sgX2_far ⟨rfl, rfl, ⟨by decide, by decide⟩, by decide, by decide⟩ (hP.at 0 rfl) rfl rfl (hP.sub [0, 1, 2, 3] rfl) hX.1 rfl hl.1 rfl (Nat.le_of_ble_eq_true rfl) dX2_ends_176 (fun v H54 hk55 hp => ?_)
        obtain rfl := hp
        have hX := hX.tr hk55
        have hP := PP.ext hP hk55
        refine W.eq (g2 := F0 m 179 ls [.long (lN (dst x1 y1 3 t y1)), .long (lN ((q 3).den)), .ref mo]) rfl ?_
        have hD : dst x1 y1 3 t y1 ≤ 2000 := dst_le hO ht (Nat.le_refl _) 3
        refine lv_lmul X.1 X.2.1 dX2_ends_179 ?_
        refine w_l (lN_mul _ _) ?_
        refine lv_aload_n X.1 X.2.1 dX2_ends_180 rfl (lv_at hl 3 rfl) ?_
        refine p_get (T := TX2) X uX2 (hP.at 0 rfl) rfl 4 (by decide) mw_468 rfl rfl dX2_ends_181 ?_
        refine lv_iload_n X.1 X.2.1 dX2_ends_184 rfl (lv_at hl 4 rfl) ?_
        refine f_lald X (hP.at 2 rfl) (by decide) (by decide) dX2_ends_185 ?_
        refine w_l (v' := lN (nu (q 2))) (by rw [(eA).1]) ?_
        refine lv_lmul X.1 X.2.1 dX2_ends_186 ?_
        refine w_l (lN_mul _ _) ?_
        refine lv_aload_n X.1 X.2.1 dX2_ends_187 rfl (lv_at hl 3 rfl) ?_
        refine p_get (T := TX2) X uX2 (hP.at 0 rfl) rfl 4 (by decide) mw_468 rfl rfl dX2_ends_188 ?_
        refine lv_iload_n X.1 X.2.1 dX2_ends_191 rfl (lv_at hl 5 rfl) ?_
        refine f_lald X (hP.at 2 rfl) (by decide) (by decide) dX2_ends_192 ?_
        refine w_l (v' := lN (nu (q 3))) (by rw [(eB).1]) ?_
        refine lv_aload_n X.1 X.2.1 dX2_ends_193 rfl (lv_at hl 3 rfl) ?_
        refine p_get (T := TX2) X uX2 (hP.at 0 rfl) rfl 3 (by decide) mw_467 rfl rfl dX2_ends_194 ?_
        refine lv_iload_n X.1 X.2.1 dX2_ends_197 rfl (lv_at hl 4 rfl) ?_
        refine f_lald X (hP.at 1 rfl) (by decide) (by decide) dX2_ends_198 ?_
        refine w_l (v' := lN ((q 2).den)) (by rw [(eA).2]) ?_
        refine lv_lmul X.1 X.2.1 dX2_ends_199 ?_
        refine w_l (lN_mul _ _) ?_
        refine f_callV (F := fun q => q = mo) (C := RX2) (b := mo) (As := [.long (lN ((((q 3).den) * (dst x1 y1 3 t y1)) * (nu (q 2)))), .long (lN ((nu (q 3)) * ((q 2).den)))]) (rest := []) X (c_X2_put l g mo ua oa ga cd _ _ x1 y1 U O q ((q 3).den * dst x1 y1 3 t y1 * nu (q 2)) (nu (q 3) * (q 2).den) hM (Nat.lt_of_le_of_lt (Nat.mul_le_mul (Nat.mul_le_mul b2.2.2 hD) b1.2.1) (by decide)) (mlt b2.2.1 b1.2.2 (by decide)) (Nat.mul_pos (nu_pos p2) (dn_pos _))) ⟨mw_508, mw_510, mw_22, mw_40, mw_511⟩ sgX2_put ⟨rfl, rfl, ⟨by decide, by decide⟩, by decide, by decide⟩ (hP.at 0 rfl) rfl rfl (hP) hX.1 (fun q h => h) hlo rfl hl.1 rfl (Nat.le_of_ble_eq_true rfl) dX2_ends_200 (fun v H56 locs hk57 hlo hp => ?_)
        obtain ⟨rfl, hP⟩ := hp
        have hX := hX.trf (fun q h => h) hk57
        refine W.eq (g2 := F0 m 203 ls []) rfl ?_
        rw [(show (((q 3).den * dst x1 y1 3 t y1 * nu (q 2) : Nat) : Rat) / ((nu (q 3) * (q 2).den : Nat) : Rat) = lim x1 y1 q 2 t 3 by rw [lim_n (d := dst x1 y1 3 t y1) (by decide) rfl]; exact ed3 pq p2 _)] at hP
        refine lv_goto (tgt := 208) X.1 X.2.1 dX2_ends_203 (by decide) ?_
        refine lv_iconst (v := nI 1) X.1 X.2.1 dX2_ends_208 (by decide) ?_
        refine w_i (v' := bI true) (by decide) ?_
        exact f_zret (v := true) X hX hlo (⟨by rw [hB53]; rfl, _, _, hP, fun _ => ⟨rfl, rfl⟩⟩) ⟨by decide, by decide⟩ dX2_ends_209
  ·
    rcases (show j = 0 ∨ j = 1 ∨ j = 2 ∨ j = 3 by omega) with rfl | rfl | rfl | rfl
    ·
      have pq := gab_pos (hO.2.2.1 3 (by decide)) hg
      have eA := hR 3 (by decide) hg
      have b1 := hO.2.2.1 3 (by decide)
      have b2 := hO.2.2.1 0 (by decide)
      have hw := wayo_le hO 3
      have hsl := slen_le hO 3
      refine lv_iload_n X.1 X.2.1 dX2_ends_0 rfl (lv_at hl 1 rfl) ?_
      refine lv_iload_n X.1 X.2.1 dX2_ends_1 rfl (lv_at hl 2 rfl) ?_
      refine lv_ixor X.1 X.2.1 dX2_ends_2 ?_
      refine w_i (v' := nI 3) (by decide) ?_
      refine lv_iconst (v := nI 2) X.1 X.2.1 dX2_ends_3 (by decide) ?_
      refine lv_icmp_ne (tgt := 11) X.1 X.2.1 dX2_ends_4 (by decide) (fun _ => ?_) (fun h9 => absurd h9 (by decide))
      refine lv_iconst (v := nI 0) X.1 X.2.1 dX2_ends_11 (by decide) ?_
      refine lv_istore (lv' := [(5, .int (nI 0)), (0, .ref mo), (1, .int (nI 3)), (2, .int (nI 0)), (3, .long (lN t))]) X.1 X.2.1 dX2_ends_12 hl (by decide) rfl (fun ls hl => ?_)
      refine lv_iload X.1 X.2.1 dX2_ends_14 (lv_at hl 0 rfl) ?_
      refine lv_if_eq (tgt := 41) X.1 X.2.1 dX2_ends_16 (by decide) (fun _ => ?_) (fun h9 => absurd (by decide) h9)
      refine lv_iload X.1 X.2.1 dX2_ends_41 (lv_at hl 0 rfl) ?_
      refine lv_if_eq (tgt := 99) X.1 X.2.1 dX2_ends_43 (by decide) (fun _ => ?_) (fun h9 => absurd (by decide) h9)
      refine lv_aload_n X.1 X.2.1 dX2_ends_99 rfl (lv_at hl 1 rfl) ?_
      refine p_get (T := TX2) X uX2 (hP.at 0 rfl) rfl 5 (by decide) mw_469 rfl rfl dX2_ends_100 ?_
      refine lv_iload_n X.1 X.2.1 dX2_ends_103 rfl (lv_at hl 3 rfl) ?_
      refine f_zald X (hP.at 3 rfl) (by decide) (by decide) dX2_ends_104 ?_
      refine q_Bne X (tgt := 206) dX2_ends_105 (by decide) (fun hB58 => ?_) (fun hB58 => ?_)
      ·
        refine lv_iconst (v := nI 0) X.1 X.2.1 dX2_ends_206 (by decide) ?_
        refine w_i (v' := bI false) (by decide) ?_
        exact f_zret (v := false) X hX hlo (⟨by rw [hB58]; rfl, _, _, hP, fun h9 => by rw [hB58] at h9; cases h9⟩) ⟨by decide, by decide⟩ dX2_ends_207
      ·
        have p2 := gab_pos b2 hB58
        have eB := hR 0 (by decide) hB58
        refine lv_iload_n X.1 X.2.1 dX2_ends_108 rfl (lv_at hl 2 rfl) ?_
        refine lv_if_ne (tgt := 116) X.1 X.2.1 dX2_ends_109 (by decide) (fun _ => ?_) (fun h9 => absurd h9 (by decide))
        refine lv_iload_n X.1 X.2.1 dX2_ends_116 rfl (lv_at hl 2 rfl) ?_
        refine lv_iconst (v := nI 2) X.1 X.2.1 dX2_ends_117 (by decide) ?_
        refine lv_icmp_ne (tgt := 125) X.1 X.2.1 dX2_ends_118 (by decide) (fun _ => ?_) (fun h9 => absurd h9 (by decide))
        refine lv_iload_n X.1 X.2.1 dX2_ends_125 rfl (lv_at hl 2 rfl) ?_
        refine lv_iconst (v := nI 1) X.1 X.2.1 dX2_ends_126 (by decide) ?_
        refine lv_icmp_ne (tgt := 137) X.1 X.2.1 dX2_ends_127 (by decide) (fun _ => ?_) (fun h9 => absurd h9 (by decide))
        refine lv_lconst (v := lN 0) X.1 X.2.1 dX2_ends_137 (by decide) ?_
        refine lv_lstore (lv' := [(6, .long (lN 0)), (5, .int (nI 0)), (0, .ref mo), (1, .int (nI 3)), (2, .int (nI 0)), (3, .long (lN t))]) X.1 X.2.1 dX2_ends_138 hl (by decide) rfl (fun ls hl => ?_)
        refine lv_iload_n X.1 X.2.1 dX2_ends_140 rfl (lv_at hl 3 rfl) ?_
        refine lv_if_ne (tgt := 148) X.1 X.2.1 dX2_ends_141 (by decide) (fun _ => ?_) (fun h9 => absurd h9 (by decide))
        refine lv_iload_n X.1 X.2.1 dX2_ends_148 rfl (lv_at hl 3 rfl) ?_
        refine lv_iconst (v := nI 2) X.1 X.2.1 dX2_ends_149 (by decide) ?_
        refine lv_icmp_ne (tgt := 160) X.1 X.2.1 dX2_ends_150 (by decide) (fun _ => ?_) (fun h9 => absurd h9 (by decide))
        refine lv_lload_n X.1 X.2.1 dX2_ends_160 rfl (lv_at hl 5 rfl) ?_
        refine lv_lstore (lv' := [(8, .long (lN t)), (6, .long (lN 0)), (5, .int (nI 0)), (0, .ref mo), (1, .int (nI 3)), (2, .int (nI 0)), (3, .long (lN t))]) X.1 X.2.1 dX2_ends_161 hl (by decide) rfl (fun ls hl => ?_)
        refine lv_aload_n X.1 X.2.1 dX2_ends_163 rfl (lv_at hl 3 rfl) ?_
        refine lv_aload_n X.1 X.2.1 dX2_ends_164 rfl (lv_at hl 3 rfl) ?_
        refine p_get (T := TX2) X uX2 (hP.at 0 rfl) rfl 3 (by decide) mw_467 rfl rfl dX2_ends_165 ?_
        refine lv_iload_n X.1 X.2.1 dX2_ends_168 rfl (lv_at hl 5 rfl) ?_
        refine f_lald X (hP.at 1 rfl) (by decide) (by decide) dX2_ends_169 ?_
        refine w_l (v' := lN ((q 0).den)) (by rw [(eB).2]) ?_
        refine lv_aload_n X.1 X.2.1 dX2_ends_170 rfl (lv_at hl 3 rfl) ?_
        refine lv_iload_n X.1 X.2.1 dX2_ends_171 rfl (lv_at hl 5 rfl) ?_
        refine lv_lload X.1 X.2.1 dX2_ends_172 (lv_at hl 1 rfl) ?_
        refine lv_lload X.1 X.2.1 dX2_ends_174 (lv_at hl 0 rfl) ?_
        refine p_callV (C := RX2) (b := mo) (As := [.int (nI 0), .long (lN 0), .long (lN t)]) (rest := [.long (lN ((q 0).den)), .ref mo]) X (c_X2_far l g mo ua oa ga cd _ _ x1 y1 U O q 0 (0) (t) (by decide) (Nat.zero_le _) ht) ⟨mw_528, mw_530, mw_25, mw_40, mw_531⟩ sgX2_far ⟨rfl, rfl, ⟨by decide, by decide⟩, by decide, by decide⟩ (hP.at 0 rfl) rfl rfl (hP.sub [0, 1, 2, 3] rfl) hX.1 rfl hl.1 rfl (Nat.le_of_ble_eq_true rfl) dX2_ends_176 (fun v H59 hk60 hp => ?_)
        obtain rfl := hp
        have hX := hX.tr hk60
        have hP := PP.ext hP hk60
        refine W.eq (g2 := F0 m 179 ls [.long (lN (dst x1 y1 0 0 t)), .long (lN ((q 0).den)), .ref mo]) rfl ?_
        have hD : dst x1 y1 0 0 t ≤ 2000 := dst_le hO (Nat.zero_le _) ht 0
        refine lv_lmul X.1 X.2.1 dX2_ends_179 ?_
        refine w_l (lN_mul _ _) ?_
        refine lv_aload_n X.1 X.2.1 dX2_ends_180 rfl (lv_at hl 3 rfl) ?_
        refine p_get (T := TX2) X uX2 (hP.at 0 rfl) rfl 4 (by decide) mw_468 rfl rfl dX2_ends_181 ?_
        refine lv_iload_n X.1 X.2.1 dX2_ends_184 rfl (lv_at hl 4 rfl) ?_
        refine f_lald X (hP.at 2 rfl) (by decide) (by decide) dX2_ends_185 ?_
        refine w_l (v' := lN (nu (q 3))) (by rw [(eA).1]) ?_
        refine lv_lmul X.1 X.2.1 dX2_ends_186 ?_
        refine w_l (lN_mul _ _) ?_
        refine lv_aload_n X.1 X.2.1 dX2_ends_187 rfl (lv_at hl 3 rfl) ?_
        refine p_get (T := TX2) X uX2 (hP.at 0 rfl) rfl 4 (by decide) mw_468 rfl rfl dX2_ends_188 ?_
        refine lv_iload_n X.1 X.2.1 dX2_ends_191 rfl (lv_at hl 5 rfl) ?_
        refine f_lald X (hP.at 2 rfl) (by decide) (by decide) dX2_ends_192 ?_
        refine w_l (v' := lN (nu (q 0))) (by rw [(eB).1]) ?_
        refine lv_aload_n X.1 X.2.1 dX2_ends_193 rfl (lv_at hl 3 rfl) ?_
        refine p_get (T := TX2) X uX2 (hP.at 0 rfl) rfl 3 (by decide) mw_467 rfl rfl dX2_ends_194 ?_
        refine lv_iload_n X.1 X.2.1 dX2_ends_197 rfl (lv_at hl 4 rfl) ?_
        refine f_lald X (hP.at 1 rfl) (by decide) (by decide) dX2_ends_198 ?_
        refine w_l (v' := lN ((q 3).den)) (by rw [(eA).2]) ?_
        refine lv_lmul X.1 X.2.1 dX2_ends_199 ?_
        refine w_l (lN_mul _ _) ?_
        refine f_callV (F := fun q => q = mo) (C := RX2) (b := mo) (As := [.long (lN ((((q 0).den) * (dst x1 y1 0 0 t)) * (nu (q 3)))), .long (lN ((nu (q 0)) * ((q 3).den)))]) (rest := []) X (c_X2_put l g mo ua oa ga cd _ _ x1 y1 U O q ((q 0).den * dst x1 y1 0 0 t * nu (q 3)) (nu (q 0) * (q 3).den) hM (Nat.lt_of_le_of_lt (Nat.mul_le_mul (Nat.mul_le_mul b2.2.2 hD) b1.2.1) (by decide)) (mlt b2.2.1 b1.2.2 (by decide)) (Nat.mul_pos (nu_pos p2) (dn_pos _))) ⟨mw_508, mw_510, mw_22, mw_40, mw_511⟩ sgX2_put ⟨rfl, rfl, ⟨by decide, by decide⟩, by decide, by decide⟩ (hP.at 0 rfl) rfl rfl (hP) hX.1 (fun q h => h) hlo rfl hl.1 rfl (Nat.le_of_ble_eq_true rfl) dX2_ends_200 (fun v H61 locs hk62 hlo hp => ?_)
        obtain ⟨rfl, hP⟩ := hp
        have hX := hX.trf (fun q h => h) hk62
        refine W.eq (g2 := F0 m 203 ls []) rfl ?_
        rw [(show (((q 0).den * dst x1 y1 0 0 t * nu (q 3) : Nat) : Rat) / ((nu (q 0) * (q 3).den : Nat) : Rat) = lim x1 y1 q 3 t 0 by rw [lim_n (d := dst x1 y1 0 0 t) (by decide) rfl]; exact ed3 pq p2 _)] at hP
        refine lv_goto (tgt := 208) X.1 X.2.1 dX2_ends_203 (by decide) ?_
        refine lv_iconst (v := nI 1) X.1 X.2.1 dX2_ends_208 (by decide) ?_
        refine w_i (v' := bI true) (by decide) ?_
        exact f_zret (v := true) X hX hlo (⟨by rw [hB58]; rfl, _, _, hP, fun _ => ⟨rfl, rfl⟩⟩) ⟨by decide, by decide⟩ dX2_ends_209
    ·
      have pq := gab_pos (hO.2.2.1 3 (by decide)) hg
      have eA := hR 3 (by decide) hg
      have b1 := hO.2.2.1 3 (by decide)
      have b2 := hO.2.2.1 1 (by decide)
      have hw := wayo_le hO 3
      have hsl := slen_le hO 3
      refine lv_iload_n X.1 X.2.1 dX2_ends_0 rfl (lv_at hl 1 rfl) ?_
      refine lv_iload_n X.1 X.2.1 dX2_ends_1 rfl (lv_at hl 2 rfl) ?_
      refine lv_ixor X.1 X.2.1 dX2_ends_2 ?_
      refine w_i (v' := nI 2) (by decide) ?_
      refine lv_iconst (v := nI 2) X.1 X.2.1 dX2_ends_3 (by decide) ?_
      refine lv_icmp_ne (tgt := 11) X.1 X.2.1 dX2_ends_4 (by decide) (fun h9 => absurd (by decide) h9) (fun _ => ?_)
      refine lv_iconst (v := nI 1) X.1 X.2.1 dX2_ends_7 (by decide) ?_
      refine lv_goto (tgt := 12) X.1 X.2.1 dX2_ends_8 (by decide) ?_
      refine lv_istore (lv' := [(5, .int (nI 1)), (0, .ref mo), (1, .int (nI 3)), (2, .int (nI 1)), (3, .long (lN t))]) X.1 X.2.1 dX2_ends_12 hl (by decide) rfl (fun ls hl => ?_)
      refine lv_iload X.1 X.2.1 dX2_ends_14 (lv_at hl 0 rfl) ?_
      refine lv_if_eq (tgt := 41) X.1 X.2.1 dX2_ends_16 (by decide) (fun h9 => absurd h9 (by decide)) (fun _ => ?_)
      refine lv_aload_n X.1 X.2.1 dX2_ends_19 rfl (lv_at hl 1 rfl) ?_
      refine p_get (T := TX2) X uX2 (hP.at 0 rfl) rfl 5 (by decide) mw_469 rfl rfl dX2_ends_20 ?_
      refine lv_iload_n X.1 X.2.1 dX2_ends_23 rfl (lv_at hl 3 rfl) ?_
      refine f_zald X (hP.at 3 rfl) (by decide) (by decide) dX2_ends_24 ?_
      refine q_Beq X (tgt := 41) dX2_ends_25 (by decide) (fun hB63 => ?_) (fun hB63 => ?_)
      ·
        have p2 := gab_pos b2 hB63
        have eB := hR 1 (by decide) hB63
        refine lv_iload X.1 X.2.1 dX2_ends_41 (lv_at hl 0 rfl) ?_
        refine lv_if_eq (tgt := 99) X.1 X.2.1 dX2_ends_43 (by decide) (fun h9 => absurd h9 (by decide)) (fun _ => ?_)
        refine lv_aload_n X.1 X.2.1 dX2_ends_46 rfl (lv_at hl 1 rfl) ?_
        refine lv_aload_n X.1 X.2.1 dX2_ends_47 rfl (lv_at hl 1 rfl) ?_
        refine lv_iload_n X.1 X.2.1 dX2_ends_48 rfl (lv_at hl 2 rfl) ?_
        refine p_callV (C := RX2) (b := mo) (As := [.int (nI 3)]) (rest := [.ref mo]) X (c_X2_depth l g mo ua oa ga cd _ _ x1 y1 U O q 3 (by decide)) ⟨mw_569, mw_571, mw_32, mw_40, mw_572⟩ sgX2_depth ⟨rfl, rfl, ⟨by decide, by decide⟩, by decide, by decide⟩ (hP.at 0 rfl) rfl rfl (hP.sub [0, 1, 2, 3] rfl) hX.1 rfl hl.1 rfl (Nat.le_of_ble_eq_true rfl) dX2_ends_49 (fun v H64 hk65 hp => ?_)
        obtain rfl := hp
        have hX := hX.tr hk65
        have hP := PP.ext hP hk65
        refine W.eq (g2 := F0 m 52 ls [.long (lN (wayo x1 y1 3)), .ref mo]) rfl ?_
        refine lv_aload_n X.1 X.2.1 dX2_ends_52 rfl (lv_at hl 1 rfl) ?_
        refine p_get (T := TX2) X uX2 (hP.at 0 rfl) rfl 3 (by decide) mw_467 rfl rfl dX2_ends_53 ?_
        refine lv_iload_n X.1 X.2.1 dX2_ends_56 rfl (lv_at hl 3 rfl) ?_
        refine f_lald X (hP.at 1 rfl) (by decide) (by decide) dX2_ends_57 ?_
        refine w_l (v' := lN ((q 1).den)) (by rw [(eB).2]) ?_
        refine lv_lmul X.1 X.2.1 dX2_ends_58 ?_
        refine w_l (lN_mul _ _) ?_
        refine lv_aload_n X.1 X.2.1 dX2_ends_59 rfl (lv_at hl 1 rfl) ?_
        refine p_get (T := TX2) X uX2 (hP.at 0 rfl) rfl 4 (by decide) mw_468 rfl rfl dX2_ends_60 ?_
        refine lv_iload_n X.1 X.2.1 dX2_ends_63 rfl (lv_at hl 2 rfl) ?_
        refine f_lald X (hP.at 2 rfl) (by decide) (by decide) dX2_ends_64 ?_
        refine w_l (v' := lN (nu (q 3))) (by rw [(eA).1]) ?_
        refine lv_lmul X.1 X.2.1 dX2_ends_65 ?_
        refine w_l (lN_mul _ _) ?_
        refine lv_aload_n X.1 X.2.1 dX2_ends_66 rfl (lv_at hl 1 rfl) ?_
        refine p_get (T := TX2) X uX2 (hP.at 0 rfl) rfl 3 (by decide) mw_467 rfl rfl dX2_ends_67 ?_
        refine lv_iload_n X.1 X.2.1 dX2_ends_70 rfl (lv_at hl 2 rfl) ?_
        refine f_lald X (hP.at 1 rfl) (by decide) (by decide) dX2_ends_71 ?_
        refine w_l (v' := lN ((q 3).den)) (by rw [(eA).2]) ?_
        refine lv_aload_n X.1 X.2.1 dX2_ends_72 rfl (lv_at hl 1 rfl) ?_
        refine p_get (T := TX2) X uX2 (hP.at 0 rfl) rfl 4 (by decide) mw_468 rfl rfl dX2_ends_73 ?_
        refine lv_iload_n X.1 X.2.1 dX2_ends_76 rfl (lv_at hl 3 rfl) ?_
        refine f_lald X (hP.at 2 rfl) (by decide) (by decide) dX2_ends_77 ?_
        refine w_l (v' := lN (nu (q 1))) (by rw [(eB).1]) ?_
        refine lv_lmul X.1 X.2.1 dX2_ends_78 ?_
        refine w_l (lN_mul _ _) ?_
        refine lv_aload_n X.1 X.2.1 dX2_ends_79 rfl (lv_at hl 1 rfl) ?_
        refine p_get (T := TX2) X uX2 (hP.at 0 rfl) rfl 3 (by decide) mw_467 rfl rfl dX2_ends_80 ?_
        refine lv_iload_n X.1 X.2.1 dX2_ends_83 rfl (lv_at hl 3 rfl) ?_
        refine f_lald X (hP.at 1 rfl) (by decide) (by decide) dX2_ends_84 ?_
        refine w_l (v' := lN ((q 1).den)) (by rw [(eB).2]) ?_
        refine lv_aload_n X.1 X.2.1 dX2_ends_85 rfl (lv_at hl 1 rfl) ?_
        refine p_get (T := TX2) X uX2 (hP.at 0 rfl) rfl 4 (by decide) mw_468 rfl rfl dX2_ends_86 ?_
        refine lv_iload_n X.1 X.2.1 dX2_ends_89 rfl (lv_at hl 2 rfl) ?_
        refine f_lald X (hP.at 2 rfl) (by decide) (by decide) dX2_ends_90 ?_
        refine w_l (v' := lN (nu (q 3))) (by rw [(eA).1]) ?_
        refine lv_lmul X.1 X.2.1 dX2_ends_91 ?_
        refine w_l (lN_mul _ _) ?_
        refine lv_ladd X.1 X.2.1 dX2_ends_92 ?_
        refine w_l (lN_add _ _) ?_
        have hs1 : (q 3).den * nu (q 1) ≤ 20 * 20 := Nat.mul_le_mul b1.2.2 b2.2.1
        have hs2 : (q 1).den * nu (q 3) ≤ 20 * 20 := Nat.mul_le_mul b2.2.2 b1.2.1
        have hs3 : 0 < (q 3).den * nu (q 1) := Nat.mul_pos (dn_pos _) (nu_pos p2)
        refine f_callV (F := fun q => q = mo) (C := RX2) (b := mo) (As := [.long (lN (((wayo x1 y1 3) * ((q 1).den)) * (nu (q 3)))), .long (lN ((((q 3).den) * (nu (q 1))) + (((q 1).den) * (nu (q 3)))))]) (rest := []) X (c_X2_put l g mo ua oa ga cd _ _ x1 y1 U O q (wayo x1 y1 3 * (q 1).den * nu (q 3)) ((q 3).den * nu (q 1) + (q 1).den * nu (q 3)) hM (Nat.lt_of_le_of_lt (Nat.mul_le_mul (Nat.mul_le_mul hw b2.2.2) b1.2.1) (by decide)) (by omega) (by omega)) ⟨mw_508, mw_510, mw_22, mw_40, mw_511⟩ sgX2_put ⟨rfl, rfl, ⟨by decide, by decide⟩, by decide, by decide⟩ (hP.at 0 rfl) rfl rfl (hP) hX.1 (fun q h => h) hlo rfl hl.1 rfl (Nat.le_of_ble_eq_true rfl) dX2_ends_93 (fun v H66 locs hk67 hlo hp => ?_)
        obtain ⟨rfl, hP⟩ := hp
        have hX := hX.trf (fun q h => h) hk67
        refine W.eq (g2 := F0 m 96 ls []) rfl ?_
        rw [(show ((wayo x1 y1 3 * (q 1).den * nu (q 3) : Nat) : Rat) / (((q 3).den * nu (q 1) + (q 1).den * nu (q 3) : Nat) : Rat) = lim x1 y1 q 3 t 1 by rw [lim_o (show 1 = opp 3 from rfl)]; exact ed2 pq p2 _)] at hP
        refine lv_goto (tgt := 208) X.1 X.2.1 dX2_ends_96 (by decide) ?_
        refine lv_iconst (v := nI 1) X.1 X.2.1 dX2_ends_208 (by decide) ?_
        refine w_i (v' := bI true) (by decide) ?_
        exact f_zret (v := true) X hX hlo (⟨rfl, _, _, hP, fun _ => ⟨rfl, rfl⟩⟩) ⟨by decide, by decide⟩ dX2_ends_209
      ·
        refine lv_aload_n X.1 X.2.1 dX2_ends_28 rfl (lv_at hl 1 rfl) ?_
        refine lv_aload_n X.1 X.2.1 dX2_ends_29 rfl (lv_at hl 1 rfl) ?_
        refine lv_iload_n X.1 X.2.1 dX2_ends_30 rfl (lv_at hl 2 rfl) ?_
        refine p_callV (C := RX2) (b := mo) (As := [.int (nI 3)]) (rest := [.ref mo]) X (c_X2_depth l g mo ua oa ga cd _ _ x1 y1 U O q 3 (by decide)) ⟨mw_569, mw_571, mw_32, mw_40, mw_572⟩ sgX2_depth ⟨rfl, rfl, ⟨by decide, by decide⟩, by decide, by decide⟩ (hP.at 0 rfl) rfl rfl (hP.sub [0, 1, 2, 3] rfl) hX.1 rfl hl.1 rfl (Nat.le_of_ble_eq_true rfl) dX2_ends_31 (fun v H68 hk69 hp => ?_)
        obtain rfl := hp
        have hX := hX.tr hk69
        have hP := PP.ext hP hk69
        refine W.eq (g2 := F0 m 34 ls [.long (lN (wayo x1 y1 3)), .ref mo]) rfl ?_
        refine lv_lconst (v := lN 1) X.1 X.2.1 dX2_ends_34 (by decide) ?_
        refine f_callV (F := fun q => q = mo) (C := RX2) (b := mo) (As := [.long (lN (wayo x1 y1 3)), .long (lN 1)]) (rest := []) X (c_X2_put l g mo ua oa ga cd _ _ x1 y1 U O q (wayo x1 y1 3) (1) hM (by omega) (by decide) (by decide)) ⟨mw_508, mw_510, mw_22, mw_40, mw_511⟩ sgX2_put ⟨rfl, rfl, ⟨by decide, by decide⟩, by decide, by decide⟩ (hP.at 0 rfl) rfl rfl (hP) hX.1 (fun q h => h) hlo rfl hl.1 rfl (Nat.le_of_ble_eq_true rfl) dX2_ends_35 (fun v H70 locs hk71 hlo hp => ?_)
        obtain ⟨rfl, hP⟩ := hp
        have hX := hX.trf (fun q h => h) hk71
        refine W.eq (g2 := F0 m 38 ls []) rfl ?_
        rw [(show ((wayo x1 y1 3 : Nat) : Rat) / ((1 : Nat) : Rat) = lim x1 y1 q 3 t 1 by rw [lim_o (show 1 = opp 3 from rfl), gab0 hB63]; exact ed1 pq _)] at hP
        refine lv_goto (tgt := 208) X.1 X.2.1 dX2_ends_38 (by decide) ?_
        refine lv_iconst (v := nI 1) X.1 X.2.1 dX2_ends_208 (by decide) ?_
        refine w_i (v' := bI true) (by decide) ?_
        exact f_zret (v := true) X hX hlo (⟨rfl, _, _, hP, fun _ => ⟨rfl, rfl⟩⟩) ⟨by decide, by decide⟩ dX2_ends_209
    ·
      have pq := gab_pos (hO.2.2.1 3 (by decide)) hg
      have eA := hR 3 (by decide) hg
      have b1 := hO.2.2.1 3 (by decide)
      have b2 := hO.2.2.1 2 (by decide)
      have hw := wayo_le hO 3
      have hsl := slen_le hO 3
      refine lv_iload_n X.1 X.2.1 dX2_ends_0 rfl (lv_at hl 1 rfl) ?_
      refine lv_iload_n X.1 X.2.1 dX2_ends_1 rfl (lv_at hl 2 rfl) ?_
      refine lv_ixor X.1 X.2.1 dX2_ends_2 ?_
      refine w_i (v' := nI 1) (by decide) ?_
      refine lv_iconst (v := nI 2) X.1 X.2.1 dX2_ends_3 (by decide) ?_
      refine lv_icmp_ne (tgt := 11) X.1 X.2.1 dX2_ends_4 (by decide) (fun _ => ?_) (fun h9 => absurd h9 (by decide))
      refine lv_iconst (v := nI 0) X.1 X.2.1 dX2_ends_11 (by decide) ?_
      refine lv_istore (lv' := [(5, .int (nI 0)), (0, .ref mo), (1, .int (nI 3)), (2, .int (nI 2)), (3, .long (lN t))]) X.1 X.2.1 dX2_ends_12 hl (by decide) rfl (fun ls hl => ?_)
      refine lv_iload X.1 X.2.1 dX2_ends_14 (lv_at hl 0 rfl) ?_
      refine lv_if_eq (tgt := 41) X.1 X.2.1 dX2_ends_16 (by decide) (fun _ => ?_) (fun h9 => absurd (by decide) h9)
      refine lv_iload X.1 X.2.1 dX2_ends_41 (lv_at hl 0 rfl) ?_
      refine lv_if_eq (tgt := 99) X.1 X.2.1 dX2_ends_43 (by decide) (fun _ => ?_) (fun h9 => absurd (by decide) h9)
      refine lv_aload_n X.1 X.2.1 dX2_ends_99 rfl (lv_at hl 1 rfl) ?_
      refine p_get (T := TX2) X uX2 (hP.at 0 rfl) rfl 5 (by decide) mw_469 rfl rfl dX2_ends_100 ?_
      refine lv_iload_n X.1 X.2.1 dX2_ends_103 rfl (lv_at hl 3 rfl) ?_
      refine f_zald X (hP.at 3 rfl) (by decide) (by decide) dX2_ends_104 ?_
      refine q_Bne X (tgt := 206) dX2_ends_105 (by decide) (fun hB72 => ?_) (fun hB72 => ?_)
      ·
        refine lv_iconst (v := nI 0) X.1 X.2.1 dX2_ends_206 (by decide) ?_
        refine w_i (v' := bI false) (by decide) ?_
        exact f_zret (v := false) X hX hlo (⟨by rw [hB72]; rfl, _, _, hP, fun h9 => by rw [hB72] at h9; cases h9⟩) ⟨by decide, by decide⟩ dX2_ends_207
      ·
        have p2 := gab_pos b2 hB72
        have eB := hR 2 (by decide) hB72
        refine lv_iload_n X.1 X.2.1 dX2_ends_108 rfl (lv_at hl 2 rfl) ?_
        refine lv_if_ne (tgt := 116) X.1 X.2.1 dX2_ends_109 (by decide) (fun _ => ?_) (fun h9 => absurd h9 (by decide))
        refine lv_iload_n X.1 X.2.1 dX2_ends_116 rfl (lv_at hl 2 rfl) ?_
        refine lv_iconst (v := nI 2) X.1 X.2.1 dX2_ends_117 (by decide) ?_
        refine lv_icmp_ne (tgt := 125) X.1 X.2.1 dX2_ends_118 (by decide) (fun _ => ?_) (fun h9 => absurd h9 (by decide))
        refine lv_iload_n X.1 X.2.1 dX2_ends_125 rfl (lv_at hl 2 rfl) ?_
        refine lv_iconst (v := nI 1) X.1 X.2.1 dX2_ends_126 (by decide) ?_
        refine lv_icmp_ne (tgt := 137) X.1 X.2.1 dX2_ends_127 (by decide) (fun _ => ?_) (fun h9 => absurd h9 (by decide))
        refine lv_lconst (v := lN 0) X.1 X.2.1 dX2_ends_137 (by decide) ?_
        refine lv_lstore (lv' := [(6, .long (lN 0)), (5, .int (nI 0)), (0, .ref mo), (1, .int (nI 3)), (2, .int (nI 2)), (3, .long (lN t))]) X.1 X.2.1 dX2_ends_138 hl (by decide) rfl (fun ls hl => ?_)
        refine lv_iload_n X.1 X.2.1 dX2_ends_140 rfl (lv_at hl 3 rfl) ?_
        refine lv_if_ne (tgt := 148) X.1 X.2.1 dX2_ends_141 (by decide) (fun _ => ?_) (fun h9 => absurd h9 (by decide))
        refine lv_iload_n X.1 X.2.1 dX2_ends_148 rfl (lv_at hl 3 rfl) ?_
        refine lv_iconst (v := nI 2) X.1 X.2.1 dX2_ends_149 (by decide) ?_
        refine lv_icmp_ne (tgt := 160) X.1 X.2.1 dX2_ends_150 (by decide) (fun _ => ?_) (fun h9 => absurd h9 (by decide))
        refine lv_lload_n X.1 X.2.1 dX2_ends_160 rfl (lv_at hl 5 rfl) ?_
        refine lv_lstore (lv' := [(8, .long (lN t)), (6, .long (lN 0)), (5, .int (nI 0)), (0, .ref mo), (1, .int (nI 3)), (2, .int (nI 2)), (3, .long (lN t))]) X.1 X.2.1 dX2_ends_161 hl (by decide) rfl (fun ls hl => ?_)
        refine lv_aload_n X.1 X.2.1 dX2_ends_163 rfl (lv_at hl 3 rfl) ?_
        refine lv_aload_n X.1 X.2.1 dX2_ends_164 rfl (lv_at hl 3 rfl) ?_
        refine p_get (T := TX2) X uX2 (hP.at 0 rfl) rfl 3 (by decide) mw_467 rfl rfl dX2_ends_165 ?_
        refine lv_iload_n X.1 X.2.1 dX2_ends_168 rfl (lv_at hl 5 rfl) ?_
        refine f_lald X (hP.at 1 rfl) (by decide) (by decide) dX2_ends_169 ?_
        refine w_l (v' := lN ((q 2).den)) (by rw [(eB).2]) ?_
        refine lv_aload_n X.1 X.2.1 dX2_ends_170 rfl (lv_at hl 3 rfl) ?_
        refine lv_iload_n X.1 X.2.1 dX2_ends_171 rfl (lv_at hl 5 rfl) ?_
        refine lv_lload X.1 X.2.1 dX2_ends_172 (lv_at hl 1 rfl) ?_
        refine lv_lload X.1 X.2.1 dX2_ends_174 (lv_at hl 0 rfl) ?_
        refine p_callV (C := RX2) (b := mo) (As := [.int (nI 2), .long (lN 0), .long (lN t)]) (rest := [.long (lN ((q 2).den)), .ref mo]) X (c_X2_far l g mo ua oa ga cd _ _ x1 y1 U O q 2 (0) (t) (by decide) (Nat.zero_le _) ht) ⟨mw_528, mw_530, mw_25, mw_40, mw_531⟩ sgX2_far ⟨rfl, rfl, ⟨by decide, by decide⟩, by decide, by decide⟩ (hP.at 0 rfl) rfl rfl (hP.sub [0, 1, 2, 3] rfl) hX.1 rfl hl.1 rfl (Nat.le_of_ble_eq_true rfl) dX2_ends_176 (fun v H73 hk74 hp => ?_)
        obtain rfl := hp
        have hX := hX.tr hk74
        have hP := PP.ext hP hk74
        refine W.eq (g2 := F0 m 179 ls [.long (lN (dst x1 y1 2 0 t)), .long (lN ((q 2).den)), .ref mo]) rfl ?_
        have hD : dst x1 y1 2 0 t ≤ 2000 := dst_le hO (Nat.zero_le _) ht 2
        refine lv_lmul X.1 X.2.1 dX2_ends_179 ?_
        refine w_l (lN_mul _ _) ?_
        refine lv_aload_n X.1 X.2.1 dX2_ends_180 rfl (lv_at hl 3 rfl) ?_
        refine p_get (T := TX2) X uX2 (hP.at 0 rfl) rfl 4 (by decide) mw_468 rfl rfl dX2_ends_181 ?_
        refine lv_iload_n X.1 X.2.1 dX2_ends_184 rfl (lv_at hl 4 rfl) ?_
        refine f_lald X (hP.at 2 rfl) (by decide) (by decide) dX2_ends_185 ?_
        refine w_l (v' := lN (nu (q 3))) (by rw [(eA).1]) ?_
        refine lv_lmul X.1 X.2.1 dX2_ends_186 ?_
        refine w_l (lN_mul _ _) ?_
        refine lv_aload_n X.1 X.2.1 dX2_ends_187 rfl (lv_at hl 3 rfl) ?_
        refine p_get (T := TX2) X uX2 (hP.at 0 rfl) rfl 4 (by decide) mw_468 rfl rfl dX2_ends_188 ?_
        refine lv_iload_n X.1 X.2.1 dX2_ends_191 rfl (lv_at hl 5 rfl) ?_
        refine f_lald X (hP.at 2 rfl) (by decide) (by decide) dX2_ends_192 ?_
        refine w_l (v' := lN (nu (q 2))) (by rw [(eB).1]) ?_
        refine lv_aload_n X.1 X.2.1 dX2_ends_193 rfl (lv_at hl 3 rfl) ?_
        refine p_get (T := TX2) X uX2 (hP.at 0 rfl) rfl 3 (by decide) mw_467 rfl rfl dX2_ends_194 ?_
        refine lv_iload_n X.1 X.2.1 dX2_ends_197 rfl (lv_at hl 4 rfl) ?_
        refine f_lald X (hP.at 1 rfl) (by decide) (by decide) dX2_ends_198 ?_
        refine w_l (v' := lN ((q 3).den)) (by rw [(eA).2]) ?_
        refine lv_lmul X.1 X.2.1 dX2_ends_199 ?_
        refine w_l (lN_mul _ _) ?_
        refine f_callV (F := fun q => q = mo) (C := RX2) (b := mo) (As := [.long (lN ((((q 2).den) * (dst x1 y1 2 0 t)) * (nu (q 3)))), .long (lN ((nu (q 2)) * ((q 3).den)))]) (rest := []) X (c_X2_put l g mo ua oa ga cd _ _ x1 y1 U O q ((q 2).den * dst x1 y1 2 0 t * nu (q 3)) (nu (q 2) * (q 3).den) hM (Nat.lt_of_le_of_lt (Nat.mul_le_mul (Nat.mul_le_mul b2.2.2 hD) b1.2.1) (by decide)) (mlt b2.2.1 b1.2.2 (by decide)) (Nat.mul_pos (nu_pos p2) (dn_pos _))) ⟨mw_508, mw_510, mw_22, mw_40, mw_511⟩ sgX2_put ⟨rfl, rfl, ⟨by decide, by decide⟩, by decide, by decide⟩ (hP.at 0 rfl) rfl rfl (hP) hX.1 (fun q h => h) hlo rfl hl.1 rfl (Nat.le_of_ble_eq_true rfl) dX2_ends_200 (fun v H75 locs hk76 hlo hp => ?_)
        obtain ⟨rfl, hP⟩ := hp
        have hX := hX.trf (fun q h => h) hk76
        refine W.eq (g2 := F0 m 203 ls []) rfl ?_
        rw [(show (((q 2).den * dst x1 y1 2 0 t * nu (q 3) : Nat) : Rat) / ((nu (q 2) * (q 3).den : Nat) : Rat) = lim x1 y1 q 3 t 2 by rw [lim_n (d := dst x1 y1 2 0 t) (by decide) rfl]; exact ed3 pq p2 _)] at hP
        refine lv_goto (tgt := 208) X.1 X.2.1 dX2_ends_203 (by decide) ?_
        refine lv_iconst (v := nI 1) X.1 X.2.1 dX2_ends_208 (by decide) ?_
        refine w_i (v' := bI true) (by decide) ?_
        exact f_zret (v := true) X hX hlo (⟨by rw [hB72]; rfl, _, _, hP, fun _ => ⟨rfl, rfl⟩⟩) ⟨by decide, by decide⟩ dX2_ends_209
    ·
      exact absurd rfl hne
set_option maxHeartbeats 4000000 in
set_option maxRecDepth 100000 in
theorem c_X2_ending (l : Launch) (g : En) (mo ua oa ga : Nat) (cd : Int32) (ab be : Int64) (x1 y1 : Nat) (U O : Nat → Nat) (q : Nat → Rat) (k t : Nat) (hO : OK x1 y1 q) (hR : MR q U O) (hM : MD mo ua oa ga) (hk : k < 4) (hg : gab q k = false) (ht : t ≤ slen x1 y1 k) : FM l yX2_ending cX2_ending 10 (some FieldType.int) { frames := 2, cells := 0, slots := 0, locals := 59 } g [.ref mo, .int (nI k), .long (lN t)] (fun H => MO g mo ua oa ga cd ab be x1 y1 U O q H) (fun q => q = mo) 0 0 (fun v H => v = some (.int (nI (enp x1 y1 q k t 4))) ∧ MO g mo ua oa ga cd (lN (nu (raf x1 y1 q k t))) (lN (raf x1 y1 q k t).den) x1 y1 U O q H) := by
  refine FM.of (by decide) (Nat.le_of_ble_eq_true rfl) (fun p e s m below meth c ls X hP hl => ?_)
  have loop : ∀ (d n : Nat), n + d = 4 → ∀ (fo : Int32) (a b : Nat), ((fo = (-1) ∧ a = 0 ∧ b = 1 ∧ NON q k n) ∨ ∃ f, fo = nI f ∧ a = nu (lim x1 y1 q k t f) ∧ b = (lim x1 y1 q k t f).den ∧ BST x1 y1 q k t n f) → ∀ (ab be : Int64) (H : Heap) (locs : List Loc) (ls : Array Slot), hxf (fun q => q = mo) s.heap H → lok (fun q => q = mo) s.heap.size locs → MO g mo ua oa ga cd ab be x1 y1 U O q H → lv_has ls 10 [(9, .int (nI n)), (4, .int fo), (5, .long (lN a)), (7, .long (lN b)), (0, .ref mo), (1, .int (nI k)), (2, .long (lN t))] → W p l e { frames := 2, cells := 0, slots := 0, locals := 59 } s m ([.ref mo, .int (nI k), .long (lN t)] : List Value).toArray below meth c H locs 0 0 (MQ below (fQ (fun q => q = mo) (fun v H => v = some (.int (nI (enp x1 y1 q k t 4))) ∧ MO g mo ua oa ga cd (lN (nu (raf x1 y1 q k t))) (lN (raf x1 y1 q k t).den) x1 y1 U O q H)) ([.ref mo, .int (nI k), .long (lN t)] : List Value).toArray s 0 0 (fun q => (fun q => q = mo) q ∨ s.heap.size ≤ q)) (F0 m 12 ls []) := by
    intro d
    induction d with
    | zero =>
      intro n hn fo a b hI ab be H locs ls hX hlo hP hl
      obtain rfl : n = 4 := by omega
      obtain ⟨rfl, rfl, rfl, hN⟩ | ⟨f, rfl, rfl, rfl, hB⟩ := hI
      · exact (NON.fin hk hN).elim
      · obtain rfl := BST.fin hk hB
        have hl : lv_has ls 10 [(9, .int (nI 4)), (4, .int (nI (enp x1 y1 q k t 4))), (5, .long (lN (nu (raf x1 y1 q k t)))), (7, .long (lN ((raf x1 y1 q k t).den))), (0, .ref mo), (1, .int (nI k)), (2, .long (lN t))] := hl
        refine lv_iload X.1 X.2.1 dX2_ending_12 (lv_at hl 0 rfl) ?_
        refine lv_iconst (v := nI 4) X.1 X.2.1 dX2_ending_14 (by decide) ?_
        refine lv_icmp_ge (tgt := 80) X.1 X.2.1 dX2_ending_15 (by decide) (fun _ => ?_) (fun h9 => absurd (by decide) h9)
        refine lv_aload_n X.1 X.2.1 dX2_ending_80 rfl (lv_at hl 4 rfl) ?_
        refine lv_lload X.1 X.2.1 dX2_ending_81 (lv_at hl 2 rfl) ?_
        refine f_put (F := fun q => q = mo) (T := TX2) (N := 8) (ci := 2) X tyX2 tyX2_ok nmX2 uX2 (hP.at 0 rfl) rfl 6 (by decide) mw_470 rfl rfl (v := .long (lN (nu (raf x1 y1 q k t)))) (ty := .long) (by decide +kernel) rfl rfl (Nat.le_of_ble_eq_true rfl) (Or.inl rfl) hlo dX2_ending_83 (fun H101 locs hpa hlo hat => ?_)
        have hX := hX.tra (rfl) hpa
        have hP := PP.cons hat (PP.exa (hP.sub [1, 2, 3] rfl : PP g [mla g ua U, mla g oa O, mza g ga q] _) hpa (fun z hz => by simp only [List.mem_cons, List.not_mem_nil, or_false] at hz; rcases hz with rfl | rfl | rfl <;> first | exact hM.1 | exact hM.2.1 | exact hM.2.2.1))
        have hP : PP g [(mo, .inr (2, [.int cd, .long (lN x1), .long (lN y1), .ref ua, .ref oa, .ref ga, .long (lN (nu (raf x1 y1 q k t))), .long be])), mla g ua U, mla g oa O, mza g ga q] H101 := hP
        refine lv_aload_n X.1 X.2.1 dX2_ending_86 rfl (lv_at hl 4 rfl) ?_
        refine lv_lload X.1 X.2.1 dX2_ending_87 (lv_at hl 3 rfl) ?_
        refine f_put (F := fun q => q = mo) (T := TX2) (N := 8) (ci := 2) X tyX2 tyX2_ok nmX2 uX2 (hP.at 0 rfl) rfl 7 (by decide) mw_471 rfl rfl (v := .long (lN ((raf x1 y1 q k t).den))) (ty := .long) (by decide +kernel) rfl rfl (Nat.le_of_ble_eq_true rfl) (Or.inl rfl) hlo dX2_ending_89 (fun H102 locs hpa hlo hat => ?_)
        have hX := hX.tra (rfl) hpa
        have hP := PP.cons hat (PP.exa (hP.sub [1, 2, 3] rfl : PP g [mla g ua U, mla g oa O, mza g ga q] _) hpa (fun z hz => by simp only [List.mem_cons, List.not_mem_nil, or_false] at hz; rcases hz with rfl | rfl | rfl <;> first | exact hM.1 | exact hM.2.1 | exact hM.2.2.1))
        have hP : PP g [(mo, .inr (2, [.int cd, .long (lN x1), .long (lN y1), .ref ua, .ref oa, .ref ga, .long (lN (nu (raf x1 y1 q k t))), .long (lN ((raf x1 y1 q k t).den))])), mla g ua U, mla g oa O, mza g ga q] H102 := hP
        refine lv_iload X.1 X.2.1 dX2_ending_92 (lv_at hl 1 rfl) ?_
        exact f_iret X hX hlo (⟨rfl, hP⟩) ⟨by decide, by decide⟩ dX2_ending_94
    | succ d ih =>
      intro n hn fo a b hI ab be H locs ls hX hlo hP hl
      have hn4 : n < 4 := by omega
      refine lv_iload X.1 X.2.1 dX2_ending_12 (lv_at hl 0 rfl) ?_
      refine lv_iconst (v := nI 4) X.1 X.2.1 dX2_ending_14 (by decide) ?_
      refine q_Ige X (by omega) (by omega) (tgt := 80) dX2_ending_15 (by decide) (fun hB101 => ?_) (fun hB101 => ?_)
      ·
        exact absurd hB101 (by omega)
      ·
        refine lv_iload X.1 X.2.1 dX2_ending_18 (lv_at hl 0 rfl) ?_
        refine lv_iload_n X.1 X.2.1 dX2_ending_20 rfl (lv_at hl 5 rfl) ?_
        refine q_Ieq X (by omega) (by omega) (tgt := 74) dX2_ending_21 (by decide) (fun hB102 => ?_) (fun hB102 => ?_)
        ·
          have hNE : ¬ EL q k n := fun h9 => h9.1 hB102
          refine lv_iinc (v := nI (n + 1)) (lv' := [(9, .int (nI (n + 1))), (4, .int fo), (5, .long (lN a)), (7, .long (lN b)), (0, .ref mo), (1, .int (nI k)), (2, .long (lN t))]) X.1 X.2.1 dX2_ending_74 hl (k := 0) rfl (nI_1 _) (by decide) rfl (fun ls hl => ?_)
          refine lv_goto (tgt := 12) X.1 X.2.1 dX2_ending_77 (by decide) ?_
          exact ih (n + 1) (by omega) _ _ _ (hI.imp (fun h9 => ⟨h9.1, h9.2.1, h9.2.2.1, h9.2.2.2.skip hNE⟩) (fun ⟨f, h1, h2, h3, h4⟩ => ⟨f, h1, h2, h3, h4.skip hNE⟩)) _ _ _ _ ls hX hlo hP (lv_sub hl [0, 1, 2, 3, 4, 5, 6] rfl)
        ·
          refine lv_aload_n X.1 X.2.1 dX2_ending_24 rfl (lv_at hl 4 rfl) ?_
          refine lv_iload_n X.1 X.2.1 dX2_ending_25 rfl (lv_at hl 5 rfl) ?_
          refine lv_iload X.1 X.2.1 dX2_ending_26 (lv_at hl 0 rfl) ?_
          refine lv_lload_n X.1 X.2.1 dX2_ending_28 rfl (lv_at hl 6 rfl) ?_
          refine f_callV (F := fun q => q = mo) (C := RX2) (b := mo) (As := [.int (nI k), .int (nI n), .long (lN t)]) (rest := []) X (c_X2_ends l g mo ua oa ga cd _ _ x1 y1 U O q k n t hO hR hM hk hn4 hB102 hg ht) ⟨mw_565, mw_567, mw_31, mw_40, mw_568⟩ sgX2_ends ⟨rfl, rfl, ⟨by decide, by decide⟩, by decide, by decide⟩ (hP.at 0 rfl) rfl rfl (hP) hX.1 (fun q h => h) hlo rfl hl.1 rfl (Nat.le_of_ble_eq_true rfl) dX2_ending_29 (fun v H103 locs hk104 hlo hp => ?_)
          obtain ⟨rfl, ab1, be1, hP, hE1⟩ := hp
          have hX := hX.trf (fun q h => h) hk104
          refine W.eq (g2 := F0 m 32 ls [.int (bI (decide (n = opp k) || !gab q n))]) rfl ?_
          refine q_Beq X (tgt := 74) dX2_ending_32 (by decide) (fun hB105 => ?_) (fun hB105 => ?_)
          ·
            have hNE : ¬ EL q k n := fun h9 => by rw [(el_iff hB102).mpr h9] at hB105; cases hB105
            refine lv_iinc (v := nI (n + 1)) (lv' := [(9, .int (nI (n + 1))), (4, .int fo), (5, .long (lN a)), (7, .long (lN b)), (0, .ref mo), (1, .int (nI k)), (2, .long (lN t))]) X.1 X.2.1 dX2_ending_74 hl (k := 0) rfl (nI_1 _) (by decide) rfl (fun ls hl => ?_)
            refine lv_goto (tgt := 12) X.1 X.2.1 dX2_ending_77 (by decide) ?_
            exact ih (n + 1) (by omega) _ _ _ (hI.imp (fun h9 => ⟨h9.1, h9.2.1, h9.2.2.1, h9.2.2.2.skip hNE⟩) (fun ⟨f, h1, h2, h3, h4⟩ => ⟨f, h1, h2, h3, h4.skip hNE⟩)) _ _ _ _ ls hX hlo hP (lv_sub hl [0, 1, 2, 3, 4, 5, 6] rfl)
          ·
            have hEL := (el_iff hB102).mp hB105
            have hPn := hP
            obtain ⟨rfl, rfl⟩ := hE1 hB105
            have bn := bd_lim hO hk hn4 ht hg hEL.2
            obtain ⟨rfl, rfl, rfl, hN⟩ | ⟨f, rfl, rfl, rfl, hB⟩ := hI
            ·
              refine lv_iload X.1 X.2.1 dX2_ending_35 (lv_at hl 1 rfl) ?_
              refine lv_if_lt (tgt := 58) X.1 X.2.1 dX2_ending_37 (by decide) (fun hB106 => ?_) (fun hB106 => ?_)
              ·
                refine lv_iload X.1 X.2.1 dX2_ending_58 (lv_at hl 0 rfl) ?_
                refine lv_istore (lv' := [(4, .int (nI n)), (9, .int (nI n)), (5, .long (lN 0)), (7, .long (lN 1)), (0, .ref mo), (1, .int (nI k)), (2, .long (lN t))]) X.1 X.2.1 dX2_ending_60 hl (by decide) rfl (fun ls hl => ?_)
                refine lv_aload_n X.1 X.2.1 dX2_ending_62 rfl (lv_at hl 4 rfl) ?_
                refine p_get (T := TX2) X uX2 (hP.at 0 rfl) rfl 6 (by decide) mw_470 rfl rfl dX2_ending_63 ?_
                refine lv_lstore (lv' := [(5, .long (lN (nu (lim x1 y1 q k t n)))), (4, .int (nI n)), (9, .int (nI n)), (7, .long (lN 1)), (0, .ref mo), (1, .int (nI k)), (2, .long (lN t))]) X.1 X.2.1 dX2_ending_66 hl (by decide) rfl (fun ls hl => ?_)
                refine lv_aload_n X.1 X.2.1 dX2_ending_68 rfl (lv_at hl 4 rfl) ?_
                refine p_get (T := TX2) X uX2 (hP.at 0 rfl) rfl 7 (by decide) mw_471 rfl rfl dX2_ending_69 ?_
                refine lv_lstore (lv' := [(7, .long (lN ((lim x1 y1 q k t n).den))), (5, .long (lN (nu (lim x1 y1 q k t n)))), (4, .int (nI n)), (9, .int (nI n)), (0, .ref mo), (1, .int (nI k)), (2, .long (lN t))]) X.1 X.2.1 dX2_ending_72 hl (by decide) rfl (fun ls hl => ?_)
                refine lv_iinc (v := nI (n + 1)) (lv' := [(9, .int (nI (n + 1))), (7, .long (lN ((lim x1 y1 q k t n).den))), (5, .long (lN (nu (lim x1 y1 q k t n)))), (4, .int (nI n)), (0, .ref mo), (1, .int (nI k)), (2, .long (lN t))]) X.1 X.2.1 dX2_ending_74 hl (k := 3) rfl (nI_1 _) (by decide) rfl (fun ls hl => ?_)
                refine lv_goto (tgt := 12) X.1 X.2.1 dX2_ending_77 (by decide) ?_
                exact ih (n + 1) (by omega) _ _ _ (Or.inr ⟨n, rfl, rfl, rfl, BST.first hN hEL⟩) _ _ _ _ ls hX hlo hP (lv_sub hl [0, 3, 2, 1, 4, 5, 6] rfl)
              ·
                exact absurd (by decide) hB106
            ·
              have hf4 : f < 4 := by have := hB.1; omega
              have bf := bd_lim hO hk hf4 ht hg hB.2.1.2
              have hlt := lt_nu bn.1 bf.1
              refine lv_iload X.1 X.2.1 dX2_ending_35 (lv_at hl 1 rfl) ?_
              refine lv_if_lt (tgt := 58) X.1 X.2.1 dX2_ending_37 (by decide) (fun hB107 => ?_) (fun hB107 => ?_)
              ·
                exact absurd hB107 (nI_pos (by omega))
              ·
                refine lv_aload_n X.1 X.2.1 dX2_ending_40 rfl (lv_at hl 4 rfl) ?_
                refine p_get (T := TX2) X uX2 (hP.at 0 rfl) rfl 6 (by decide) mw_470 rfl rfl dX2_ending_41 ?_
                refine lv_lload X.1 X.2.1 dX2_ending_44 (lv_at hl 3 rfl) ?_
                refine lv_lmul X.1 X.2.1 dX2_ending_46 ?_
                refine w_l (lN_mul _ _) ?_
                refine lv_lload X.1 X.2.1 dX2_ending_47 (lv_at hl 2 rfl) ?_
                refine lv_aload_n X.1 X.2.1 dX2_ending_49 rfl (lv_at hl 4 rfl) ?_
                refine p_get (T := TX2) X uX2 (hP.at 0 rfl) rfl 7 (by decide) mw_471 rfl rfl dX2_ending_50 ?_
                refine lv_lmul X.1 X.2.1 dX2_ending_53 ?_
                refine w_l (lN_mul _ _) ?_
                refine q_Nge X (mlt bn.2.1 bf.2.2 (by decide)) (mlt bf.2.1 bn.2.2 (by decide)) (tgt := 74) dX2_ending_54 dX2_ending_55 (by decide) (fun hB108 => ?_) (fun hB108 => ?_)
                ·
                  refine lv_iinc (v := nI (n + 1)) (lv' := [(9, .int (nI (n + 1))), (4, .int (nI f)), (5, .long (lN (nu (lim x1 y1 q k t f)))), (7, .long (lN ((lim x1 y1 q k t f).den))), (0, .ref mo), (1, .int (nI k)), (2, .long (lN t))]) X.1 X.2.1 dX2_ending_74 hl (k := 0) rfl (nI_1 _) (by decide) rfl (fun ls hl => ?_)
                  refine lv_goto (tgt := 12) X.1 X.2.1 dX2_ending_77 (by decide) ?_
                  exact ih (n + 1) (by omega) _ _ _ (Or.inr ⟨f, rfl, rfl, rfl, hB.keep (fun h9 => by have := hlt.mp h9; omega)⟩) _ _ _ _ ls hX hlo hP (lv_sub hl [0, 1, 2, 3, 4, 5, 6] rfl)
                ·
                  refine lv_iload X.1 X.2.1 dX2_ending_58 (lv_at hl 0 rfl) ?_
                  refine lv_istore (lv' := [(4, .int (nI n)), (9, .int (nI n)), (5, .long (lN (nu (lim x1 y1 q k t f)))), (7, .long (lN ((lim x1 y1 q k t f).den))), (0, .ref mo), (1, .int (nI k)), (2, .long (lN t))]) X.1 X.2.1 dX2_ending_60 hl (by decide) rfl (fun ls hl => ?_)
                  refine lv_aload_n X.1 X.2.1 dX2_ending_62 rfl (lv_at hl 4 rfl) ?_
                  refine p_get (T := TX2) X uX2 (hP.at 0 rfl) rfl 6 (by decide) mw_470 rfl rfl dX2_ending_63 ?_
                  refine lv_lstore (lv' := [(5, .long (lN (nu (lim x1 y1 q k t n)))), (4, .int (nI n)), (9, .int (nI n)), (7, .long (lN ((lim x1 y1 q k t f).den))), (0, .ref mo), (1, .int (nI k)), (2, .long (lN t))]) X.1 X.2.1 dX2_ending_66 hl (by decide) rfl (fun ls hl => ?_)
                  refine lv_aload_n X.1 X.2.1 dX2_ending_68 rfl (lv_at hl 4 rfl) ?_
                  refine p_get (T := TX2) X uX2 (hP.at 0 rfl) rfl 7 (by decide) mw_471 rfl rfl dX2_ending_69 ?_
                  refine lv_lstore (lv' := [(7, .long (lN ((lim x1 y1 q k t n).den))), (5, .long (lN (nu (lim x1 y1 q k t n)))), (4, .int (nI n)), (9, .int (nI n)), (0, .ref mo), (1, .int (nI k)), (2, .long (lN t))]) X.1 X.2.1 dX2_ending_72 hl (by decide) rfl (fun ls hl => ?_)
                  refine lv_iinc (v := nI (n + 1)) (lv' := [(9, .int (nI (n + 1))), (7, .long (lN ((lim x1 y1 q k t n).den))), (5, .long (lN (nu (lim x1 y1 q k t n)))), (4, .int (nI n)), (0, .ref mo), (1, .int (nI k)), (2, .long (lN t))]) X.1 X.2.1 dX2_ending_74 hl (k := 3) rfl (nI_1 _) (by decide) rfl (fun ls hl => ?_)
                  refine lv_goto (tgt := 12) X.1 X.2.1 dX2_ending_77 (by decide) ?_
                  exact ih (n + 1) (by omega) _ _ _ (Or.inr ⟨n, rfl, rfl, rfl, hB.new hEL (hlt.mpr (by omega))⟩) _ _ _ _ ls hX hlo hP (lv_sub hl [0, 3, 2, 1, 4, 5, 6] rfl)
  have hl : lv_has ls 10 [(0, .ref mo), (1, .int (nI k)), (2, .long (lN t))] := hl
  have hX : hxf (fun q => q = mo) s.heap s.heap := hxf.rf
  have hlo : lok (fun q => q = mo) s.heap.size ([] : List Loc) := lok.nil
  have hP : PP g [(mo, .inr (2, [.int cd, .long (lN x1), .long (lN y1), .ref ua, .ref oa, .ref ga, .long ab, .long be])), mla g ua U, mla g oa O, mza g ga q] s.heap := hP
  refine lv_iconst (v := (-1)) X.1 X.2.1 dX2_ending_0 (by decide) ?_
  refine lv_istore (lv' := [(4, .int (-1)), (0, .ref mo), (1, .int (nI k)), (2, .long (lN t))]) X.1 X.2.1 dX2_ending_1 hl (by decide) rfl (fun ls hl => ?_)
  refine lv_lconst (v := lN 0) X.1 X.2.1 dX2_ending_3 (by decide) ?_
  refine lv_lstore (lv' := [(5, .long (lN 0)), (4, .int (-1)), (0, .ref mo), (1, .int (nI k)), (2, .long (lN t))]) X.1 X.2.1 dX2_ending_4 hl (by decide) rfl (fun ls hl => ?_)
  refine lv_lconst (v := lN 1) X.1 X.2.1 dX2_ending_6 (by decide) ?_
  refine lv_lstore (lv' := [(7, .long (lN 1)), (5, .long (lN 0)), (4, .int (-1)), (0, .ref mo), (1, .int (nI k)), (2, .long (lN t))]) X.1 X.2.1 dX2_ending_7 hl (by decide) rfl (fun ls hl => ?_)
  refine lv_iconst (v := nI 0) X.1 X.2.1 dX2_ending_9 (by decide) ?_
  refine lv_istore (lv' := [(9, .int (nI 0)), (7, .long (lN 1)), (5, .long (lN 0)), (4, .int (-1)), (0, .ref mo), (1, .int (nI k)), (2, .long (lN t))]) X.1 X.2.1 dX2_ending_10 hl (by decide) rfl (fun ls hl => ?_)
  exact loop 4 0 rfl _ _ _ (Or.inl ⟨rfl, rfl, rfl, fun j hj => absurd hj (Nat.not_lt_zero _)⟩) _ _ _ _ ls hX hlo hP (lv_sub hl [0, 3, 2, 1, 4, 5, 6] rfl)
