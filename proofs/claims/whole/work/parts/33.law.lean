theorem nF2 {z a b : Nat} (h : z ≠ a ∧ z ≠ b) : ¬ (z = a ∨ z = b) := fun h9 => h9.elim h.1 h.2
theorem nF4 {z a b c d : Nat} (h : z ≠ a ∧ z ≠ b ∧ z ≠ c ∧ z ≠ d) : ¬ (z = a ∨ z = b ∨ z = c ∨ z = d) := fun h9 => by
  rcases h9 with h9 | h9 | h9 | h9
  · exact h.1 h9
  · exact h.2.1 h9
  · exact h.2.2.1 h9
  · exact h.2.2.2 h9
theorem gF2 {a b sz : Nat} (ha : sz ≤ a) (hb : sz ≤ b) : ∀ q, (q = a ∨ q = b) → sz ≤ q := fun q h => by
  rcases h with rfl | rfl
  · exact ha
  · exact hb
theorem gF4 {a b c d sz : Nat} (ha : sz ≤ a) (hb : sz ≤ b) (hc : sz ≤ c) (hd : sz ≤ d) : ∀ q, (q = a ∨ q = b ∨ q = c ∨ q = d) → sz ≤ q := fun q h => by
  rcases h with rfl | rfl | rfl | rfl
  · exact ha
  · exact hb
  · exact hc
  · exact hd
theorem nI_and15 (v : Int32) : ∃ k, k < 16 ∧ v &&& nI 15 = nI k := by
  refine ⟨v.toBitVec.toNat % 16, Nat.mod_lt _ (by decide), Int32.toBitVec_inj.mp (BitVec.eq_of_toNat_eq ?_)⟩
  show (v.toBitVec &&& (BitVec.ofNat 32 15)).toNat = (BitVec.ofNat 32 (v.toBitVec.toNat % 16)).toNat
  rw [BitVec.toNat_and, BitVec.toNat_ofNat, BitVec.toNat_ofNat, show 15 % 2 ^ 32 = 2 ^ 4 - 1 from rfl, Nat.and_two_pow_sub_one_eq_mod, Nat.mod_eq_of_lt (show v.toBitVec.toNat % 16 < 2 ^ 32 by omega)]
theorem lw_cmp {L n : Nat} (hL : L ≤ 3072) (hn : n ≤ 4000) : (nI L - nI 6 < nI n) ↔ L < n + 6 := by
  rw [Int32.lt_iff_toInt_lt, Int32.toInt_sub, nI_toInt (by omega), nI_toInt (by omega), nI_toInt (by omega)]
  simp only [Int.bmod]
  omega
set_option maxHeartbeats 4000000 in
set_option maxRecDepth 100000 in
theorem law_outline (p : Program) (l : Launch) (e : Env) (s : State) (m : MethodId) (b : Nat) (below : List Frame) (meth : Method) (c : Code) (g : En) (o r mo ua oa ga ou L n : Nat) (xs : Nat → Int32) (Q : State → Prop) (hl0 : l.stackTraces = false) (X : CX p s m #[Value.ref b] meth c yL_law cL_law 8 (some .boolean) g) (hE : EX s) (hV : va_X b L xs s s.heap) (hbl : b < s.heap.size) (hS : SP o r mo ua oa ga ou s.heap.size) (hn : 6 * n + 6 ≤ L) (hL : L ≤ 3072) (K : LK p l e s m b below meth c g o r mo ua oa ga ou Q n (n + 1) 1772) : LK p l e s m b below meth c g o r mo ua oa ga ou Q n n 120 := by
  intro H ls hX hI hl
  obtain ⟨A, x1, y1, q, U, O, cd, ab, be, f, hO, hD, hR, hA, hRP, hMO, hou⟩ := hI
  obtain ⟨hM, hSo, hSr, hSu, hSz⟩ := hS
  have hU : OD o r ou A := ⟨hSo.2.2.2.2, hSr.2.2.2.2, fun j hj => (hA j hj).2.2.2.2⟩
  refine lv_aload_n X.1 X.2.1 dL_law_120 rfl (lv_at hl 2 rfl) ?_
  refine lv_aload_n X.1 X.2.1 dL_law_121 rfl (lv_at hl 1 rfl) ?_
  refine lv_iload X.1 X.2.1 dL_law_122 (lv_at hl 0 rfl) ?_
  refine lv_iconst (v := nI 1) X.1 X.2.1 dL_law_124 (by decide) ?_
  refine lv_iadd X.1 X.2.1 dL_law_125 ?_
  refine w_i (nI_add _ _) ?_
  refine l_sld X hV hbl hX (k := (6 * n) + 1) (by omega) (by omega) dL_law_126 ?_
  refine lv_i2l X.1 X.2.1 dL_law_127 rfl ?_
  refine lv_bipush (v := nI 32) X.1 X.2.1 dL_law_128 (by decide) ?_
  refine lv_lshl X.1 X.2.1 dL_law_130 rfl ?_
  refine lv_aload_n X.1 X.2.1 dL_law_131 rfl (lv_at hl 1 rfl) ?_
  refine lv_iload X.1 X.2.1 dL_law_132 (lv_at hl 0 rfl) ?_
  refine lv_iconst (v := nI 2) X.1 X.2.1 dL_law_134 (by decide) ?_
  refine lv_iadd X.1 X.2.1 dL_law_135 ?_
  refine w_i (nI_add _ _) ?_
  refine l_sld X hV hbl hX (k := (6 * n) + 2) (by omega) (by omega) dL_law_136 ?_
  refine lv_i2l X.1 X.2.1 dL_law_137 rfl ?_
  refine lv_ldc2 (v := 4294967295) X.1 X.2.1 X.2.2.2.1 (X.2.2.2.2.1 _ (List.mem_cons_of_mem _ mw_628)) dL_law_138 ?_
  refine w_l (v' := lN 4294967295) (by decide) ?_
  refine lv_land X.1 X.2.1 dL_law_141 ?_
  refine lv_lor X.1 X.2.1 dL_law_142 ?_
  refine w_l (v' := mkL (xs ((6 * n) + 1)) (xs ((6 * n) + 2))) rfl ?_
  refine lv_aload_n X.1 X.2.1 dL_law_143 rfl (lv_at hl 1 rfl) ?_
  refine lv_iload X.1 X.2.1 dL_law_144 (lv_at hl 0 rfl) ?_
  refine lv_iconst (v := nI 3) X.1 X.2.1 dL_law_146 (by decide) ?_
  refine lv_iadd X.1 X.2.1 dL_law_147 ?_
  refine w_i (nI_add _ _) ?_
  refine l_sld X hV hbl hX (k := (6 * n) + 3) (by omega) (by omega) dL_law_148 ?_
  refine lv_i2l X.1 X.2.1 dL_law_149 rfl ?_
  refine lv_bipush (v := nI 32) X.1 X.2.1 dL_law_150 (by decide) ?_
  refine lv_lshl X.1 X.2.1 dL_law_152 rfl ?_
  refine lv_aload_n X.1 X.2.1 dL_law_153 rfl (lv_at hl 1 rfl) ?_
  refine lv_iload X.1 X.2.1 dL_law_154 (lv_at hl 0 rfl) ?_
  refine lv_iconst (v := nI 4) X.1 X.2.1 dL_law_156 (by decide) ?_
  refine lv_iadd X.1 X.2.1 dL_law_157 ?_
  refine w_i (nI_add _ _) ?_
  refine l_sld X hV hbl hX (k := (6 * n) + 4) (by omega) (by omega) dL_law_158 ?_
  refine lv_i2l X.1 X.2.1 dL_law_159 rfl ?_
  refine lv_ldc2 (v := 4294967295) X.1 X.2.1 X.2.2.2.1 (X.2.2.2.2.1 _ (List.mem_cons_of_mem _ mw_628)) dL_law_160 ?_
  refine w_l (v' := lN 4294967295) (by decide) ?_
  refine lv_land X.1 X.2.1 dL_law_163 ?_
  refine lv_lor X.1 X.2.1 dL_law_164 ?_
  refine w_l (v' := mkL (xs ((6 * n) + 3)) (xs ((6 * n) + 4))) rfl ?_
  refine lv_aload_n X.1 X.2.1 dL_law_165 rfl (lv_at hl 4 rfl) ?_
  have hlt : (mo < H.size ∧ ua < H.size ∧ oa < H.size ∧ ga < H.size) ∧ ou < H.size := ⟨⟨va_at.lt (hMO.at 0 rfl), va_at.lt (hMO.at 1 rfl), va_at.lt (hMO.at 2 rfl), va_at.lt (hMO.at 3 rfl)⟩, va_at.lt hou⟩
  refine g_callW (As := [.ref o, .long (mkL (xs ((6 * n) + 1)) (xs ((6 * n) + 2))), .long (mkL (xs ((6 * n) + 3)) (xs ((6 * n) + 4))), .ref ou]) (rest := []) X hE (c_L_outline l g o r A x1 y1 q ou f (mkL (xs ((6 * n) + 1)) (xs ((6 * n) + 2))) (mkL (xs ((6 * n) + 3)) (xs ((6 * n) + 4))) hl0 hO hU hD) ⟨mw_87, mw_88, mw_37, mw_89⟩ sgL_outline ⟨rfl, rfl, ⟨by decide, by decide⟩, (by show _ ≤ 797979; omega), (by show _ ≤ 6702166; omega)⟩ ⟨hRP, hou⟩ hX (gF2 hSz.1 hSz.2.2.2.2.2.2) rfl hl.1 rfl (Nat.le_of_ble_eq_true rfl) dL_law_166 (fun v H1 hk hp => ?_)
  have hX := hX.trF hk (gF2 hSz.1 hSz.2.2.2.2.2.2)
  have hMO := MO.exf hMO hk ⟨nF2 ⟨hSo.1.symm, hSu.1⟩, nF2 ⟨hSo.2.1.symm, hSu.2.1⟩, nF2 ⟨hSo.2.2.1.symm, hSu.2.2.1⟩, nF2 ⟨hSo.2.2.2.1.symm, hSu.2.2.2⟩⟩
  rcases hp with ⟨hc, rfl, hRP, f1, hou⟩ | ⟨hc, rfl, hRP, f1, hou, hv1⟩
  ·
    refine W.eq (g2 := F0 m 169 ls [.int (nI (mk3 2 1 (true) (true) (inL (mkL (xs ((6 * n) + 1)) (xs ((6 * n) + 2))) 1 2000 && inL (mkL (xs ((6 * n) + 3)) (xs ((6 * n) + 4))) 1 2000)))]) rfl ?_
    refine lv_istore (lv' := [(5, .int (nI (mk3 2 1 (true) (true) (inL (mkL (xs ((6 * n) + 1)) (xs ((6 * n) + 2))) 1 2000 && inL (mkL (xs ((6 * n) + 3)) (xs ((6 * n) + 4))) 1 2000)))), (4, .int (nI (6 * n))), (0, .ref b), (1, .ref o), (2, .ref mo), (3, .ref ou)]) X.1 X.2.1 dL_law_169 hl (by decide) rfl (fun ls hl => ?_)
    refine lv_aload_n X.1 X.2.1 dL_law_171 rfl (lv_at hl 4 rfl) ?_
    refine lv_aload_n X.1 X.2.1 dL_law_172 rfl (lv_at hl 2 rfl) ?_
    refine lv_iload X.1 X.2.1 dL_law_173 (lv_at hl 1 rfl) ?_
    refine lv_iconst (v := nI 1) X.1 X.2.1 dL_law_175 (by decide) ?_
    refine lv_iadd X.1 X.2.1 dL_law_176 ?_
    refine w_i (nI_add _ _) ?_
    refine l_sld X hV hbl hX (k := (6 * n) + 1) (by omega) (by omega) dL_law_177 ?_
    refine lv_i2l X.1 X.2.1 dL_law_178 rfl ?_
    refine lv_bipush (v := nI 32) X.1 X.2.1 dL_law_179 (by decide) ?_
    refine lv_lshl X.1 X.2.1 dL_law_181 rfl ?_
    refine lv_aload_n X.1 X.2.1 dL_law_182 rfl (lv_at hl 2 rfl) ?_
    refine lv_iload X.1 X.2.1 dL_law_183 (lv_at hl 1 rfl) ?_
    refine lv_iconst (v := nI 2) X.1 X.2.1 dL_law_185 (by decide) ?_
    refine lv_iadd X.1 X.2.1 dL_law_186 ?_
    refine w_i (nI_add _ _) ?_
    refine l_sld X hV hbl hX (k := (6 * n) + 2) (by omega) (by omega) dL_law_187 ?_
    refine lv_i2l X.1 X.2.1 dL_law_188 rfl ?_
    refine lv_ldc2 (v := 4294967295) X.1 X.2.1 X.2.2.2.1 (X.2.2.2.2.1 _ (List.mem_cons_of_mem _ mw_628)) dL_law_189 ?_
    refine w_l (v' := lN 4294967295) (by decide) ?_
    refine lv_land X.1 X.2.1 dL_law_192 ?_
    refine lv_lor X.1 X.2.1 dL_law_193 ?_
    refine w_l (v' := mkL (xs ((6 * n) + 1)) (xs ((6 * n) + 2))) rfl ?_
    refine lv_aload_n X.1 X.2.1 dL_law_194 rfl (lv_at hl 2 rfl) ?_
    refine lv_iload X.1 X.2.1 dL_law_195 (lv_at hl 1 rfl) ?_
    refine lv_iconst (v := nI 3) X.1 X.2.1 dL_law_197 (by decide) ?_
    refine lv_iadd X.1 X.2.1 dL_law_198 ?_
    refine w_i (nI_add _ _) ?_
    refine l_sld X hV hbl hX (k := (6 * n) + 3) (by omega) (by omega) dL_law_199 ?_
    refine lv_i2l X.1 X.2.1 dL_law_200 rfl ?_
    refine lv_bipush (v := nI 32) X.1 X.2.1 dL_law_201 (by decide) ?_
    refine lv_lshl X.1 X.2.1 dL_law_203 rfl ?_
    refine lv_aload_n X.1 X.2.1 dL_law_204 rfl (lv_at hl 2 rfl) ?_
    refine lv_iload X.1 X.2.1 dL_law_205 (lv_at hl 1 rfl) ?_
    refine lv_iconst (v := nI 4) X.1 X.2.1 dL_law_207 (by decide) ?_
    refine lv_iadd X.1 X.2.1 dL_law_208 ?_
    refine w_i (nI_add _ _) ?_
    refine l_sld X hV hbl hX (k := (6 * n) + 4) (by omega) (by omega) dL_law_209 ?_
    refine lv_i2l X.1 X.2.1 dL_law_210 rfl ?_
    refine lv_ldc2 (v := 4294967295) X.1 X.2.1 X.2.2.2.1 (X.2.2.2.2.1 _ (List.mem_cons_of_mem _ mw_628)) dL_law_211 ?_
    refine w_l (v' := lN 4294967295) (by decide) ?_
    refine lv_land X.1 X.2.1 dL_law_214 ?_
    refine lv_lor X.1 X.2.1 dL_law_215 ?_
    refine w_l (v' := mkL (xs ((6 * n) + 3)) (xs ((6 * n) + 4))) rfl ?_
    refine g_callV (C := RX2) (b := mo) (As := [.long (mkL (xs ((6 * n) + 1)) (xs ((6 * n) + 2))), .long (mkL (xs ((6 * n) + 3)) (xs ((6 * n) + 4)))]) (rest := []) X (c_X2_outline l g mo ua oa ga cd ab be x1 y1 U O q (mkL (xs ((6 * n) + 1)) (xs ((6 * n) + 2))) (mkL (xs ((6 * n) + 3)) (xs ((6 * n) + 4))) hO hR hM) ⟨mw_495, mw_496, mw_497, mw_40, mw_498⟩ sgX2_outline ⟨rfl, rfl, ⟨by decide, by decide⟩, (by show _ ≤ 797979; omega), (by show _ ≤ 6702166; omega)⟩ (hMO.at 0 rfl) rfl rfl hMO hX (fun q h => by rw [h]; exact hSz.2.2.1) rfl hl.1 rfl (Nat.le_of_ble_eq_true rfl) dL_law_216 (fun v H2 hk2 hp2 => ?_)
    rcases hp2 with ⟨hc2, ⟨w9, rfl⟩, ⟨n9, ab1, be1, rfl, hMO⟩⟩ | ⟨hc2, -⟩
    ·
      have hX := hX.trF hk2 (fun q h => by rw [h]; exact hSz.2.2.1)
      have hRP := RP.exf hRP hk2 ⟨hSo.1, hSr.1⟩ (fun j hj => (hA j hj).1)
      have hou := at_exf hou hk2 hSu.1.symm
      refine W.eq (g2 := F0 m 219 ls [.int w9]) rfl ?_
      refine lv_istore (lv' := [(6, .int w9), (5, .int (nI (mk3 2 1 (true) (true) (inL (mkL (xs ((6 * n) + 1)) (xs ((6 * n) + 2))) 1 2000 && inL (mkL (xs ((6 * n) + 3)) (xs ((6 * n) + 4))) 1 2000)))), (4, .int (nI (6 * n))), (0, .ref b), (1, .ref o), (2, .ref mo), (3, .ref ou)]) X.1 X.2.1 dL_law_219 hl (by decide) rfl (fun ls hl => ?_)
      refine lv_aload_n X.1 X.2.1 dL_law_221 rfl (lv_at hl 5 rfl) ?_
      refine p_callV (C := RX2) (b := mo) (As := []) (rest := []) X (c_X2_thrown l g mo ua oa ga (nI (mk3 2 1 (true) (true) (inL (mkL (xs ((6 * n) + 1)) (xs ((6 * n) + 2))) 1 2000 && inL (mkL (xs ((6 * n) + 3)) (xs ((6 * n) + 4))) 1 2000))) _ _ x1 y1 U O q) ⟨mw_491, mw_492, mw_493, mw_40, mw_494⟩ sgX2_thrown ⟨rfl, rfl, ⟨by decide, by decide⟩, (by show _ ≤ 797979; omega), (by show _ ≤ 6702166; omega)⟩ (hMO.at 0 rfl) rfl rfl hMO hX.1 rfl hl.1 rfl (Nat.le_of_ble_eq_true rfl) dL_law_222 (fun v H3 hk3 hp3 => ?_)
      obtain rfl := hp3
      have hX := hX.tr hk3
      have hMO := PP.ext hMO hk3
      have hRP := RP.ext hRP hk3
      have hou := (PP.ext (PP.one hou) hk3) 0 _ rfl
      refine W.eq (g2 := F0 m 225 ls [.int (nI (mk3 2 1 (true) (true) (inL (mkL (xs ((6 * n) + 1)) (xs ((6 * n) + 2))) 1 2000 && inL (mkL (xs ((6 * n) + 3)) (xs ((6 * n) + 4))) 1 2000)))]) rfl ?_
      refine lv_iload X.1 X.2.1 dL_law_225 (lv_at hl 1 rfl) ?_
      refine lv_icmp_eq (tgt := 232) X.1 X.2.1 dL_law_227 (by decide) (fun _ => ?_) (fun h9 => absurd rfl h9)
      refine lv_iload X.1 X.2.1 dL_law_232 (lv_at hl 1 rfl) ?_
      refine lv_if_ne (tgt := 256) X.1 X.2.1 dL_law_234 (by decide) (fun h9 => ?_) (fun h9 => ?_)
      ·
        refine lv_goto (tgt := 1772) X.1 X.2.1 dL_law_256 (by decide) ?_
        exact W.widen (by omega) (by omega) (K _ ls hX ⟨A, x1, y1, q, U, O, _, _, _, _, hO, hD, hR, hA, hRP, hMO, hou⟩ (lv_sub hl [2, 3, 4, 5, 6] rfl))
      · obtain ⟨t1, t2, t3⟩ := mk3_21 h9
        rw [t3] at hc; cases hc
    · rw [hc] at hc2; cases hc2
  ·
    obtain ⟨c1, c2⟩ := andL hc
    refine W.eq (g2 := F0 m 169 ls [.int (nI 0)]) rfl ?_
    refine lv_istore (lv' := [(5, .int (nI 0)), (4, .int (nI (6 * n))), (0, .ref b), (1, .ref o), (2, .ref mo), (3, .ref ou)]) X.1 X.2.1 dL_law_169 hl (by decide) rfl (fun ls hl => ?_)
    refine lv_aload_n X.1 X.2.1 dL_law_171 rfl (lv_at hl 4 rfl) ?_
    refine lv_aload_n X.1 X.2.1 dL_law_172 rfl (lv_at hl 2 rfl) ?_
    refine lv_iload X.1 X.2.1 dL_law_173 (lv_at hl 1 rfl) ?_
    refine lv_iconst (v := nI 1) X.1 X.2.1 dL_law_175 (by decide) ?_
    refine lv_iadd X.1 X.2.1 dL_law_176 ?_
    refine w_i (nI_add _ _) ?_
    refine l_sld X hV hbl hX (k := (6 * n) + 1) (by omega) (by omega) dL_law_177 ?_
    refine lv_i2l X.1 X.2.1 dL_law_178 rfl ?_
    refine lv_bipush (v := nI 32) X.1 X.2.1 dL_law_179 (by decide) ?_
    refine lv_lshl X.1 X.2.1 dL_law_181 rfl ?_
    refine lv_aload_n X.1 X.2.1 dL_law_182 rfl (lv_at hl 2 rfl) ?_
    refine lv_iload X.1 X.2.1 dL_law_183 (lv_at hl 1 rfl) ?_
    refine lv_iconst (v := nI 2) X.1 X.2.1 dL_law_185 (by decide) ?_
    refine lv_iadd X.1 X.2.1 dL_law_186 ?_
    refine w_i (nI_add _ _) ?_
    refine l_sld X hV hbl hX (k := (6 * n) + 2) (by omega) (by omega) dL_law_187 ?_
    refine lv_i2l X.1 X.2.1 dL_law_188 rfl ?_
    refine lv_ldc2 (v := 4294967295) X.1 X.2.1 X.2.2.2.1 (X.2.2.2.2.1 _ (List.mem_cons_of_mem _ mw_628)) dL_law_189 ?_
    refine w_l (v' := lN 4294967295) (by decide) ?_
    refine lv_land X.1 X.2.1 dL_law_192 ?_
    refine lv_lor X.1 X.2.1 dL_law_193 ?_
    refine w_l (v' := mkL (xs ((6 * n) + 1)) (xs ((6 * n) + 2))) rfl ?_
    refine lv_aload_n X.1 X.2.1 dL_law_194 rfl (lv_at hl 2 rfl) ?_
    refine lv_iload X.1 X.2.1 dL_law_195 (lv_at hl 1 rfl) ?_
    refine lv_iconst (v := nI 3) X.1 X.2.1 dL_law_197 (by decide) ?_
    refine lv_iadd X.1 X.2.1 dL_law_198 ?_
    refine w_i (nI_add _ _) ?_
    refine l_sld X hV hbl hX (k := (6 * n) + 3) (by omega) (by omega) dL_law_199 ?_
    refine lv_i2l X.1 X.2.1 dL_law_200 rfl ?_
    refine lv_bipush (v := nI 32) X.1 X.2.1 dL_law_201 (by decide) ?_
    refine lv_lshl X.1 X.2.1 dL_law_203 rfl ?_
    refine lv_aload_n X.1 X.2.1 dL_law_204 rfl (lv_at hl 2 rfl) ?_
    refine lv_iload X.1 X.2.1 dL_law_205 (lv_at hl 1 rfl) ?_
    refine lv_iconst (v := nI 4) X.1 X.2.1 dL_law_207 (by decide) ?_
    refine lv_iadd X.1 X.2.1 dL_law_208 ?_
    refine w_i (nI_add _ _) ?_
    refine l_sld X hV hbl hX (k := (6 * n) + 4) (by omega) (by omega) dL_law_209 ?_
    refine lv_i2l X.1 X.2.1 dL_law_210 rfl ?_
    refine lv_ldc2 (v := 4294967295) X.1 X.2.1 X.2.2.2.1 (X.2.2.2.2.1 _ (List.mem_cons_of_mem _ mw_628)) dL_law_211 ?_
    refine w_l (v' := lN 4294967295) (by decide) ?_
    refine lv_land X.1 X.2.1 dL_law_214 ?_
    refine lv_lor X.1 X.2.1 dL_law_215 ?_
    refine w_l (v' := mkL (xs ((6 * n) + 3)) (xs ((6 * n) + 4))) rfl ?_
    refine g_callV (C := RX2) (b := mo) (As := [.long (mkL (xs ((6 * n) + 1)) (xs ((6 * n) + 2))), .long (mkL (xs ((6 * n) + 3)) (xs ((6 * n) + 4)))]) (rest := []) X (c_X2_outline l g mo ua oa ga cd ab be x1 y1 U O q (mkL (xs ((6 * n) + 1)) (xs ((6 * n) + 2))) (mkL (xs ((6 * n) + 3)) (xs ((6 * n) + 4))) hO hR hM) ⟨mw_495, mw_496, mw_497, mw_40, mw_498⟩ sgX2_outline ⟨rfl, rfl, ⟨by decide, by decide⟩, (by show _ ≤ 797979; omega), (by show _ ≤ 6702166; omega)⟩ (hMO.at 0 rfl) rfl rfl hMO hX (fun q h => by rw [h]; exact hSz.2.2.1) rfl hl.1 rfl (Nat.le_of_ble_eq_true rfl) dL_law_216 (fun v H2 hk2 hp2 => ?_)
    rcases hp2 with ⟨hc2, -⟩ | ⟨hc2, rfl, ⟨n9, ab1, be1, rfl, hMO⟩⟩
    · rw [hc] at hc2; cases hc2
    ·
      have hX := hX.trF hk2 (fun q h => by rw [h]; exact hSz.2.2.1)
      have hRP := RP.exf hRP hk2 ⟨hSo.1, hSr.1⟩ (fun j hj => (hA j hj).1)
      have hou := at_exf hou hk2 hSu.1.symm
      refine W.eq (g2 := F0 m 219 ls [.int (bI (!(decide (toL (mkL (xs ((6 * n) + 1)) (xs ((6 * n) + 2))) = x1) && decide (toL (mkL (xs ((6 * n) + 3)) (xs ((6 * n) + 4))) = y1))))]) rfl ?_
      refine lv_istore (lv' := [(6, .int (bI (!(decide (toL (mkL (xs ((6 * n) + 1)) (xs ((6 * n) + 2))) = x1) && decide (toL (mkL (xs ((6 * n) + 3)) (xs ((6 * n) + 4))) = y1))))), (5, .int (nI 0)), (4, .int (nI (6 * n))), (0, .ref b), (1, .ref o), (2, .ref mo), (3, .ref ou)]) X.1 X.2.1 dL_law_219 hl (by decide) rfl (fun ls hl => ?_)
      refine lv_aload_n X.1 X.2.1 dL_law_221 rfl (lv_at hl 5 rfl) ?_
      refine p_callV (C := RX2) (b := mo) (As := []) (rest := []) X (c_X2_thrown l g mo ua oa ga (nI 0) _ _ _ _ _ _ _) ⟨mw_491, mw_492, mw_493, mw_40, mw_494⟩ sgX2_thrown ⟨rfl, rfl, ⟨by decide, by decide⟩, (by show _ ≤ 797979; omega), (by show _ ≤ 6702166; omega)⟩ (hMO.at 0 rfl) rfl rfl hMO hX.1 rfl hl.1 rfl (Nat.le_of_ble_eq_true rfl) dL_law_222 (fun v H3 hk3 hp3 => ?_)
      obtain rfl := hp3
      have hX := hX.tr hk3
      have hMO := PP.ext hMO hk3
      have hRP := RP.ext hRP hk3
      have hou := (PP.ext (PP.one hou) hk3) 0 _ rfl
      refine W.eq (g2 := F0 m 225 ls [.int (nI 0)]) rfl ?_
      refine lv_iload X.1 X.2.1 dL_law_225 (lv_at hl 1 rfl) ?_
      refine lv_icmp_eq (tgt := 232) X.1 X.2.1 dL_law_227 (by decide) (fun _ => ?_) (fun h9 => absurd rfl h9)
      refine lv_iload X.1 X.2.1 dL_law_232 (lv_at hl 1 rfl) ?_
      refine lv_if_ne (tgt := 256) X.1 X.2.1 dL_law_234 (by decide) (fun h9 => absurd (by decide) h9) (fun _ => ?_)
      refine lv_aload_n X.1 X.2.1 dL_law_237 rfl (lv_at hl 6 rfl) ?_
      refine lv_iconst (v := nI 0) X.1 X.2.1 dL_law_238 (by decide) ?_
      refine f_lald X hou (k := 0) (by decide) (by decide) dL_law_239 ?_
      refine lv_iload X.1 X.2.1 dL_law_240 (lv_at hl 0 rfl) ?_
      by_cases hB : (!(decide (toL (mkL (xs ((6 * n) + 1)) (xs ((6 * n) + 2))) = x1) && decide (toL (mkL (xs ((6 * n) + 3)) (xs ((6 * n) + 4))) = y1))) = true
      ·
        refine w_i (v' := nI 1) (by rw [hB]; rfl) ?_
        refine lv_if_eq (tgt := 249) X.1 X.2.1 dL_law_242 (by decide) (fun h9 => absurd h9 (by decide)) (fun _ => ?_)
        refine lv_lconst (v := lN 1) X.1 X.2.1 dL_law_245 (by decide) ?_
        refine lv_goto (tgt := 250) X.1 X.2.1 dL_law_246 (by decide) ?_
        refine q_leq X (tgt := 256) dL_law_250 dL_law_251 (by decide) (fun _ => ?_) (fun h8 => absurd (by rw [hv1, hB]; rfl) h8)
        refine lv_goto (tgt := 1772) X.1 X.2.1 dL_law_256 (by decide) ?_
        exact W.widen (by omega) (by omega) (K _ ls hX ⟨A, toL (mkL (xs ((6 * n) + 1)) (xs ((6 * n) + 2))), toL (mkL (xs ((6 * n) + 3)) (xs ((6 * n) + 4))), q, U, O, _, _, _, _, hO.out (inL_b c1 (by decide)) (inL_b c2 (by decide)), hD, hR, hA, hRP, hMO, hou⟩ (lv_sub hl [2, 3, 4, 5, 6] rfl))
      ·
        have hB : (!(decide (toL (mkL (xs ((6 * n) + 1)) (xs ((6 * n) + 2))) = x1) && decide (toL (mkL (xs ((6 * n) + 3)) (xs ((6 * n) + 4))) = y1))) = false := gabF hB
        refine w_i (v' := nI 0) (by rw [hB]; rfl) ?_
        refine lv_if_eq (tgt := 249) X.1 X.2.1 dL_law_242 (by decide) (fun _ => ?_) (fun h9 => absurd (by decide) h9)
        refine lv_lconst (v := lN 0) X.1 X.2.1 dL_law_249 (by decide) ?_
        refine q_leq X (tgt := 256) dL_law_250 dL_law_251 (by decide) (fun _ => ?_) (fun h8 => absurd (by rw [hv1, hB]; rfl) h8)
        refine lv_goto (tgt := 1772) X.1 X.2.1 dL_law_256 (by decide) ?_
        exact W.widen (by omega) (by omega) (K _ ls hX ⟨A, toL (mkL (xs ((6 * n) + 1)) (xs ((6 * n) + 2))), toL (mkL (xs ((6 * n) + 3)) (xs ((6 * n) + 4))), q, U, O, _, _, _, _, hO.out (inL_b c1 (by decide)) (inL_b c2 (by decide)), hD, hR, hA, hRP, hMO, hou⟩ (lv_sub hl [2, 3, 4, 5, 6] rfl))
set_option maxHeartbeats 4000000 in
set_option maxRecDepth 100000 in
theorem law_slope (p : Program) (l : Launch) (e : Env) (s : State) (m : MethodId) (b : Nat) (below : List Frame) (meth : Method) (c : Code) (g : En) (o r mo ua oa ga ou L n : Nat) (xs : Nat → Int32) (Q : State → Prop) (hl0 : l.stackTraces = false) (X : CX p s m #[Value.ref b] meth c yL_law cL_law 8 (some .boolean) g) (hE : EX s) (hV : va_X b L xs s s.heap) (hbl : b < s.heap.size) (hS : SP o r mo ua oa ga ou s.heap.size) (hn : 6 * n + 6 ≤ L) (hL : L ≤ 3072) (K : LK p l e s m b below meth c g o r mo ua oa ga ou Q n (n + 1) 1772) : LK p l e s m b below meth c g o r mo ua oa ga ou Q n n 259 := by
  intro H ls hX hI hl
  obtain ⟨A, x1, y1, q, U, O, cd, ab, be, f, hO, hD, hR, hA, hRP, hMO, hou⟩ := hI
  obtain ⟨hM, hSo, hSr, hSu, hSz⟩ := hS
  have hU : OD o r ou A := ⟨hSo.2.2.2.2, hSr.2.2.2.2, fun j hj => (hA j hj).2.2.2.2⟩
  refine lv_aload_n X.1 X.2.1 dL_law_259 rfl (lv_at hl 2 rfl) ?_
  refine lv_aload_n X.1 X.2.1 dL_law_260 rfl (lv_at hl 1 rfl) ?_
  refine lv_iload X.1 X.2.1 dL_law_261 (lv_at hl 0 rfl) ?_
  refine lv_iconst (v := nI 1) X.1 X.2.1 dL_law_263 (by decide) ?_
  refine lv_iadd X.1 X.2.1 dL_law_264 ?_
  refine w_i (nI_add _ _) ?_
  refine l_sld X hV hbl hX (k := (6 * n) + 1) (by omega) (by omega) dL_law_265 ?_
  refine lv_aload_n X.1 X.2.1 dL_law_266 rfl (lv_at hl 1 rfl) ?_
  refine lv_iload X.1 X.2.1 dL_law_267 (lv_at hl 0 rfl) ?_
  refine lv_iconst (v := nI 2) X.1 X.2.1 dL_law_269 (by decide) ?_
  refine lv_iadd X.1 X.2.1 dL_law_270 ?_
  refine w_i (nI_add _ _) ?_
  refine l_sld X hV hbl hX (k := (6 * n) + 2) (by omega) (by omega) dL_law_271 ?_
  refine lv_i2l X.1 X.2.1 dL_law_272 rfl ?_
  refine lv_bipush (v := nI 32) X.1 X.2.1 dL_law_273 (by decide) ?_
  refine lv_lshl X.1 X.2.1 dL_law_275 rfl ?_
  refine lv_aload_n X.1 X.2.1 dL_law_276 rfl (lv_at hl 1 rfl) ?_
  refine lv_iload X.1 X.2.1 dL_law_277 (lv_at hl 0 rfl) ?_
  refine lv_iconst (v := nI 3) X.1 X.2.1 dL_law_279 (by decide) ?_
  refine lv_iadd X.1 X.2.1 dL_law_280 ?_
  refine w_i (nI_add _ _) ?_
  refine l_sld X hV hbl hX (k := (6 * n) + 3) (by omega) (by omega) dL_law_281 ?_
  refine lv_i2l X.1 X.2.1 dL_law_282 rfl ?_
  refine lv_ldc2 (v := 4294967295) X.1 X.2.1 X.2.2.2.1 (X.2.2.2.2.1 _ (List.mem_cons_of_mem _ mw_628)) dL_law_283 ?_
  refine w_l (v' := lN 4294967295) (by decide) ?_
  refine lv_land X.1 X.2.1 dL_law_286 ?_
  refine lv_lor X.1 X.2.1 dL_law_287 ?_
  refine w_l (v' := mkL (xs ((6 * n) + 2)) (xs ((6 * n) + 3))) rfl ?_
  refine lv_aload_n X.1 X.2.1 dL_law_288 rfl (lv_at hl 1 rfl) ?_
  refine lv_iload X.1 X.2.1 dL_law_289 (lv_at hl 0 rfl) ?_
  refine lv_iconst (v := nI 4) X.1 X.2.1 dL_law_291 (by decide) ?_
  refine lv_iadd X.1 X.2.1 dL_law_292 ?_
  refine w_i (nI_add _ _) ?_
  refine l_sld X hV hbl hX (k := (6 * n) + 4) (by omega) (by omega) dL_law_293 ?_
  refine lv_i2l X.1 X.2.1 dL_law_294 rfl ?_
  refine lv_bipush (v := nI 32) X.1 X.2.1 dL_law_295 (by decide) ?_
  refine lv_lshl X.1 X.2.1 dL_law_297 rfl ?_
  refine lv_aload_n X.1 X.2.1 dL_law_298 rfl (lv_at hl 1 rfl) ?_
  refine lv_iload X.1 X.2.1 dL_law_299 (lv_at hl 0 rfl) ?_
  refine lv_iconst (v := nI 5) X.1 X.2.1 dL_law_301 (by decide) ?_
  refine lv_iadd X.1 X.2.1 dL_law_302 ?_
  refine w_i (nI_add _ _) ?_
  refine l_sld X hV hbl hX (k := (6 * n) + 5) (by omega) (by omega) dL_law_303 ?_
  refine lv_i2l X.1 X.2.1 dL_law_304 rfl ?_
  refine lv_ldc2 (v := 4294967295) X.1 X.2.1 X.2.2.2.1 (X.2.2.2.2.1 _ (List.mem_cons_of_mem _ mw_628)) dL_law_305 ?_
  refine w_l (v' := lN 4294967295) (by decide) ?_
  refine lv_land X.1 X.2.1 dL_law_308 ?_
  refine lv_lor X.1 X.2.1 dL_law_309 ?_
  refine w_l (v' := mkL (xs ((6 * n) + 4)) (xs ((6 * n) + 5))) rfl ?_
  refine lv_aload_n X.1 X.2.1 dL_law_310 rfl (lv_at hl 4 rfl) ?_
  have hlt : (mo < H.size ∧ ua < H.size ∧ oa < H.size ∧ ga < H.size) ∧ ou < H.size := ⟨⟨va_at.lt (hMO.at 0 rfl), va_at.lt (hMO.at 1 rfl), va_at.lt (hMO.at 2 rfl), va_at.lt (hMO.at 3 rfl)⟩, va_at.lt hou⟩
  refine g_callW (As := [.ref o, .int (xs ((6 * n) + 1)), .long (mkL (xs ((6 * n) + 2)) (xs ((6 * n) + 3))), .long (mkL (xs ((6 * n) + 4)) (xs ((6 * n) + 5))), .ref ou]) (rest := []) X hE (c_L_slope l g o r A x1 y1 q ou f (xs ((6 * n) + 1)) (mkL (xs ((6 * n) + 2)) (xs ((6 * n) + 3))) (mkL (xs ((6 * n) + 4)) (xs ((6 * n) + 5))) H.size hl0 hO hU hD) ⟨mw_167, mw_168, mw_37, mw_169⟩ sgL_slope ⟨rfl, rfl, ⟨by decide, by decide⟩, (by show _ ≤ 797979; omega), (by show _ ≤ 6702166; omega)⟩ ⟨⟨hRP, hou⟩, Nat.le_refl _⟩ hX (gF2 hSz.2.1 hSz.2.2.2.2.2.2) rfl hl.1 rfl (Nat.le_of_ble_eq_true rfl) dL_law_311 (fun v H1 hk hp => ?_)
  have hX := hX.trF hk (gF2 hSz.2.1 hSz.2.2.2.2.2.2)
  have hMO := MO.exf hMO hk ⟨nF2 ⟨hSr.1.symm, hSu.1⟩, nF2 ⟨hSr.2.1.symm, hSu.2.1⟩, nF2 ⟨hSr.2.2.1.symm, hSu.2.2.1⟩, nF2 ⟨hSr.2.2.2.1.symm, hSu.2.2.2⟩⟩
  rcases hp with ⟨hc, rfl, hRP, f1, hou⟩ | ⟨hc, rfl, ⟨b9, hb9, hDn, hRP⟩, f1, hou, hv1⟩
  ·
    refine W.eq (g2 := F0 m 314 ls [.int (nI (mk3 2 2 (inI (xs ((6 * n) + 1)) 4) (true) (inL (mkL (xs ((6 * n) + 2)) (xs ((6 * n) + 3))) 1 20 && inL (mkL (xs ((6 * n) + 4)) (xs ((6 * n) + 5))) 1 20)))]) rfl ?_
    refine lv_istore (lv' := [(5, .int (nI (mk3 2 2 (inI (xs ((6 * n) + 1)) 4) (true) (inL (mkL (xs ((6 * n) + 2)) (xs ((6 * n) + 3))) 1 20 && inL (mkL (xs ((6 * n) + 4)) (xs ((6 * n) + 5))) 1 20)))), (4, .int (nI (6 * n))), (0, .ref b), (1, .ref o), (2, .ref mo), (3, .ref ou)]) X.1 X.2.1 dL_law_314 hl (by decide) rfl (fun ls hl => ?_)
    refine lv_aload_n X.1 X.2.1 dL_law_316 rfl (lv_at hl 4 rfl) ?_
    refine lv_aload_n X.1 X.2.1 dL_law_317 rfl (lv_at hl 2 rfl) ?_
    refine lv_iload X.1 X.2.1 dL_law_318 (lv_at hl 1 rfl) ?_
    refine lv_iconst (v := nI 1) X.1 X.2.1 dL_law_320 (by decide) ?_
    refine lv_iadd X.1 X.2.1 dL_law_321 ?_
    refine w_i (nI_add _ _) ?_
    refine l_sld X hV hbl hX (k := (6 * n) + 1) (by omega) (by omega) dL_law_322 ?_
    refine lv_aload_n X.1 X.2.1 dL_law_323 rfl (lv_at hl 2 rfl) ?_
    refine lv_iload X.1 X.2.1 dL_law_324 (lv_at hl 1 rfl) ?_
    refine lv_iconst (v := nI 2) X.1 X.2.1 dL_law_326 (by decide) ?_
    refine lv_iadd X.1 X.2.1 dL_law_327 ?_
    refine w_i (nI_add _ _) ?_
    refine l_sld X hV hbl hX (k := (6 * n) + 2) (by omega) (by omega) dL_law_328 ?_
    refine lv_i2l X.1 X.2.1 dL_law_329 rfl ?_
    refine lv_bipush (v := nI 32) X.1 X.2.1 dL_law_330 (by decide) ?_
    refine lv_lshl X.1 X.2.1 dL_law_332 rfl ?_
    refine lv_aload_n X.1 X.2.1 dL_law_333 rfl (lv_at hl 2 rfl) ?_
    refine lv_iload X.1 X.2.1 dL_law_334 (lv_at hl 1 rfl) ?_
    refine lv_iconst (v := nI 3) X.1 X.2.1 dL_law_336 (by decide) ?_
    refine lv_iadd X.1 X.2.1 dL_law_337 ?_
    refine w_i (nI_add _ _) ?_
    refine l_sld X hV hbl hX (k := (6 * n) + 3) (by omega) (by omega) dL_law_338 ?_
    refine lv_i2l X.1 X.2.1 dL_law_339 rfl ?_
    refine lv_ldc2 (v := 4294967295) X.1 X.2.1 X.2.2.2.1 (X.2.2.2.2.1 _ (List.mem_cons_of_mem _ mw_628)) dL_law_340 ?_
    refine w_l (v' := lN 4294967295) (by decide) ?_
    refine lv_land X.1 X.2.1 dL_law_343 ?_
    refine lv_lor X.1 X.2.1 dL_law_344 ?_
    refine w_l (v' := mkL (xs ((6 * n) + 2)) (xs ((6 * n) + 3))) rfl ?_
    refine lv_aload_n X.1 X.2.1 dL_law_345 rfl (lv_at hl 2 rfl) ?_
    refine lv_iload X.1 X.2.1 dL_law_346 (lv_at hl 1 rfl) ?_
    refine lv_iconst (v := nI 4) X.1 X.2.1 dL_law_348 (by decide) ?_
    refine lv_iadd X.1 X.2.1 dL_law_349 ?_
    refine w_i (nI_add _ _) ?_
    refine l_sld X hV hbl hX (k := (6 * n) + 4) (by omega) (by omega) dL_law_350 ?_
    refine lv_i2l X.1 X.2.1 dL_law_351 rfl ?_
    refine lv_bipush (v := nI 32) X.1 X.2.1 dL_law_352 (by decide) ?_
    refine lv_lshl X.1 X.2.1 dL_law_354 rfl ?_
    refine lv_aload_n X.1 X.2.1 dL_law_355 rfl (lv_at hl 2 rfl) ?_
    refine lv_iload X.1 X.2.1 dL_law_356 (lv_at hl 1 rfl) ?_
    refine lv_iconst (v := nI 5) X.1 X.2.1 dL_law_358 (by decide) ?_
    refine lv_iadd X.1 X.2.1 dL_law_359 ?_
    refine w_i (nI_add _ _) ?_
    refine l_sld X hV hbl hX (k := (6 * n) + 5) (by omega) (by omega) dL_law_360 ?_
    refine lv_i2l X.1 X.2.1 dL_law_361 rfl ?_
    refine lv_ldc2 (v := 4294967295) X.1 X.2.1 X.2.2.2.1 (X.2.2.2.2.1 _ (List.mem_cons_of_mem _ mw_628)) dL_law_362 ?_
    refine w_l (v' := lN 4294967295) (by decide) ?_
    refine lv_land X.1 X.2.1 dL_law_365 ?_
    refine lv_lor X.1 X.2.1 dL_law_366 ?_
    refine w_l (v' := mkL (xs ((6 * n) + 4)) (xs ((6 * n) + 5))) rfl ?_
    refine g_callV (C := RX2) (b := mo) (As := [.int (xs ((6 * n) + 1)), .long (mkL (xs ((6 * n) + 2)) (xs ((6 * n) + 3))), .long (mkL (xs ((6 * n) + 4)) (xs ((6 * n) + 5)))]) (rest := []) X (c_X2_slope l g mo ua oa ga cd ab be x1 y1 U O q (xs ((6 * n) + 1)) (mkL (xs ((6 * n) + 2)) (xs ((6 * n) + 3))) (mkL (xs ((6 * n) + 4)) (xs ((6 * n) + 5))) hO hR hM) ⟨mw_503, mw_504, mw_505, mw_40, mw_506⟩ sgX2_slope ⟨rfl, rfl, ⟨by decide, by decide⟩, (by show _ ≤ 797979; omega), (by show _ ≤ 6702166; omega)⟩ (hMO.at 0 rfl) rfl rfl hMO hX (gF4 hSz.2.2.1 hSz.2.2.2.1 hSz.2.2.2.2.1 hSz.2.2.2.2.2.1) rfl hl.1 rfl (Nat.le_of_ble_eq_true rfl) dL_law_367 (fun v H2 hk2 hp2 => ?_)
    rcases hp2 with ⟨hc2, ⟨w9, rfl⟩, ⟨n9, ab1, be1, rfl, hMO⟩⟩ | ⟨hc2, -⟩
    ·
      have hX := hX.trF hk2 (gF4 hSz.2.2.1 hSz.2.2.2.1 hSz.2.2.2.2.1 hSz.2.2.2.2.2.1)
      have hRP := RP.exf hRP hk2 ⟨nF4 ⟨hSo.1, hSo.2.1, hSo.2.2.1, hSo.2.2.2.1⟩, nF4 ⟨hSr.1, hSr.2.1, hSr.2.2.1, hSr.2.2.2.1⟩⟩ (fun j hj => nF4 ⟨(hA j hj).1, (hA j hj).2.1, (hA j hj).2.2.1, (hA j hj).2.2.2.1⟩)
      have hou := at_exf hou hk2 (nF4 ⟨hSu.1.symm, hSu.2.1.symm, hSu.2.2.1.symm, hSu.2.2.2.symm⟩)
      refine W.eq (g2 := F0 m 370 ls [.int w9]) rfl ?_
      refine lv_istore (lv' := [(6, .int w9), (5, .int (nI (mk3 2 2 (inI (xs ((6 * n) + 1)) 4) (true) (inL (mkL (xs ((6 * n) + 2)) (xs ((6 * n) + 3))) 1 20 && inL (mkL (xs ((6 * n) + 4)) (xs ((6 * n) + 5))) 1 20)))), (4, .int (nI (6 * n))), (0, .ref b), (1, .ref o), (2, .ref mo), (3, .ref ou)]) X.1 X.2.1 dL_law_370 hl (by decide) rfl (fun ls hl => ?_)
      refine lv_aload_n X.1 X.2.1 dL_law_372 rfl (lv_at hl 5 rfl) ?_
      refine p_callV (C := RX2) (b := mo) (As := []) (rest := []) X (c_X2_thrown l g mo ua oa ga (nI (mk3 2 2 (inI (xs ((6 * n) + 1)) 4) (true) (inL (mkL (xs ((6 * n) + 2)) (xs ((6 * n) + 3))) 1 20 && inL (mkL (xs ((6 * n) + 4)) (xs ((6 * n) + 5))) 1 20))) _ _ x1 y1 U O q) ⟨mw_491, mw_492, mw_493, mw_40, mw_494⟩ sgX2_thrown ⟨rfl, rfl, ⟨by decide, by decide⟩, (by show _ ≤ 797979; omega), (by show _ ≤ 6702166; omega)⟩ (hMO.at 0 rfl) rfl rfl hMO hX.1 rfl hl.1 rfl (Nat.le_of_ble_eq_true rfl) dL_law_373 (fun v H3 hk3 hp3 => ?_)
      obtain rfl := hp3
      have hX := hX.tr hk3
      have hMO := PP.ext hMO hk3
      have hRP := RP.ext hRP hk3
      have hou := (PP.ext (PP.one hou) hk3) 0 _ rfl
      refine W.eq (g2 := F0 m 376 ls [.int (nI (mk3 2 2 (inI (xs ((6 * n) + 1)) 4) (true) (inL (mkL (xs ((6 * n) + 2)) (xs ((6 * n) + 3))) 1 20 && inL (mkL (xs ((6 * n) + 4)) (xs ((6 * n) + 5))) 1 20)))]) rfl ?_
      refine lv_iload X.1 X.2.1 dL_law_376 (lv_at hl 1 rfl) ?_
      refine lv_icmp_eq (tgt := 383) X.1 X.2.1 dL_law_378 (by decide) (fun _ => ?_) (fun h9 => absurd rfl h9)
      refine lv_iload X.1 X.2.1 dL_law_383 (lv_at hl 1 rfl) ?_
      refine lv_if_ne (tgt := 407) X.1 X.2.1 dL_law_385 (by decide) (fun h9 => ?_) (fun h9 => ?_)
      ·
        refine lv_goto (tgt := 1772) X.1 X.2.1 dL_law_407 (by decide) ?_
        exact W.widen (by omega) (by omega) (K _ ls hX ⟨A, x1, y1, q, U, O, _, _, _, _, hO, hD, hR, hA, hRP, hMO, hou⟩ (lv_sub hl [2, 3, 4, 5, 6] rfl))
      · obtain ⟨t1, t2, t3⟩ := mk3_22 h9
        simp [t1, t3] at hc
    · rw [hc] at hc2; cases hc2
  ·
    obtain ⟨c0, c12⟩ := andL hc
    obtain ⟨c1, c2⟩ := andL c12
    have d0 := inI_b c0 (by decide)
    have d1 := inL_b c1 (by decide)
    have d2 := inL_b c2 (by decide)
    have hAn : AP (va_up A (toN (xs ((6 * n) + 1))) b9) mo ua oa ga ou := hA.up ⟨by omega, by omega, by omega, by omega, by omega⟩
    refine W.eq (g2 := F0 m 314 ls [.int (nI 0)]) rfl ?_
    refine lv_istore (lv' := [(5, .int (nI 0)), (4, .int (nI (6 * n))), (0, .ref b), (1, .ref o), (2, .ref mo), (3, .ref ou)]) X.1 X.2.1 dL_law_314 hl (by decide) rfl (fun ls hl => ?_)
    refine lv_aload_n X.1 X.2.1 dL_law_316 rfl (lv_at hl 4 rfl) ?_
    refine lv_aload_n X.1 X.2.1 dL_law_317 rfl (lv_at hl 2 rfl) ?_
    refine lv_iload X.1 X.2.1 dL_law_318 (lv_at hl 1 rfl) ?_
    refine lv_iconst (v := nI 1) X.1 X.2.1 dL_law_320 (by decide) ?_
    refine lv_iadd X.1 X.2.1 dL_law_321 ?_
    refine w_i (nI_add _ _) ?_
    refine l_sld X hV hbl hX (k := (6 * n) + 1) (by omega) (by omega) dL_law_322 ?_
    refine lv_aload_n X.1 X.2.1 dL_law_323 rfl (lv_at hl 2 rfl) ?_
    refine lv_iload X.1 X.2.1 dL_law_324 (lv_at hl 1 rfl) ?_
    refine lv_iconst (v := nI 2) X.1 X.2.1 dL_law_326 (by decide) ?_
    refine lv_iadd X.1 X.2.1 dL_law_327 ?_
    refine w_i (nI_add _ _) ?_
    refine l_sld X hV hbl hX (k := (6 * n) + 2) (by omega) (by omega) dL_law_328 ?_
    refine lv_i2l X.1 X.2.1 dL_law_329 rfl ?_
    refine lv_bipush (v := nI 32) X.1 X.2.1 dL_law_330 (by decide) ?_
    refine lv_lshl X.1 X.2.1 dL_law_332 rfl ?_
    refine lv_aload_n X.1 X.2.1 dL_law_333 rfl (lv_at hl 2 rfl) ?_
    refine lv_iload X.1 X.2.1 dL_law_334 (lv_at hl 1 rfl) ?_
    refine lv_iconst (v := nI 3) X.1 X.2.1 dL_law_336 (by decide) ?_
    refine lv_iadd X.1 X.2.1 dL_law_337 ?_
    refine w_i (nI_add _ _) ?_
    refine l_sld X hV hbl hX (k := (6 * n) + 3) (by omega) (by omega) dL_law_338 ?_
    refine lv_i2l X.1 X.2.1 dL_law_339 rfl ?_
    refine lv_ldc2 (v := 4294967295) X.1 X.2.1 X.2.2.2.1 (X.2.2.2.2.1 _ (List.mem_cons_of_mem _ mw_628)) dL_law_340 ?_
    refine w_l (v' := lN 4294967295) (by decide) ?_
    refine lv_land X.1 X.2.1 dL_law_343 ?_
    refine lv_lor X.1 X.2.1 dL_law_344 ?_
    refine w_l (v' := mkL (xs ((6 * n) + 2)) (xs ((6 * n) + 3))) rfl ?_
    refine lv_aload_n X.1 X.2.1 dL_law_345 rfl (lv_at hl 2 rfl) ?_
    refine lv_iload X.1 X.2.1 dL_law_346 (lv_at hl 1 rfl) ?_
    refine lv_iconst (v := nI 4) X.1 X.2.1 dL_law_348 (by decide) ?_
    refine lv_iadd X.1 X.2.1 dL_law_349 ?_
    refine w_i (nI_add _ _) ?_
    refine l_sld X hV hbl hX (k := (6 * n) + 4) (by omega) (by omega) dL_law_350 ?_
    refine lv_i2l X.1 X.2.1 dL_law_351 rfl ?_
    refine lv_bipush (v := nI 32) X.1 X.2.1 dL_law_352 (by decide) ?_
    refine lv_lshl X.1 X.2.1 dL_law_354 rfl ?_
    refine lv_aload_n X.1 X.2.1 dL_law_355 rfl (lv_at hl 2 rfl) ?_
    refine lv_iload X.1 X.2.1 dL_law_356 (lv_at hl 1 rfl) ?_
    refine lv_iconst (v := nI 5) X.1 X.2.1 dL_law_358 (by decide) ?_
    refine lv_iadd X.1 X.2.1 dL_law_359 ?_
    refine w_i (nI_add _ _) ?_
    refine l_sld X hV hbl hX (k := (6 * n) + 5) (by omega) (by omega) dL_law_360 ?_
    refine lv_i2l X.1 X.2.1 dL_law_361 rfl ?_
    refine lv_ldc2 (v := 4294967295) X.1 X.2.1 X.2.2.2.1 (X.2.2.2.2.1 _ (List.mem_cons_of_mem _ mw_628)) dL_law_362 ?_
    refine w_l (v' := lN 4294967295) (by decide) ?_
    refine lv_land X.1 X.2.1 dL_law_365 ?_
    refine lv_lor X.1 X.2.1 dL_law_366 ?_
    refine w_l (v' := mkL (xs ((6 * n) + 4)) (xs ((6 * n) + 5))) rfl ?_
    refine g_callV (C := RX2) (b := mo) (As := [.int (xs ((6 * n) + 1)), .long (mkL (xs ((6 * n) + 2)) (xs ((6 * n) + 3))), .long (mkL (xs ((6 * n) + 4)) (xs ((6 * n) + 5)))]) (rest := []) X (c_X2_slope l g mo ua oa ga cd ab be x1 y1 U O q (xs ((6 * n) + 1)) (mkL (xs ((6 * n) + 2)) (xs ((6 * n) + 3))) (mkL (xs ((6 * n) + 4)) (xs ((6 * n) + 5))) hO hR hM) ⟨mw_503, mw_504, mw_505, mw_40, mw_506⟩ sgX2_slope ⟨rfl, rfl, ⟨by decide, by decide⟩, (by show _ ≤ 797979; omega), (by show _ ≤ 6702166; omega)⟩ (hMO.at 0 rfl) rfl rfl hMO hX (gF4 hSz.2.2.1 hSz.2.2.2.1 hSz.2.2.2.2.1 hSz.2.2.2.2.2.1) rfl hl.1 rfl (Nat.le_of_ble_eq_true rfl) dL_law_367 (fun v H2 hk2 hp2 => ?_)
    rcases hp2 with ⟨hc2, -⟩ | ⟨hc2, rfl, ⟨n9, ab1, be1, rfl, hMO⟩⟩
    · rw [hc] at hc2; cases hc2
    ·
      have hX := hX.trF hk2 (gF4 hSz.2.2.1 hSz.2.2.2.1 hSz.2.2.2.2.1 hSz.2.2.2.2.2.1)
      have hRP := RP.exf hRP hk2 ⟨nF4 ⟨hSo.1, hSo.2.1, hSo.2.2.1, hSo.2.2.2.1⟩, nF4 ⟨hSr.1, hSr.2.1, hSr.2.2.1, hSr.2.2.2.1⟩⟩ (fun j hj => nF4 ⟨(hAn j hj).1, (hAn j hj).2.1, (hAn j hj).2.2.1, (hAn j hj).2.2.2.1⟩)
      have hou := at_exf hou hk2 (nF4 ⟨hSu.1.symm, hSu.2.1.symm, hSu.2.2.1.symm, hSu.2.2.2.symm⟩)
      refine W.eq (g2 := F0 m 370 ls [.int (bI (!decide (((toL (mkL (xs ((6 * n) + 4)) (xs ((6 * n) + 5))) : Nat) : Rat) / ((toL (mkL (xs ((6 * n) + 2)) (xs ((6 * n) + 3))) : Nat) : Rat) = q (toN (xs ((6 * n) + 1))))))]) rfl ?_
      refine lv_istore (lv' := [(6, .int (bI (!decide (((toL (mkL (xs ((6 * n) + 4)) (xs ((6 * n) + 5))) : Nat) : Rat) / ((toL (mkL (xs ((6 * n) + 2)) (xs ((6 * n) + 3))) : Nat) : Rat) = q (toN (xs ((6 * n) + 1))))))), (5, .int (nI 0)), (4, .int (nI (6 * n))), (0, .ref b), (1, .ref o), (2, .ref mo), (3, .ref ou)]) X.1 X.2.1 dL_law_370 hl (by decide) rfl (fun ls hl => ?_)
      refine lv_aload_n X.1 X.2.1 dL_law_372 rfl (lv_at hl 5 rfl) ?_
      refine p_callV (C := RX2) (b := mo) (As := []) (rest := []) X (c_X2_thrown l g mo ua oa ga (nI 0) _ _ _ _ _ _ _) ⟨mw_491, mw_492, mw_493, mw_40, mw_494⟩ sgX2_thrown ⟨rfl, rfl, ⟨by decide, by decide⟩, (by show _ ≤ 797979; omega), (by show _ ≤ 6702166; omega)⟩ (hMO.at 0 rfl) rfl rfl hMO hX.1 rfl hl.1 rfl (Nat.le_of_ble_eq_true rfl) dL_law_373 (fun v H3 hk3 hp3 => ?_)
      obtain rfl := hp3
      have hX := hX.tr hk3
      have hMO := PP.ext hMO hk3
      have hRP := RP.ext hRP hk3
      have hou := (PP.ext (PP.one hou) hk3) 0 _ rfl
      refine W.eq (g2 := F0 m 376 ls [.int (nI 0)]) rfl ?_
      refine lv_iload X.1 X.2.1 dL_law_376 (lv_at hl 1 rfl) ?_
      refine lv_icmp_eq (tgt := 383) X.1 X.2.1 dL_law_378 (by decide) (fun _ => ?_) (fun h9 => absurd rfl h9)
      refine lv_iload X.1 X.2.1 dL_law_383 (lv_at hl 1 rfl) ?_
      refine lv_if_ne (tgt := 407) X.1 X.2.1 dL_law_385 (by decide) (fun h9 => absurd (by decide) h9) (fun _ => ?_)
      refine lv_aload_n X.1 X.2.1 dL_law_388 rfl (lv_at hl 6 rfl) ?_
      refine lv_iconst (v := nI 0) X.1 X.2.1 dL_law_389 (by decide) ?_
      refine f_lald X hou (k := 0) (by decide) (by decide) dL_law_390 ?_
      refine lv_iload X.1 X.2.1 dL_law_391 (lv_at hl 0 rfl) ?_
      by_cases hB : (!decide (((toL (mkL (xs ((6 * n) + 4)) (xs ((6 * n) + 5))) : Nat) : Rat) / ((toL (mkL (xs ((6 * n) + 2)) (xs ((6 * n) + 3))) : Nat) : Rat) = q (toN (xs ((6 * n) + 1))))) = true
      ·
        refine w_i (v' := nI 1) (by rw [hB]; rfl) ?_
        refine lv_if_eq (tgt := 400) X.1 X.2.1 dL_law_393 (by decide) (fun h9 => absurd h9 (by decide)) (fun _ => ?_)
        refine lv_lconst (v := lN 1) X.1 X.2.1 dL_law_396 (by decide) ?_
        refine lv_goto (tgt := 401) X.1 X.2.1 dL_law_397 (by decide) ?_
        refine q_leq X (tgt := 407) dL_law_401 dL_law_402 (by decide) (fun _ => ?_) (fun h8 => absurd (by rw [hv1, hB]; rfl) h8)
        refine lv_goto (tgt := 1772) X.1 X.2.1 dL_law_407 (by decide) ?_
        exact W.widen (by omega) (by omega) (K _ ls hX ⟨va_up A (toN (xs ((6 * n) + 1))) b9, x1, y1, va_up q (toN (xs ((6 * n) + 1))) (((toL (mkL (xs ((6 * n) + 4)) (xs ((6 * n) + 5))) : Nat) : Rat) / ((toL (mkL (xs ((6 * n) + 2)) (xs ((6 * n) + 3))) : Nat) : Rat)), va_up U (toN (xs ((6 * n) + 1))) (((toL (mkL (xs ((6 * n) + 4)) (xs ((6 * n) + 5))) : Nat) : Rat) / ((toL (mkL (xs ((6 * n) + 2)) (xs ((6 * n) + 3))) : Nat) : Rat)).den, va_up O (toN (xs ((6 * n) + 1))) (nu (((toL (mkL (xs ((6 * n) + 4)) (xs ((6 * n) + 5))) : Nat) : Rat) / ((toL (mkL (xs ((6 * n) + 2)) (xs ((6 * n) + 3))) : Nat) : Rat))), _, _, _, _, hO.slo d0 (sl_bd d1.1 d1.2 d2.2) (Rat.ne_of_gt (fr_pos (by omega) (by omega))), hDn, hR.slo, hAn, hRP, hMO, hou⟩ (lv_sub hl [2, 3, 4, 5, 6] rfl))
      ·
        have hB : (!decide (((toL (mkL (xs ((6 * n) + 4)) (xs ((6 * n) + 5))) : Nat) : Rat) / ((toL (mkL (xs ((6 * n) + 2)) (xs ((6 * n) + 3))) : Nat) : Rat) = q (toN (xs ((6 * n) + 1))))) = false := gabF hB
        refine w_i (v' := nI 0) (by rw [hB]; rfl) ?_
        refine lv_if_eq (tgt := 400) X.1 X.2.1 dL_law_393 (by decide) (fun _ => ?_) (fun h9 => absurd (by decide) h9)
        refine lv_lconst (v := lN 0) X.1 X.2.1 dL_law_400 (by decide) ?_
        refine q_leq X (tgt := 407) dL_law_401 dL_law_402 (by decide) (fun _ => ?_) (fun h8 => absurd (by rw [hv1, hB]; rfl) h8)
        refine lv_goto (tgt := 1772) X.1 X.2.1 dL_law_407 (by decide) ?_
        exact W.widen (by omega) (by omega) (K _ ls hX ⟨va_up A (toN (xs ((6 * n) + 1))) b9, x1, y1, va_up q (toN (xs ((6 * n) + 1))) (((toL (mkL (xs ((6 * n) + 4)) (xs ((6 * n) + 5))) : Nat) : Rat) / ((toL (mkL (xs ((6 * n) + 2)) (xs ((6 * n) + 3))) : Nat) : Rat)), va_up U (toN (xs ((6 * n) + 1))) (((toL (mkL (xs ((6 * n) + 4)) (xs ((6 * n) + 5))) : Nat) : Rat) / ((toL (mkL (xs ((6 * n) + 2)) (xs ((6 * n) + 3))) : Nat) : Rat)).den, va_up O (toN (xs ((6 * n) + 1))) (nu (((toL (mkL (xs ((6 * n) + 4)) (xs ((6 * n) + 5))) : Nat) : Rat) / ((toL (mkL (xs ((6 * n) + 2)) (xs ((6 * n) + 3))) : Nat) : Rat))), _, _, _, _, hO.slo d0 (sl_bd d1.1 d1.2 d2.2) (Rat.ne_of_gt (fr_pos (by omega) (by omega))), hDn, hR.slo, hAn, hRP, hMO, hou⟩ (lv_sub hl [2, 3, 4, 5, 6] rfl))
set_option maxHeartbeats 4000000 in
set_option maxRecDepth 100000 in
theorem law_gable (p : Program) (l : Launch) (e : Env) (s : State) (m : MethodId) (b : Nat) (below : List Frame) (meth : Method) (c : Code) (g : En) (o r mo ua oa ga ou L n : Nat) (xs : Nat → Int32) (Q : State → Prop) (hl0 : l.stackTraces = false) (X : CX p s m #[Value.ref b] meth c yL_law cL_law 8 (some .boolean) g) (hE : EX s) (hV : va_X b L xs s s.heap) (hbl : b < s.heap.size) (hS : SP o r mo ua oa ga ou s.heap.size) (hn : 6 * n + 6 ≤ L) (hL : L ≤ 3072) (K : LK p l e s m b below meth c g o r mo ua oa ga ou Q n (n + 1) 1772) : LK p l e s m b below meth c g o r mo ua oa ga ou Q n n 410 := by
  intro H ls hX hI hl
  obtain ⟨A, x1, y1, q, U, O, cd, ab, be, f, hO, hD, hR, hA, hRP, hMO, hou⟩ := hI
  obtain ⟨hM, hSo, hSr, hSu, hSz⟩ := hS
  have hU : OD o r ou A := ⟨hSo.2.2.2.2, hSr.2.2.2.2, fun j hj => (hA j hj).2.2.2.2⟩
  refine lv_aload_n X.1 X.2.1 dL_law_410 rfl (lv_at hl 2 rfl) ?_
  refine lv_aload_n X.1 X.2.1 dL_law_411 rfl (lv_at hl 1 rfl) ?_
  refine lv_iload X.1 X.2.1 dL_law_412 (lv_at hl 0 rfl) ?_
  refine lv_iconst (v := nI 1) X.1 X.2.1 dL_law_414 (by decide) ?_
  refine lv_iadd X.1 X.2.1 dL_law_415 ?_
  refine w_i (nI_add _ _) ?_
  refine l_sld X hV hbl hX (k := (6 * n) + 1) (by omega) (by omega) dL_law_416 ?_
  refine lv_aload_n X.1 X.2.1 dL_law_417 rfl (lv_at hl 4 rfl) ?_
  have hlt : (mo < H.size ∧ ua < H.size ∧ oa < H.size ∧ ga < H.size) ∧ ou < H.size := ⟨⟨va_at.lt (hMO.at 0 rfl), va_at.lt (hMO.at 1 rfl), va_at.lt (hMO.at 2 rfl), va_at.lt (hMO.at 3 rfl)⟩, va_at.lt hou⟩
  refine g_callW (As := [.ref o, .int (xs ((6 * n) + 1)), .ref ou]) (rest := []) X hE (c_L_gable l g o r A x1 y1 q ou f (xs ((6 * n) + 1)) H.size hl0 hO hU hD) ⟨mw_208, mw_209, mw_37, mw_210⟩ sgL_gable ⟨rfl, rfl, ⟨by decide, by decide⟩, (by show _ ≤ 797979; omega), (by show _ ≤ 6702166; omega)⟩ ⟨⟨hRP, hou⟩, Nat.le_refl _⟩ hX (gF2 hSz.2.1 hSz.2.2.2.2.2.2) rfl hl.1 rfl (Nat.le_of_ble_eq_true rfl) dL_law_418 (fun v H1 hk hp => ?_)
  have hX := hX.trF hk (gF2 hSz.2.1 hSz.2.2.2.2.2.2)
  have hMO := MO.exf hMO hk ⟨nF2 ⟨hSr.1.symm, hSu.1⟩, nF2 ⟨hSr.2.1.symm, hSu.2.1⟩, nF2 ⟨hSr.2.2.1.symm, hSu.2.2.1⟩, nF2 ⟨hSr.2.2.2.1.symm, hSu.2.2.2⟩⟩
  rcases hp with ⟨hc, rfl, hRP, f1, hou⟩ | ⟨hc, rfl, ⟨b9, hb9, hDn, hRP⟩, f1, hou, hv1⟩
  ·
    refine W.eq (g2 := F0 m 421 ls [.int (nI (mk3 2 2 (inI (xs ((6 * n) + 1)) 4) (oth q (toN (xs ((6 * n) + 1)))) (true)))]) rfl ?_
    refine lv_istore (lv' := [(5, .int (nI (mk3 2 2 (inI (xs ((6 * n) + 1)) 4) (oth q (toN (xs ((6 * n) + 1)))) (true)))), (4, .int (nI (6 * n))), (0, .ref b), (1, .ref o), (2, .ref mo), (3, .ref ou)]) X.1 X.2.1 dL_law_421 hl (by decide) rfl (fun ls hl => ?_)
    refine lv_aload_n X.1 X.2.1 dL_law_423 rfl (lv_at hl 4 rfl) ?_
    refine lv_aload_n X.1 X.2.1 dL_law_424 rfl (lv_at hl 2 rfl) ?_
    refine lv_iload X.1 X.2.1 dL_law_425 (lv_at hl 1 rfl) ?_
    refine lv_iconst (v := nI 1) X.1 X.2.1 dL_law_427 (by decide) ?_
    refine lv_iadd X.1 X.2.1 dL_law_428 ?_
    refine w_i (nI_add _ _) ?_
    refine l_sld X hV hbl hX (k := (6 * n) + 1) (by omega) (by omega) dL_law_429 ?_
    refine g_callV (C := RX2) (b := mo) (As := [.int (xs ((6 * n) + 1))]) (rest := []) X (c_X2_gable l g mo ua oa ga cd ab be x1 y1 U O q (xs ((6 * n) + 1)) hO hR hM) ⟨mw_512, mw_513, mw_514, mw_40, mw_515⟩ sgX2_gable ⟨rfl, rfl, ⟨by decide, by decide⟩, (by show _ ≤ 797979; omega), (by show _ ≤ 6702166; omega)⟩ (hMO.at 0 rfl) rfl rfl hMO hX (gF4 hSz.2.2.1 hSz.2.2.2.1 hSz.2.2.2.2.1 hSz.2.2.2.2.2.1) rfl hl.1 rfl (Nat.le_of_ble_eq_true rfl) dL_law_430 (fun v H2 hk2 hp2 => ?_)
    rcases hp2 with ⟨hc2, ⟨w9, rfl⟩, ⟨n9, ab1, be1, rfl, hMO⟩⟩ | ⟨hc2, -⟩
    ·
      have hX := hX.trF hk2 (gF4 hSz.2.2.1 hSz.2.2.2.1 hSz.2.2.2.2.1 hSz.2.2.2.2.2.1)
      have hRP := RP.exf hRP hk2 ⟨nF4 ⟨hSo.1, hSo.2.1, hSo.2.2.1, hSo.2.2.2.1⟩, nF4 ⟨hSr.1, hSr.2.1, hSr.2.2.1, hSr.2.2.2.1⟩⟩ (fun j hj => nF4 ⟨(hA j hj).1, (hA j hj).2.1, (hA j hj).2.2.1, (hA j hj).2.2.2.1⟩)
      have hou := at_exf hou hk2 (nF4 ⟨hSu.1.symm, hSu.2.1.symm, hSu.2.2.1.symm, hSu.2.2.2.symm⟩)
      refine W.eq (g2 := F0 m 433 ls [.int w9]) rfl ?_
      refine lv_istore (lv' := [(6, .int w9), (5, .int (nI (mk3 2 2 (inI (xs ((6 * n) + 1)) 4) (oth q (toN (xs ((6 * n) + 1)))) (true)))), (4, .int (nI (6 * n))), (0, .ref b), (1, .ref o), (2, .ref mo), (3, .ref ou)]) X.1 X.2.1 dL_law_433 hl (by decide) rfl (fun ls hl => ?_)
      refine lv_aload_n X.1 X.2.1 dL_law_435 rfl (lv_at hl 5 rfl) ?_
      refine p_callV (C := RX2) (b := mo) (As := []) (rest := []) X (c_X2_thrown l g mo ua oa ga (nI (mk3 2 2 (inI (xs ((6 * n) + 1)) 4) (oth q (toN (xs ((6 * n) + 1)))) (true))) _ _ x1 y1 U O q) ⟨mw_491, mw_492, mw_493, mw_40, mw_494⟩ sgX2_thrown ⟨rfl, rfl, ⟨by decide, by decide⟩, (by show _ ≤ 797979; omega), (by show _ ≤ 6702166; omega)⟩ (hMO.at 0 rfl) rfl rfl hMO hX.1 rfl hl.1 rfl (Nat.le_of_ble_eq_true rfl) dL_law_436 (fun v H3 hk3 hp3 => ?_)
      obtain rfl := hp3
      have hX := hX.tr hk3
      have hMO := PP.ext hMO hk3
      have hRP := RP.ext hRP hk3
      have hou := (PP.ext (PP.one hou) hk3) 0 _ rfl
      refine W.eq (g2 := F0 m 439 ls [.int (nI (mk3 2 2 (inI (xs ((6 * n) + 1)) 4) (oth q (toN (xs ((6 * n) + 1)))) (true)))]) rfl ?_
      refine lv_iload X.1 X.2.1 dL_law_439 (lv_at hl 1 rfl) ?_
      refine lv_icmp_eq (tgt := 446) X.1 X.2.1 dL_law_441 (by decide) (fun _ => ?_) (fun h9 => absurd rfl h9)
      refine lv_iload X.1 X.2.1 dL_law_446 (lv_at hl 1 rfl) ?_
      refine lv_if_ne (tgt := 470) X.1 X.2.1 dL_law_448 (by decide) (fun h9 => ?_) (fun h9 => ?_)
      ·
        refine lv_goto (tgt := 1772) X.1 X.2.1 dL_law_470 (by decide) ?_
        exact W.widen (by omega) (by omega) (K _ ls hX ⟨A, x1, y1, q, U, O, _, _, _, _, hO, hD, hR, hA, hRP, hMO, hou⟩ (lv_sub hl [2, 3, 4, 5, 6] rfl))
      · obtain ⟨t1, t2, t3⟩ := mk3_22 h9
        simp [t1, t2] at hc
    · rw [hc] at hc2; cases hc2
  ·
    obtain ⟨c0, c1⟩ := andL hc
    have d0 := inI_b c0 (by decide)
    have hAn : AP (va_up A (toN (xs ((6 * n) + 1))) b9) mo ua oa ga ou := hA.up ⟨by omega, by omega, by omega, by omega, by omega⟩
    refine W.eq (g2 := F0 m 421 ls [.int (nI 0)]) rfl ?_
    refine lv_istore (lv' := [(5, .int (nI 0)), (4, .int (nI (6 * n))), (0, .ref b), (1, .ref o), (2, .ref mo), (3, .ref ou)]) X.1 X.2.1 dL_law_421 hl (by decide) rfl (fun ls hl => ?_)
    refine lv_aload_n X.1 X.2.1 dL_law_423 rfl (lv_at hl 4 rfl) ?_
    refine lv_aload_n X.1 X.2.1 dL_law_424 rfl (lv_at hl 2 rfl) ?_
    refine lv_iload X.1 X.2.1 dL_law_425 (lv_at hl 1 rfl) ?_
    refine lv_iconst (v := nI 1) X.1 X.2.1 dL_law_427 (by decide) ?_
    refine lv_iadd X.1 X.2.1 dL_law_428 ?_
    refine w_i (nI_add _ _) ?_
    refine l_sld X hV hbl hX (k := (6 * n) + 1) (by omega) (by omega) dL_law_429 ?_
    refine g_callV (C := RX2) (b := mo) (As := [.int (xs ((6 * n) + 1))]) (rest := []) X (c_X2_gable l g mo ua oa ga cd ab be x1 y1 U O q (xs ((6 * n) + 1)) hO hR hM) ⟨mw_512, mw_513, mw_514, mw_40, mw_515⟩ sgX2_gable ⟨rfl, rfl, ⟨by decide, by decide⟩, (by show _ ≤ 797979; omega), (by show _ ≤ 6702166; omega)⟩ (hMO.at 0 rfl) rfl rfl hMO hX (gF4 hSz.2.2.1 hSz.2.2.2.1 hSz.2.2.2.2.1 hSz.2.2.2.2.2.1) rfl hl.1 rfl (Nat.le_of_ble_eq_true rfl) dL_law_430 (fun v H2 hk2 hp2 => ?_)
    rcases hp2 with ⟨hc2, -⟩ | ⟨hc2, rfl, ⟨n9, ab1, be1, rfl, hMO⟩⟩
    · rw [hc] at hc2; cases hc2
    ·
      have hX := hX.trF hk2 (gF4 hSz.2.2.1 hSz.2.2.2.1 hSz.2.2.2.2.1 hSz.2.2.2.2.2.1)
      have hRP := RP.exf hRP hk2 ⟨nF4 ⟨hSo.1, hSo.2.1, hSo.2.2.1, hSo.2.2.2.1⟩, nF4 ⟨hSr.1, hSr.2.1, hSr.2.2.1, hSr.2.2.2.1⟩⟩ (fun j hj => nF4 ⟨(hAn j hj).1, (hAn j hj).2.1, (hAn j hj).2.2.1, (hAn j hj).2.2.2.1⟩)
      have hou := at_exf hou hk2 (nF4 ⟨hSu.1.symm, hSu.2.1.symm, hSu.2.2.1.symm, hSu.2.2.2.symm⟩)
      refine W.eq (g2 := F0 m 433 ls [.int (bI (!decide ((0 : Rat) = q (toN (xs ((6 * n) + 1))))))]) rfl ?_
      refine lv_istore (lv' := [(6, .int (bI (!decide ((0 : Rat) = q (toN (xs ((6 * n) + 1))))))), (5, .int (nI 0)), (4, .int (nI (6 * n))), (0, .ref b), (1, .ref o), (2, .ref mo), (3, .ref ou)]) X.1 X.2.1 dL_law_433 hl (by decide) rfl (fun ls hl => ?_)
      refine lv_aload_n X.1 X.2.1 dL_law_435 rfl (lv_at hl 5 rfl) ?_
      refine p_callV (C := RX2) (b := mo) (As := []) (rest := []) X (c_X2_thrown l g mo ua oa ga (nI 0) _ _ _ _ _ _ _) ⟨mw_491, mw_492, mw_493, mw_40, mw_494⟩ sgX2_thrown ⟨rfl, rfl, ⟨by decide, by decide⟩, (by show _ ≤ 797979; omega), (by show _ ≤ 6702166; omega)⟩ (hMO.at 0 rfl) rfl rfl hMO hX.1 rfl hl.1 rfl (Nat.le_of_ble_eq_true rfl) dL_law_436 (fun v H3 hk3 hp3 => ?_)
      obtain rfl := hp3
      have hX := hX.tr hk3
      have hMO := PP.ext hMO hk3
      have hRP := RP.ext hRP hk3
      have hou := (PP.ext (PP.one hou) hk3) 0 _ rfl
      refine W.eq (g2 := F0 m 439 ls [.int (nI 0)]) rfl ?_
      refine lv_iload X.1 X.2.1 dL_law_439 (lv_at hl 1 rfl) ?_
      refine lv_icmp_eq (tgt := 446) X.1 X.2.1 dL_law_441 (by decide) (fun _ => ?_) (fun h9 => absurd rfl h9)
      refine lv_iload X.1 X.2.1 dL_law_446 (lv_at hl 1 rfl) ?_
      refine lv_if_ne (tgt := 470) X.1 X.2.1 dL_law_448 (by decide) (fun h9 => absurd (by decide) h9) (fun _ => ?_)
      refine lv_aload_n X.1 X.2.1 dL_law_451 rfl (lv_at hl 6 rfl) ?_
      refine lv_iconst (v := nI 0) X.1 X.2.1 dL_law_452 (by decide) ?_
      refine f_lald X hou (k := 0) (by decide) (by decide) dL_law_453 ?_
      refine lv_iload X.1 X.2.1 dL_law_454 (lv_at hl 0 rfl) ?_
      by_cases hB : (!decide ((0 : Rat) = q (toN (xs ((6 * n) + 1))))) = true
      ·
        refine w_i (v' := nI 1) (by rw [hB]; rfl) ?_
        refine lv_if_eq (tgt := 463) X.1 X.2.1 dL_law_456 (by decide) (fun h9 => absurd h9 (by decide)) (fun _ => ?_)
        refine lv_lconst (v := lN 1) X.1 X.2.1 dL_law_459 (by decide) ?_
        refine lv_goto (tgt := 464) X.1 X.2.1 dL_law_460 (by decide) ?_
        refine q_leq X (tgt := 470) dL_law_464 dL_law_465 (by decide) (fun _ => ?_) (fun h8 => absurd (by rw [hv1, hB]; rfl) h8)
        refine lv_goto (tgt := 1772) X.1 X.2.1 dL_law_470 (by decide) ?_
        exact W.widen (by omega) (by omega) (K _ ls hX ⟨va_up A (toN (xs ((6 * n) + 1))) b9, x1, y1, va_up q (toN (xs ((6 * n) + 1))) 0, U, O, _, _, _, _, hO.gbl d0 c1, hDn, hR.gbl, hAn, hRP, hMO, hou⟩ (lv_sub hl [2, 3, 4, 5, 6] rfl))
      ·
        have hB : (!decide ((0 : Rat) = q (toN (xs ((6 * n) + 1))))) = false := gabF hB
        refine w_i (v' := nI 0) (by rw [hB]; rfl) ?_
        refine lv_if_eq (tgt := 463) X.1 X.2.1 dL_law_456 (by decide) (fun _ => ?_) (fun h9 => absurd (by decide) h9)
        refine lv_lconst (v := lN 0) X.1 X.2.1 dL_law_463 (by decide) ?_
        refine q_leq X (tgt := 470) dL_law_464 dL_law_465 (by decide) (fun _ => ?_) (fun h8 => absurd (by rw [hv1, hB]; rfl) h8)
        refine lv_goto (tgt := 1772) X.1 X.2.1 dL_law_470 (by decide) ?_
        exact W.widen (by omega) (by omega) (K _ ls hX ⟨va_up A (toN (xs ((6 * n) + 1))) b9, x1, y1, va_up q (toN (xs ((6 * n) + 1))) 0, U, O, _, _, _, _, hO.gbl d0 c1, hDn, hR.gbl, hAn, hRP, hMO, hou⟩ (lv_sub hl [2, 3, 4, 5, 6] rfl))
set_option maxHeartbeats 4000000 in
set_option maxRecDepth 100000 in
theorem law_loop (p : Program) (l : Launch) (e : Env) (s : State) (m : MethodId) (b : Nat) (below : List Frame) (meth : Method) (c : Code) (g : En) (o r mo ua oa ga ou L : Nat) (xs : Nat → Int32) (Q : State → Prop) (hl0 : l.stackTraces = false) (X : CX p s m #[Value.ref b] meth c yL_law cL_law 8 (some .boolean) g) (hE : EX s) (hV : va_X b L xs s s.heap) (hbl : b < s.heap.size) (hS : SP o r mo ua oa ga ou s.heap.size) (hL : L ≤ 3072) (Kx : ∀ (H : Heap) (ls : Array Slot), W p l e room_1 s m #[Value.ref b] below meth c H [] 797979 6702166 Q (F0 m 1779 ls [.int 1])) : ∀ (d n : Nat), n + d = 513 → LK p l e s m b below meth c g o r mo ua oa ga ou Q n n 23 := by
  intro d
  induction d with
  | zero =>
    intro n hn H ls hX hI hl
    refine lv_iload X.1 X.2.1 dL_law_23 (lv_at hl 0 rfl) ?_
    refine lv_aload_n X.1 X.2.1 dL_law_25 rfl (lv_at hl 1 rfl) ?_
    refine l_len X hV hbl hX dL_law_26 ?_
    refine lv_bipush (v := nI 6) X.1 X.2.1 dL_law_27 (by decide) ?_
    refine lv_isub X.1 X.2.1 dL_law_29 ?_
    refine lv_icmp_gt (tgt := 1778) X.1 X.2.1 dL_law_30 (by decide) (fun h9 => ?_) (fun h9 => ?_)
    ·
      refine lv_iconst (v := nI 1) X.1 X.2.1 dL_law_1778 (by decide) ?_
      refine w_i (v' := 1) (by decide) ?_
      exact W.widen (by omega) (by omega) (Kx H ls)
    · exact absurd ((lw_cmp hL (by omega)).mpr (by omega)) h9
  | succ d ih =>
    intro n hn H ls hX hI hl
    refine lv_iload X.1 X.2.1 dL_law_23 (lv_at hl 0 rfl) ?_
    refine lv_aload_n X.1 X.2.1 dL_law_25 rfl (lv_at hl 1 rfl) ?_
    refine l_len X hV hbl hX dL_law_26 ?_
    refine lv_bipush (v := nI 6) X.1 X.2.1 dL_law_27 (by decide) ?_
    refine lv_isub X.1 X.2.1 dL_law_29 ?_
    refine lv_icmp_gt (tgt := 1778) X.1 X.2.1 dL_law_30 (by decide) (fun h9 => ?_) (fun h9 => ?_)
    ·
      refine lv_iconst (v := nI 1) X.1 X.2.1 dL_law_1778 (by decide) ?_
      refine w_i (v' := 1) (by decide) ?_
      exact W.widen (by omega) (by omega) (Kx H ls)
    ·
      have hn6 : 6 * n + 6 ≤ L := Nat.le_of_not_lt (fun h => h9 ((lw_cmp hL (by omega)).mpr h))
      have K : LK p l e s m b below meth c g o r mo ua oa ga ou Q n (n + 1) 1772 := by
        intro H ls hX hI hl
        refine lv_iinc (v := nI (6 * (n + 1))) (lv' := [(4, .int (nI (6 * (n + 1)))), (0, .ref b), (1, .ref o), (2, .ref mo), (3, .ref ou)]) X.1 X.2.1 dL_law_1772 hl (k := 0) rfl (by rw [show 6 * (n + 1) = 6 * n + 6 by omega]; exact nI_add _ 6) (by decide) rfl (fun ls hl => ?_)
        refine lv_goto (tgt := 23) X.1 X.2.1 dL_law_1775 (by decide) ?_
        exact ih (n + 1) (by omega) H ls hX hI hl
      refine lv_aload_n X.1 X.2.1 dL_law_33 rfl (lv_at hl 1 rfl) ?_
      refine lv_iload X.1 X.2.1 dL_law_34 (lv_at hl 0 rfl) ?_
      refine l_sld X hV hbl hX (k := 6 * n) (by omega) (by omega) dL_law_36 ?_
      refine lv_bipush (v := nI 15) X.1 X.2.1 dL_law_37 (by decide) ?_
      refine lv_iand X.1 X.2.1 dL_law_39 ?_
      obtain ⟨k9, hk9, ek9⟩ := nI_and15 (xs (6 * n))
      refine w_i ek9 ?_
      rcases (show k9 = 0 ∨ k9 = 1 ∨ k9 = 2 ∨ k9 = 3 ∨ k9 = 4 ∨ k9 = 5 ∨ k9 = 6 ∨ k9 = 7 ∨ k9 = 8 ∨ k9 = 9 ∨ k9 = 10 ∨ k9 = 11 ∨ k9 = 12 ∨ k9 = 13 ∨ k9 = 14 ∨ k9 = 15 by omega) with rfl | rfl | rfl | rfl | rfl | rfl | rfl | rfl | rfl | rfl | rfl | rfl | rfl | rfl | rfl | rfl
      ·
        refine lv_tableIn (tgt := 120) X.1 X.2.1 dL_law_40 (by decide) (by decide) rfl (by decide) ?_
        exact law_outline p l e s m b below meth c g o r mo ua oa ga ou L n xs Q hl0 X hE hV hbl hS hn6 hL K H ls hX hI hl
      ·
        refine lv_tableIn (tgt := 259) X.1 X.2.1 dL_law_40 (by decide) (by decide) rfl (by decide) ?_
        exact law_slope p l e s m b below meth c g o r mo ua oa ga ou L n xs Q hl0 X hE hV hbl hS hn6 hL K H ls hX hI hl
      ·
        refine lv_tableIn (tgt := 410) X.1 X.2.1 dL_law_40 (by decide) (by decide) rfl (by decide) ?_
        exact law_gable p l e s m b below meth c g o r mo ua oa ga ou L n xs Q hl0 X hE hV hbl hS hn6 hL K H ls hX hI hl
      ·
        refine lv_tableIn (tgt := 473) X.1 X.2.1 dL_law_40 (by decide) (by decide) rfl (by decide) ?_
        exact law_place p l e s m b below meth c g o r mo ua oa ga ou L n xs Q hl0 X hE hV hbl hS hn6 hL K H ls hX hI hl
      ·
        refine lv_tableIn (tgt := 616) X.1 X.2.1 dL_law_40 (by decide) (by decide) rfl (by decide) ?_
        exact law_face p l e s m b below meth c g o r mo ua oa ga ou L n xs Q hl0 X hE hV hbl hS hn6 hL K H ls hX hI hl
      ·
        refine lv_tableIn (tgt := 748) X.1 X.2.1 dL_law_40 (by decide) (by decide) rfl (by decide) ?_
        exact law_rafter p l e s m b below meth c g o r mo ua oa ga ou L n xs Q hl0 X hE hV hbl hS hn6 hL K H ls hX hI hl
      ·
        refine lv_tableIn (tgt := 848) X.1 X.2.1 dL_law_40 (by decide) (by decide) rfl (by decide) ?_
        exact law_end p l e s m b below meth c g o r mo ua oa ga ou L n xs Q hl0 X hE hV hbl hS hn6 hL K H ls hX hI hl
      ·
        refine lv_tableIn (tgt := 959) X.1 X.2.1 dL_law_40 (by decide) (by decide) rfl (by decide) ?_
        exact law_against p l e s m b below meth c g o r mo ua oa ga ou L n xs Q hl0 X hE hV hbl hS hn6 hL K H ls hX hI hl
      ·
        refine lv_tableIn (tgt := 1059) X.1 X.2.1 dL_law_40 (by decide) (by decide) rfl (by decide) ?_
        exact law_length p l e s m b below meth c g o r mo ua oa ga ou L n xs Q hl0 X hE hV hbl hS hn6 hL K H ls hX hI hl
      ·
        refine lv_tableIn (tgt := 1170) X.1 X.2.1 dL_law_40 (by decide) (by decide) rfl (by decide) ?_
        exact law_tangent p l e s m b below meth c g o r mo ua oa ga ou L n xs Q hl0 X hE hV hbl hS hn6 hL K H ls hX hI hl
      ·
        refine lv_tableIn (tgt := 1293) X.1 X.2.1 dL_law_40 (by decide) (by decide) rfl (by decide) ?_
        exact law_mouth p l e s m b below meth c g o r mo ua oa ga ou L n xs Q hl0 X hE hV hbl hS hn6 hL K H ls hX hI hl
      ·
        refine lv_tableIn (tgt := 1404) X.1 X.2.1 dL_law_40 (by decide) (by decide) rfl (by decide) ?_
        exact law_hip p l e s m b below meth c g o r mo ua oa ga ou L n xs Q hl0 X hE hV hbl hS hn6 hL K H ls hX hI hl
      ·
        refine lv_tableIn (tgt := 1483) X.1 X.2.1 dL_law_40 (by decide) (by decide) rfl (by decide) ?_
        exact law_peak p l e s m b below meth c g o r mo ua oa ga ou L n xs Q hl0 X hE hV hbl hS hn6 hL K H ls hX hI hl
      ·
        refine lv_tableIn (tgt := 1538) X.1 X.2.1 dL_law_40 (by decide) (by decide) rfl (by decide) ?_
        exact law_ridge p l e s m b below meth c g o r mo ua oa ga ou L n xs Q hl0 X hE hV hbl hS hn6 hL K H ls hX hI hl
      ·
        refine lv_tableIn (tgt := 1605) X.1 X.2.1 dL_law_40 (by decide) (by decide) rfl (by decide) ?_
        exact law_area p l e s m b below meth c g o r mo ua oa ga ou L n xs Q hl0 X hE hV hbl hS hn6 hL K H ls hX hI hl
      ·
        refine lv_tableIn (tgt := 1672) X.1 X.2.1 dL_law_40 (by decide) (by decide) rfl (by decide) ?_
        exact law_batten p l e s m b below meth c g o r mo ua oa ga ou L n xs Q hl0 X hE hV hbl hS hn6 hL K H ls hX hI hl
