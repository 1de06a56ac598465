theorem mw_89 : Cond.codeWith yL_outline cL_outline 7 (some FieldType.int) [(0, 18, 21, 13)] ∈ tb := tb_in (List.mem_of_getElem? (i := 89) (by decide +kernel)) (by decide +kernel)
theorem mw_169 : Cond.codeWith yL_slope cL_slope 8 (some FieldType.int) [(0, 20, 23, 19), (0, 20, 27, 13)] ∈ tb := tb_in (List.mem_of_getElem? (i := 169) (by decide +kernel)) (by decide +kernel)
theorem mw_210 : Cond.codeWith yL_gable cL_gable 4 (some FieldType.int) [(0, 16, 19, 19), (0, 16, 22, 25)] ∈ tb := tb_in (List.mem_of_getElem? (i := 210) (by decide +kernel)) (by decide +kernel)
theorem mw_242 : Cond.codeWith yL_place cL_place 8 (some FieldType.int) [(0, 12, 15, 19), (0, 12, 19, 13)] ∈ tb := tb_in (List.mem_of_getElem? (i := 242) (by decide +kernel)) (by decide +kernel)
theorem mw_277 : Cond.codeWith yL_face cL_face 7 (some FieldType.int) [(0, 11, 14, 13)] ∈ tb := tb_in (List.mem_of_getElem? (i := 277) (by decide +kernel)) (by decide +kernel)
theorem mw_284 : Cond.codeWith yL_rafter cL_rafter 6 (some FieldType.int) [(0, 11, 14, 19), (0, 11, 18, 25), (0, 11, 22, 13)] ∈ tb := tb_in (List.mem_of_getElem? (i := 284) (by decide +kernel)) (by decide +kernel)
theorem mw_304 : Cond.codeWith yL_end cL_end 7 (some FieldType.int) [(0, 12, 15, 19), (0, 12, 19, 25), (0, 12, 23, 13)] ∈ tb := tb_in (List.mem_of_getElem? (i := 304) (by decide +kernel)) (by decide +kernel)
theorem mw_348 : Cond.codeWith yL_against cL_against 6 (some FieldType.int) [(0, 11, 14, 19), (0, 11, 18, 25), (0, 11, 22, 13)] ∈ tb := tb_in (List.mem_of_getElem? (i := 348) (by decide +kernel)) (by decide +kernel)
theorem mw_355 : Cond.codeWith yL_length cL_length 7 (some FieldType.int) [(0, 12, 15, 19), (0, 12, 19, 25), (0, 12, 23, 13)] ∈ tb := tb_in (List.mem_of_getElem? (i := 355) (by decide +kernel)) (by decide +kernel)
theorem mw_381 : Cond.codeWith yL_tangent cL_tangent 8 (some FieldType.int) [(0, 14, 17, 19), (0, 14, 21, 25), (0, 14, 25, 13)] ∈ tb := tb_in (List.mem_of_getElem? (i := 381) (by decide +kernel)) (by decide +kernel)
theorem mw_392 : Cond.codeWith yL_mouth cL_mouth 7 (some FieldType.int) [(0, 12, 15, 19), (0, 12, 19, 25), (0, 12, 23, 13)] ∈ tb := tb_in (List.mem_of_getElem? (i := 392) (by decide +kernel)) (by decide +kernel)
theorem mw_399 : Cond.codeWith yL_hip cL_hip 6 (some FieldType.int) [(0, 11, 14, 19), (0, 11, 18, 25)] ∈ tb := tb_in (List.mem_of_getElem? (i := 399) (by decide +kernel)) (by decide +kernel)
theorem mw_417 : Cond.codeWith yL_peak cL_peak 4 (some FieldType.int) [(0, 8, 11, 19)] ∈ tb := tb_in (List.mem_of_getElem? (i := 417) (by decide +kernel)) (by decide +kernel)
theorem mw_424 : Cond.codeWith yL_ridge cL_ridge 5 (some FieldType.int) [(0, 9, 12, 19)] ∈ tb := tb_in (List.mem_of_getElem? (i := 424) (by decide +kernel)) (by decide +kernel)
theorem mw_439 : Cond.codeWith yL_area cL_area 5 (some FieldType.int) [(0, 9, 12, 19), (0, 9, 16, 25)] ∈ tb := tb_in (List.mem_of_getElem? (i := 439) (by decide +kernel)) (by decide +kernel)
theorem mw_451 : Cond.codeWith yL_batten cL_batten 6 (some FieldType.int) [(0, 11, 14, 19), (0, 11, 18, 25), (0, 11, 22, 13)] ∈ tb := tb_in (List.mem_of_getElem? (i := 451) (by decide +kernel)) (by decide +kernel)
theorem tb_GW {c : Cond} {own : String} {idx nl : Nat} {y : MethodName} {cy : ByteArray} {hh : List (Nat × Nat × Nat × Nat)} (h1 : Cond.methodLink own idx y ∈ tb) (h2 : Cond.static y ∈ tb) (h4 : Cond.initialized y.cls ∈ tb) (h5 : Cond.codeWith y cy nl (some .int) hh ∈ tb) : GoodIn (c :: tb) (va_wsS own idx y (Cond.codeWith y cy nl (some .int) hh :: tb)) := fun w hw => by
  rcases List.mem_append.mp hw with hw | hw
  · simp only [List.mem_cons, List.not_mem_nil, or_false] at hw
    rcases hw with rfl | rfl | rfl
    · exact tb_G1 h1
    · exact tb_G1 h2
    · exact tb_G1 h4
  · exact tb_GG h5 w hw
section GW
variable {p : Program} {l : Launch} {e : Env} {R : Room} {s : State} {m : MethodId} {args : Array Value} {below : List Frame} {meth : Method} {c : Code} {H : Heap} {locs : List Loc} {cells slots : Nat} {Q : State → Prop} {pc : Nat} {ls : Array Slot} {rest st0 : List Value} {g : En}
variable {y y' : MethodName} {cy cy' : ByteArray} {nl nl' : Nat} {ret ret' : Option FieldType} {hh : List (Nat × Nat × Nat × Nat)}
variable {mc ms n idx : Nat} {post : Option Value → Heap → Prop} {px : String → Prop} {a : Array Value} {rm : Room} {G : Heap → Prop} {b : Nat} {As : List Value} {C : String} {F F' : Nat → Prop}
theorem g_callW (X : CX p s m args meth c y cy nl ret g) (hE : EX s) (hM : WM l y' cy' nl' hh rm g As G F mc ms post)
    (hw : Cond.methodLink y.cls idx y' ∈ tb ∧ Cond.static y' ∈ tb ∧ Cond.initialized y'.cls ∈ tb ∧ Cond.codeWith y' cy' nl' (some .int) hh ∈ tb)
    (hd : y'.cls = C ∧ y'.cls ≠ "java/lang/invoke/MethodHandle" ∧ y'.cls ≠ "java/lang/invoke/VarHandle" ∧ (parseMethodDescriptor y'.desc).map (fun d => d.parameters.length) = some n)
    (hrm : rm.cells = mc ∧ rm.slots = ms ∧ (rm.frames + 1 ≤ R.frames ∧ 8 + (nl' + 11) + rm.locals ≤ R.locals) ∧ cells + mc ≤ R.cells ∧ slots + ms ≤ R.slots)
    (hG : G H) (hX : hxt s.heap H) (hF : ∀ q, F q → s.heap.size ≤ q) (hn : As.length = n) (hls : ls.size = nl) (hst : st0 = As.reverse ++ rest) (hrest : (rest.map fun v => v.category).sum ≤ 8) (hdg : decode cy pc = .ok (.invokestatic idx, 3))
    (kk : ∀ (v : Option Value) (H1 : Heap), hxf F H H1 → post v H1 → W p l e R s m args below meth c H1 locs (cells + mc) (slots + ms) Q (F0 m (pc + 3) ls (v.toList ++ rest))) : W p l e R s m args below meth c H locs cells slots Q (F0 m pc ls st0) := by
  obtain ⟨hx, hb, hml, hown, hts, -, -, hK, -⟩ := X
  obtain ⟨h1, h2, h4, h5⟩ := hw
  obtain ⟨r1, r2, r3, r4⟩ := hrm
  have hr := vx_runSW (n := n) (As := As) (rest := rest) (g := F0 m pc ls st0) (locs := locs) (cells := cells) (slots := slots) (below := below) (meth := meth) (e := e) ⟨hx, hb, hml, hown, hts⟩ (hM H.size) (vx_cwSW n hts (tb_GW h1 h2 h4 h5) rfl r1 r2 hd.2 r3) ⟨xPc_blind, fun U hU hW => ⟨rfl, by rw [hU], by rw [hU]; exact hG, va_K.moved hW.alike hK, hE.at hW (by rw [hU]; exact hX)⟩⟩ rfl hn hls hst (lv_room hrest) hdg r4
  intro T hT XX
  obtain ⟨v, st₀, t, T', L, h0, X', hL, e1, e2, ⟨v', f1, f2, f3⟩, st⟩ := hr T hT XX
  cases f1
  rw [h0] at f2
  obtain ⟨t2, a1, b1⟩ := kk v t.heap f2 f3 T' e1 (Stand.forget X' (fun x h => by
    rcases hL x h with h | h
    · exact hF _ h
    · exact Nat.le_trans hX.1 h))
  exact ⟨t2, st t2 a1, b1⟩
theorem g_callV (X : CX p s m args meth c y cy nl ret g) (hM : FM l y' cy' nl' ret' rm g (.ref b :: As) G F mc ms post)
    (hw : Cond.methodLink y.cls idx y' ∈ tb ∧ Cond.instanceMethod y' ∈ tb ∧ Cond.selects C y' y' ∈ tb ∧ Cond.initialized C ∈ tb ∧ Cond.code y' cy' nl' ret' ∈ tb)
    (hd : y'.cls = C ∧ y'.cls ≠ "java/lang/invoke/MethodHandle" ∧ y'.cls ≠ "java/lang/invoke/VarHandle" ∧ (parseMethodDescriptor y'.desc).map (fun d => d.parameters.length) = some n)
    (hrm : rm.cells = mc ∧ rm.slots = ms ∧ (rm.frames + 1 ≤ R.frames ∧ 8 + (nl' + 11) + rm.locals ≤ R.locals) ∧ cells + mc ≤ R.cells ∧ slots + ms ≤ R.slots)
    {ci : Nat} {fs : List Value} {q : vw_C} (hat : va_at g.1 cl0 (b, .inr (ci, fs)) H) (hci : cl0[ci]? = some q) (hq : q.1 = C)
    (hG : G H) (hX : hxt s.heap H) (hF : ∀ q, F q → s.heap.size ≤ q) (hn : As.length = n) (hls : ls.size = nl) (hst : st0 = As.reverse ++ .ref b :: rest) (hrest : (rest.map fun v => v.category).sum ≤ 8) (hdg : decode cy pc = .ok (.invokevirtual idx, 3))
    (kk : ∀ (v : Option Value) (H1 : Heap), hxf F H H1 → post v H1 → W p l e R s m args below meth c H1 locs (cells + mc) (slots + ms) Q (F0 m (pc + 3) ls (v.toList ++ rest))) : W p l e R s m args below meth c H locs cells slots Q (F0 m pc ls st0) := by
  obtain ⟨hx, hb, hml, hown, hts, -, -, hK, -⟩ := X
  obtain ⟨h1, h2, h3, h4, h5⟩ := hw
  obtain ⟨r1, r2, r3, r4⟩ := hrm
  subst hq
  refine W.callX (W.runV (C := q.1) (n := n) (b := b) (As := As) (rest := rest) ⟨hx, hb, hml, hown, hts⟩ (hM H.size) (cwV n hts (tb_GV h1 h2 h3 h4 h5) rfl r1 r2 hd r3) ⟨pPc_blind, va_recv (q0 := 0) hK (PP.one hat) hci rfl, fun U hU hW => ⟨rfl, by rw [hU], by rw [hU]; exact hG, va_K.moved hW.alike hK⟩⟩ rfl hn hls hst (lv_room hrest) hdg r4) (fun x hx => ?_) (fun v st₀ t h0 hq => ?_)
  · rcases hx with h | h
    · exact hF _ h
    · exact Nat.le_trans hX.1 h
  · obtain ⟨v', e1, e2, e3⟩ := hq
    cases e1
    rw [h0] at e2
    exact kk v t.heap e2 e3
theorem l_sld (X : CX p s m args meth c y cy nl ret g) {L : Nat} {xs : Nat → Int32} (hV : va_X b L xs s s.heap) (hbl : b < s.heap.size) (hX : hxt s.heap H) {k : Nat} (hk : k < L) (hL : L < 2 ^ 31) (hdg : decode cy pc = .ok (.iaload, 1))
    (kk : W p l e R s m args below meth c H [] cells slots Q (F0 m (pc + 1) ls (.int (xs k) :: rest))) : W p l e R s m args below meth c H [] cells slots Q (F0 m pc ls (.int (nI k) :: .ref b :: rest)) := by
  obtain ⟨hx, hb, hml, hown, hts, -, -, hK, -⟩ := X
  refine va_sld (locs := []) (A := fun q => s.heap.size ≤ q) hx hb hV hbl (Nat.not_le.mpr hbl) ⟨hX.1, fun q h _ => hX.2 q h, fun q h => nomatch h⟩ (vp_in_nI hk hL) hdg ?_
  rw [nI_clamp (Nat.lt_trans hk hL)]
  exact kk
theorem l_len (X : CX p s m args meth c y cy nl ret g) {L : Nat} {xs : Nat → Int32} (hV : va_X b L xs s s.heap) (hbl : b < s.heap.size) (hX : hxt s.heap H) (hdg : decode cy pc = .ok (.arraylength, 1))
    (kk : W p l e R s m args below meth c H [] cells slots Q (F0 m (pc + 1) ls (.int (nI L) :: rest))) : W p l e R s m args below meth c H [] cells slots Q (F0 m pc ls (.ref b :: rest)) := by
  obtain ⟨hx, hb, hml, hown, hts, -, -, hK, -⟩ := X
  exact va_slen (locs := []) (A := fun q => s.heap.size ≤ q) hx hb hV hbl (Nat.not_le.mpr hbl) ⟨hX.1, fun q h _ => hX.2 q h, fun q h => nomatch h⟩ hdg kk
end GW
theorem hxt.trF {H0 H H1 : Heap} {F : Nat → Prop} (h : hxt H0 H) (k : hxf F H H1) (hF : ∀ q, F q → H0.size ≤ q) : hxt H0 H1 := ⟨Nat.le_trans h.1 k.1, fun q hq => (k.2 q (Nat.lt_of_lt_of_le hq h.1) (fun h9 => absurd (hF q h9) (Nat.not_le.mpr hq))).trans (h.2 q hq)⟩
theorem MO.exf {g : En} {mo ua oa ga : Nat} {cd : Int32} {ab be : Int64} {x1 y1 : Nat} {U O : Nat → Nat} {q : Nat → Rat} {H H1 : Heap} {F : Nat → Prop} (h : MO g mo ua oa ga cd ab be x1 y1 U O q H) (k : hxf F H H1) (h1 : ¬ F mo ∧ ¬ F ua ∧ ¬ F oa ∧ ¬ F ga) : MO g mo ua oa ga cd ab be x1 y1 U O q H1 := PP.exf h k (fun z hz => by
  simp only [List.mem_cons, List.not_mem_nil, or_false] at hz
  rcases hz with rfl | rfl | rfl | rfl
  · exact h1.1
  · exact h1.2.1
  · exact h1.2.2.1
  · exact h1.2.2.2)
theorem RP.exf {g : En} {o r : Nat} {A : Nat → Nat} {X Y : Nat} {q : Nat → Rat} {H H1 : Heap} {F : Nat → Prop} (h : RP g o r A X Y q H) (k : hxf F H H1) (h1 : ¬ F o ∧ ¬ F r) (h2 : ∀ j, j < 4 → ¬ F (A j)) : RP g o r A X Y q H1 := ⟨PP.exf h.1 k (fun z hz => by
    simp only [List.mem_cons, List.not_mem_nil, or_false] at hz
    rcases hz with rfl | rfl
    · exact h1.1
    · exact h1.2), fun j hj => (PP.exf (PP.one (h.2 j hj)) k (fun z hz => by
    simp only [List.mem_cons, List.not_mem_nil, or_false] at hz
    subst hz; exact h2 j hj)) 0 _ rfl⟩
theorem at_exf {g : En} {z : Nat × va_E} {H H1 : Heap} {F : Nat → Prop} (h : va_at g.1 cl0 z H) (k : hxf F H H1) (h1 : ¬ F z.1) : va_at g.1 cl0 z H1 := (PP.exf (PP.one h) k (fun w hw => by
  simp only [List.mem_cons, List.not_mem_nil, or_false] at hw
  subst hw; exact h1)) 0 _ rfl
/-- the things of the law lie apart -/
def SP (o r mo ua oa ga ou sz : Nat) : Prop := MD mo ua oa ga ∧ (o ≠ mo ∧ o ≠ ua ∧ o ≠ oa ∧ o ≠ ga ∧ o ≠ ou) ∧ (r ≠ mo ∧ r ≠ ua ∧ r ≠ oa ∧ r ≠ ga ∧ r ≠ ou) ∧ (mo ≠ ou ∧ ua ≠ ou ∧ oa ≠ ou ∧ ga ≠ ou) ∧ (sz ≤ o ∧ sz ≤ r ∧ sz ≤ mo ∧ sz ≤ ua ∧ sz ≤ oa ∧ sz ≤ ga ∧ sz ≤ ou)
def AP (A : Nat → Nat) (mo ua oa ga ou : Nat) : Prop := ∀ j, j < 4 → A j ≠ mo ∧ A j ≠ ua ∧ A j ≠ oa ∧ A j ≠ ga ∧ A j ≠ ou
def LI (g : En) (o r mo ua oa ga ou : Nat) (H : Heap) : Prop := ∃ (A : Nat → Nat) (x1 y1 : Nat) (q : Nat → Rat) (U O : Nat → Nat) (cd : Int32) (ab be : Int64) (f : Nat → Int64), OK x1 y1 q ∧ DD o r A ∧ MR q U O ∧ AP A mo ua oa ga ou ∧ RP g o r A x1 y1 q H ∧ MO g mo ua oa ga cd ab be x1 y1 U O q H ∧ va_at g.1 cl0 (oua g ou f) H
def LK (p : Program) (l : Launch) (e : Env) (s : State) (m : MethodId) (b : Nat) (below : List Frame) (meth : Method) (c : Code) (g : En) (o r mo ua oa ga ou : Nat) (Q : State → Prop) (n k pc : Nat) : Prop := ∀ (H : Heap) (ls : Array Slot), hxt s.heap H → LI g o r mo ua oa ga ou H → lv_has ls 8 [(4, .int (nI (6 * n))), (0, .ref b), (1, .ref o), (2, .ref mo), (3, .ref ou)] → W p l e room_1 s m #[Value.ref b] below meth c H [] (100 + 100 * k) (200 + 200 * k) Q (F0 m pc ls [])
def mkL (hi lo : Int32) : Int64 := (hi.toInt64 <<< ((nI 32).toInt64 &&& 63)) ||| (lo.toInt64 &&& lN 4294967295)
theorem mk3_23 {a s g : Bool} (h : nI (mk3 2 3 a s g) = 0) : a = true ∧ s = true ∧ g = true := by revert h; cases a <;> cases s <;> cases g <;> decide
theorem mk3_22 {a s g : Bool} (h : nI (mk3 2 2 a s g) = 0) : a = true ∧ s = true ∧ g = true := by revert h; cases a <;> cases s <;> cases g <;> decide
theorem mk3_21 {a s g : Bool} (h : nI (mk3 2 1 a s g) = 0) : a = true ∧ s = true ∧ g = true := by revert h; cases a <;> cases s <;> cases g <;> decide
theorem OK.out {x1 y1 x2 y2 : Nat} {q : Nat → Rat} (h : OK x1 y1 q) (hx : 1 ≤ x2 ∧ x2 ≤ 2000) (hy : 1 ≤ y2 ∧ y2 ≤ 2000) : OK x2 y2 q := ⟨hx, hy, h.2.2⟩
theorem OK.slo {x1 y1 k : Nat} {q : Nat → Rat} {z : Rat} (h : OK x1 y1 q) (hk : k < 4) (hz : bd z 20 20) (h0 : z ≠ 0) : OK x1 y1 (va_up q k z) := ⟨h.1, h.2.1, fun j hj => by
    by_cases e : j = k
    · subst e; rw [va_up_s]; exact hz
    · rw [va_up_n e]; exact h.2.2.1 j hj, k, hk, by rw [va_up_s]; exact h0⟩
theorem OK.gbl {x1 y1 k : Nat} {q : Nat → Rat} (h : OK x1 y1 q) (hk : k < 4) (ho : oth q k = true) : OK x1 y1 (va_up q k 0) := ⟨h.1, h.2.1, fun j hj => by
    by_cases e : j = k
    · subst e; rw [va_up_s]; exact (bd_nat 0).mono (by decide) (by decide)
    · rw [va_up_n e]; exact h.2.2.1 j hj, by
    have hx : ∃ j, j < 4 ∧ j ≠ k ∧ gab q j = false := by
      simp only [oth, Bool.or_eq_true, Bool.and_eq_true, Bool.not_eq_true', decide_eq_false_iff_not] at ho
      rcases ho with ((⟨a, b⟩ | ⟨a, b⟩) | ⟨a, b⟩) | ⟨a, b⟩
      · exact ⟨0, by decide, a, b⟩
      · exact ⟨1, by decide, a, b⟩
      · exact ⟨2, by decide, a, b⟩
      · exact ⟨3, by decide, a, b⟩
    obtain ⟨j, h1, h2, h3⟩ := hx
    exact ⟨j, h1, by rw [va_up_n h2]; exact of_decide_eq_false h3⟩⟩
theorem MR.slo {q : Nat → Rat} {U O : Nat → Nat} {k : Nat} {z : Rat} (h : MR q U O) : MR (va_up q k z) (va_up U k z.den) (va_up O k (nu z)) := fun j hj hg => by
  by_cases e : j = k
  · subst e; rw [va_up_s, va_up_s, va_up_s]; exact ⟨rfl, rfl⟩
  · rw [va_up_n e, va_up_n e, va_up_n e]; exact h j hj (by rw [gab, va_up_n e] at hg; exact hg)
theorem MR.gbl {q : Nat → Rat} {U O : Nat → Nat} {k : Nat} (h : MR q U O) : MR (va_up q k 0) U O := fun j hj hg => by
  by_cases e : j = k
  · subst e; rw [gab, va_up_s] at hg; exact absurd hg (by decide)
  · rw [va_up_n e]; exact h j hj (by rw [gab, va_up_n e] at hg; exact hg)
theorem AP.up {A : Nat → Nat} {mo ua oa ga ou k b : Nat} (h : AP A mo ua oa ga ou) (hb : b ≠ mo ∧ b ≠ ua ∧ b ≠ oa ∧ b ≠ ga ∧ b ≠ ou) : AP (va_up A k b) mo ua oa ga ou := fun j hj => by
  by_cases e : j = k
  · subst e; rw [va_up_s]; exact hb
  · rw [va_up_n e]; exact h j hj
theorem inL_b {v : Int64} {lo hi : Nat} (h : inL v lo hi = true) (hn : hi < 2 ^ 63) : lo ≤ toL v ∧ toL v ≤ hi := by
  obtain ⟨k, h1, h2, rfl⟩ := inL_of h hn
  rw [toL_k (by omega)]
  exact ⟨h1, h2⟩
theorem inI_b {i : Int32} {n : Nat} (h : inI i n = true) (hn : n < 2 ^ 31) : toN i < n := by
  obtain ⟨k, h1, rfl⟩ := inI_of h hn
  rw [toN_k (by omega)]
  exact h1
theorem bI_ne {b : Bool} (h : b = true) : bI b = nI 1 := by rw [h]; rfl
theorem bI_eq {b : Bool} (h : b = false) : bI b = nI 0 := by rw [h]; rfl
set_option maxHeartbeats 4000000 in
set_option maxRecDepth 100000 in
theorem law_place (p : Program) (l : Launch) (e : Env) (s : State) (m : MethodId) (b : Nat) (below : List Frame) (meth : Method) (c : Code) (g : En) (o r mo ua oa ga ou L n : Nat) (xs : Nat → Int32) (Q : State → Prop) (hl0 : l.stackTraces = false) (X : CX p s m #[Value.ref b] meth c yL_law cL_law 8 (some .boolean) g) (hE : EX s) (hV : va_X b L xs s s.heap) (hbl : b < s.heap.size) (hS : SP o r mo ua oa ga ou s.heap.size) (hn : 6 * n + 6 ≤ L) (hL : L ≤ 3072) (K : LK p l e s m b below meth c g o r mo ua oa ga ou Q n (n + 1) 1772) : LK p l e s m b below meth c g o r mo ua oa ga ou Q n n 473 := by
  intro H ls hX hI hl
  obtain ⟨A, x1, y1, q, U, O, cd, ab, be, f, hO, hD, hR, hA, hRP, hMO, hou⟩ := hI
  obtain ⟨hM, hSo, hSr, hSu, hSz⟩ := hS
  have hU : OD o r ou A := ⟨hSo.2.2.2.2, hSr.2.2.2.2, fun j hj => (hA j hj).2.2.2.2⟩
  refine lv_aload_n X.1 X.2.1 dL_law_473 rfl (lv_at hl 2 rfl) ?_
  refine lv_aload_n X.1 X.2.1 dL_law_474 rfl (lv_at hl 1 rfl) ?_
  refine lv_iload X.1 X.2.1 dL_law_475 (lv_at hl 0 rfl) ?_
  refine lv_iconst (v := nI 1) X.1 X.2.1 dL_law_477 (by decide) ?_
  refine lv_iadd X.1 X.2.1 dL_law_478 ?_
  refine w_i (nI_add _ _) ?_
  refine l_sld X hV hbl hX (k := (6 * n) + 1) (by omega) (by omega) dL_law_479 ?_
  refine lv_i2l X.1 X.2.1 dL_law_480 rfl ?_
  refine lv_bipush (v := nI 32) X.1 X.2.1 dL_law_481 (by decide) ?_
  refine lv_lshl X.1 X.2.1 dL_law_483 rfl ?_
  refine lv_aload_n X.1 X.2.1 dL_law_484 rfl (lv_at hl 1 rfl) ?_
  refine lv_iload X.1 X.2.1 dL_law_485 (lv_at hl 0 rfl) ?_
  refine lv_iconst (v := nI 2) X.1 X.2.1 dL_law_487 (by decide) ?_
  refine lv_iadd X.1 X.2.1 dL_law_488 ?_
  refine w_i (nI_add _ _) ?_
  refine l_sld X hV hbl hX (k := (6 * n) + 2) (by omega) (by omega) dL_law_489 ?_
  refine lv_i2l X.1 X.2.1 dL_law_490 rfl ?_
  refine lv_ldc2 (v := 4294967295) X.1 X.2.1 X.2.2.2.1 (X.2.2.2.2.1 _ (List.mem_cons_of_mem _ mw_628)) dL_law_491 ?_
  refine w_l (v' := lN 4294967295) (by decide) ?_
  refine lv_land X.1 X.2.1 dL_law_494 ?_
  refine lv_lor X.1 X.2.1 dL_law_495 ?_
  refine w_l (v' := mkL (xs ((6 * n) + 1)) (xs ((6 * n) + 2))) rfl ?_
  refine lv_aload_n X.1 X.2.1 dL_law_496 rfl (lv_at hl 1 rfl) ?_
  refine lv_iload X.1 X.2.1 dL_law_497 (lv_at hl 0 rfl) ?_
  refine lv_iconst (v := nI 3) X.1 X.2.1 dL_law_499 (by decide) ?_
  refine lv_iadd X.1 X.2.1 dL_law_500 ?_
  refine w_i (nI_add _ _) ?_
  refine l_sld X hV hbl hX (k := (6 * n) + 3) (by omega) (by omega) dL_law_501 ?_
  refine lv_i2l X.1 X.2.1 dL_law_502 rfl ?_
  refine lv_bipush (v := nI 32) X.1 X.2.1 dL_law_503 (by decide) ?_
  refine lv_lshl X.1 X.2.1 dL_law_505 rfl ?_
  refine lv_aload_n X.1 X.2.1 dL_law_506 rfl (lv_at hl 1 rfl) ?_
  refine lv_iload X.1 X.2.1 dL_law_507 (lv_at hl 0 rfl) ?_
  refine lv_iconst (v := nI 4) X.1 X.2.1 dL_law_509 (by decide) ?_
  refine lv_iadd X.1 X.2.1 dL_law_510 ?_
  refine w_i (nI_add _ _) ?_
  refine l_sld X hV hbl hX (k := (6 * n) + 4) (by omega) (by omega) dL_law_511 ?_
  refine lv_i2l X.1 X.2.1 dL_law_512 rfl ?_
  refine lv_ldc2 (v := 4294967295) X.1 X.2.1 X.2.2.2.1 (X.2.2.2.2.1 _ (List.mem_cons_of_mem _ mw_628)) dL_law_513 ?_
  refine w_l (v' := lN 4294967295) (by decide) ?_
  refine lv_land X.1 X.2.1 dL_law_516 ?_
  refine lv_lor X.1 X.2.1 dL_law_517 ?_
  refine w_l (v' := mkL (xs ((6 * n) + 3)) (xs ((6 * n) + 4))) rfl ?_
  refine lv_aload_n X.1 X.2.1 dL_law_518 rfl (lv_at hl 1 rfl) ?_
  refine lv_iload X.1 X.2.1 dL_law_519 (lv_at hl 0 rfl) ?_
  refine lv_iconst (v := nI 5) X.1 X.2.1 dL_law_521 (by decide) ?_
  refine lv_iadd X.1 X.2.1 dL_law_522 ?_
  refine w_i (nI_add _ _) ?_
  refine l_sld X hV hbl hX (k := (6 * n) + 5) (by omega) (by omega) dL_law_523 ?_
  refine lv_aload_n X.1 X.2.1 dL_law_524 rfl (lv_at hl 4 rfl) ?_
  refine g_callW (As := [.ref o, .long (mkL (xs ((6 * n) + 1)) (xs ((6 * n) + 2))), .long (mkL (xs ((6 * n) + 3)) (xs ((6 * n) + 4))), .int (xs ((6 * n) + 5)), .ref ou]) (rest := []) X hE (c_L_place l g o r A x1 y1 q ou f (mkL (xs ((6 * n) + 1)) (xs ((6 * n) + 2))) (mkL (xs ((6 * n) + 3)) (xs ((6 * n) + 4))) (xs ((6 * n) + 5)) hl0 hO hU) ⟨mw_240, mw_241, mw_37, mw_242⟩ sgL_place ⟨rfl, rfl, ⟨by decide, by decide⟩, (by show _ ≤ 797979; omega), (by show _ ≤ 6702166; omega)⟩ ⟨hRP, hou⟩ hX (fun q h => by rw [h]; exact hSz.2.2.2.2.2.2) rfl hl.1 rfl (Nat.le_of_ble_eq_true rfl) dL_law_525 (fun v H1 hk hp => ?_)
  obtain ⟨rfl, hRP, f1, hou, hv1⟩ := hp
  have hX := hX.trF hk (fun q h => by rw [h]; exact hSz.2.2.2.2.2.2)
  have hMO := MO.exf hMO hk ⟨hSu.1, hSu.2.1, hSu.2.2.1, hSu.2.2.2⟩
  skip
  refine W.eq (g2 := F0 m 528 ls [.int (nI (mk3 2 2 (inI (xs ((6 * n) + 5)) 2) (true) (inL (mkL (xs ((6 * n) + 1)) (xs ((6 * n) + 2))) 0 x1 && inL (mkL (xs ((6 * n) + 3)) (xs ((6 * n) + 4))) 0 y1)))]) rfl ?_
  refine lv_istore (lv' := [(5, .int (nI (mk3 2 2 (inI (xs ((6 * n) + 5)) 2) (true) (inL (mkL (xs ((6 * n) + 1)) (xs ((6 * n) + 2))) 0 x1 && inL (mkL (xs ((6 * n) + 3)) (xs ((6 * n) + 4))) 0 y1)))), (4, .int (nI (6 * n))), (0, .ref b), (1, .ref o), (2, .ref mo), (3, .ref ou)]) X.1 X.2.1 dL_law_528 hl (by decide) rfl (fun ls hl => ?_)
  refine lv_aload_n X.1 X.2.1 dL_law_530 rfl (lv_at hl 4 rfl) ?_
  refine lv_aload_n X.1 X.2.1 dL_law_531 rfl (lv_at hl 2 rfl) ?_
  refine lv_iload X.1 X.2.1 dL_law_532 (lv_at hl 1 rfl) ?_
  refine lv_iconst (v := nI 1) X.1 X.2.1 dL_law_534 (by decide) ?_
  refine lv_iadd X.1 X.2.1 dL_law_535 ?_
  refine w_i (nI_add _ _) ?_
  refine l_sld X hV hbl hX (k := (6 * n) + 1) (by omega) (by omega) dL_law_536 ?_
  refine lv_i2l X.1 X.2.1 dL_law_537 rfl ?_
  refine lv_bipush (v := nI 32) X.1 X.2.1 dL_law_538 (by decide) ?_
  refine lv_lshl X.1 X.2.1 dL_law_540 rfl ?_
  refine lv_aload_n X.1 X.2.1 dL_law_541 rfl (lv_at hl 2 rfl) ?_
  refine lv_iload X.1 X.2.1 dL_law_542 (lv_at hl 1 rfl) ?_
  refine lv_iconst (v := nI 2) X.1 X.2.1 dL_law_544 (by decide) ?_
  refine lv_iadd X.1 X.2.1 dL_law_545 ?_
  refine w_i (nI_add _ _) ?_
  refine l_sld X hV hbl hX (k := (6 * n) + 2) (by omega) (by omega) dL_law_546 ?_
  refine lv_i2l X.1 X.2.1 dL_law_547 rfl ?_
  refine lv_ldc2 (v := 4294967295) X.1 X.2.1 X.2.2.2.1 (X.2.2.2.2.1 _ (List.mem_cons_of_mem _ mw_628)) dL_law_548 ?_
  refine w_l (v' := lN 4294967295) (by decide) ?_
  refine lv_land X.1 X.2.1 dL_law_551 ?_
  refine lv_lor X.1 X.2.1 dL_law_552 ?_
  refine w_l (v' := mkL (xs ((6 * n) + 1)) (xs ((6 * n) + 2))) rfl ?_
  refine lv_aload_n X.1 X.2.1 dL_law_553 rfl (lv_at hl 2 rfl) ?_
  refine lv_iload X.1 X.2.1 dL_law_554 (lv_at hl 1 rfl) ?_
  refine lv_iconst (v := nI 3) X.1 X.2.1 dL_law_556 (by decide) ?_
  refine lv_iadd X.1 X.2.1 dL_law_557 ?_
  refine w_i (nI_add _ _) ?_
  refine l_sld X hV hbl hX (k := (6 * n) + 3) (by omega) (by omega) dL_law_558 ?_
  refine lv_i2l X.1 X.2.1 dL_law_559 rfl ?_
  refine lv_bipush (v := nI 32) X.1 X.2.1 dL_law_560 (by decide) ?_
  refine lv_lshl X.1 X.2.1 dL_law_562 rfl ?_
  refine lv_aload_n X.1 X.2.1 dL_law_563 rfl (lv_at hl 2 rfl) ?_
  refine lv_iload X.1 X.2.1 dL_law_564 (lv_at hl 1 rfl) ?_
  refine lv_iconst (v := nI 4) X.1 X.2.1 dL_law_566 (by decide) ?_
  refine lv_iadd X.1 X.2.1 dL_law_567 ?_
  refine w_i (nI_add _ _) ?_
  refine l_sld X hV hbl hX (k := (6 * n) + 4) (by omega) (by omega) dL_law_568 ?_
  refine lv_i2l X.1 X.2.1 dL_law_569 rfl ?_
  refine lv_ldc2 (v := 4294967295) X.1 X.2.1 X.2.2.2.1 (X.2.2.2.2.1 _ (List.mem_cons_of_mem _ mw_628)) dL_law_570 ?_
  refine w_l (v' := lN 4294967295) (by decide) ?_
  refine lv_land X.1 X.2.1 dL_law_573 ?_
  refine lv_lor X.1 X.2.1 dL_law_574 ?_
  refine w_l (v' := mkL (xs ((6 * n) + 3)) (xs ((6 * n) + 4))) rfl ?_
  refine lv_aload_n X.1 X.2.1 dL_law_575 rfl (lv_at hl 2 rfl) ?_
  refine lv_iload X.1 X.2.1 dL_law_576 (lv_at hl 1 rfl) ?_
  refine lv_iconst (v := nI 5) X.1 X.2.1 dL_law_578 (by decide) ?_
  refine lv_iadd X.1 X.2.1 dL_law_579 ?_
  refine w_i (nI_add _ _) ?_
  refine l_sld X hV hbl hX (k := (6 * n) + 5) (by omega) (by omega) dL_law_580 ?_
  refine g_callV (C := RX2) (b := mo) (As := [.long (mkL (xs ((6 * n) + 1)) (xs ((6 * n) + 2))), .long (mkL (xs ((6 * n) + 3)) (xs ((6 * n) + 4))), .int (xs ((6 * n) + 5))]) (rest := []) X (c_X2_place l g mo ua oa ga cd ab be x1 y1 U O q (mkL (xs ((6 * n) + 1)) (xs ((6 * n) + 2))) (mkL (xs ((6 * n) + 3)) (xs ((6 * n) + 4))) (xs ((6 * n) + 5)) hO hR hM) ⟨mw_516, mw_517, mw_518, mw_40, mw_519⟩ sgX2_place ⟨rfl, rfl, ⟨by decide, by decide⟩, (by show _ ≤ 797979; omega), (by show _ ≤ 6702166; omega)⟩ (hMO.at 0 rfl) rfl rfl hMO hX (fun q h => by rw [h]; exact hSz.2.2.1) rfl hl.1 rfl (Nat.le_of_ble_eq_true rfl) dL_law_581 (fun v H2 hk2 hp2 => ?_)
  obtain ⟨⟨n9, ab1, be1, rfl, hMO⟩, w9, rfl, hw9⟩ := hp2
  have hX := hX.trF hk2 (fun q h => by rw [h]; exact hSz.2.2.1)
  have hRP := RP.exf hRP hk2 ⟨hSo.1, hSr.1⟩ (fun j hj => (hA j hj).1)
  have hou := at_exf hou hk2 hSu.1.symm
  refine W.eq (g2 := F0 m 584 ls [.long w9]) rfl ?_
  refine lv_lstore (lv' := [(6, .long w9), (5, .int (nI (mk3 2 2 (inI (xs ((6 * n) + 5)) 2) (true) (inL (mkL (xs ((6 * n) + 1)) (xs ((6 * n) + 2))) 0 x1 && inL (mkL (xs ((6 * n) + 3)) (xs ((6 * n) + 4))) 0 y1)))), (4, .int (nI (6 * n))), (0, .ref b), (1, .ref o), (2, .ref mo), (3, .ref ou)]) X.1 X.2.1 dL_law_584 hl (by decide) rfl (fun ls hl => ?_)
  refine lv_aload_n X.1 X.2.1 dL_law_586 rfl (lv_at hl 5 rfl) ?_
  refine p_callV (C := RX2) (b := mo) (As := []) (rest := []) X (c_X2_thrown l g mo ua oa ga (nI (mk3 2 2 (inI (xs ((6 * n) + 5)) 2) (true) (inL (mkL (xs ((6 * n) + 1)) (xs ((6 * n) + 2))) 0 x1 && inL (mkL (xs ((6 * n) + 3)) (xs ((6 * n) + 4))) 0 y1))) _ _ x1 y1 U O q) ⟨mw_491, mw_492, mw_493, mw_40, mw_494⟩ sgX2_thrown ⟨rfl, rfl, ⟨by decide, by decide⟩, (by show _ ≤ 797979; omega), (by show _ ≤ 6702166; omega)⟩ (hMO.at 0 rfl) rfl rfl hMO hX.1 rfl hl.1 rfl (Nat.le_of_ble_eq_true rfl) dL_law_587 (fun v H3 hk3 hp3 => ?_)
  obtain rfl := hp3
  have hX := hX.tr hk3
  have hMO := PP.ext hMO hk3
  have hRP := RP.ext hRP hk3
  have hou := (PP.ext (PP.one hou) hk3) 0 _ rfl
  refine W.eq (g2 := F0 m 590 ls [.int (nI (mk3 2 2 (inI (xs ((6 * n) + 5)) 2) (true) (inL (mkL (xs ((6 * n) + 1)) (xs ((6 * n) + 2))) 0 x1 && inL (mkL (xs ((6 * n) + 3)) (xs ((6 * n) + 4))) 0 y1)))]) rfl ?_
  refine lv_iload X.1 X.2.1 dL_law_590 (lv_at hl 1 rfl) ?_
  refine lv_icmp_eq (tgt := 597) X.1 X.2.1 dL_law_592 (by decide) (fun _ => ?_) (fun h9 => absurd rfl h9)
  refine lv_iload X.1 X.2.1 dL_law_597 (lv_at hl 1 rfl) ?_
  refine lv_if_ne (tgt := 613) X.1 X.2.1 dL_law_599 (by decide) (fun h9 => ?_) (fun h9 => ?_)
  ·
    refine lv_goto (tgt := 1772) X.1 X.2.1 dL_law_613 (by decide) ?_
    exact W.widen (by omega) (by omega) (K _ ls hX ⟨A, x1, y1, q, U, O, _, _, _, _, hO, hD, hR, hA, hRP, hMO, hou⟩ (lv_sub hl [2, 3, 4, 5, 6] rfl))
  ·
    obtain ⟨t1, t2, t3⟩ := mk3_22 h9
    have hv1 := hv1 t1 t2 t3
    have hw9 := hw9 t1 t2 t3
    refine lv_aload_n X.1 X.2.1 dL_law_602 rfl (lv_at hl 6 rfl) ?_
    refine lv_iconst (v := nI 0) X.1 X.2.1 dL_law_603 (by decide) ?_
    refine f_lald X hou (k := 0) (by decide) (by decide) dL_law_604 ?_
    refine lv_lload X.1 X.2.1 dL_law_605 (lv_at hl 0 rfl) ?_
    refine q_leq X (tgt := 613) dL_law_607 dL_law_608 (by decide) (fun _ => ?_) (fun h8 => absurd (by rw [hv1, hw9]) h8)
    refine lv_goto (tgt := 1772) X.1 X.2.1 dL_law_613 (by decide) ?_
    exact W.widen (by omega) (by omega) (K _ ls hX ⟨A, x1, y1, q, U, O, _, _, _, _, hO, hD, hR, hA, hRP, hMO, hou⟩ (lv_sub hl [2, 3, 4, 5, 6] rfl))
set_option maxHeartbeats 4000000 in
set_option maxRecDepth 100000 in
theorem law_face (p : Program) (l : Launch) (e : Env) (s : State) (m : MethodId) (b : Nat) (below : List Frame) (meth : Method) (c : Code) (g : En) (o r mo ua oa ga ou L n : Nat) (xs : Nat → Int32) (Q : State → Prop) (hl0 : l.stackTraces = false) (X : CX p s m #[Value.ref b] meth c yL_law cL_law 8 (some .boolean) g) (hE : EX s) (hV : va_X b L xs s s.heap) (hbl : b < s.heap.size) (hS : SP o r mo ua oa ga ou s.heap.size) (hn : 6 * n + 6 ≤ L) (hL : L ≤ 3072) (K : LK p l e s m b below meth c g o r mo ua oa ga ou Q n (n + 1) 1772) : LK p l e s m b below meth c g o r mo ua oa ga ou Q n n 616 := by
  intro H ls hX hI hl
  obtain ⟨A, x1, y1, q, U, O, cd, ab, be, f, hO, hD, hR, hA, hRP, hMO, hou⟩ := hI
  obtain ⟨hM, hSo, hSr, hSu, hSz⟩ := hS
  have hU : OD o r ou A := ⟨hSo.2.2.2.2, hSr.2.2.2.2, fun j hj => (hA j hj).2.2.2.2⟩
  refine lv_aload_n X.1 X.2.1 dL_law_616 rfl (lv_at hl 2 rfl) ?_
  refine lv_aload_n X.1 X.2.1 dL_law_617 rfl (lv_at hl 1 rfl) ?_
  refine lv_iload X.1 X.2.1 dL_law_618 (lv_at hl 0 rfl) ?_
  refine lv_iconst (v := nI 1) X.1 X.2.1 dL_law_620 (by decide) ?_
  refine lv_iadd X.1 X.2.1 dL_law_621 ?_
  refine w_i (nI_add _ _) ?_
  refine l_sld X hV hbl hX (k := (6 * n) + 1) (by omega) (by omega) dL_law_622 ?_
  refine lv_i2l X.1 X.2.1 dL_law_623 rfl ?_
  refine lv_bipush (v := nI 32) X.1 X.2.1 dL_law_624 (by decide) ?_
  refine lv_lshl X.1 X.2.1 dL_law_626 rfl ?_
  refine lv_aload_n X.1 X.2.1 dL_law_627 rfl (lv_at hl 1 rfl) ?_
  refine lv_iload X.1 X.2.1 dL_law_628 (lv_at hl 0 rfl) ?_
  refine lv_iconst (v := nI 2) X.1 X.2.1 dL_law_630 (by decide) ?_
  refine lv_iadd X.1 X.2.1 dL_law_631 ?_
  refine w_i (nI_add _ _) ?_
  refine l_sld X hV hbl hX (k := (6 * n) + 2) (by omega) (by omega) dL_law_632 ?_
  refine lv_i2l X.1 X.2.1 dL_law_633 rfl ?_
  refine lv_ldc2 (v := 4294967295) X.1 X.2.1 X.2.2.2.1 (X.2.2.2.2.1 _ (List.mem_cons_of_mem _ mw_628)) dL_law_634 ?_
  refine w_l (v' := lN 4294967295) (by decide) ?_
  refine lv_land X.1 X.2.1 dL_law_637 ?_
  refine lv_lor X.1 X.2.1 dL_law_638 ?_
  refine w_l (v' := mkL (xs ((6 * n) + 1)) (xs ((6 * n) + 2))) rfl ?_
  refine lv_aload_n X.1 X.2.1 dL_law_639 rfl (lv_at hl 1 rfl) ?_
  refine lv_iload X.1 X.2.1 dL_law_640 (lv_at hl 0 rfl) ?_
  refine lv_iconst (v := nI 3) X.1 X.2.1 dL_law_642 (by decide) ?_
  refine lv_iadd X.1 X.2.1 dL_law_643 ?_
  refine w_i (nI_add _ _) ?_
  refine l_sld X hV hbl hX (k := (6 * n) + 3) (by omega) (by omega) dL_law_644 ?_
  refine lv_i2l X.1 X.2.1 dL_law_645 rfl ?_
  refine lv_bipush (v := nI 32) X.1 X.2.1 dL_law_646 (by decide) ?_
  refine lv_lshl X.1 X.2.1 dL_law_648 rfl ?_
  refine lv_aload_n X.1 X.2.1 dL_law_649 rfl (lv_at hl 1 rfl) ?_
  refine lv_iload X.1 X.2.1 dL_law_650 (lv_at hl 0 rfl) ?_
  refine lv_iconst (v := nI 4) X.1 X.2.1 dL_law_652 (by decide) ?_
  refine lv_iadd X.1 X.2.1 dL_law_653 ?_
  refine w_i (nI_add _ _) ?_
  refine l_sld X hV hbl hX (k := (6 * n) + 4) (by omega) (by omega) dL_law_654 ?_
  refine lv_i2l X.1 X.2.1 dL_law_655 rfl ?_
  refine lv_ldc2 (v := 4294967295) X.1 X.2.1 X.2.2.2.1 (X.2.2.2.2.1 _ (List.mem_cons_of_mem _ mw_628)) dL_law_656 ?_
  refine w_l (v' := lN 4294967295) (by decide) ?_
  refine lv_land X.1 X.2.1 dL_law_659 ?_
  refine lv_lor X.1 X.2.1 dL_law_660 ?_
  refine w_l (v' := mkL (xs ((6 * n) + 3)) (xs ((6 * n) + 4))) rfl ?_
  refine lv_aload_n X.1 X.2.1 dL_law_661 rfl (lv_at hl 4 rfl) ?_
  refine g_callW (As := [.ref o, .long (mkL (xs ((6 * n) + 1)) (xs ((6 * n) + 2))), .long (mkL (xs ((6 * n) + 3)) (xs ((6 * n) + 4))), .ref ou]) (rest := []) X hE (c_L_face l g o r A x1 y1 q ou f (mkL (xs ((6 * n) + 1)) (xs ((6 * n) + 2))) (mkL (xs ((6 * n) + 3)) (xs ((6 * n) + 4))) hl0 hO hU) ⟨mw_275, mw_276, mw_37, mw_277⟩ sgL_face ⟨rfl, rfl, ⟨by decide, by decide⟩, (by show _ ≤ 797979; omega), (by show _ ≤ 6702166; omega)⟩ ⟨hRP, hou⟩ hX (fun q h => by rw [h]; exact hSz.2.2.2.2.2.2) rfl hl.1 rfl (Nat.le_of_ble_eq_true rfl) dL_law_662 (fun v H1 hk hp => ?_)
  obtain ⟨rfl, hRP, f1, hou, hv1⟩ := hp
  have hX := hX.trF hk (fun q h => by rw [h]; exact hSz.2.2.2.2.2.2)
  have hMO := MO.exf hMO hk ⟨hSu.1, hSu.2.1, hSu.2.2.1, hSu.2.2.2⟩
  skip
  refine W.eq (g2 := F0 m 665 ls [.int (nI (mk3 2 1 (true) (true) (inL (mkL (xs ((6 * n) + 1)) (xs ((6 * n) + 2))) 0 x1 && inL (mkL (xs ((6 * n) + 3)) (xs ((6 * n) + 4))) 0 y1)))]) rfl ?_
  refine lv_istore (lv' := [(5, .int (nI (mk3 2 1 (true) (true) (inL (mkL (xs ((6 * n) + 1)) (xs ((6 * n) + 2))) 0 x1 && inL (mkL (xs ((6 * n) + 3)) (xs ((6 * n) + 4))) 0 y1)))), (4, .int (nI (6 * n))), (0, .ref b), (1, .ref o), (2, .ref mo), (3, .ref ou)]) X.1 X.2.1 dL_law_665 hl (by decide) rfl (fun ls hl => ?_)
  refine lv_aload_n X.1 X.2.1 dL_law_667 rfl (lv_at hl 4 rfl) ?_
  refine lv_aload_n X.1 X.2.1 dL_law_668 rfl (lv_at hl 2 rfl) ?_
  refine lv_iload X.1 X.2.1 dL_law_669 (lv_at hl 1 rfl) ?_
  refine lv_iconst (v := nI 1) X.1 X.2.1 dL_law_671 (by decide) ?_
  refine lv_iadd X.1 X.2.1 dL_law_672 ?_
  refine w_i (nI_add _ _) ?_
  refine l_sld X hV hbl hX (k := (6 * n) + 1) (by omega) (by omega) dL_law_673 ?_
  refine lv_i2l X.1 X.2.1 dL_law_674 rfl ?_
  refine lv_bipush (v := nI 32) X.1 X.2.1 dL_law_675 (by decide) ?_
  refine lv_lshl X.1 X.2.1 dL_law_677 rfl ?_
  refine lv_aload_n X.1 X.2.1 dL_law_678 rfl (lv_at hl 2 rfl) ?_
  refine lv_iload X.1 X.2.1 dL_law_679 (lv_at hl 1 rfl) ?_
  refine lv_iconst (v := nI 2) X.1 X.2.1 dL_law_681 (by decide) ?_
  refine lv_iadd X.1 X.2.1 dL_law_682 ?_
  refine w_i (nI_add _ _) ?_
  refine l_sld X hV hbl hX (k := (6 * n) + 2) (by omega) (by omega) dL_law_683 ?_
  refine lv_i2l X.1 X.2.1 dL_law_684 rfl ?_
  refine lv_ldc2 (v := 4294967295) X.1 X.2.1 X.2.2.2.1 (X.2.2.2.2.1 _ (List.mem_cons_of_mem _ mw_628)) dL_law_685 ?_
  refine w_l (v' := lN 4294967295) (by decide) ?_
  refine lv_land X.1 X.2.1 dL_law_688 ?_
  refine lv_lor X.1 X.2.1 dL_law_689 ?_
  refine w_l (v' := mkL (xs ((6 * n) + 1)) (xs ((6 * n) + 2))) rfl ?_
  refine lv_aload_n X.1 X.2.1 dL_law_690 rfl (lv_at hl 2 rfl) ?_
  refine lv_iload X.1 X.2.1 dL_law_691 (lv_at hl 1 rfl) ?_
  refine lv_iconst (v := nI 3) X.1 X.2.1 dL_law_693 (by decide) ?_
  refine lv_iadd X.1 X.2.1 dL_law_694 ?_
  refine w_i (nI_add _ _) ?_
  refine l_sld X hV hbl hX (k := (6 * n) + 3) (by omega) (by omega) dL_law_695 ?_
  refine lv_i2l X.1 X.2.1 dL_law_696 rfl ?_
  refine lv_bipush (v := nI 32) X.1 X.2.1 dL_law_697 (by decide) ?_
  refine lv_lshl X.1 X.2.1 dL_law_699 rfl ?_
  refine lv_aload_n X.1 X.2.1 dL_law_700 rfl (lv_at hl 2 rfl) ?_
  refine lv_iload X.1 X.2.1 dL_law_701 (lv_at hl 1 rfl) ?_
  refine lv_iconst (v := nI 4) X.1 X.2.1 dL_law_703 (by decide) ?_
  refine lv_iadd X.1 X.2.1 dL_law_704 ?_
  refine w_i (nI_add _ _) ?_
  refine l_sld X hV hbl hX (k := (6 * n) + 4) (by omega) (by omega) dL_law_705 ?_
  refine lv_i2l X.1 X.2.1 dL_law_706 rfl ?_
  refine lv_ldc2 (v := 4294967295) X.1 X.2.1 X.2.2.2.1 (X.2.2.2.2.1 _ (List.mem_cons_of_mem _ mw_628)) dL_law_707 ?_
  refine w_l (v' := lN 4294967295) (by decide) ?_
  refine lv_land X.1 X.2.1 dL_law_710 ?_
  refine lv_lor X.1 X.2.1 dL_law_711 ?_
  refine w_l (v' := mkL (xs ((6 * n) + 3)) (xs ((6 * n) + 4))) rfl ?_
  refine g_callV (C := RX2) (b := mo) (As := [.long (mkL (xs ((6 * n) + 1)) (xs ((6 * n) + 2))), .long (mkL (xs ((6 * n) + 3)) (xs ((6 * n) + 4)))]) (rest := []) X (c_X2_face l g mo ua oa ga cd ab be x1 y1 U O q (mkL (xs ((6 * n) + 1)) (xs ((6 * n) + 2))) (mkL (xs ((6 * n) + 3)) (xs ((6 * n) + 4))) hO hR hM) ⟨mw_536, mw_537, mw_538, mw_40, mw_539⟩ sgX2_face ⟨rfl, rfl, ⟨by decide, by decide⟩, (by show _ ≤ 797979; omega), (by show _ ≤ 6702166; omega)⟩ (hMO.at 0 rfl) rfl rfl hMO hX (fun q h => by rw [h]; exact hSz.2.2.1) rfl hl.1 rfl (Nat.le_of_ble_eq_true rfl) dL_law_712 (fun v H2 hk2 hp2 => ?_)
  obtain ⟨⟨n9, ab1, be1, rfl, hMO⟩, w9, rfl, hw9⟩ := hp2
  have hX := hX.trF hk2 (fun q h => by rw [h]; exact hSz.2.2.1)
  have hRP := RP.exf hRP hk2 ⟨hSo.1, hSr.1⟩ (fun j hj => (hA j hj).1)
  have hou := at_exf hou hk2 hSu.1.symm
  refine W.eq (g2 := F0 m 715 ls [.int w9]) rfl ?_
  refine lv_istore (lv' := [(6, .int w9), (5, .int (nI (mk3 2 1 (true) (true) (inL (mkL (xs ((6 * n) + 1)) (xs ((6 * n) + 2))) 0 x1 && inL (mkL (xs ((6 * n) + 3)) (xs ((6 * n) + 4))) 0 y1)))), (4, .int (nI (6 * n))), (0, .ref b), (1, .ref o), (2, .ref mo), (3, .ref ou)]) X.1 X.2.1 dL_law_715 hl (by decide) rfl (fun ls hl => ?_)
  refine lv_aload_n X.1 X.2.1 dL_law_717 rfl (lv_at hl 5 rfl) ?_
  refine p_callV (C := RX2) (b := mo) (As := []) (rest := []) X (c_X2_thrown l g mo ua oa ga (nI (mk3 2 1 (true) (true) (inL (mkL (xs ((6 * n) + 1)) (xs ((6 * n) + 2))) 0 x1 && inL (mkL (xs ((6 * n) + 3)) (xs ((6 * n) + 4))) 0 y1))) _ _ x1 y1 U O q) ⟨mw_491, mw_492, mw_493, mw_40, mw_494⟩ sgX2_thrown ⟨rfl, rfl, ⟨by decide, by decide⟩, (by show _ ≤ 797979; omega), (by show _ ≤ 6702166; omega)⟩ (hMO.at 0 rfl) rfl rfl hMO hX.1 rfl hl.1 rfl (Nat.le_of_ble_eq_true rfl) dL_law_718 (fun v H3 hk3 hp3 => ?_)
  obtain rfl := hp3
  have hX := hX.tr hk3
  have hMO := PP.ext hMO hk3
  have hRP := RP.ext hRP hk3
  have hou := (PP.ext (PP.one hou) hk3) 0 _ rfl
  refine W.eq (g2 := F0 m 721 ls [.int (nI (mk3 2 1 (true) (true) (inL (mkL (xs ((6 * n) + 1)) (xs ((6 * n) + 2))) 0 x1 && inL (mkL (xs ((6 * n) + 3)) (xs ((6 * n) + 4))) 0 y1)))]) rfl ?_
  refine lv_iload X.1 X.2.1 dL_law_721 (lv_at hl 1 rfl) ?_
  refine lv_icmp_eq (tgt := 728) X.1 X.2.1 dL_law_723 (by decide) (fun _ => ?_) (fun h9 => absurd rfl h9)
  refine lv_iload X.1 X.2.1 dL_law_728 (lv_at hl 1 rfl) ?_
  refine lv_if_ne (tgt := 745) X.1 X.2.1 dL_law_730 (by decide) (fun h9 => ?_) (fun h9 => ?_)
  ·
    refine lv_goto (tgt := 1772) X.1 X.2.1 dL_law_745 (by decide) ?_
    exact W.widen (by omega) (by omega) (K _ ls hX ⟨A, x1, y1, q, U, O, _, _, _, _, hO, hD, hR, hA, hRP, hMO, hou⟩ (lv_sub hl [2, 3, 4, 5, 6] rfl))
  ·
    obtain ⟨t1, t2, t3⟩ := mk3_21 h9
    have hv1 := hv1 t1 t2 t3
    have hw9 := hw9 t1 t2 t3
    refine lv_aload_n X.1 X.2.1 dL_law_733 rfl (lv_at hl 6 rfl) ?_
    refine lv_iconst (v := nI 0) X.1 X.2.1 dL_law_734 (by decide) ?_
    refine f_lald X hou (k := 0) (by decide) (by decide) dL_law_735 ?_
    refine lv_iload X.1 X.2.1 dL_law_736 (lv_at hl 0 rfl) ?_
    refine lv_i2l X.1 X.2.1 dL_law_738 rfl ?_
    refine q_leq X (tgt := 745) dL_law_739 dL_law_740 (by decide) (fun _ => ?_) (fun h8 => absurd (by rw [hv1, hw9]) h8)
    refine lv_goto (tgt := 1772) X.1 X.2.1 dL_law_745 (by decide) ?_
    exact W.widen (by omega) (by omega) (K _ ls hX ⟨A, x1, y1, q, U, O, _, _, _, _, hO, hD, hR, hA, hRP, hMO, hou⟩ (lv_sub hl [2, 3, 4, 5, 6] rfl))
set_option maxHeartbeats 4000000 in
set_option maxRecDepth 100000 in
theorem law_rafter (p : Program) (l : Launch) (e : Env) (s : State) (m : MethodId) (b : Nat) (below : List Frame) (meth : Method) (c : Code) (g : En) (o r mo ua oa ga ou L n : Nat) (xs : Nat → Int32) (Q : State → Prop) (hl0 : l.stackTraces = false) (X : CX p s m #[Value.ref b] meth c yL_law cL_law 8 (some .boolean) g) (hE : EX s) (hV : va_X b L xs s s.heap) (hbl : b < s.heap.size) (hS : SP o r mo ua oa ga ou s.heap.size) (hn : 6 * n + 6 ≤ L) (hL : L ≤ 3072) (K : LK p l e s m b below meth c g o r mo ua oa ga ou Q n (n + 1) 1772) : LK p l e s m b below meth c g o r mo ua oa ga ou Q n n 748 := by
  intro H ls hX hI hl
  obtain ⟨A, x1, y1, q, U, O, cd, ab, be, f, hO, hD, hR, hA, hRP, hMO, hou⟩ := hI
  obtain ⟨hM, hSo, hSr, hSu, hSz⟩ := hS
  have hU : OD o r ou A := ⟨hSo.2.2.2.2, hSr.2.2.2.2, fun j hj => (hA j hj).2.2.2.2⟩
  refine lv_aload_n X.1 X.2.1 dL_law_748 rfl (lv_at hl 2 rfl) ?_
  refine lv_aload_n X.1 X.2.1 dL_law_749 rfl (lv_at hl 1 rfl) ?_
  refine lv_iload X.1 X.2.1 dL_law_750 (lv_at hl 0 rfl) ?_
  refine lv_iconst (v := nI 1) X.1 X.2.1 dL_law_752 (by decide) ?_
  refine lv_iadd X.1 X.2.1 dL_law_753 ?_
  refine w_i (nI_add _ _) ?_
  refine l_sld X hV hbl hX (k := (6 * n) + 1) (by omega) (by omega) dL_law_754 ?_
  refine lv_aload_n X.1 X.2.1 dL_law_755 rfl (lv_at hl 1 rfl) ?_
  refine lv_iload X.1 X.2.1 dL_law_756 (lv_at hl 0 rfl) ?_
  refine lv_iconst (v := nI 2) X.1 X.2.1 dL_law_758 (by decide) ?_
  refine lv_iadd X.1 X.2.1 dL_law_759 ?_
  refine w_i (nI_add _ _) ?_
  refine l_sld X hV hbl hX (k := (6 * n) + 2) (by omega) (by omega) dL_law_760 ?_
  refine lv_i2l X.1 X.2.1 dL_law_761 rfl ?_
  refine lv_bipush (v := nI 32) X.1 X.2.1 dL_law_762 (by decide) ?_
  refine lv_lshl X.1 X.2.1 dL_law_764 rfl ?_
  refine lv_aload_n X.1 X.2.1 dL_law_765 rfl (lv_at hl 1 rfl) ?_
  refine lv_iload X.1 X.2.1 dL_law_766 (lv_at hl 0 rfl) ?_
  refine lv_iconst (v := nI 3) X.1 X.2.1 dL_law_768 (by decide) ?_
  refine lv_iadd X.1 X.2.1 dL_law_769 ?_
  refine w_i (nI_add _ _) ?_
  refine l_sld X hV hbl hX (k := (6 * n) + 3) (by omega) (by omega) dL_law_770 ?_
  refine lv_i2l X.1 X.2.1 dL_law_771 rfl ?_
  refine lv_ldc2 (v := 4294967295) X.1 X.2.1 X.2.2.2.1 (X.2.2.2.2.1 _ (List.mem_cons_of_mem _ mw_628)) dL_law_772 ?_
  refine w_l (v' := lN 4294967295) (by decide) ?_
  refine lv_land X.1 X.2.1 dL_law_775 ?_
  refine lv_lor X.1 X.2.1 dL_law_776 ?_
  refine w_l (v' := mkL (xs ((6 * n) + 2)) (xs ((6 * n) + 3))) rfl ?_
  refine lv_aload_n X.1 X.2.1 dL_law_777 rfl (lv_at hl 4 rfl) ?_
  refine g_callW (As := [.ref o, .int (xs ((6 * n) + 1)), .long (mkL (xs ((6 * n) + 2)) (xs ((6 * n) + 3))), .ref ou]) (rest := []) X hE (c_L_rafter l g o r A x1 y1 q ou f (xs ((6 * n) + 1)) (mkL (xs ((6 * n) + 2)) (xs ((6 * n) + 3))) hl0 hO hU) ⟨mw_282, mw_283, mw_37, mw_284⟩ sgL_rafter ⟨rfl, rfl, ⟨by decide, by decide⟩, (by show _ ≤ 797979; omega), (by show _ ≤ 6702166; omega)⟩ ⟨hRP, hou⟩ hX (fun q h => by rw [h]; exact hSz.2.2.2.2.2.2) rfl hl.1 rfl (Nat.le_of_ble_eq_true rfl) dL_law_778 (fun v H1 hk hp => ?_)
  obtain ⟨rfl, hRP, f1, hou, hv1⟩ := hp
  have hX := hX.trF hk (fun q h => by rw [h]; exact hSz.2.2.2.2.2.2)
  have hMO := MO.exf hMO hk ⟨hSu.1, hSu.2.1, hSu.2.2.1, hSu.2.2.2⟩
  skip
  refine W.eq (g2 := F0 m 781 ls [.int (nI (mk3 2 3 (inI (xs ((6 * n) + 1)) 4) (!gab q (toN (xs ((6 * n) + 1)))) (inL (mkL (xs ((6 * n) + 2)) (xs ((6 * n) + 3))) 1 10000)))]) rfl ?_
  refine lv_istore (lv' := [(5, .int (nI (mk3 2 3 (inI (xs ((6 * n) + 1)) 4) (!gab q (toN (xs ((6 * n) + 1)))) (inL (mkL (xs ((6 * n) + 2)) (xs ((6 * n) + 3))) 1 10000)))), (4, .int (nI (6 * n))), (0, .ref b), (1, .ref o), (2, .ref mo), (3, .ref ou)]) X.1 X.2.1 dL_law_781 hl (by decide) rfl (fun ls hl => ?_)
  refine lv_aload_n X.1 X.2.1 dL_law_783 rfl (lv_at hl 4 rfl) ?_
  refine lv_aload_n X.1 X.2.1 dL_law_784 rfl (lv_at hl 2 rfl) ?_
  refine lv_iload X.1 X.2.1 dL_law_785 (lv_at hl 1 rfl) ?_
  refine lv_iconst (v := nI 1) X.1 X.2.1 dL_law_787 (by decide) ?_
  refine lv_iadd X.1 X.2.1 dL_law_788 ?_
  refine w_i (nI_add _ _) ?_
  refine l_sld X hV hbl hX (k := (6 * n) + 1) (by omega) (by omega) dL_law_789 ?_
  refine lv_aload_n X.1 X.2.1 dL_law_790 rfl (lv_at hl 2 rfl) ?_
  refine lv_iload X.1 X.2.1 dL_law_791 (lv_at hl 1 rfl) ?_
  refine lv_iconst (v := nI 2) X.1 X.2.1 dL_law_793 (by decide) ?_
  refine lv_iadd X.1 X.2.1 dL_law_794 ?_
  refine w_i (nI_add _ _) ?_
  refine l_sld X hV hbl hX (k := (6 * n) + 2) (by omega) (by omega) dL_law_795 ?_
  refine lv_i2l X.1 X.2.1 dL_law_796 rfl ?_
  refine lv_bipush (v := nI 32) X.1 X.2.1 dL_law_797 (by decide) ?_
  refine lv_lshl X.1 X.2.1 dL_law_799 rfl ?_
  refine lv_aload_n X.1 X.2.1 dL_law_800 rfl (lv_at hl 2 rfl) ?_
  refine lv_iload X.1 X.2.1 dL_law_801 (lv_at hl 1 rfl) ?_
  refine lv_iconst (v := nI 3) X.1 X.2.1 dL_law_803 (by decide) ?_
  refine lv_iadd X.1 X.2.1 dL_law_804 ?_
  refine w_i (nI_add _ _) ?_
  refine l_sld X hV hbl hX (k := (6 * n) + 3) (by omega) (by omega) dL_law_805 ?_
  refine lv_i2l X.1 X.2.1 dL_law_806 rfl ?_
  refine lv_ldc2 (v := 4294967295) X.1 X.2.1 X.2.2.2.1 (X.2.2.2.2.1 _ (List.mem_cons_of_mem _ mw_628)) dL_law_807 ?_
  refine w_l (v' := lN 4294967295) (by decide) ?_
  refine lv_land X.1 X.2.1 dL_law_810 ?_
  refine lv_lor X.1 X.2.1 dL_law_811 ?_
  refine w_l (v' := mkL (xs ((6 * n) + 2)) (xs ((6 * n) + 3))) rfl ?_
  refine g_callV (C := RX2) (b := mo) (As := [.int (xs ((6 * n) + 1)), .long (mkL (xs ((6 * n) + 2)) (xs ((6 * n) + 3)))]) (rest := []) X (c_X2_rafter l g mo ua oa ga cd ab be x1 y1 U O q (xs ((6 * n) + 1)) (mkL (xs ((6 * n) + 2)) (xs ((6 * n) + 3))) hO hR hM) ⟨mw_540, mw_541, mw_542, mw_40, mw_543⟩ sgX2_rafter ⟨rfl, rfl, ⟨by decide, by decide⟩, (by show _ ≤ 797979; omega), (by show _ ≤ 6702166; omega)⟩ (hMO.at 0 rfl) rfl rfl hMO hX (fun q h => by rw [h]; exact hSz.2.2.1) rfl hl.1 rfl (Nat.le_of_ble_eq_true rfl) dL_law_812 (fun v H2 hk2 hp2 => ?_)
  obtain ⟨⟨n9, ab1, be1, rfl, hMO⟩, w9, rfl, hw9⟩ := hp2
  have hX := hX.trF hk2 (fun q h => by rw [h]; exact hSz.2.2.1)
  have hRP := RP.exf hRP hk2 ⟨hSo.1, hSr.1⟩ (fun j hj => (hA j hj).1)
  have hou := at_exf hou hk2 hSu.1.symm
  refine W.eq (g2 := F0 m 815 ls [.int w9]) rfl ?_
  refine lv_istore (lv' := [(6, .int w9), (5, .int (nI (mk3 2 3 (inI (xs ((6 * n) + 1)) 4) (!gab q (toN (xs ((6 * n) + 1)))) (inL (mkL (xs ((6 * n) + 2)) (xs ((6 * n) + 3))) 1 10000)))), (4, .int (nI (6 * n))), (0, .ref b), (1, .ref o), (2, .ref mo), (3, .ref ou)]) X.1 X.2.1 dL_law_815 hl (by decide) rfl (fun ls hl => ?_)
  refine lv_aload_n X.1 X.2.1 dL_law_817 rfl (lv_at hl 5 rfl) ?_
  refine p_callV (C := RX2) (b := mo) (As := []) (rest := []) X (c_X2_thrown l g mo ua oa ga (nI (mk3 2 3 (inI (xs ((6 * n) + 1)) 4) (!gab q (toN (xs ((6 * n) + 1)))) (inL (mkL (xs ((6 * n) + 2)) (xs ((6 * n) + 3))) 1 10000))) _ _ x1 y1 U O q) ⟨mw_491, mw_492, mw_493, mw_40, mw_494⟩ sgX2_thrown ⟨rfl, rfl, ⟨by decide, by decide⟩, (by show _ ≤ 797979; omega), (by show _ ≤ 6702166; omega)⟩ (hMO.at 0 rfl) rfl rfl hMO hX.1 rfl hl.1 rfl (Nat.le_of_ble_eq_true rfl) dL_law_818 (fun v H3 hk3 hp3 => ?_)
  obtain rfl := hp3
  have hX := hX.tr hk3
  have hMO := PP.ext hMO hk3
  have hRP := RP.ext hRP hk3
  have hou := (PP.ext (PP.one hou) hk3) 0 _ rfl
  refine W.eq (g2 := F0 m 821 ls [.int (nI (mk3 2 3 (inI (xs ((6 * n) + 1)) 4) (!gab q (toN (xs ((6 * n) + 1)))) (inL (mkL (xs ((6 * n) + 2)) (xs ((6 * n) + 3))) 1 10000)))]) rfl ?_
  refine lv_iload X.1 X.2.1 dL_law_821 (lv_at hl 1 rfl) ?_
  refine lv_icmp_eq (tgt := 828) X.1 X.2.1 dL_law_823 (by decide) (fun _ => ?_) (fun h9 => absurd rfl h9)
  refine lv_iload X.1 X.2.1 dL_law_828 (lv_at hl 1 rfl) ?_
  refine lv_if_ne (tgt := 845) X.1 X.2.1 dL_law_830 (by decide) (fun h9 => ?_) (fun h9 => ?_)
  ·
    refine lv_goto (tgt := 1772) X.1 X.2.1 dL_law_845 (by decide) ?_
    exact W.widen (by omega) (by omega) (K _ ls hX ⟨A, x1, y1, q, U, O, _, _, _, _, hO, hD, hR, hA, hRP, hMO, hou⟩ (lv_sub hl [2, 3, 4, 5, 6] rfl))
  ·
    obtain ⟨t1, t2, t3⟩ := mk3_23 h9
    have hv1 := hv1 t1 t2 t3
    have hw9 := hw9 t1 t2 t3
    refine lv_aload_n X.1 X.2.1 dL_law_833 rfl (lv_at hl 6 rfl) ?_
    refine lv_iconst (v := nI 0) X.1 X.2.1 dL_law_834 (by decide) ?_
    refine f_lald X hou (k := 0) (by decide) (by decide) dL_law_835 ?_
    refine lv_iload X.1 X.2.1 dL_law_836 (lv_at hl 0 rfl) ?_
    refine lv_i2l X.1 X.2.1 dL_law_838 rfl ?_
    refine q_leq X (tgt := 845) dL_law_839 dL_law_840 (by decide) (fun _ => ?_) (fun h8 => absurd (by rw [hv1, hw9]) h8)
    refine lv_goto (tgt := 1772) X.1 X.2.1 dL_law_845 (by decide) ?_
    exact W.widen (by omega) (by omega) (K _ ls hX ⟨A, x1, y1, q, U, O, _, _, _, _, hO, hD, hR, hA, hRP, hMO, hou⟩ (lv_sub hl [2, 3, 4, 5, 6] rfl))
set_option maxHeartbeats 4000000 in
set_option maxRecDepth 100000 in
theorem law_end (p : Program) (l : Launch) (e : Env) (s : State) (m : MethodId) (b : Nat) (below : List Frame) (meth : Method) (c : Code) (g : En) (o r mo ua oa ga ou L n : Nat) (xs : Nat → Int32) (Q : State → Prop) (hl0 : l.stackTraces = false) (X : CX p s m #[Value.ref b] meth c yL_law cL_law 8 (some .boolean) g) (hE : EX s) (hV : va_X b L xs s s.heap) (hbl : b < s.heap.size) (hS : SP o r mo ua oa ga ou s.heap.size) (hn : 6 * n + 6 ≤ L) (hL : L ≤ 3072) (K : LK p l e s m b below meth c g o r mo ua oa ga ou Q n (n + 1) 1772) : LK p l e s m b below meth c g o r mo ua oa ga ou Q n n 848 := by
  intro H ls hX hI hl
  obtain ⟨A, x1, y1, q, U, O, cd, ab, be, f, hO, hD, hR, hA, hRP, hMO, hou⟩ := hI
  obtain ⟨hM, hSo, hSr, hSu, hSz⟩ := hS
  have hU : OD o r ou A := ⟨hSo.2.2.2.2, hSr.2.2.2.2, fun j hj => (hA j hj).2.2.2.2⟩
  refine lv_aload_n X.1 X.2.1 dL_law_848 rfl (lv_at hl 2 rfl) ?_
  refine lv_aload_n X.1 X.2.1 dL_law_849 rfl (lv_at hl 1 rfl) ?_
  refine lv_iload X.1 X.2.1 dL_law_850 (lv_at hl 0 rfl) ?_
  refine lv_iconst (v := nI 1) X.1 X.2.1 dL_law_852 (by decide) ?_
  refine lv_iadd X.1 X.2.1 dL_law_853 ?_
  refine w_i (nI_add _ _) ?_
  refine l_sld X hV hbl hX (k := (6 * n) + 1) (by omega) (by omega) dL_law_854 ?_
  refine lv_aload_n X.1 X.2.1 dL_law_855 rfl (lv_at hl 1 rfl) ?_
  refine lv_iload X.1 X.2.1 dL_law_856 (lv_at hl 0 rfl) ?_
  refine lv_iconst (v := nI 2) X.1 X.2.1 dL_law_858 (by decide) ?_
  refine lv_iadd X.1 X.2.1 dL_law_859 ?_
  refine w_i (nI_add _ _) ?_
  refine l_sld X hV hbl hX (k := (6 * n) + 2) (by omega) (by omega) dL_law_860 ?_
  refine lv_i2l X.1 X.2.1 dL_law_861 rfl ?_
  refine lv_bipush (v := nI 32) X.1 X.2.1 dL_law_862 (by decide) ?_
  refine lv_lshl X.1 X.2.1 dL_law_864 rfl ?_
  refine lv_aload_n X.1 X.2.1 dL_law_865 rfl (lv_at hl 1 rfl) ?_
  refine lv_iload X.1 X.2.1 dL_law_866 (lv_at hl 0 rfl) ?_
  refine lv_iconst (v := nI 3) X.1 X.2.1 dL_law_868 (by decide) ?_
  refine lv_iadd X.1 X.2.1 dL_law_869 ?_
  refine w_i (nI_add _ _) ?_
  refine l_sld X hV hbl hX (k := (6 * n) + 3) (by omega) (by omega) dL_law_870 ?_
  refine lv_i2l X.1 X.2.1 dL_law_871 rfl ?_
  refine lv_ldc2 (v := 4294967295) X.1 X.2.1 X.2.2.2.1 (X.2.2.2.2.1 _ (List.mem_cons_of_mem _ mw_628)) dL_law_872 ?_
  refine w_l (v' := lN 4294967295) (by decide) ?_
  refine lv_land X.1 X.2.1 dL_law_875 ?_
  refine lv_lor X.1 X.2.1 dL_law_876 ?_
  refine w_l (v' := mkL (xs ((6 * n) + 2)) (xs ((6 * n) + 3))) rfl ?_
  refine lv_aload_n X.1 X.2.1 dL_law_877 rfl (lv_at hl 1 rfl) ?_
  refine lv_iload X.1 X.2.1 dL_law_878 (lv_at hl 0 rfl) ?_
  refine lv_iconst (v := nI 4) X.1 X.2.1 dL_law_880 (by decide) ?_
  refine lv_iadd X.1 X.2.1 dL_law_881 ?_
  refine w_i (nI_add _ _) ?_
  refine l_sld X hV hbl hX (k := (6 * n) + 4) (by omega) (by omega) dL_law_882 ?_
  refine lv_aload_n X.1 X.2.1 dL_law_883 rfl (lv_at hl 4 rfl) ?_
  refine g_callW (As := [.ref o, .int (xs ((6 * n) + 1)), .long (mkL (xs ((6 * n) + 2)) (xs ((6 * n) + 3))), .int (xs ((6 * n) + 4)), .ref ou]) (rest := []) X hE (c_L_end l g o r A x1 y1 q ou f (xs ((6 * n) + 1)) (mkL (xs ((6 * n) + 2)) (xs ((6 * n) + 3))) (xs ((6 * n) + 4)) hl0 hO hU) ⟨mw_302, mw_303, mw_37, mw_304⟩ sgL_end ⟨rfl, rfl, ⟨by decide, by decide⟩, (by show _ ≤ 797979; omega), (by show _ ≤ 6702166; omega)⟩ ⟨hRP, hou⟩ hX (fun q h => by rw [h]; exact hSz.2.2.2.2.2.2) rfl hl.1 rfl (Nat.le_of_ble_eq_true rfl) dL_law_884 (fun v H1 hk hp => ?_)
  obtain ⟨rfl, hRP, f1, hou, hv1⟩ := hp
  have hX := hX.trF hk (fun q h => by rw [h]; exact hSz.2.2.2.2.2.2)
  have hMO := MO.exf hMO hk ⟨hSu.1, hSu.2.1, hSu.2.2.1, hSu.2.2.2⟩
  skip
  refine W.eq (g2 := F0 m 887 ls [.int (nI (mk3 2 3 (inI (xs ((6 * n) + 1)) 4 && inI (xs ((6 * n) + 4)) 2) (!gab q (toN (xs ((6 * n) + 1)))) (inL (mkL (xs ((6 * n) + 2)) (xs ((6 * n) + 3))) 0 (slen x1 y1 (toN (xs ((6 * n) + 1)))))))]) rfl ?_
  refine lv_istore (lv' := [(5, .int (nI (mk3 2 3 (inI (xs ((6 * n) + 1)) 4 && inI (xs ((6 * n) + 4)) 2) (!gab q (toN (xs ((6 * n) + 1)))) (inL (mkL (xs ((6 * n) + 2)) (xs ((6 * n) + 3))) 0 (slen x1 y1 (toN (xs ((6 * n) + 1)))))))), (4, .int (nI (6 * n))), (0, .ref b), (1, .ref o), (2, .ref mo), (3, .ref ou)]) X.1 X.2.1 dL_law_887 hl (by decide) rfl (fun ls hl => ?_)
  refine lv_aload_n X.1 X.2.1 dL_law_889 rfl (lv_at hl 4 rfl) ?_
  refine lv_aload_n X.1 X.2.1 dL_law_890 rfl (lv_at hl 2 rfl) ?_
  refine lv_iload X.1 X.2.1 dL_law_891 (lv_at hl 1 rfl) ?_
  refine lv_iconst (v := nI 1) X.1 X.2.1 dL_law_893 (by decide) ?_
  refine lv_iadd X.1 X.2.1 dL_law_894 ?_
  refine w_i (nI_add _ _) ?_
  refine l_sld X hV hbl hX (k := (6 * n) + 1) (by omega) (by omega) dL_law_895 ?_
  refine lv_aload_n X.1 X.2.1 dL_law_896 rfl (lv_at hl 2 rfl) ?_
  refine lv_iload X.1 X.2.1 dL_law_897 (lv_at hl 1 rfl) ?_
  refine lv_iconst (v := nI 2) X.1 X.2.1 dL_law_899 (by decide) ?_
  refine lv_iadd X.1 X.2.1 dL_law_900 ?_
  refine w_i (nI_add _ _) ?_
  refine l_sld X hV hbl hX (k := (6 * n) + 2) (by omega) (by omega) dL_law_901 ?_
  refine lv_i2l X.1 X.2.1 dL_law_902 rfl ?_
  refine lv_bipush (v := nI 32) X.1 X.2.1 dL_law_903 (by decide) ?_
  refine lv_lshl X.1 X.2.1 dL_law_905 rfl ?_
  refine lv_aload_n X.1 X.2.1 dL_law_906 rfl (lv_at hl 2 rfl) ?_
  refine lv_iload X.1 X.2.1 dL_law_907 (lv_at hl 1 rfl) ?_
  refine lv_iconst (v := nI 3) X.1 X.2.1 dL_law_909 (by decide) ?_
  refine lv_iadd X.1 X.2.1 dL_law_910 ?_
  refine w_i (nI_add _ _) ?_
  refine l_sld X hV hbl hX (k := (6 * n) + 3) (by omega) (by omega) dL_law_911 ?_
  refine lv_i2l X.1 X.2.1 dL_law_912 rfl ?_
  refine lv_ldc2 (v := 4294967295) X.1 X.2.1 X.2.2.2.1 (X.2.2.2.2.1 _ (List.mem_cons_of_mem _ mw_628)) dL_law_913 ?_
  refine w_l (v' := lN 4294967295) (by decide) ?_
  refine lv_land X.1 X.2.1 dL_law_916 ?_
  refine lv_lor X.1 X.2.1 dL_law_917 ?_
  refine w_l (v' := mkL (xs ((6 * n) + 2)) (xs ((6 * n) + 3))) rfl ?_
  refine lv_aload_n X.1 X.2.1 dL_law_918 rfl (lv_at hl 2 rfl) ?_
  refine lv_iload X.1 X.2.1 dL_law_919 (lv_at hl 1 rfl) ?_
  refine lv_iconst (v := nI 4) X.1 X.2.1 dL_law_921 (by decide) ?_
  refine lv_iadd X.1 X.2.1 dL_law_922 ?_
  refine w_i (nI_add _ _) ?_
  refine l_sld X hV hbl hX (k := (6 * n) + 4) (by omega) (by omega) dL_law_923 ?_
  refine g_callV (C := RX2) (b := mo) (As := [.int (xs ((6 * n) + 1)), .long (mkL (xs ((6 * n) + 2)) (xs ((6 * n) + 3))), .int (xs ((6 * n) + 4))]) (rest := []) X (c_X2_end l g mo ua oa ga cd ab be x1 y1 U O q (xs ((6 * n) + 1)) (mkL (xs ((6 * n) + 2)) (xs ((6 * n) + 3))) (xs ((6 * n) + 4)) hO hR hM) ⟨mw_553, mw_554, mw_555, mw_40, mw_556⟩ sgX2_end ⟨rfl, rfl, ⟨by decide, by decide⟩, (by show _ ≤ 797979; omega), (by show _ ≤ 6702166; omega)⟩ (hMO.at 0 rfl) rfl rfl hMO hX (fun q h => by rw [h]; exact hSz.2.2.1) rfl hl.1 rfl (Nat.le_of_ble_eq_true rfl) dL_law_924 (fun v H2 hk2 hp2 => ?_)
  obtain ⟨⟨n9, ab1, be1, rfl, hMO⟩, w9, rfl, hw9⟩ := hp2
  have hX := hX.trF hk2 (fun q h => by rw [h]; exact hSz.2.2.1)
  have hRP := RP.exf hRP hk2 ⟨hSo.1, hSr.1⟩ (fun j hj => (hA j hj).1)
  have hou := at_exf hou hk2 hSu.1.symm
  refine W.eq (g2 := F0 m 927 ls [.long w9]) rfl ?_
  refine lv_lstore (lv' := [(6, .long w9), (5, .int (nI (mk3 2 3 (inI (xs ((6 * n) + 1)) 4 && inI (xs ((6 * n) + 4)) 2) (!gab q (toN (xs ((6 * n) + 1)))) (inL (mkL (xs ((6 * n) + 2)) (xs ((6 * n) + 3))) 0 (slen x1 y1 (toN (xs ((6 * n) + 1)))))))), (4, .int (nI (6 * n))), (0, .ref b), (1, .ref o), (2, .ref mo), (3, .ref ou)]) X.1 X.2.1 dL_law_927 hl (by decide) rfl (fun ls hl => ?_)
  refine lv_aload_n X.1 X.2.1 dL_law_929 rfl (lv_at hl 5 rfl) ?_
  refine p_callV (C := RX2) (b := mo) (As := []) (rest := []) X (c_X2_thrown l g mo ua oa ga (nI (mk3 2 3 (inI (xs ((6 * n) + 1)) 4 && inI (xs ((6 * n) + 4)) 2) (!gab q (toN (xs ((6 * n) + 1)))) (inL (mkL (xs ((6 * n) + 2)) (xs ((6 * n) + 3))) 0 (slen x1 y1 (toN (xs ((6 * n) + 1))))))) _ _ x1 y1 U O q) ⟨mw_491, mw_492, mw_493, mw_40, mw_494⟩ sgX2_thrown ⟨rfl, rfl, ⟨by decide, by decide⟩, (by show _ ≤ 797979; omega), (by show _ ≤ 6702166; omega)⟩ (hMO.at 0 rfl) rfl rfl hMO hX.1 rfl hl.1 rfl (Nat.le_of_ble_eq_true rfl) dL_law_930 (fun v H3 hk3 hp3 => ?_)
  obtain rfl := hp3
  have hX := hX.tr hk3
  have hMO := PP.ext hMO hk3
  have hRP := RP.ext hRP hk3
  have hou := (PP.ext (PP.one hou) hk3) 0 _ rfl
  refine W.eq (g2 := F0 m 933 ls [.int (nI (mk3 2 3 (inI (xs ((6 * n) + 1)) 4 && inI (xs ((6 * n) + 4)) 2) (!gab q (toN (xs ((6 * n) + 1)))) (inL (mkL (xs ((6 * n) + 2)) (xs ((6 * n) + 3))) 0 (slen x1 y1 (toN (xs ((6 * n) + 1)))))))]) rfl ?_
  refine lv_iload X.1 X.2.1 dL_law_933 (lv_at hl 1 rfl) ?_
  refine lv_icmp_eq (tgt := 940) X.1 X.2.1 dL_law_935 (by decide) (fun _ => ?_) (fun h9 => absurd rfl h9)
  refine lv_iload X.1 X.2.1 dL_law_940 (lv_at hl 1 rfl) ?_
  refine lv_if_ne (tgt := 956) X.1 X.2.1 dL_law_942 (by decide) (fun h9 => ?_) (fun h9 => ?_)
  ·
    refine lv_goto (tgt := 1772) X.1 X.2.1 dL_law_956 (by decide) ?_
    exact W.widen (by omega) (by omega) (K _ ls hX ⟨A, x1, y1, q, U, O, _, _, _, _, hO, hD, hR, hA, hRP, hMO, hou⟩ (lv_sub hl [2, 3, 4, 5, 6] rfl))
  ·
    obtain ⟨t1, t2, t3⟩ := mk3_23 h9
    have hv1 := hv1 t1 t2 t3
    have hw9 := hw9 t1 t2 t3
    refine lv_aload_n X.1 X.2.1 dL_law_945 rfl (lv_at hl 6 rfl) ?_
    refine lv_iconst (v := nI 0) X.1 X.2.1 dL_law_946 (by decide) ?_
    refine f_lald X hou (k := 0) (by decide) (by decide) dL_law_947 ?_
    refine lv_lload X.1 X.2.1 dL_law_948 (lv_at hl 0 rfl) ?_
    refine q_leq X (tgt := 956) dL_law_950 dL_law_951 (by decide) (fun _ => ?_) (fun h8 => absurd (by rw [hv1, hw9]) h8)
    refine lv_goto (tgt := 1772) X.1 X.2.1 dL_law_956 (by decide) ?_
    exact W.widen (by omega) (by omega) (K _ ls hX ⟨A, x1, y1, q, U, O, _, _, _, _, hO, hD, hR, hA, hRP, hMO, hou⟩ (lv_sub hl [2, 3, 4, 5, 6] rfl))
set_option maxHeartbeats 4000000 in
set_option maxRecDepth 100000 in
theorem law_against (p : Program) (l : Launch) (e : Env) (s : State) (m : MethodId) (b : Nat) (below : List Frame) (meth : Method) (c : Code) (g : En) (o r mo ua oa ga ou L n : Nat) (xs : Nat → Int32) (Q : State → Prop) (hl0 : l.stackTraces = false) (X : CX p s m #[Value.ref b] meth c yL_law cL_law 8 (some .boolean) g) (hE : EX s) (hV : va_X b L xs s s.heap) (hbl : b < s.heap.size) (hS : SP o r mo ua oa ga ou s.heap.size) (hn : 6 * n + 6 ≤ L) (hL : L ≤ 3072) (K : LK p l e s m b below meth c g o r mo ua oa ga ou Q n (n + 1) 1772) : LK p l e s m b below meth c g o r mo ua oa ga ou Q n n 959 := by
  intro H ls hX hI hl
  obtain ⟨A, x1, y1, q, U, O, cd, ab, be, f, hO, hD, hR, hA, hRP, hMO, hou⟩ := hI
  obtain ⟨hM, hSo, hSr, hSu, hSz⟩ := hS
  have hU : OD o r ou A := ⟨hSo.2.2.2.2, hSr.2.2.2.2, fun j hj => (hA j hj).2.2.2.2⟩
  refine lv_aload_n X.1 X.2.1 dL_law_959 rfl (lv_at hl 2 rfl) ?_
  refine lv_aload_n X.1 X.2.1 dL_law_960 rfl (lv_at hl 1 rfl) ?_
  refine lv_iload X.1 X.2.1 dL_law_961 (lv_at hl 0 rfl) ?_
  refine lv_iconst (v := nI 1) X.1 X.2.1 dL_law_963 (by decide) ?_
  refine lv_iadd X.1 X.2.1 dL_law_964 ?_
  refine w_i (nI_add _ _) ?_
  refine l_sld X hV hbl hX (k := (6 * n) + 1) (by omega) (by omega) dL_law_965 ?_
  refine lv_aload_n X.1 X.2.1 dL_law_966 rfl (lv_at hl 1 rfl) ?_
  refine lv_iload X.1 X.2.1 dL_law_967 (lv_at hl 0 rfl) ?_
  refine lv_iconst (v := nI 2) X.1 X.2.1 dL_law_969 (by decide) ?_
  refine lv_iadd X.1 X.2.1 dL_law_970 ?_
  refine w_i (nI_add _ _) ?_
  refine l_sld X hV hbl hX (k := (6 * n) + 2) (by omega) (by omega) dL_law_971 ?_
  refine lv_i2l X.1 X.2.1 dL_law_972 rfl ?_
  refine lv_bipush (v := nI 32) X.1 X.2.1 dL_law_973 (by decide) ?_
  refine lv_lshl X.1 X.2.1 dL_law_975 rfl ?_
  refine lv_aload_n X.1 X.2.1 dL_law_976 rfl (lv_at hl 1 rfl) ?_
  refine lv_iload X.1 X.2.1 dL_law_977 (lv_at hl 0 rfl) ?_
  refine lv_iconst (v := nI 3) X.1 X.2.1 dL_law_979 (by decide) ?_
  refine lv_iadd X.1 X.2.1 dL_law_980 ?_
  refine w_i (nI_add _ _) ?_
  refine l_sld X hV hbl hX (k := (6 * n) + 3) (by omega) (by omega) dL_law_981 ?_
  refine lv_i2l X.1 X.2.1 dL_law_982 rfl ?_
  refine lv_ldc2 (v := 4294967295) X.1 X.2.1 X.2.2.2.1 (X.2.2.2.2.1 _ (List.mem_cons_of_mem _ mw_628)) dL_law_983 ?_
  refine w_l (v' := lN 4294967295) (by decide) ?_
  refine lv_land X.1 X.2.1 dL_law_986 ?_
  refine lv_lor X.1 X.2.1 dL_law_987 ?_
  refine w_l (v' := mkL (xs ((6 * n) + 2)) (xs ((6 * n) + 3))) rfl ?_
  refine lv_aload_n X.1 X.2.1 dL_law_988 rfl (lv_at hl 4 rfl) ?_
  refine g_callW (As := [.ref o, .int (xs ((6 * n) + 1)), .long (mkL (xs ((6 * n) + 2)) (xs ((6 * n) + 3))), .ref ou]) (rest := []) X hE (c_L_against l g o r A x1 y1 q ou f (xs ((6 * n) + 1)) (mkL (xs ((6 * n) + 2)) (xs ((6 * n) + 3))) hl0 hO hU) ⟨mw_346, mw_347, mw_37, mw_348⟩ sgL_against ⟨rfl, rfl, ⟨by decide, by decide⟩, (by show _ ≤ 797979; omega), (by show _ ≤ 6702166; omega)⟩ ⟨hRP, hou⟩ hX (fun q h => by rw [h]; exact hSz.2.2.2.2.2.2) rfl hl.1 rfl (Nat.le_of_ble_eq_true rfl) dL_law_989 (fun v H1 hk hp => ?_)
  obtain ⟨rfl, hRP, f1, hou, hv1⟩ := hp
  have hX := hX.trF hk (fun q h => by rw [h]; exact hSz.2.2.2.2.2.2)
  have hMO := MO.exf hMO hk ⟨hSu.1, hSu.2.1, hSu.2.2.1, hSu.2.2.2⟩
  skip
  refine W.eq (g2 := F0 m 992 ls [.int (nI (mk3 2 3 (inI (xs ((6 * n) + 1)) 4) (!gab q (toN (xs ((6 * n) + 1)))) (inL (mkL (xs ((6 * n) + 2)) (xs ((6 * n) + 3))) 0 (slen x1 y1 (toN (xs ((6 * n) + 1)))))))]) rfl ?_
  refine lv_istore (lv' := [(5, .int (nI (mk3 2 3 (inI (xs ((6 * n) + 1)) 4) (!gab q (toN (xs ((6 * n) + 1)))) (inL (mkL (xs ((6 * n) + 2)) (xs ((6 * n) + 3))) 0 (slen x1 y1 (toN (xs ((6 * n) + 1)))))))), (4, .int (nI (6 * n))), (0, .ref b), (1, .ref o), (2, .ref mo), (3, .ref ou)]) X.1 X.2.1 dL_law_992 hl (by decide) rfl (fun ls hl => ?_)
  refine lv_aload_n X.1 X.2.1 dL_law_994 rfl (lv_at hl 4 rfl) ?_
  refine lv_aload_n X.1 X.2.1 dL_law_995 rfl (lv_at hl 2 rfl) ?_
  refine lv_iload X.1 X.2.1 dL_law_996 (lv_at hl 1 rfl) ?_
  refine lv_iconst (v := nI 1) X.1 X.2.1 dL_law_998 (by decide) ?_
  refine lv_iadd X.1 X.2.1 dL_law_999 ?_
  refine w_i (nI_add _ _) ?_
  refine l_sld X hV hbl hX (k := (6 * n) + 1) (by omega) (by omega) dL_law_1000 ?_
  refine lv_aload_n X.1 X.2.1 dL_law_1001 rfl (lv_at hl 2 rfl) ?_
  refine lv_iload X.1 X.2.1 dL_law_1002 (lv_at hl 1 rfl) ?_
  refine lv_iconst (v := nI 2) X.1 X.2.1 dL_law_1004 (by decide) ?_
  refine lv_iadd X.1 X.2.1 dL_law_1005 ?_
  refine w_i (nI_add _ _) ?_
  refine l_sld X hV hbl hX (k := (6 * n) + 2) (by omega) (by omega) dL_law_1006 ?_
  refine lv_i2l X.1 X.2.1 dL_law_1007 rfl ?_
  refine lv_bipush (v := nI 32) X.1 X.2.1 dL_law_1008 (by decide) ?_
  refine lv_lshl X.1 X.2.1 dL_law_1010 rfl ?_
  refine lv_aload_n X.1 X.2.1 dL_law_1011 rfl (lv_at hl 2 rfl) ?_
  refine lv_iload X.1 X.2.1 dL_law_1012 (lv_at hl 1 rfl) ?_
  refine lv_iconst (v := nI 3) X.1 X.2.1 dL_law_1014 (by decide) ?_
  refine lv_iadd X.1 X.2.1 dL_law_1015 ?_
  refine w_i (nI_add _ _) ?_
  refine l_sld X hV hbl hX (k := (6 * n) + 3) (by omega) (by omega) dL_law_1016 ?_
  refine lv_i2l X.1 X.2.1 dL_law_1017 rfl ?_
  refine lv_ldc2 (v := 4294967295) X.1 X.2.1 X.2.2.2.1 (X.2.2.2.2.1 _ (List.mem_cons_of_mem _ mw_628)) dL_law_1018 ?_
  refine w_l (v' := lN 4294967295) (by decide) ?_
  refine lv_land X.1 X.2.1 dL_law_1021 ?_
  refine lv_lor X.1 X.2.1 dL_law_1022 ?_
  refine w_l (v' := mkL (xs ((6 * n) + 2)) (xs ((6 * n) + 3))) rfl ?_
  refine g_callV (C := RX2) (b := mo) (As := [.int (xs ((6 * n) + 1)), .long (mkL (xs ((6 * n) + 2)) (xs ((6 * n) + 3)))]) (rest := []) X (c_X2_against l g mo ua oa ga cd ab be x1 y1 U O q (xs ((6 * n) + 1)) (mkL (xs ((6 * n) + 2)) (xs ((6 * n) + 3))) hO hR hM) ⟨mw_573, mw_574, mw_575, mw_40, mw_576⟩ sgX2_against ⟨rfl, rfl, ⟨by decide, by decide⟩, (by show _ ≤ 797979; omega), (by show _ ≤ 6702166; omega)⟩ (hMO.at 0 rfl) rfl rfl hMO hX (fun q h => by rw [h]; exact hSz.2.2.1) rfl hl.1 rfl (Nat.le_of_ble_eq_true rfl) dL_law_1023 (fun v H2 hk2 hp2 => ?_)
  obtain ⟨⟨n9, ab1, be1, rfl, hMO⟩, w9, rfl, hw9⟩ := hp2
  have hX := hX.trF hk2 (fun q h => by rw [h]; exact hSz.2.2.1)
  have hRP := RP.exf hRP hk2 ⟨hSo.1, hSr.1⟩ (fun j hj => (hA j hj).1)
  have hou := at_exf hou hk2 hSu.1.symm
  refine W.eq (g2 := F0 m 1026 ls [.int w9]) rfl ?_
  refine lv_istore (lv' := [(6, .int w9), (5, .int (nI (mk3 2 3 (inI (xs ((6 * n) + 1)) 4) (!gab q (toN (xs ((6 * n) + 1)))) (inL (mkL (xs ((6 * n) + 2)) (xs ((6 * n) + 3))) 0 (slen x1 y1 (toN (xs ((6 * n) + 1)))))))), (4, .int (nI (6 * n))), (0, .ref b), (1, .ref o), (2, .ref mo), (3, .ref ou)]) X.1 X.2.1 dL_law_1026 hl (by decide) rfl (fun ls hl => ?_)
  refine lv_aload_n X.1 X.2.1 dL_law_1028 rfl (lv_at hl 5 rfl) ?_
  refine p_callV (C := RX2) (b := mo) (As := []) (rest := []) X (c_X2_thrown l g mo ua oa ga (nI (mk3 2 3 (inI (xs ((6 * n) + 1)) 4) (!gab q (toN (xs ((6 * n) + 1)))) (inL (mkL (xs ((6 * n) + 2)) (xs ((6 * n) + 3))) 0 (slen x1 y1 (toN (xs ((6 * n) + 1))))))) _ _ x1 y1 U O q) ⟨mw_491, mw_492, mw_493, mw_40, mw_494⟩ sgX2_thrown ⟨rfl, rfl, ⟨by decide, by decide⟩, (by show _ ≤ 797979; omega), (by show _ ≤ 6702166; omega)⟩ (hMO.at 0 rfl) rfl rfl hMO hX.1 rfl hl.1 rfl (Nat.le_of_ble_eq_true rfl) dL_law_1029 (fun v H3 hk3 hp3 => ?_)
  obtain rfl := hp3
  have hX := hX.tr hk3
  have hMO := PP.ext hMO hk3
  have hRP := RP.ext hRP hk3
  have hou := (PP.ext (PP.one hou) hk3) 0 _ rfl
  refine W.eq (g2 := F0 m 1032 ls [.int (nI (mk3 2 3 (inI (xs ((6 * n) + 1)) 4) (!gab q (toN (xs ((6 * n) + 1)))) (inL (mkL (xs ((6 * n) + 2)) (xs ((6 * n) + 3))) 0 (slen x1 y1 (toN (xs ((6 * n) + 1)))))))]) rfl ?_
  refine lv_iload X.1 X.2.1 dL_law_1032 (lv_at hl 1 rfl) ?_
  refine lv_icmp_eq (tgt := 1039) X.1 X.2.1 dL_law_1034 (by decide) (fun _ => ?_) (fun h9 => absurd rfl h9)
  refine lv_iload X.1 X.2.1 dL_law_1039 (lv_at hl 1 rfl) ?_
  refine lv_if_ne (tgt := 1056) X.1 X.2.1 dL_law_1041 (by decide) (fun h9 => ?_) (fun h9 => ?_)
  ·
    refine lv_goto (tgt := 1772) X.1 X.2.1 dL_law_1056 (by decide) ?_
    exact W.widen (by omega) (by omega) (K _ ls hX ⟨A, x1, y1, q, U, O, _, _, _, _, hO, hD, hR, hA, hRP, hMO, hou⟩ (lv_sub hl [2, 3, 4, 5, 6] rfl))
  ·
    obtain ⟨t1, t2, t3⟩ := mk3_23 h9
    have hv1 := hv1 t1 t2 t3
    have hw9 := hw9 t1 t2 t3
    refine lv_aload_n X.1 X.2.1 dL_law_1044 rfl (lv_at hl 6 rfl) ?_
    refine lv_iconst (v := nI 0) X.1 X.2.1 dL_law_1045 (by decide) ?_
    refine f_lald X hou (k := 0) (by decide) (by decide) dL_law_1046 ?_
    refine lv_iload X.1 X.2.1 dL_law_1047 (lv_at hl 0 rfl) ?_
    refine lv_i2l X.1 X.2.1 dL_law_1049 rfl ?_
    refine q_leq X (tgt := 1056) dL_law_1050 dL_law_1051 (by decide) (fun _ => ?_) (fun h8 => absurd (by rw [hv1, hw9]) h8)
    refine lv_goto (tgt := 1772) X.1 X.2.1 dL_law_1056 (by decide) ?_
    exact W.widen (by omega) (by omega) (K _ ls hX ⟨A, x1, y1, q, U, O, _, _, _, _, hO, hD, hR, hA, hRP, hMO, hou⟩ (lv_sub hl [2, 3, 4, 5, 6] rfl))
set_option maxHeartbeats 4000000 in
set_option maxRecDepth 100000 in
theorem law_length (p : Program) (l : Launch) (e : Env) (s : State) (m : MethodId) (b : Nat) (below : List Frame) (meth : Method) (c : Code) (g : En) (o r mo ua oa ga ou L n : Nat) (xs : Nat → Int32) (Q : State → Prop) (hl0 : l.stackTraces = false) (X : CX p s m #[Value.ref b] meth c yL_law cL_law 8 (some .boolean) g) (hE : EX s) (hV : va_X b L xs s s.heap) (hbl : b < s.heap.size) (hS : SP o r mo ua oa ga ou s.heap.size) (hn : 6 * n + 6 ≤ L) (hL : L ≤ 3072) (K : LK p l e s m b below meth c g o r mo ua oa ga ou Q n (n + 1) 1772) : LK p l e s m b below meth c g o r mo ua oa ga ou Q n n 1059 := by
  intro H ls hX hI hl
  obtain ⟨A, x1, y1, q, U, O, cd, ab, be, f, hO, hD, hR, hA, hRP, hMO, hou⟩ := hI
  obtain ⟨hM, hSo, hSr, hSu, hSz⟩ := hS
  have hU : OD o r ou A := ⟨hSo.2.2.2.2, hSr.2.2.2.2, fun j hj => (hA j hj).2.2.2.2⟩
  refine lv_aload_n X.1 X.2.1 dL_law_1059 rfl (lv_at hl 2 rfl) ?_
  refine lv_aload_n X.1 X.2.1 dL_law_1060 rfl (lv_at hl 1 rfl) ?_
  refine lv_iload X.1 X.2.1 dL_law_1061 (lv_at hl 0 rfl) ?_
  refine lv_iconst (v := nI 1) X.1 X.2.1 dL_law_1063 (by decide) ?_
  refine lv_iadd X.1 X.2.1 dL_law_1064 ?_
  refine w_i (nI_add _ _) ?_
  refine l_sld X hV hbl hX (k := (6 * n) + 1) (by omega) (by omega) dL_law_1065 ?_
  refine lv_aload_n X.1 X.2.1 dL_law_1066 rfl (lv_at hl 1 rfl) ?_
  refine lv_iload X.1 X.2.1 dL_law_1067 (lv_at hl 0 rfl) ?_
  refine lv_iconst (v := nI 2) X.1 X.2.1 dL_law_1069 (by decide) ?_
  refine lv_iadd X.1 X.2.1 dL_law_1070 ?_
  refine w_i (nI_add _ _) ?_
  refine l_sld X hV hbl hX (k := (6 * n) + 2) (by omega) (by omega) dL_law_1071 ?_
  refine lv_i2l X.1 X.2.1 dL_law_1072 rfl ?_
  refine lv_bipush (v := nI 32) X.1 X.2.1 dL_law_1073 (by decide) ?_
  refine lv_lshl X.1 X.2.1 dL_law_1075 rfl ?_
  refine lv_aload_n X.1 X.2.1 dL_law_1076 rfl (lv_at hl 1 rfl) ?_
  refine lv_iload X.1 X.2.1 dL_law_1077 (lv_at hl 0 rfl) ?_
  refine lv_iconst (v := nI 3) X.1 X.2.1 dL_law_1079 (by decide) ?_
  refine lv_iadd X.1 X.2.1 dL_law_1080 ?_
  refine w_i (nI_add _ _) ?_
  refine l_sld X hV hbl hX (k := (6 * n) + 3) (by omega) (by omega) dL_law_1081 ?_
  refine lv_i2l X.1 X.2.1 dL_law_1082 rfl ?_
  refine lv_ldc2 (v := 4294967295) X.1 X.2.1 X.2.2.2.1 (X.2.2.2.2.1 _ (List.mem_cons_of_mem _ mw_628)) dL_law_1083 ?_
  refine w_l (v' := lN 4294967295) (by decide) ?_
  refine lv_land X.1 X.2.1 dL_law_1086 ?_
  refine lv_lor X.1 X.2.1 dL_law_1087 ?_
  refine w_l (v' := mkL (xs ((6 * n) + 2)) (xs ((6 * n) + 3))) rfl ?_
  refine lv_aload_n X.1 X.2.1 dL_law_1088 rfl (lv_at hl 1 rfl) ?_
  refine lv_iload X.1 X.2.1 dL_law_1089 (lv_at hl 0 rfl) ?_
  refine lv_iconst (v := nI 4) X.1 X.2.1 dL_law_1091 (by decide) ?_
  refine lv_iadd X.1 X.2.1 dL_law_1092 ?_
  refine w_i (nI_add _ _) ?_
  refine l_sld X hV hbl hX (k := (6 * n) + 4) (by omega) (by omega) dL_law_1093 ?_
  refine lv_aload_n X.1 X.2.1 dL_law_1094 rfl (lv_at hl 4 rfl) ?_
  refine g_callW (As := [.ref o, .int (xs ((6 * n) + 1)), .long (mkL (xs ((6 * n) + 2)) (xs ((6 * n) + 3))), .int (xs ((6 * n) + 4)), .ref ou]) (rest := []) X hE (c_L_length l g o r A x1 y1 q ou f (xs ((6 * n) + 1)) (mkL (xs ((6 * n) + 2)) (xs ((6 * n) + 3))) (xs ((6 * n) + 4)) hl0 hO hU) ⟨mw_353, mw_354, mw_37, mw_355⟩ sgL_length ⟨rfl, rfl, ⟨by decide, by decide⟩, (by show _ ≤ 797979; omega), (by show _ ≤ 6702166; omega)⟩ ⟨hRP, hou⟩ hX (fun q h => by rw [h]; exact hSz.2.2.2.2.2.2) rfl hl.1 rfl (Nat.le_of_ble_eq_true rfl) dL_law_1095 (fun v H1 hk hp => ?_)
  obtain ⟨rfl, hRP, f1, hou, hv1⟩ := hp
  have hX := hX.trF hk (fun q h => by rw [h]; exact hSz.2.2.2.2.2.2)
  have hMO := MO.exf hMO hk ⟨hSu.1, hSu.2.1, hSu.2.2.1, hSu.2.2.2⟩
  skip
  refine W.eq (g2 := F0 m 1098 ls [.int (nI (mk3 2 3 (inI (xs ((6 * n) + 1)) 4 && inI (xs ((6 * n) + 4)) 2) (!gab q (toN (xs ((6 * n) + 1)))) (inL (mkL (xs ((6 * n) + 2)) (xs ((6 * n) + 3))) 0 (slen x1 y1 (toN (xs ((6 * n) + 1)))))))]) rfl ?_
  refine lv_istore (lv' := [(5, .int (nI (mk3 2 3 (inI (xs ((6 * n) + 1)) 4 && inI (xs ((6 * n) + 4)) 2) (!gab q (toN (xs ((6 * n) + 1)))) (inL (mkL (xs ((6 * n) + 2)) (xs ((6 * n) + 3))) 0 (slen x1 y1 (toN (xs ((6 * n) + 1)))))))), (4, .int (nI (6 * n))), (0, .ref b), (1, .ref o), (2, .ref mo), (3, .ref ou)]) X.1 X.2.1 dL_law_1098 hl (by decide) rfl (fun ls hl => ?_)
  refine lv_aload_n X.1 X.2.1 dL_law_1100 rfl (lv_at hl 4 rfl) ?_
  refine lv_aload_n X.1 X.2.1 dL_law_1101 rfl (lv_at hl 2 rfl) ?_
  refine lv_iload X.1 X.2.1 dL_law_1102 (lv_at hl 1 rfl) ?_
  refine lv_iconst (v := nI 1) X.1 X.2.1 dL_law_1104 (by decide) ?_
  refine lv_iadd X.1 X.2.1 dL_law_1105 ?_
  refine w_i (nI_add _ _) ?_
  refine l_sld X hV hbl hX (k := (6 * n) + 1) (by omega) (by omega) dL_law_1106 ?_
  refine lv_aload_n X.1 X.2.1 dL_law_1107 rfl (lv_at hl 2 rfl) ?_
  refine lv_iload X.1 X.2.1 dL_law_1108 (lv_at hl 1 rfl) ?_
  refine lv_iconst (v := nI 2) X.1 X.2.1 dL_law_1110 (by decide) ?_
  refine lv_iadd X.1 X.2.1 dL_law_1111 ?_
  refine w_i (nI_add _ _) ?_
  refine l_sld X hV hbl hX (k := (6 * n) + 2) (by omega) (by omega) dL_law_1112 ?_
  refine lv_i2l X.1 X.2.1 dL_law_1113 rfl ?_
  refine lv_bipush (v := nI 32) X.1 X.2.1 dL_law_1114 (by decide) ?_
  refine lv_lshl X.1 X.2.1 dL_law_1116 rfl ?_
  refine lv_aload_n X.1 X.2.1 dL_law_1117 rfl (lv_at hl 2 rfl) ?_
  refine lv_iload X.1 X.2.1 dL_law_1118 (lv_at hl 1 rfl) ?_
  refine lv_iconst (v := nI 3) X.1 X.2.1 dL_law_1120 (by decide) ?_
  refine lv_iadd X.1 X.2.1 dL_law_1121 ?_
  refine w_i (nI_add _ _) ?_
  refine l_sld X hV hbl hX (k := (6 * n) + 3) (by omega) (by omega) dL_law_1122 ?_
  refine lv_i2l X.1 X.2.1 dL_law_1123 rfl ?_
  refine lv_ldc2 (v := 4294967295) X.1 X.2.1 X.2.2.2.1 (X.2.2.2.2.1 _ (List.mem_cons_of_mem _ mw_628)) dL_law_1124 ?_
  refine w_l (v' := lN 4294967295) (by decide) ?_
  refine lv_land X.1 X.2.1 dL_law_1127 ?_
  refine lv_lor X.1 X.2.1 dL_law_1128 ?_
  refine w_l (v' := mkL (xs ((6 * n) + 2)) (xs ((6 * n) + 3))) rfl ?_
  refine lv_aload_n X.1 X.2.1 dL_law_1129 rfl (lv_at hl 2 rfl) ?_
  refine lv_iload X.1 X.2.1 dL_law_1130 (lv_at hl 1 rfl) ?_
  refine lv_iconst (v := nI 4) X.1 X.2.1 dL_law_1132 (by decide) ?_
  refine lv_iadd X.1 X.2.1 dL_law_1133 ?_
  refine w_i (nI_add _ _) ?_
  refine l_sld X hV hbl hX (k := (6 * n) + 4) (by omega) (by omega) dL_law_1134 ?_
  refine g_callV (C := RX2) (b := mo) (As := [.int (xs ((6 * n) + 1)), .long (mkL (xs ((6 * n) + 2)) (xs ((6 * n) + 3))), .int (xs ((6 * n) + 4))]) (rest := []) X (c_X2_length l g mo ua oa ga cd ab be x1 y1 U O q (xs ((6 * n) + 1)) (mkL (xs ((6 * n) + 2)) (xs ((6 * n) + 3))) (xs ((6 * n) + 4)) hO hR hM) ⟨mw_577, mw_578, mw_579, mw_40, mw_580⟩ sgX2_length ⟨rfl, rfl, ⟨by decide, by decide⟩, (by show _ ≤ 797979; omega), (by show _ ≤ 6702166; omega)⟩ (hMO.at 0 rfl) rfl rfl hMO hX (fun q h => by rw [h]; exact hSz.2.2.1) rfl hl.1 rfl (Nat.le_of_ble_eq_true rfl) dL_law_1135 (fun v H2 hk2 hp2 => ?_)
  obtain ⟨⟨n9, ab1, be1, rfl, hMO⟩, w9, rfl, hw9⟩ := hp2
  have hX := hX.trF hk2 (fun q h => by rw [h]; exact hSz.2.2.1)
  have hRP := RP.exf hRP hk2 ⟨hSo.1, hSr.1⟩ (fun j hj => (hA j hj).1)
  have hou := at_exf hou hk2 hSu.1.symm
  refine W.eq (g2 := F0 m 1138 ls [.long w9]) rfl ?_
  refine lv_lstore (lv' := [(6, .long w9), (5, .int (nI (mk3 2 3 (inI (xs ((6 * n) + 1)) 4 && inI (xs ((6 * n) + 4)) 2) (!gab q (toN (xs ((6 * n) + 1)))) (inL (mkL (xs ((6 * n) + 2)) (xs ((6 * n) + 3))) 0 (slen x1 y1 (toN (xs ((6 * n) + 1)))))))), (4, .int (nI (6 * n))), (0, .ref b), (1, .ref o), (2, .ref mo), (3, .ref ou)]) X.1 X.2.1 dL_law_1138 hl (by decide) rfl (fun ls hl => ?_)
  refine lv_aload_n X.1 X.2.1 dL_law_1140 rfl (lv_at hl 5 rfl) ?_
  refine p_callV (C := RX2) (b := mo) (As := []) (rest := []) X (c_X2_thrown l g mo ua oa ga (nI (mk3 2 3 (inI (xs ((6 * n) + 1)) 4 && inI (xs ((6 * n) + 4)) 2) (!gab q (toN (xs ((6 * n) + 1)))) (inL (mkL (xs ((6 * n) + 2)) (xs ((6 * n) + 3))) 0 (slen x1 y1 (toN (xs ((6 * n) + 1))))))) _ _ x1 y1 U O q) ⟨mw_491, mw_492, mw_493, mw_40, mw_494⟩ sgX2_thrown ⟨rfl, rfl, ⟨by decide, by decide⟩, (by show _ ≤ 797979; omega), (by show _ ≤ 6702166; omega)⟩ (hMO.at 0 rfl) rfl rfl hMO hX.1 rfl hl.1 rfl (Nat.le_of_ble_eq_true rfl) dL_law_1141 (fun v H3 hk3 hp3 => ?_)
  obtain rfl := hp3
  have hX := hX.tr hk3
  have hMO := PP.ext hMO hk3
  have hRP := RP.ext hRP hk3
  have hou := (PP.ext (PP.one hou) hk3) 0 _ rfl
  refine W.eq (g2 := F0 m 1144 ls [.int (nI (mk3 2 3 (inI (xs ((6 * n) + 1)) 4 && inI (xs ((6 * n) + 4)) 2) (!gab q (toN (xs ((6 * n) + 1)))) (inL (mkL (xs ((6 * n) + 2)) (xs ((6 * n) + 3))) 0 (slen x1 y1 (toN (xs ((6 * n) + 1)))))))]) rfl ?_
  refine lv_iload X.1 X.2.1 dL_law_1144 (lv_at hl 1 rfl) ?_
  refine lv_icmp_eq (tgt := 1151) X.1 X.2.1 dL_law_1146 (by decide) (fun _ => ?_) (fun h9 => absurd rfl h9)
  refine lv_iload X.1 X.2.1 dL_law_1151 (lv_at hl 1 rfl) ?_
  refine lv_if_ne (tgt := 1167) X.1 X.2.1 dL_law_1153 (by decide) (fun h9 => ?_) (fun h9 => ?_)
  ·
    refine lv_goto (tgt := 1772) X.1 X.2.1 dL_law_1167 (by decide) ?_
    exact W.widen (by omega) (by omega) (K _ ls hX ⟨A, x1, y1, q, U, O, _, _, _, _, hO, hD, hR, hA, hRP, hMO, hou⟩ (lv_sub hl [2, 3, 4, 5, 6] rfl))
  ·
    obtain ⟨t1, t2, t3⟩ := mk3_23 h9
    have hv1 := hv1 t1 t2 t3
    have hw9 := hw9 t1 t2 t3
    refine lv_aload_n X.1 X.2.1 dL_law_1156 rfl (lv_at hl 6 rfl) ?_
    refine lv_iconst (v := nI 0) X.1 X.2.1 dL_law_1157 (by decide) ?_
    refine f_lald X hou (k := 0) (by decide) (by decide) dL_law_1158 ?_
    refine lv_lload X.1 X.2.1 dL_law_1159 (lv_at hl 0 rfl) ?_
    refine q_leq X (tgt := 1167) dL_law_1161 dL_law_1162 (by decide) (fun _ => ?_) (fun h8 => absurd (by rw [hv1, hw9]) h8)
    refine lv_goto (tgt := 1772) X.1 X.2.1 dL_law_1167 (by decide) ?_
    exact W.widen (by omega) (by omega) (K _ ls hX ⟨A, x1, y1, q, U, O, _, _, _, _, hO, hD, hR, hA, hRP, hMO, hou⟩ (lv_sub hl [2, 3, 4, 5, 6] rfl))
set_option maxHeartbeats 4000000 in
set_option maxRecDepth 100000 in
theorem law_tangent (p : Program) (l : Launch) (e : Env) (s : State) (m : MethodId) (b : Nat) (below : List Frame) (meth : Method) (c : Code) (g : En) (o r mo ua oa ga ou L n : Nat) (xs : Nat → Int32) (Q : State → Prop) (hl0 : l.stackTraces = false) (X : CX p s m #[Value.ref b] meth c yL_law cL_law 8 (some .boolean) g) (hE : EX s) (hV : va_X b L xs s s.heap) (hbl : b < s.heap.size) (hS : SP o r mo ua oa ga ou s.heap.size) (hn : 6 * n + 6 ≤ L) (hL : L ≤ 3072) (K : LK p l e s m b below meth c g o r mo ua oa ga ou Q n (n + 1) 1772) : LK p l e s m b below meth c g o r mo ua oa ga ou Q n n 1170 := by
  intro H ls hX hI hl
  obtain ⟨A, x1, y1, q, U, O, cd, ab, be, f, hO, hD, hR, hA, hRP, hMO, hou⟩ := hI
  obtain ⟨hM, hSo, hSr, hSu, hSz⟩ := hS
  have hU : OD o r ou A := ⟨hSo.2.2.2.2, hSr.2.2.2.2, fun j hj => (hA j hj).2.2.2.2⟩
  refine lv_aload_n X.1 X.2.1 dL_law_1170 rfl (lv_at hl 2 rfl) ?_
  refine lv_aload_n X.1 X.2.1 dL_law_1171 rfl (lv_at hl 1 rfl) ?_
  refine lv_iload X.1 X.2.1 dL_law_1172 (lv_at hl 0 rfl) ?_
  refine lv_iconst (v := nI 1) X.1 X.2.1 dL_law_1174 (by decide) ?_
  refine lv_iadd X.1 X.2.1 dL_law_1175 ?_
  refine w_i (nI_add _ _) ?_
  refine l_sld X hV hbl hX (k := (6 * n) + 1) (by omega) (by omega) dL_law_1176 ?_
  refine lv_aload_n X.1 X.2.1 dL_law_1177 rfl (lv_at hl 1 rfl) ?_
  refine lv_iload X.1 X.2.1 dL_law_1178 (lv_at hl 0 rfl) ?_
  refine lv_iconst (v := nI 2) X.1 X.2.1 dL_law_1180 (by decide) ?_
  refine lv_iadd X.1 X.2.1 dL_law_1181 ?_
  refine w_i (nI_add _ _) ?_
  refine l_sld X hV hbl hX (k := (6 * n) + 2) (by omega) (by omega) dL_law_1182 ?_
  refine lv_i2l X.1 X.2.1 dL_law_1183 rfl ?_
  refine lv_bipush (v := nI 32) X.1 X.2.1 dL_law_1184 (by decide) ?_
  refine lv_lshl X.1 X.2.1 dL_law_1186 rfl ?_
  refine lv_aload_n X.1 X.2.1 dL_law_1187 rfl (lv_at hl 1 rfl) ?_
  refine lv_iload X.1 X.2.1 dL_law_1188 (lv_at hl 0 rfl) ?_
  refine lv_iconst (v := nI 3) X.1 X.2.1 dL_law_1190 (by decide) ?_
  refine lv_iadd X.1 X.2.1 dL_law_1191 ?_
  refine w_i (nI_add _ _) ?_
  refine l_sld X hV hbl hX (k := (6 * n) + 3) (by omega) (by omega) dL_law_1192 ?_
  refine lv_i2l X.1 X.2.1 dL_law_1193 rfl ?_
  refine lv_ldc2 (v := 4294967295) X.1 X.2.1 X.2.2.2.1 (X.2.2.2.2.1 _ (List.mem_cons_of_mem _ mw_628)) dL_law_1194 ?_
  refine w_l (v' := lN 4294967295) (by decide) ?_
  refine lv_land X.1 X.2.1 dL_law_1197 ?_
  refine lv_lor X.1 X.2.1 dL_law_1198 ?_
  refine w_l (v' := mkL (xs ((6 * n) + 2)) (xs ((6 * n) + 3))) rfl ?_
  refine lv_aload_n X.1 X.2.1 dL_law_1199 rfl (lv_at hl 1 rfl) ?_
  refine lv_iload X.1 X.2.1 dL_law_1200 (lv_at hl 0 rfl) ?_
  refine lv_iconst (v := nI 4) X.1 X.2.1 dL_law_1202 (by decide) ?_
  refine lv_iadd X.1 X.2.1 dL_law_1203 ?_
  refine w_i (nI_add _ _) ?_
  refine l_sld X hV hbl hX (k := (6 * n) + 4) (by omega) (by omega) dL_law_1204 ?_
  refine lv_aload_n X.1 X.2.1 dL_law_1205 rfl (lv_at hl 1 rfl) ?_
  refine lv_iload X.1 X.2.1 dL_law_1206 (lv_at hl 0 rfl) ?_
  refine lv_iconst (v := nI 5) X.1 X.2.1 dL_law_1208 (by decide) ?_
  refine lv_iadd X.1 X.2.1 dL_law_1209 ?_
  refine w_i (nI_add _ _) ?_
  refine l_sld X hV hbl hX (k := (6 * n) + 5) (by omega) (by omega) dL_law_1210 ?_
  refine lv_aload_n X.1 X.2.1 dL_law_1211 rfl (lv_at hl 4 rfl) ?_
  refine g_callW (As := [.ref o, .int (xs ((6 * n) + 1)), .long (mkL (xs ((6 * n) + 2)) (xs ((6 * n) + 3))), .int (xs ((6 * n) + 4)), .int (xs ((6 * n) + 5)), .ref ou]) (rest := []) X hE (c_L_tangent l g o r A x1 y1 q ou f (xs ((6 * n) + 1)) (mkL (xs ((6 * n) + 2)) (xs ((6 * n) + 3))) (xs ((6 * n) + 4)) (xs ((6 * n) + 5)) hl0 hO hU) ⟨mw_379, mw_380, mw_37, mw_381⟩ sgL_tangent ⟨rfl, rfl, ⟨by decide, by decide⟩, (by show _ ≤ 797979; omega), (by show _ ≤ 6702166; omega)⟩ ⟨hRP, hou⟩ hX (fun q h => by rw [h]; exact hSz.2.2.2.2.2.2) rfl hl.1 rfl (Nat.le_of_ble_eq_true rfl) dL_law_1212 (fun v H1 hk hp => ?_)
  obtain ⟨rfl, hRP, f1, hou, hv1⟩ := hp
  have hX := hX.trF hk (fun q h => by rw [h]; exact hSz.2.2.2.2.2.2)
  have hMO := MO.exf hMO hk ⟨hSu.1, hSu.2.1, hSu.2.2.1, hSu.2.2.2⟩
  skip
  refine W.eq (g2 := F0 m 1215 ls [.int (nI (mk3 2 3 (inI (xs ((6 * n) + 1)) 4 && inI (xs ((6 * n) + 4)) 3 && inI (xs ((6 * n) + 5)) 2) (!gab q (toN (xs ((6 * n) + 1)))) (inL (mkL (xs ((6 * n) + 2)) (xs ((6 * n) + 3))) 0 (slen x1 y1 (toN (xs ((6 * n) + 1)))))))]) rfl ?_
  refine lv_istore (lv' := [(5, .int (nI (mk3 2 3 (inI (xs ((6 * n) + 1)) 4 && inI (xs ((6 * n) + 4)) 3 && inI (xs ((6 * n) + 5)) 2) (!gab q (toN (xs ((6 * n) + 1)))) (inL (mkL (xs ((6 * n) + 2)) (xs ((6 * n) + 3))) 0 (slen x1 y1 (toN (xs ((6 * n) + 1)))))))), (4, .int (nI (6 * n))), (0, .ref b), (1, .ref o), (2, .ref mo), (3, .ref ou)]) X.1 X.2.1 dL_law_1215 hl (by decide) rfl (fun ls hl => ?_)
  refine lv_aload_n X.1 X.2.1 dL_law_1217 rfl (lv_at hl 4 rfl) ?_
  refine lv_aload_n X.1 X.2.1 dL_law_1218 rfl (lv_at hl 2 rfl) ?_
  refine lv_iload X.1 X.2.1 dL_law_1219 (lv_at hl 1 rfl) ?_
  refine lv_iconst (v := nI 1) X.1 X.2.1 dL_law_1221 (by decide) ?_
  refine lv_iadd X.1 X.2.1 dL_law_1222 ?_
  refine w_i (nI_add _ _) ?_
  refine l_sld X hV hbl hX (k := (6 * n) + 1) (by omega) (by omega) dL_law_1223 ?_
  refine lv_aload_n X.1 X.2.1 dL_law_1224 rfl (lv_at hl 2 rfl) ?_
  refine lv_iload X.1 X.2.1 dL_law_1225 (lv_at hl 1 rfl) ?_
  refine lv_iconst (v := nI 2) X.1 X.2.1 dL_law_1227 (by decide) ?_
  refine lv_iadd X.1 X.2.1 dL_law_1228 ?_
  refine w_i (nI_add _ _) ?_
  refine l_sld X hV hbl hX (k := (6 * n) + 2) (by omega) (by omega) dL_law_1229 ?_
  refine lv_i2l X.1 X.2.1 dL_law_1230 rfl ?_
  refine lv_bipush (v := nI 32) X.1 X.2.1 dL_law_1231 (by decide) ?_
  refine lv_lshl X.1 X.2.1 dL_law_1233 rfl ?_
  refine lv_aload_n X.1 X.2.1 dL_law_1234 rfl (lv_at hl 2 rfl) ?_
  refine lv_iload X.1 X.2.1 dL_law_1235 (lv_at hl 1 rfl) ?_
  refine lv_iconst (v := nI 3) X.1 X.2.1 dL_law_1237 (by decide) ?_
  refine lv_iadd X.1 X.2.1 dL_law_1238 ?_
  refine w_i (nI_add _ _) ?_
  refine l_sld X hV hbl hX (k := (6 * n) + 3) (by omega) (by omega) dL_law_1239 ?_
  refine lv_i2l X.1 X.2.1 dL_law_1240 rfl ?_
  refine lv_ldc2 (v := 4294967295) X.1 X.2.1 X.2.2.2.1 (X.2.2.2.2.1 _ (List.mem_cons_of_mem _ mw_628)) dL_law_1241 ?_
  refine w_l (v' := lN 4294967295) (by decide) ?_
  refine lv_land X.1 X.2.1 dL_law_1244 ?_
  refine lv_lor X.1 X.2.1 dL_law_1245 ?_
  refine w_l (v' := mkL (xs ((6 * n) + 2)) (xs ((6 * n) + 3))) rfl ?_
  refine lv_aload_n X.1 X.2.1 dL_law_1246 rfl (lv_at hl 2 rfl) ?_
  refine lv_iload X.1 X.2.1 dL_law_1247 (lv_at hl 1 rfl) ?_
  refine lv_iconst (v := nI 4) X.1 X.2.1 dL_law_1249 (by decide) ?_
  refine lv_iadd X.1 X.2.1 dL_law_1250 ?_
  refine w_i (nI_add _ _) ?_
  refine l_sld X hV hbl hX (k := (6 * n) + 4) (by omega) (by omega) dL_law_1251 ?_
  refine lv_aload_n X.1 X.2.1 dL_law_1252 rfl (lv_at hl 2 rfl) ?_
  refine lv_iload X.1 X.2.1 dL_law_1253 (lv_at hl 1 rfl) ?_
  refine lv_iconst (v := nI 5) X.1 X.2.1 dL_law_1255 (by decide) ?_
  refine lv_iadd X.1 X.2.1 dL_law_1256 ?_
  refine w_i (nI_add _ _) ?_
  refine l_sld X hV hbl hX (k := (6 * n) + 5) (by omega) (by omega) dL_law_1257 ?_
  refine g_callV (C := RX2) (b := mo) (As := [.int (xs ((6 * n) + 1)), .long (mkL (xs ((6 * n) + 2)) (xs ((6 * n) + 3))), .int (xs ((6 * n) + 4)), .int (xs ((6 * n) + 5))]) (rest := []) X (c_X2_tangent l g mo ua oa ga cd ab be x1 y1 U O q (xs ((6 * n) + 1)) (mkL (xs ((6 * n) + 2)) (xs ((6 * n) + 3))) (xs ((6 * n) + 4)) (xs ((6 * n) + 5)) hO hR hM) ⟨mw_582, mw_583, mw_584, mw_40, mw_585⟩ sgX2_tangent ⟨rfl, rfl, ⟨by decide, by decide⟩, (by show _ ≤ 797979; omega), (by show _ ≤ 6702166; omega)⟩ (hMO.at 0 rfl) rfl rfl hMO hX (fun q h => by rw [h]; exact hSz.2.2.1) rfl hl.1 rfl (Nat.le_of_ble_eq_true rfl) dL_law_1258 (fun v H2 hk2 hp2 => ?_)
  obtain ⟨⟨n9, ab1, be1, rfl, hMO⟩, w9, rfl, hw9⟩ := hp2
  have hX := hX.trF hk2 (fun q h => by rw [h]; exact hSz.2.2.1)
  have hRP := RP.exf hRP hk2 ⟨hSo.1, hSr.1⟩ (fun j hj => (hA j hj).1)
  have hou := at_exf hou hk2 hSu.1.symm
  refine W.eq (g2 := F0 m 1261 ls [.long w9]) rfl ?_
  refine lv_lstore (lv' := [(6, .long w9), (5, .int (nI (mk3 2 3 (inI (xs ((6 * n) + 1)) 4 && inI (xs ((6 * n) + 4)) 3 && inI (xs ((6 * n) + 5)) 2) (!gab q (toN (xs ((6 * n) + 1)))) (inL (mkL (xs ((6 * n) + 2)) (xs ((6 * n) + 3))) 0 (slen x1 y1 (toN (xs ((6 * n) + 1)))))))), (4, .int (nI (6 * n))), (0, .ref b), (1, .ref o), (2, .ref mo), (3, .ref ou)]) X.1 X.2.1 dL_law_1261 hl (by decide) rfl (fun ls hl => ?_)
  refine lv_aload_n X.1 X.2.1 dL_law_1263 rfl (lv_at hl 5 rfl) ?_
  refine p_callV (C := RX2) (b := mo) (As := []) (rest := []) X (c_X2_thrown l g mo ua oa ga (nI (mk3 2 3 (inI (xs ((6 * n) + 1)) 4 && inI (xs ((6 * n) + 4)) 3 && inI (xs ((6 * n) + 5)) 2) (!gab q (toN (xs ((6 * n) + 1)))) (inL (mkL (xs ((6 * n) + 2)) (xs ((6 * n) + 3))) 0 (slen x1 y1 (toN (xs ((6 * n) + 1))))))) _ _ x1 y1 U O q) ⟨mw_491, mw_492, mw_493, mw_40, mw_494⟩ sgX2_thrown ⟨rfl, rfl, ⟨by decide, by decide⟩, (by show _ ≤ 797979; omega), (by show _ ≤ 6702166; omega)⟩ (hMO.at 0 rfl) rfl rfl hMO hX.1 rfl hl.1 rfl (Nat.le_of_ble_eq_true rfl) dL_law_1264 (fun v H3 hk3 hp3 => ?_)
  obtain rfl := hp3
  have hX := hX.tr hk3
  have hMO := PP.ext hMO hk3
  have hRP := RP.ext hRP hk3
  have hou := (PP.ext (PP.one hou) hk3) 0 _ rfl
  refine W.eq (g2 := F0 m 1267 ls [.int (nI (mk3 2 3 (inI (xs ((6 * n) + 1)) 4 && inI (xs ((6 * n) + 4)) 3 && inI (xs ((6 * n) + 5)) 2) (!gab q (toN (xs ((6 * n) + 1)))) (inL (mkL (xs ((6 * n) + 2)) (xs ((6 * n) + 3))) 0 (slen x1 y1 (toN (xs ((6 * n) + 1)))))))]) rfl ?_
  refine lv_iload X.1 X.2.1 dL_law_1267 (lv_at hl 1 rfl) ?_
  refine lv_icmp_eq (tgt := 1274) X.1 X.2.1 dL_law_1269 (by decide) (fun _ => ?_) (fun h9 => absurd rfl h9)
  refine lv_iload X.1 X.2.1 dL_law_1274 (lv_at hl 1 rfl) ?_
  refine lv_if_ne (tgt := 1290) X.1 X.2.1 dL_law_1276 (by decide) (fun h9 => ?_) (fun h9 => ?_)
  ·
    refine lv_goto (tgt := 1772) X.1 X.2.1 dL_law_1290 (by decide) ?_
    exact W.widen (by omega) (by omega) (K _ ls hX ⟨A, x1, y1, q, U, O, _, _, _, _, hO, hD, hR, hA, hRP, hMO, hou⟩ (lv_sub hl [2, 3, 4, 5, 6] rfl))
  ·
    obtain ⟨t1, t2, t3⟩ := mk3_23 h9
    have hv1 := hv1 t1 t2 t3
    have hw9 := hw9 t1 t2 t3
    refine lv_aload_n X.1 X.2.1 dL_law_1279 rfl (lv_at hl 6 rfl) ?_
    refine lv_iconst (v := nI 0) X.1 X.2.1 dL_law_1280 (by decide) ?_
    refine f_lald X hou (k := 0) (by decide) (by decide) dL_law_1281 ?_
    refine lv_lload X.1 X.2.1 dL_law_1282 (lv_at hl 0 rfl) ?_
    refine q_leq X (tgt := 1290) dL_law_1284 dL_law_1285 (by decide) (fun _ => ?_) (fun h8 => absurd (by rw [hv1, hw9]) h8)
    refine lv_goto (tgt := 1772) X.1 X.2.1 dL_law_1290 (by decide) ?_
    exact W.widen (by omega) (by omega) (K _ ls hX ⟨A, x1, y1, q, U, O, _, _, _, _, hO, hD, hR, hA, hRP, hMO, hou⟩ (lv_sub hl [2, 3, 4, 5, 6] rfl))
set_option maxHeartbeats 4000000 in
set_option maxRecDepth 100000 in
theorem law_mouth (p : Program) (l : Launch) (e : Env) (s : State) (m : MethodId) (b : Nat) (below : List Frame) (meth : Method) (c : Code) (g : En) (o r mo ua oa ga ou L n : Nat) (xs : Nat → Int32) (Q : State → Prop) (hl0 : l.stackTraces = false) (X : CX p s m #[Value.ref b] meth c yL_law cL_law 8 (some .boolean) g) (hE : EX s) (hV : va_X b L xs s s.heap) (hbl : b < s.heap.size) (hS : SP o r mo ua oa ga ou s.heap.size) (hn : 6 * n + 6 ≤ L) (hL : L ≤ 3072) (K : LK p l e s m b below meth c g o r mo ua oa ga ou Q n (n + 1) 1772) : LK p l e s m b below meth c g o r mo ua oa ga ou Q n n 1293 := by
  intro H ls hX hI hl
  obtain ⟨A, x1, y1, q, U, O, cd, ab, be, f, hO, hD, hR, hA, hRP, hMO, hou⟩ := hI
  obtain ⟨hM, hSo, hSr, hSu, hSz⟩ := hS
  have hU : OD o r ou A := ⟨hSo.2.2.2.2, hSr.2.2.2.2, fun j hj => (hA j hj).2.2.2.2⟩
  refine lv_aload_n X.1 X.2.1 dL_law_1293 rfl (lv_at hl 2 rfl) ?_
  refine lv_aload_n X.1 X.2.1 dL_law_1294 rfl (lv_at hl 1 rfl) ?_
  refine lv_iload X.1 X.2.1 dL_law_1295 (lv_at hl 0 rfl) ?_
  refine lv_iconst (v := nI 1) X.1 X.2.1 dL_law_1297 (by decide) ?_
  refine lv_iadd X.1 X.2.1 dL_law_1298 ?_
  refine w_i (nI_add _ _) ?_
  refine l_sld X hV hbl hX (k := (6 * n) + 1) (by omega) (by omega) dL_law_1299 ?_
  refine lv_aload_n X.1 X.2.1 dL_law_1300 rfl (lv_at hl 1 rfl) ?_
  refine lv_iload X.1 X.2.1 dL_law_1301 (lv_at hl 0 rfl) ?_
  refine lv_iconst (v := nI 2) X.1 X.2.1 dL_law_1303 (by decide) ?_
  refine lv_iadd X.1 X.2.1 dL_law_1304 ?_
  refine w_i (nI_add _ _) ?_
  refine l_sld X hV hbl hX (k := (6 * n) + 2) (by omega) (by omega) dL_law_1305 ?_
  refine lv_i2l X.1 X.2.1 dL_law_1306 rfl ?_
  refine lv_bipush (v := nI 32) X.1 X.2.1 dL_law_1307 (by decide) ?_
  refine lv_lshl X.1 X.2.1 dL_law_1309 rfl ?_
  refine lv_aload_n X.1 X.2.1 dL_law_1310 rfl (lv_at hl 1 rfl) ?_
  refine lv_iload X.1 X.2.1 dL_law_1311 (lv_at hl 0 rfl) ?_
  refine lv_iconst (v := nI 3) X.1 X.2.1 dL_law_1313 (by decide) ?_
  refine lv_iadd X.1 X.2.1 dL_law_1314 ?_
  refine w_i (nI_add _ _) ?_
  refine l_sld X hV hbl hX (k := (6 * n) + 3) (by omega) (by omega) dL_law_1315 ?_
  refine lv_i2l X.1 X.2.1 dL_law_1316 rfl ?_
  refine lv_ldc2 (v := 4294967295) X.1 X.2.1 X.2.2.2.1 (X.2.2.2.2.1 _ (List.mem_cons_of_mem _ mw_628)) dL_law_1317 ?_
  refine w_l (v' := lN 4294967295) (by decide) ?_
  refine lv_land X.1 X.2.1 dL_law_1320 ?_
  refine lv_lor X.1 X.2.1 dL_law_1321 ?_
  refine w_l (v' := mkL (xs ((6 * n) + 2)) (xs ((6 * n) + 3))) rfl ?_
  refine lv_aload_n X.1 X.2.1 dL_law_1322 rfl (lv_at hl 1 rfl) ?_
  refine lv_iload X.1 X.2.1 dL_law_1323 (lv_at hl 0 rfl) ?_
  refine lv_iconst (v := nI 4) X.1 X.2.1 dL_law_1325 (by decide) ?_
  refine lv_iadd X.1 X.2.1 dL_law_1326 ?_
  refine w_i (nI_add _ _) ?_
  refine l_sld X hV hbl hX (k := (6 * n) + 4) (by omega) (by omega) dL_law_1327 ?_
  refine lv_aload_n X.1 X.2.1 dL_law_1328 rfl (lv_at hl 4 rfl) ?_
  refine g_callW (As := [.ref o, .int (xs ((6 * n) + 1)), .long (mkL (xs ((6 * n) + 2)) (xs ((6 * n) + 3))), .int (xs ((6 * n) + 4)), .ref ou]) (rest := []) X hE (c_L_mouth l g o r A x1 y1 q ou f (xs ((6 * n) + 1)) (mkL (xs ((6 * n) + 2)) (xs ((6 * n) + 3))) (xs ((6 * n) + 4)) hl0 hO hU) ⟨mw_390, mw_391, mw_37, mw_392⟩ sgL_mouth ⟨rfl, rfl, ⟨by decide, by decide⟩, (by show _ ≤ 797979; omega), (by show _ ≤ 6702166; omega)⟩ ⟨hRP, hou⟩ hX (fun q h => by rw [h]; exact hSz.2.2.2.2.2.2) rfl hl.1 rfl (Nat.le_of_ble_eq_true rfl) dL_law_1329 (fun v H1 hk hp => ?_)
  obtain ⟨rfl, hRP, f1, hou, hv1⟩ := hp
  have hX := hX.trF hk (fun q h => by rw [h]; exact hSz.2.2.2.2.2.2)
  have hMO := MO.exf hMO hk ⟨hSu.1, hSu.2.1, hSu.2.2.1, hSu.2.2.2⟩
  skip
  refine W.eq (g2 := F0 m 1332 ls [.int (nI (mk3 2 3 (inI (xs ((6 * n) + 1)) 4 && inI (xs ((6 * n) + 4)) 2) (!gab q (toN (xs ((6 * n) + 1)))) (inL (mkL (xs ((6 * n) + 2)) (xs ((6 * n) + 3))) 0 1000)))]) rfl ?_
  refine lv_istore (lv' := [(5, .int (nI (mk3 2 3 (inI (xs ((6 * n) + 1)) 4 && inI (xs ((6 * n) + 4)) 2) (!gab q (toN (xs ((6 * n) + 1)))) (inL (mkL (xs ((6 * n) + 2)) (xs ((6 * n) + 3))) 0 1000)))), (4, .int (nI (6 * n))), (0, .ref b), (1, .ref o), (2, .ref mo), (3, .ref ou)]) X.1 X.2.1 dL_law_1332 hl (by decide) rfl (fun ls hl => ?_)
  refine lv_aload_n X.1 X.2.1 dL_law_1334 rfl (lv_at hl 4 rfl) ?_
  refine lv_aload_n X.1 X.2.1 dL_law_1335 rfl (lv_at hl 2 rfl) ?_
  refine lv_iload X.1 X.2.1 dL_law_1336 (lv_at hl 1 rfl) ?_
  refine lv_iconst (v := nI 1) X.1 X.2.1 dL_law_1338 (by decide) ?_
  refine lv_iadd X.1 X.2.1 dL_law_1339 ?_
  refine w_i (nI_add _ _) ?_
  refine l_sld X hV hbl hX (k := (6 * n) + 1) (by omega) (by omega) dL_law_1340 ?_
  refine lv_aload_n X.1 X.2.1 dL_law_1341 rfl (lv_at hl 2 rfl) ?_
  refine lv_iload X.1 X.2.1 dL_law_1342 (lv_at hl 1 rfl) ?_
  refine lv_iconst (v := nI 2) X.1 X.2.1 dL_law_1344 (by decide) ?_
  refine lv_iadd X.1 X.2.1 dL_law_1345 ?_
  refine w_i (nI_add _ _) ?_
  refine l_sld X hV hbl hX (k := (6 * n) + 2) (by omega) (by omega) dL_law_1346 ?_
  refine lv_i2l X.1 X.2.1 dL_law_1347 rfl ?_
  refine lv_bipush (v := nI 32) X.1 X.2.1 dL_law_1348 (by decide) ?_
  refine lv_lshl X.1 X.2.1 dL_law_1350 rfl ?_
  refine lv_aload_n X.1 X.2.1 dL_law_1351 rfl (lv_at hl 2 rfl) ?_
  refine lv_iload X.1 X.2.1 dL_law_1352 (lv_at hl 1 rfl) ?_
  refine lv_iconst (v := nI 3) X.1 X.2.1 dL_law_1354 (by decide) ?_
  refine lv_iadd X.1 X.2.1 dL_law_1355 ?_
  refine w_i (nI_add _ _) ?_
  refine l_sld X hV hbl hX (k := (6 * n) + 3) (by omega) (by omega) dL_law_1356 ?_
  refine lv_i2l X.1 X.2.1 dL_law_1357 rfl ?_
  refine lv_ldc2 (v := 4294967295) X.1 X.2.1 X.2.2.2.1 (X.2.2.2.2.1 _ (List.mem_cons_of_mem _ mw_628)) dL_law_1358 ?_
  refine w_l (v' := lN 4294967295) (by decide) ?_
  refine lv_land X.1 X.2.1 dL_law_1361 ?_
  refine lv_lor X.1 X.2.1 dL_law_1362 ?_
  refine w_l (v' := mkL (xs ((6 * n) + 2)) (xs ((6 * n) + 3))) rfl ?_
  refine lv_aload_n X.1 X.2.1 dL_law_1363 rfl (lv_at hl 2 rfl) ?_
  refine lv_iload X.1 X.2.1 dL_law_1364 (lv_at hl 1 rfl) ?_
  refine lv_iconst (v := nI 4) X.1 X.2.1 dL_law_1366 (by decide) ?_
  refine lv_iadd X.1 X.2.1 dL_law_1367 ?_
  refine w_i (nI_add _ _) ?_
  refine l_sld X hV hbl hX (k := (6 * n) + 4) (by omega) (by omega) dL_law_1368 ?_
  refine g_callV (C := RX2) (b := mo) (As := [.int (xs ((6 * n) + 1)), .long (mkL (xs ((6 * n) + 2)) (xs ((6 * n) + 3))), .int (xs ((6 * n) + 4))]) (rest := []) X (c_X2_mouth l g mo ua oa ga cd ab be x1 y1 U O q (xs ((6 * n) + 1)) (mkL (xs ((6 * n) + 2)) (xs ((6 * n) + 3))) (xs ((6 * n) + 4)) hO hR hM) ⟨mw_586, mw_587, mw_588, mw_40, mw_589⟩ sgX2_mouth ⟨rfl, rfl, ⟨by decide, by decide⟩, (by show _ ≤ 797979; omega), (by show _ ≤ 6702166; omega)⟩ (hMO.at 0 rfl) rfl rfl hMO hX (fun q h => by rw [h]; exact hSz.2.2.1) rfl hl.1 rfl (Nat.le_of_ble_eq_true rfl) dL_law_1369 (fun v H2 hk2 hp2 => ?_)
  obtain ⟨⟨n9, ab1, be1, rfl, hMO⟩, w9, rfl, hw9⟩ := hp2
  have hX := hX.trF hk2 (fun q h => by rw [h]; exact hSz.2.2.1)
  have hRP := RP.exf hRP hk2 ⟨hSo.1, hSr.1⟩ (fun j hj => (hA j hj).1)
  have hou := at_exf hou hk2 hSu.1.symm
  refine W.eq (g2 := F0 m 1372 ls [.long w9]) rfl ?_
  refine lv_lstore (lv' := [(6, .long w9), (5, .int (nI (mk3 2 3 (inI (xs ((6 * n) + 1)) 4 && inI (xs ((6 * n) + 4)) 2) (!gab q (toN (xs ((6 * n) + 1)))) (inL (mkL (xs ((6 * n) + 2)) (xs ((6 * n) + 3))) 0 1000)))), (4, .int (nI (6 * n))), (0, .ref b), (1, .ref o), (2, .ref mo), (3, .ref ou)]) X.1 X.2.1 dL_law_1372 hl (by decide) rfl (fun ls hl => ?_)
  refine lv_aload_n X.1 X.2.1 dL_law_1374 rfl (lv_at hl 5 rfl) ?_
  refine p_callV (C := RX2) (b := mo) (As := []) (rest := []) X (c_X2_thrown l g mo ua oa ga (nI (mk3 2 3 (inI (xs ((6 * n) + 1)) 4 && inI (xs ((6 * n) + 4)) 2) (!gab q (toN (xs ((6 * n) + 1)))) (inL (mkL (xs ((6 * n) + 2)) (xs ((6 * n) + 3))) 0 1000))) _ _ x1 y1 U O q) ⟨mw_491, mw_492, mw_493, mw_40, mw_494⟩ sgX2_thrown ⟨rfl, rfl, ⟨by decide, by decide⟩, (by show _ ≤ 797979; omega), (by show _ ≤ 6702166; omega)⟩ (hMO.at 0 rfl) rfl rfl hMO hX.1 rfl hl.1 rfl (Nat.le_of_ble_eq_true rfl) dL_law_1375 (fun v H3 hk3 hp3 => ?_)
  obtain rfl := hp3
  have hX := hX.tr hk3
  have hMO := PP.ext hMO hk3
  have hRP := RP.ext hRP hk3
  have hou := (PP.ext (PP.one hou) hk3) 0 _ rfl
  refine W.eq (g2 := F0 m 1378 ls [.int (nI (mk3 2 3 (inI (xs ((6 * n) + 1)) 4 && inI (xs ((6 * n) + 4)) 2) (!gab q (toN (xs ((6 * n) + 1)))) (inL (mkL (xs ((6 * n) + 2)) (xs ((6 * n) + 3))) 0 1000)))]) rfl ?_
  refine lv_iload X.1 X.2.1 dL_law_1378 (lv_at hl 1 rfl) ?_
  refine lv_icmp_eq (tgt := 1385) X.1 X.2.1 dL_law_1380 (by decide) (fun _ => ?_) (fun h9 => absurd rfl h9)
  refine lv_iload X.1 X.2.1 dL_law_1385 (lv_at hl 1 rfl) ?_
  refine lv_if_ne (tgt := 1401) X.1 X.2.1 dL_law_1387 (by decide) (fun h9 => ?_) (fun h9 => ?_)
  ·
    refine lv_goto (tgt := 1772) X.1 X.2.1 dL_law_1401 (by decide) ?_
    exact W.widen (by omega) (by omega) (K _ ls hX ⟨A, x1, y1, q, U, O, _, _, _, _, hO, hD, hR, hA, hRP, hMO, hou⟩ (lv_sub hl [2, 3, 4, 5, 6] rfl))
  ·
    obtain ⟨t1, t2, t3⟩ := mk3_23 h9
    have hv1 := hv1 t1 t2 t3
    have hw9 := hw9 t1 t2 t3
    refine lv_aload_n X.1 X.2.1 dL_law_1390 rfl (lv_at hl 6 rfl) ?_
    refine lv_iconst (v := nI 0) X.1 X.2.1 dL_law_1391 (by decide) ?_
    refine f_lald X hou (k := 0) (by decide) (by decide) dL_law_1392 ?_
    refine lv_lload X.1 X.2.1 dL_law_1393 (lv_at hl 0 rfl) ?_
    refine q_leq X (tgt := 1401) dL_law_1395 dL_law_1396 (by decide) (fun _ => ?_) (fun h8 => absurd (by rw [hv1, hw9]) h8)
    refine lv_goto (tgt := 1772) X.1 X.2.1 dL_law_1401 (by decide) ?_
    exact W.widen (by omega) (by omega) (K _ ls hX ⟨A, x1, y1, q, U, O, _, _, _, _, hO, hD, hR, hA, hRP, hMO, hou⟩ (lv_sub hl [2, 3, 4, 5, 6] rfl))
set_option maxHeartbeats 4000000 in
set_option maxRecDepth 100000 in
theorem law_hip (p : Program) (l : Launch) (e : Env) (s : State) (m : MethodId) (b : Nat) (below : List Frame) (meth : Method) (c : Code) (g : En) (o r mo ua oa ga ou L n : Nat) (xs : Nat → Int32) (Q : State → Prop) (hl0 : l.stackTraces = false) (X : CX p s m #[Value.ref b] meth c yL_law cL_law 8 (some .boolean) g) (hE : EX s) (hV : va_X b L xs s s.heap) (hbl : b < s.heap.size) (hS : SP o r mo ua oa ga ou s.heap.size) (hn : 6 * n + 6 ≤ L) (hL : L ≤ 3072) (K : LK p l e s m b below meth c g o r mo ua oa ga ou Q n (n + 1) 1772) : LK p l e s m b below meth c g o r mo ua oa ga ou Q n n 1404 := by
  intro H ls hX hI hl
  obtain ⟨A, x1, y1, q, U, O, cd, ab, be, f, hO, hD, hR, hA, hRP, hMO, hou⟩ := hI
  obtain ⟨hM, hSo, hSr, hSu, hSz⟩ := hS
  have hU : OD o r ou A := ⟨hSo.2.2.2.2, hSr.2.2.2.2, fun j hj => (hA j hj).2.2.2.2⟩
  refine lv_aload_n X.1 X.2.1 dL_law_1404 rfl (lv_at hl 2 rfl) ?_
  refine lv_aload_n X.1 X.2.1 dL_law_1405 rfl (lv_at hl 1 rfl) ?_
  refine lv_iload X.1 X.2.1 dL_law_1406 (lv_at hl 0 rfl) ?_
  refine lv_iconst (v := nI 1) X.1 X.2.1 dL_law_1408 (by decide) ?_
  refine lv_iadd X.1 X.2.1 dL_law_1409 ?_
  refine w_i (nI_add _ _) ?_
  refine l_sld X hV hbl hX (k := (6 * n) + 1) (by omega) (by omega) dL_law_1410 ?_
  refine lv_aload_n X.1 X.2.1 dL_law_1411 rfl (lv_at hl 1 rfl) ?_
  refine lv_iload X.1 X.2.1 dL_law_1412 (lv_at hl 0 rfl) ?_
  refine lv_iconst (v := nI 2) X.1 X.2.1 dL_law_1414 (by decide) ?_
  refine lv_iadd X.1 X.2.1 dL_law_1415 ?_
  refine w_i (nI_add _ _) ?_
  refine l_sld X hV hbl hX (k := (6 * n) + 2) (by omega) (by omega) dL_law_1416 ?_
  refine lv_aload_n X.1 X.2.1 dL_law_1417 rfl (lv_at hl 1 rfl) ?_
  refine lv_iload X.1 X.2.1 dL_law_1418 (lv_at hl 0 rfl) ?_
  refine lv_iconst (v := nI 3) X.1 X.2.1 dL_law_1420 (by decide) ?_
  refine lv_iadd X.1 X.2.1 dL_law_1421 ?_
  refine w_i (nI_add _ _) ?_
  refine l_sld X hV hbl hX (k := (6 * n) + 3) (by omega) (by omega) dL_law_1422 ?_
  refine lv_aload_n X.1 X.2.1 dL_law_1423 rfl (lv_at hl 4 rfl) ?_
  refine g_callW (As := [.ref o, .int (xs ((6 * n) + 1)), .int (xs ((6 * n) + 2)), .int (xs ((6 * n) + 3)), .ref ou]) (rest := []) X hE (c_L_hip l g o r A x1 y1 q ou f (xs ((6 * n) + 1)) (xs ((6 * n) + 2)) (xs ((6 * n) + 3)) hl0 hO hU) ⟨mw_397, mw_398, mw_37, mw_399⟩ sgL_hip ⟨rfl, rfl, ⟨by decide, by decide⟩, (by show _ ≤ 797979; omega), (by show _ ≤ 6702166; omega)⟩ ⟨hRP, hou⟩ hX (fun q h => by rw [h]; exact hSz.2.2.2.2.2.2) rfl hl.1 rfl (Nat.le_of_ble_eq_true rfl) dL_law_1424 (fun v H1 hk hp => ?_)
  obtain ⟨rfl, hRP, f1, hou, hv1⟩ := hp
  have hX := hX.trF hk (fun q h => by rw [h]; exact hSz.2.2.2.2.2.2)
  have hMO := MO.exf hMO hk ⟨hSu.1, hSu.2.1, hSu.2.2.1, hSu.2.2.2⟩
  skip
  refine W.eq (g2 := F0 m 1427 ls [.int (nI (mk3 2 3 (inI (xs ((6 * n) + 1)) 4 && inI (xs ((6 * n) + 2)) 2 && inI (xs ((6 * n) + 3)) 2) (!gab q (toN (xs ((6 * n) + 1))) && !gab q (behind (toN (xs ((6 * n) + 1))))) (true)))]) rfl ?_
  refine lv_istore (lv' := [(5, .int (nI (mk3 2 3 (inI (xs ((6 * n) + 1)) 4 && inI (xs ((6 * n) + 2)) 2 && inI (xs ((6 * n) + 3)) 2) (!gab q (toN (xs ((6 * n) + 1))) && !gab q (behind (toN (xs ((6 * n) + 1))))) (true)))), (4, .int (nI (6 * n))), (0, .ref b), (1, .ref o), (2, .ref mo), (3, .ref ou)]) X.1 X.2.1 dL_law_1427 hl (by decide) rfl (fun ls hl => ?_)
  refine lv_aload_n X.1 X.2.1 dL_law_1429 rfl (lv_at hl 4 rfl) ?_
  refine lv_aload_n X.1 X.2.1 dL_law_1430 rfl (lv_at hl 2 rfl) ?_
  refine lv_iload X.1 X.2.1 dL_law_1431 (lv_at hl 1 rfl) ?_
  refine lv_iconst (v := nI 1) X.1 X.2.1 dL_law_1433 (by decide) ?_
  refine lv_iadd X.1 X.2.1 dL_law_1434 ?_
  refine w_i (nI_add _ _) ?_
  refine l_sld X hV hbl hX (k := (6 * n) + 1) (by omega) (by omega) dL_law_1435 ?_
  refine lv_aload_n X.1 X.2.1 dL_law_1436 rfl (lv_at hl 2 rfl) ?_
  refine lv_iload X.1 X.2.1 dL_law_1437 (lv_at hl 1 rfl) ?_
  refine lv_iconst (v := nI 2) X.1 X.2.1 dL_law_1439 (by decide) ?_
  refine lv_iadd X.1 X.2.1 dL_law_1440 ?_
  refine w_i (nI_add _ _) ?_
  refine l_sld X hV hbl hX (k := (6 * n) + 2) (by omega) (by omega) dL_law_1441 ?_
  refine lv_aload_n X.1 X.2.1 dL_law_1442 rfl (lv_at hl 2 rfl) ?_
  refine lv_iload X.1 X.2.1 dL_law_1443 (lv_at hl 1 rfl) ?_
  refine lv_iconst (v := nI 3) X.1 X.2.1 dL_law_1445 (by decide) ?_
  refine lv_iadd X.1 X.2.1 dL_law_1446 ?_
  refine w_i (nI_add _ _) ?_
  refine l_sld X hV hbl hX (k := (6 * n) + 3) (by omega) (by omega) dL_law_1447 ?_
  refine g_callV (C := RX2) (b := mo) (As := [.int (xs ((6 * n) + 1)), .int (xs ((6 * n) + 2)), .int (xs ((6 * n) + 3))]) (rest := []) X (c_X2_hip l g mo ua oa ga cd ab be x1 y1 U O q (xs ((6 * n) + 1)) (xs ((6 * n) + 2)) (xs ((6 * n) + 3)) hO hR hM) ⟨mw_614, mw_615, mw_616, mw_40, mw_617⟩ sgX2_hip ⟨rfl, rfl, ⟨by decide, by decide⟩, (by show _ ≤ 797979; omega), (by show _ ≤ 6702166; omega)⟩ (hMO.at 0 rfl) rfl rfl hMO hX (fun q h => by rw [h]; exact hSz.2.2.1) rfl hl.1 rfl (Nat.le_of_ble_eq_true rfl) dL_law_1448 (fun v H2 hk2 hp2 => ?_)
  obtain ⟨⟨n9, ab1, be1, rfl, hMO⟩, w9, rfl, hw9⟩ := hp2
  have hX := hX.trF hk2 (fun q h => by rw [h]; exact hSz.2.2.1)
  have hRP := RP.exf hRP hk2 ⟨hSo.1, hSr.1⟩ (fun j hj => (hA j hj).1)
  have hou := at_exf hou hk2 hSu.1.symm
  refine W.eq (g2 := F0 m 1451 ls [.long w9]) rfl ?_
  refine lv_lstore (lv' := [(6, .long w9), (5, .int (nI (mk3 2 3 (inI (xs ((6 * n) + 1)) 4 && inI (xs ((6 * n) + 2)) 2 && inI (xs ((6 * n) + 3)) 2) (!gab q (toN (xs ((6 * n) + 1))) && !gab q (behind (toN (xs ((6 * n) + 1))))) (true)))), (4, .int (nI (6 * n))), (0, .ref b), (1, .ref o), (2, .ref mo), (3, .ref ou)]) X.1 X.2.1 dL_law_1451 hl (by decide) rfl (fun ls hl => ?_)
  refine lv_aload_n X.1 X.2.1 dL_law_1453 rfl (lv_at hl 5 rfl) ?_
  refine p_callV (C := RX2) (b := mo) (As := []) (rest := []) X (c_X2_thrown l g mo ua oa ga (nI (mk3 2 3 (inI (xs ((6 * n) + 1)) 4 && inI (xs ((6 * n) + 2)) 2 && inI (xs ((6 * n) + 3)) 2) (!gab q (toN (xs ((6 * n) + 1))) && !gab q (behind (toN (xs ((6 * n) + 1))))) (true))) _ _ x1 y1 U O q) ⟨mw_491, mw_492, mw_493, mw_40, mw_494⟩ sgX2_thrown ⟨rfl, rfl, ⟨by decide, by decide⟩, (by show _ ≤ 797979; omega), (by show _ ≤ 6702166; omega)⟩ (hMO.at 0 rfl) rfl rfl hMO hX.1 rfl hl.1 rfl (Nat.le_of_ble_eq_true rfl) dL_law_1454 (fun v H3 hk3 hp3 => ?_)
  obtain rfl := hp3
  have hX := hX.tr hk3
  have hMO := PP.ext hMO hk3
  have hRP := RP.ext hRP hk3
  have hou := (PP.ext (PP.one hou) hk3) 0 _ rfl
  refine W.eq (g2 := F0 m 1457 ls [.int (nI (mk3 2 3 (inI (xs ((6 * n) + 1)) 4 && inI (xs ((6 * n) + 2)) 2 && inI (xs ((6 * n) + 3)) 2) (!gab q (toN (xs ((6 * n) + 1))) && !gab q (behind (toN (xs ((6 * n) + 1))))) (true)))]) rfl ?_
  refine lv_iload X.1 X.2.1 dL_law_1457 (lv_at hl 1 rfl) ?_
  refine lv_icmp_eq (tgt := 1464) X.1 X.2.1 dL_law_1459 (by decide) (fun _ => ?_) (fun h9 => absurd rfl h9)
  refine lv_iload X.1 X.2.1 dL_law_1464 (lv_at hl 1 rfl) ?_
  refine lv_if_ne (tgt := 1480) X.1 X.2.1 dL_law_1466 (by decide) (fun h9 => ?_) (fun h9 => ?_)
  ·
    refine lv_goto (tgt := 1772) X.1 X.2.1 dL_law_1480 (by decide) ?_
    exact W.widen (by omega) (by omega) (K _ ls hX ⟨A, x1, y1, q, U, O, _, _, _, _, hO, hD, hR, hA, hRP, hMO, hou⟩ (lv_sub hl [2, 3, 4, 5, 6] rfl))
  ·
    obtain ⟨t1, t2, t3⟩ := mk3_23 h9
    have hv1 := hv1 t1 t2 t3
    have hw9 := hw9 t1 t2 t3
    refine lv_aload_n X.1 X.2.1 dL_law_1469 rfl (lv_at hl 6 rfl) ?_
    refine lv_iconst (v := nI 0) X.1 X.2.1 dL_law_1470 (by decide) ?_
    refine f_lald X hou (k := 0) (by decide) (by decide) dL_law_1471 ?_
    refine lv_lload X.1 X.2.1 dL_law_1472 (lv_at hl 0 rfl) ?_
    refine q_leq X (tgt := 1480) dL_law_1474 dL_law_1475 (by decide) (fun _ => ?_) (fun h8 => absurd (by rw [hv1, hw9]) h8)
    refine lv_goto (tgt := 1772) X.1 X.2.1 dL_law_1480 (by decide) ?_
    exact W.widen (by omega) (by omega) (K _ ls hX ⟨A, x1, y1, q, U, O, _, _, _, _, hO, hD, hR, hA, hRP, hMO, hou⟩ (lv_sub hl [2, 3, 4, 5, 6] rfl))
set_option maxHeartbeats 4000000 in
set_option maxRecDepth 100000 in
theorem law_peak (p : Program) (l : Launch) (e : Env) (s : State) (m : MethodId) (b : Nat) (below : List Frame) (meth : Method) (c : Code) (g : En) (o r mo ua oa ga ou L n : Nat) (xs : Nat → Int32) (Q : State → Prop) (hl0 : l.stackTraces = false) (X : CX p s m #[Value.ref b] meth c yL_law cL_law 8 (some .boolean) g) (hE : EX s) (hV : va_X b L xs s s.heap) (hbl : b < s.heap.size) (hS : SP o r mo ua oa ga ou s.heap.size) (hn : 6 * n + 6 ≤ L) (hL : L ≤ 3072) (K : LK p l e s m b below meth c g o r mo ua oa ga ou Q n (n + 1) 1772) : LK p l e s m b below meth c g o r mo ua oa ga ou Q n n 1483 := by
  intro H ls hX hI hl
  obtain ⟨A, x1, y1, q, U, O, cd, ab, be, f, hO, hD, hR, hA, hRP, hMO, hou⟩ := hI
  obtain ⟨hM, hSo, hSr, hSu, hSz⟩ := hS
  have hU : OD o r ou A := ⟨hSo.2.2.2.2, hSr.2.2.2.2, fun j hj => (hA j hj).2.2.2.2⟩
  refine lv_aload_n X.1 X.2.1 dL_law_1483 rfl (lv_at hl 2 rfl) ?_
  refine lv_aload_n X.1 X.2.1 dL_law_1484 rfl (lv_at hl 1 rfl) ?_
  refine lv_iload X.1 X.2.1 dL_law_1485 (lv_at hl 0 rfl) ?_
  refine lv_iconst (v := nI 1) X.1 X.2.1 dL_law_1487 (by decide) ?_
  refine lv_iadd X.1 X.2.1 dL_law_1488 ?_
  refine w_i (nI_add _ _) ?_
  refine l_sld X hV hbl hX (k := (6 * n) + 1) (by omega) (by omega) dL_law_1489 ?_
  refine lv_aload_n X.1 X.2.1 dL_law_1490 rfl (lv_at hl 4 rfl) ?_
  refine g_callW (As := [.ref o, .int (xs ((6 * n) + 1)), .ref ou]) (rest := []) X hE (c_L_peak l g o r A x1 y1 q ou f (xs ((6 * n) + 1)) hl0 hO hU) ⟨mw_415, mw_416, mw_37, mw_417⟩ sgL_peak ⟨rfl, rfl, ⟨by decide, by decide⟩, (by show _ ≤ 797979; omega), (by show _ ≤ 6702166; omega)⟩ ⟨hRP, hou⟩ hX (fun q h => by rw [h]; exact hSz.2.2.2.2.2.2) rfl hl.1 rfl (Nat.le_of_ble_eq_true rfl) dL_law_1491 (fun v H1 hk hp => ?_)
  obtain ⟨rfl, hRP, f1, hou, hv1⟩ := hp
  have hX := hX.trF hk (fun q h => by rw [h]; exact hSz.2.2.2.2.2.2)
  have hMO := MO.exf hMO hk ⟨hSu.1, hSu.2.1, hSu.2.2.1, hSu.2.2.2⟩
  skip
  refine W.eq (g2 := F0 m 1494 ls [.int (nI (mk3 2 3 (inI (xs ((6 * n) + 1)) 2) (true) (true)))]) rfl ?_
  refine lv_istore (lv' := [(5, .int (nI (mk3 2 3 (inI (xs ((6 * n) + 1)) 2) (true) (true)))), (4, .int (nI (6 * n))), (0, .ref b), (1, .ref o), (2, .ref mo), (3, .ref ou)]) X.1 X.2.1 dL_law_1494 hl (by decide) rfl (fun ls hl => ?_)
  refine lv_aload_n X.1 X.2.1 dL_law_1496 rfl (lv_at hl 4 rfl) ?_
  refine lv_aload_n X.1 X.2.1 dL_law_1497 rfl (lv_at hl 2 rfl) ?_
  refine lv_iload X.1 X.2.1 dL_law_1498 (lv_at hl 1 rfl) ?_
  refine lv_iconst (v := nI 1) X.1 X.2.1 dL_law_1500 (by decide) ?_
  refine lv_iadd X.1 X.2.1 dL_law_1501 ?_
  refine w_i (nI_add _ _) ?_
  refine l_sld X hV hbl hX (k := (6 * n) + 1) (by omega) (by omega) dL_law_1502 ?_
  refine g_callV (C := RX2) (b := mo) (As := [.int (xs ((6 * n) + 1))]) (rest := []) X (c_X2_peak l g mo ua oa ga cd ab be x1 y1 U O q (xs ((6 * n) + 1)) hO hR hM) ⟨mw_590, mw_591, mw_592, mw_40, mw_593⟩ sgX2_peak ⟨rfl, rfl, ⟨by decide, by decide⟩, (by show _ ≤ 797979; omega), (by show _ ≤ 6702166; omega)⟩ (hMO.at 0 rfl) rfl rfl hMO hX (fun q h => by rw [h]; exact hSz.2.2.1) rfl hl.1 rfl (Nat.le_of_ble_eq_true rfl) dL_law_1503 (fun v H2 hk2 hp2 => ?_)
  obtain ⟨⟨n9, ab1, be1, rfl, hMO⟩, w9, rfl, hw9⟩ := hp2
  have hX := hX.trF hk2 (fun q h => by rw [h]; exact hSz.2.2.1)
  have hRP := RP.exf hRP hk2 ⟨hSo.1, hSr.1⟩ (fun j hj => (hA j hj).1)
  have hou := at_exf hou hk2 hSu.1.symm
  refine W.eq (g2 := F0 m 1506 ls [.long w9]) rfl ?_
  refine lv_lstore (lv' := [(6, .long w9), (5, .int (nI (mk3 2 3 (inI (xs ((6 * n) + 1)) 2) (true) (true)))), (4, .int (nI (6 * n))), (0, .ref b), (1, .ref o), (2, .ref mo), (3, .ref ou)]) X.1 X.2.1 dL_law_1506 hl (by decide) rfl (fun ls hl => ?_)
  refine lv_aload_n X.1 X.2.1 dL_law_1508 rfl (lv_at hl 5 rfl) ?_
  refine p_callV (C := RX2) (b := mo) (As := []) (rest := []) X (c_X2_thrown l g mo ua oa ga (nI (mk3 2 3 (inI (xs ((6 * n) + 1)) 2) (true) (true))) _ _ x1 y1 U O q) ⟨mw_491, mw_492, mw_493, mw_40, mw_494⟩ sgX2_thrown ⟨rfl, rfl, ⟨by decide, by decide⟩, (by show _ ≤ 797979; omega), (by show _ ≤ 6702166; omega)⟩ (hMO.at 0 rfl) rfl rfl hMO hX.1 rfl hl.1 rfl (Nat.le_of_ble_eq_true rfl) dL_law_1509 (fun v H3 hk3 hp3 => ?_)
  obtain rfl := hp3
  have hX := hX.tr hk3
  have hMO := PP.ext hMO hk3
  have hRP := RP.ext hRP hk3
  have hou := (PP.ext (PP.one hou) hk3) 0 _ rfl
  refine W.eq (g2 := F0 m 1512 ls [.int (nI (mk3 2 3 (inI (xs ((6 * n) + 1)) 2) (true) (true)))]) rfl ?_
  refine lv_iload X.1 X.2.1 dL_law_1512 (lv_at hl 1 rfl) ?_
  refine lv_icmp_eq (tgt := 1519) X.1 X.2.1 dL_law_1514 (by decide) (fun _ => ?_) (fun h9 => absurd rfl h9)
  refine lv_iload X.1 X.2.1 dL_law_1519 (lv_at hl 1 rfl) ?_
  refine lv_if_ne (tgt := 1535) X.1 X.2.1 dL_law_1521 (by decide) (fun h9 => ?_) (fun h9 => ?_)
  ·
    refine lv_goto (tgt := 1772) X.1 X.2.1 dL_law_1535 (by decide) ?_
    exact W.widen (by omega) (by omega) (K _ ls hX ⟨A, x1, y1, q, U, O, _, _, _, _, hO, hD, hR, hA, hRP, hMO, hou⟩ (lv_sub hl [2, 3, 4, 5, 6] rfl))
  ·
    obtain ⟨t1, t2, t3⟩ := mk3_23 h9
    have hv1 := hv1 t1 t2 t3
    have hw9 := hw9 t1 t2 t3
    refine lv_aload_n X.1 X.2.1 dL_law_1524 rfl (lv_at hl 6 rfl) ?_
    refine lv_iconst (v := nI 0) X.1 X.2.1 dL_law_1525 (by decide) ?_
    refine f_lald X hou (k := 0) (by decide) (by decide) dL_law_1526 ?_
    refine lv_lload X.1 X.2.1 dL_law_1527 (lv_at hl 0 rfl) ?_
    refine q_leq X (tgt := 1535) dL_law_1529 dL_law_1530 (by decide) (fun _ => ?_) (fun h8 => absurd (by rw [hv1, hw9]) h8)
    refine lv_goto (tgt := 1772) X.1 X.2.1 dL_law_1535 (by decide) ?_
    exact W.widen (by omega) (by omega) (K _ ls hX ⟨A, x1, y1, q, U, O, _, _, _, _, hO, hD, hR, hA, hRP, hMO, hou⟩ (lv_sub hl [2, 3, 4, 5, 6] rfl))
set_option maxHeartbeats 4000000 in
set_option maxRecDepth 100000 in
theorem law_ridge (p : Program) (l : Launch) (e : Env) (s : State) (m : MethodId) (b : Nat) (below : List Frame) (meth : Method) (c : Code) (g : En) (o r mo ua oa ga ou L n : Nat) (xs : Nat → Int32) (Q : State → Prop) (hl0 : l.stackTraces = false) (X : CX p s m #[Value.ref b] meth c yL_law cL_law 8 (some .boolean) g) (hE : EX s) (hV : va_X b L xs s s.heap) (hbl : b < s.heap.size) (hS : SP o r mo ua oa ga ou s.heap.size) (hn : 6 * n + 6 ≤ L) (hL : L ≤ 3072) (K : LK p l e s m b below meth c g o r mo ua oa ga ou Q n (n + 1) 1772) : LK p l e s m b below meth c g o r mo ua oa ga ou Q n n 1538 := by
  intro H ls hX hI hl
  obtain ⟨A, x1, y1, q, U, O, cd, ab, be, f, hO, hD, hR, hA, hRP, hMO, hou⟩ := hI
  obtain ⟨hM, hSo, hSr, hSu, hSz⟩ := hS
  have hU : OD o r ou A := ⟨hSo.2.2.2.2, hSr.2.2.2.2, fun j hj => (hA j hj).2.2.2.2⟩
  refine lv_aload_n X.1 X.2.1 dL_law_1538 rfl (lv_at hl 2 rfl) ?_
  refine lv_aload_n X.1 X.2.1 dL_law_1539 rfl (lv_at hl 1 rfl) ?_
  refine lv_iload X.1 X.2.1 dL_law_1540 (lv_at hl 0 rfl) ?_
  refine lv_iconst (v := nI 1) X.1 X.2.1 dL_law_1542 (by decide) ?_
  refine lv_iadd X.1 X.2.1 dL_law_1543 ?_
  refine w_i (nI_add _ _) ?_
  refine l_sld X hV hbl hX (k := (6 * n) + 1) (by omega) (by omega) dL_law_1544 ?_
  refine lv_aload_n X.1 X.2.1 dL_law_1545 rfl (lv_at hl 1 rfl) ?_
  refine lv_iload X.1 X.2.1 dL_law_1546 (lv_at hl 0 rfl) ?_
  refine lv_iconst (v := nI 2) X.1 X.2.1 dL_law_1548 (by decide) ?_
  refine lv_iadd X.1 X.2.1 dL_law_1549 ?_
  refine w_i (nI_add _ _) ?_
  refine l_sld X hV hbl hX (k := (6 * n) + 2) (by omega) (by omega) dL_law_1550 ?_
  refine lv_aload_n X.1 X.2.1 dL_law_1551 rfl (lv_at hl 4 rfl) ?_
  refine g_callW (As := [.ref o, .int (xs ((6 * n) + 1)), .int (xs ((6 * n) + 2)), .ref ou]) (rest := []) X hE (c_L_ridge l g o r A x1 y1 q ou f (xs ((6 * n) + 1)) (xs ((6 * n) + 2)) hl0 hO hU) ⟨mw_422, mw_423, mw_37, mw_424⟩ sgL_ridge ⟨rfl, rfl, ⟨by decide, by decide⟩, (by show _ ≤ 797979; omega), (by show _ ≤ 6702166; omega)⟩ ⟨hRP, hou⟩ hX (fun q h => by rw [h]; exact hSz.2.2.2.2.2.2) rfl hl.1 rfl (Nat.le_of_ble_eq_true rfl) dL_law_1552 (fun v H1 hk hp => ?_)
  obtain ⟨rfl, hRP, f1, hou, hv1⟩ := hp
  have hX := hX.trF hk (fun q h => by rw [h]; exact hSz.2.2.2.2.2.2)
  have hMO := MO.exf hMO hk ⟨hSu.1, hSu.2.1, hSu.2.2.1, hSu.2.2.2⟩
  skip
  refine W.eq (g2 := F0 m 1555 ls [.int (nI (mk3 2 3 (inI (xs ((6 * n) + 1)) 4 && inI (xs ((6 * n) + 2)) 2) (true) (true)))]) rfl ?_
  refine lv_istore (lv' := [(5, .int (nI (mk3 2 3 (inI (xs ((6 * n) + 1)) 4 && inI (xs ((6 * n) + 2)) 2) (true) (true)))), (4, .int (nI (6 * n))), (0, .ref b), (1, .ref o), (2, .ref mo), (3, .ref ou)]) X.1 X.2.1 dL_law_1555 hl (by decide) rfl (fun ls hl => ?_)
  refine lv_aload_n X.1 X.2.1 dL_law_1557 rfl (lv_at hl 4 rfl) ?_
  refine lv_aload_n X.1 X.2.1 dL_law_1558 rfl (lv_at hl 2 rfl) ?_
  refine lv_iload X.1 X.2.1 dL_law_1559 (lv_at hl 1 rfl) ?_
  refine lv_iconst (v := nI 1) X.1 X.2.1 dL_law_1561 (by decide) ?_
  refine lv_iadd X.1 X.2.1 dL_law_1562 ?_
  refine w_i (nI_add _ _) ?_
  refine l_sld X hV hbl hX (k := (6 * n) + 1) (by omega) (by omega) dL_law_1563 ?_
  refine lv_aload_n X.1 X.2.1 dL_law_1564 rfl (lv_at hl 2 rfl) ?_
  refine lv_iload X.1 X.2.1 dL_law_1565 (lv_at hl 1 rfl) ?_
  refine lv_iconst (v := nI 2) X.1 X.2.1 dL_law_1567 (by decide) ?_
  refine lv_iadd X.1 X.2.1 dL_law_1568 ?_
  refine w_i (nI_add _ _) ?_
  refine l_sld X hV hbl hX (k := (6 * n) + 2) (by omega) (by omega) dL_law_1569 ?_
  refine g_callV (C := RX2) (b := mo) (As := [.int (xs ((6 * n) + 1)), .int (xs ((6 * n) + 2))]) (rest := []) X (c_X2_ridge l g mo ua oa ga cd ab be x1 y1 U O q (xs ((6 * n) + 1)) (xs ((6 * n) + 2)) hO hR hM) ⟨mw_606, mw_607, mw_608, mw_40, mw_609⟩ sgX2_ridge ⟨rfl, rfl, ⟨by decide, by decide⟩, (by show _ ≤ 797979; omega), (by show _ ≤ 6702166; omega)⟩ (hMO.at 0 rfl) rfl rfl hMO hX (fun q h => by rw [h]; exact hSz.2.2.1) rfl hl.1 rfl (Nat.le_of_ble_eq_true rfl) dL_law_1570 (fun v H2 hk2 hp2 => ?_)
  obtain ⟨⟨n9, ab1, be1, rfl, hMO⟩, w9, rfl, hw9⟩ := hp2
  have hX := hX.trF hk2 (fun q h => by rw [h]; exact hSz.2.2.1)
  have hRP := RP.exf hRP hk2 ⟨hSo.1, hSr.1⟩ (fun j hj => (hA j hj).1)
  have hou := at_exf hou hk2 hSu.1.symm
  refine W.eq (g2 := F0 m 1573 ls [.long w9]) rfl ?_
  refine lv_lstore (lv' := [(6, .long w9), (5, .int (nI (mk3 2 3 (inI (xs ((6 * n) + 1)) 4 && inI (xs ((6 * n) + 2)) 2) (true) (true)))), (4, .int (nI (6 * n))), (0, .ref b), (1, .ref o), (2, .ref mo), (3, .ref ou)]) X.1 X.2.1 dL_law_1573 hl (by decide) rfl (fun ls hl => ?_)
  refine lv_aload_n X.1 X.2.1 dL_law_1575 rfl (lv_at hl 5 rfl) ?_
  refine p_callV (C := RX2) (b := mo) (As := []) (rest := []) X (c_X2_thrown l g mo ua oa ga (nI (mk3 2 3 (inI (xs ((6 * n) + 1)) 4 && inI (xs ((6 * n) + 2)) 2) (true) (true))) _ _ x1 y1 U O q) ⟨mw_491, mw_492, mw_493, mw_40, mw_494⟩ sgX2_thrown ⟨rfl, rfl, ⟨by decide, by decide⟩, (by show _ ≤ 797979; omega), (by show _ ≤ 6702166; omega)⟩ (hMO.at 0 rfl) rfl rfl hMO hX.1 rfl hl.1 rfl (Nat.le_of_ble_eq_true rfl) dL_law_1576 (fun v H3 hk3 hp3 => ?_)
  obtain rfl := hp3
  have hX := hX.tr hk3
  have hMO := PP.ext hMO hk3
  have hRP := RP.ext hRP hk3
  have hou := (PP.ext (PP.one hou) hk3) 0 _ rfl
  refine W.eq (g2 := F0 m 1579 ls [.int (nI (mk3 2 3 (inI (xs ((6 * n) + 1)) 4 && inI (xs ((6 * n) + 2)) 2) (true) (true)))]) rfl ?_
  refine lv_iload X.1 X.2.1 dL_law_1579 (lv_at hl 1 rfl) ?_
  refine lv_icmp_eq (tgt := 1586) X.1 X.2.1 dL_law_1581 (by decide) (fun _ => ?_) (fun h9 => absurd rfl h9)
  refine lv_iload X.1 X.2.1 dL_law_1586 (lv_at hl 1 rfl) ?_
  refine lv_if_ne (tgt := 1602) X.1 X.2.1 dL_law_1588 (by decide) (fun h9 => ?_) (fun h9 => ?_)
  ·
    refine lv_goto (tgt := 1772) X.1 X.2.1 dL_law_1602 (by decide) ?_
    exact W.widen (by omega) (by omega) (K _ ls hX ⟨A, x1, y1, q, U, O, _, _, _, _, hO, hD, hR, hA, hRP, hMO, hou⟩ (lv_sub hl [2, 3, 4, 5, 6] rfl))
  ·
    obtain ⟨t1, t2, t3⟩ := mk3_23 h9
    have hv1 := hv1 t1 t2 t3
    have hw9 := hw9 t1 t2 t3
    refine lv_aload_n X.1 X.2.1 dL_law_1591 rfl (lv_at hl 6 rfl) ?_
    refine lv_iconst (v := nI 0) X.1 X.2.1 dL_law_1592 (by decide) ?_
    refine f_lald X hou (k := 0) (by decide) (by decide) dL_law_1593 ?_
    refine lv_lload X.1 X.2.1 dL_law_1594 (lv_at hl 0 rfl) ?_
    refine q_leq X (tgt := 1602) dL_law_1596 dL_law_1597 (by decide) (fun _ => ?_) (fun h8 => absurd (by rw [hv1, hw9]) h8)
    refine lv_goto (tgt := 1772) X.1 X.2.1 dL_law_1602 (by decide) ?_
    exact W.widen (by omega) (by omega) (K _ ls hX ⟨A, x1, y1, q, U, O, _, _, _, _, hO, hD, hR, hA, hRP, hMO, hou⟩ (lv_sub hl [2, 3, 4, 5, 6] rfl))
set_option maxHeartbeats 4000000 in
set_option maxRecDepth 100000 in
theorem law_area (p : Program) (l : Launch) (e : Env) (s : State) (m : MethodId) (b : Nat) (below : List Frame) (meth : Method) (c : Code) (g : En) (o r mo ua oa ga ou L n : Nat) (xs : Nat → Int32) (Q : State → Prop) (hl0 : l.stackTraces = false) (X : CX p s m #[Value.ref b] meth c yL_law cL_law 8 (some .boolean) g) (hE : EX s) (hV : va_X b L xs s s.heap) (hbl : b < s.heap.size) (hS : SP o r mo ua oa ga ou s.heap.size) (hn : 6 * n + 6 ≤ L) (hL : L ≤ 3072) (K : LK p l e s m b below meth c g o r mo ua oa ga ou Q n (n + 1) 1772) : LK p l e s m b below meth c g o r mo ua oa ga ou Q n n 1605 := by
  intro H ls hX hI hl
  obtain ⟨A, x1, y1, q, U, O, cd, ab, be, f, hO, hD, hR, hA, hRP, hMO, hou⟩ := hI
  obtain ⟨hM, hSo, hSr, hSu, hSz⟩ := hS
  have hU : OD o r ou A := ⟨hSo.2.2.2.2, hSr.2.2.2.2, fun j hj => (hA j hj).2.2.2.2⟩
  refine lv_aload_n X.1 X.2.1 dL_law_1605 rfl (lv_at hl 2 rfl) ?_
  refine lv_aload_n X.1 X.2.1 dL_law_1606 rfl (lv_at hl 1 rfl) ?_
  refine lv_iload X.1 X.2.1 dL_law_1607 (lv_at hl 0 rfl) ?_
  refine lv_iconst (v := nI 1) X.1 X.2.1 dL_law_1609 (by decide) ?_
  refine lv_iadd X.1 X.2.1 dL_law_1610 ?_
  refine w_i (nI_add _ _) ?_
  refine l_sld X hV hbl hX (k := (6 * n) + 1) (by omega) (by omega) dL_law_1611 ?_
  refine lv_aload_n X.1 X.2.1 dL_law_1612 rfl (lv_at hl 1 rfl) ?_
  refine lv_iload X.1 X.2.1 dL_law_1613 (lv_at hl 0 rfl) ?_
  refine lv_iconst (v := nI 2) X.1 X.2.1 dL_law_1615 (by decide) ?_
  refine lv_iadd X.1 X.2.1 dL_law_1616 ?_
  refine w_i (nI_add _ _) ?_
  refine l_sld X hV hbl hX (k := (6 * n) + 2) (by omega) (by omega) dL_law_1617 ?_
  refine lv_aload_n X.1 X.2.1 dL_law_1618 rfl (lv_at hl 4 rfl) ?_
  refine g_callW (As := [.ref o, .int (xs ((6 * n) + 1)), .int (xs ((6 * n) + 2)), .ref ou]) (rest := []) X hE (c_L_area l g o r A x1 y1 q ou f (xs ((6 * n) + 1)) (xs ((6 * n) + 2)) hl0 hO hU) ⟨mw_437, mw_438, mw_37, mw_439⟩ sgL_area ⟨rfl, rfl, ⟨by decide, by decide⟩, (by show _ ≤ 797979; omega), (by show _ ≤ 6702166; omega)⟩ ⟨hRP, hou⟩ hX (fun q h => by rw [h]; exact hSz.2.2.2.2.2.2) rfl hl.1 rfl (Nat.le_of_ble_eq_true rfl) dL_law_1619 (fun v H1 hk hp => ?_)
  obtain ⟨rfl, hRP, f1, hou, hv1⟩ := hp
  have hX := hX.trF hk (fun q h => by rw [h]; exact hSz.2.2.2.2.2.2)
  have hMO := MO.exf hMO hk ⟨hSu.1, hSu.2.1, hSu.2.2.1, hSu.2.2.2⟩
  skip
  refine W.eq (g2 := F0 m 1622 ls [.int (nI (mk3 2 3 (inI (xs ((6 * n) + 1)) 4 && inI (xs ((6 * n) + 2)) 2) (!gab q (toN (xs ((6 * n) + 1)))) (true)))]) rfl ?_
  refine lv_istore (lv' := [(5, .int (nI (mk3 2 3 (inI (xs ((6 * n) + 1)) 4 && inI (xs ((6 * n) + 2)) 2) (!gab q (toN (xs ((6 * n) + 1)))) (true)))), (4, .int (nI (6 * n))), (0, .ref b), (1, .ref o), (2, .ref mo), (3, .ref ou)]) X.1 X.2.1 dL_law_1622 hl (by decide) rfl (fun ls hl => ?_)
  refine lv_aload_n X.1 X.2.1 dL_law_1624 rfl (lv_at hl 4 rfl) ?_
  refine lv_aload_n X.1 X.2.1 dL_law_1625 rfl (lv_at hl 2 rfl) ?_
  refine lv_iload X.1 X.2.1 dL_law_1626 (lv_at hl 1 rfl) ?_
  refine lv_iconst (v := nI 1) X.1 X.2.1 dL_law_1628 (by decide) ?_
  refine lv_iadd X.1 X.2.1 dL_law_1629 ?_
  refine w_i (nI_add _ _) ?_
  refine l_sld X hV hbl hX (k := (6 * n) + 1) (by omega) (by omega) dL_law_1630 ?_
  refine lv_aload_n X.1 X.2.1 dL_law_1631 rfl (lv_at hl 2 rfl) ?_
  refine lv_iload X.1 X.2.1 dL_law_1632 (lv_at hl 1 rfl) ?_
  refine lv_iconst (v := nI 2) X.1 X.2.1 dL_law_1634 (by decide) ?_
  refine lv_iadd X.1 X.2.1 dL_law_1635 ?_
  refine w_i (nI_add _ _) ?_
  refine l_sld X hV hbl hX (k := (6 * n) + 2) (by omega) (by omega) dL_law_1636 ?_
  refine g_callV (C := RX2) (b := mo) (As := [.int (xs ((6 * n) + 1)), .int (xs ((6 * n) + 2))]) (rest := []) X (c_X2_area l g mo ua oa ga cd ab be x1 y1 U O q (xs ((6 * n) + 1)) (xs ((6 * n) + 2)) hO hR hM) ⟨mw_619, mw_620, mw_621, mw_40, mw_622⟩ sgX2_area ⟨rfl, rfl, ⟨by decide, by decide⟩, (by show _ ≤ 797979; omega), (by show _ ≤ 6702166; omega)⟩ (hMO.at 0 rfl) rfl rfl hMO hX (fun q h => by rw [h]; exact hSz.2.2.1) rfl hl.1 rfl (Nat.le_of_ble_eq_true rfl) dL_law_1637 (fun v H2 hk2 hp2 => ?_)
  obtain ⟨⟨n9, ab1, be1, rfl, hMO⟩, w9, rfl, hw9⟩ := hp2
  have hX := hX.trF hk2 (fun q h => by rw [h]; exact hSz.2.2.1)
  have hRP := RP.exf hRP hk2 ⟨hSo.1, hSr.1⟩ (fun j hj => (hA j hj).1)
  have hou := at_exf hou hk2 hSu.1.symm
  refine W.eq (g2 := F0 m 1640 ls [.long w9]) rfl ?_
  refine lv_lstore (lv' := [(6, .long w9), (5, .int (nI (mk3 2 3 (inI (xs ((6 * n) + 1)) 4 && inI (xs ((6 * n) + 2)) 2) (!gab q (toN (xs ((6 * n) + 1)))) (true)))), (4, .int (nI (6 * n))), (0, .ref b), (1, .ref o), (2, .ref mo), (3, .ref ou)]) X.1 X.2.1 dL_law_1640 hl (by decide) rfl (fun ls hl => ?_)
  refine lv_aload_n X.1 X.2.1 dL_law_1642 rfl (lv_at hl 5 rfl) ?_
  refine p_callV (C := RX2) (b := mo) (As := []) (rest := []) X (c_X2_thrown l g mo ua oa ga (nI (mk3 2 3 (inI (xs ((6 * n) + 1)) 4 && inI (xs ((6 * n) + 2)) 2) (!gab q (toN (xs ((6 * n) + 1)))) (true))) _ _ x1 y1 U O q) ⟨mw_491, mw_492, mw_493, mw_40, mw_494⟩ sgX2_thrown ⟨rfl, rfl, ⟨by decide, by decide⟩, (by show _ ≤ 797979; omega), (by show _ ≤ 6702166; omega)⟩ (hMO.at 0 rfl) rfl rfl hMO hX.1 rfl hl.1 rfl (Nat.le_of_ble_eq_true rfl) dL_law_1643 (fun v H3 hk3 hp3 => ?_)
  obtain rfl := hp3
  have hX := hX.tr hk3
  have hMO := PP.ext hMO hk3
  have hRP := RP.ext hRP hk3
  have hou := (PP.ext (PP.one hou) hk3) 0 _ rfl
  refine W.eq (g2 := F0 m 1646 ls [.int (nI (mk3 2 3 (inI (xs ((6 * n) + 1)) 4 && inI (xs ((6 * n) + 2)) 2) (!gab q (toN (xs ((6 * n) + 1)))) (true)))]) rfl ?_
  refine lv_iload X.1 X.2.1 dL_law_1646 (lv_at hl 1 rfl) ?_
  refine lv_icmp_eq (tgt := 1653) X.1 X.2.1 dL_law_1648 (by decide) (fun _ => ?_) (fun h9 => absurd rfl h9)
  refine lv_iload X.1 X.2.1 dL_law_1653 (lv_at hl 1 rfl) ?_
  refine lv_if_ne (tgt := 1669) X.1 X.2.1 dL_law_1655 (by decide) (fun h9 => ?_) (fun h9 => ?_)
  ·
    refine lv_goto (tgt := 1772) X.1 X.2.1 dL_law_1669 (by decide) ?_
    exact W.widen (by omega) (by omega) (K _ ls hX ⟨A, x1, y1, q, U, O, _, _, _, _, hO, hD, hR, hA, hRP, hMO, hou⟩ (lv_sub hl [2, 3, 4, 5, 6] rfl))
  ·
    obtain ⟨t1, t2, t3⟩ := mk3_23 h9
    have hv1 := hv1 t1 t2 t3
    have hw9 := hw9 t1 t2 t3
    refine lv_aload_n X.1 X.2.1 dL_law_1658 rfl (lv_at hl 6 rfl) ?_
    refine lv_iconst (v := nI 0) X.1 X.2.1 dL_law_1659 (by decide) ?_
    refine f_lald X hou (k := 0) (by decide) (by decide) dL_law_1660 ?_
    refine lv_lload X.1 X.2.1 dL_law_1661 (lv_at hl 0 rfl) ?_
    refine q_leq X (tgt := 1669) dL_law_1663 dL_law_1664 (by decide) (fun _ => ?_) (fun h8 => absurd (by rw [hv1, hw9]) h8)
    refine lv_goto (tgt := 1772) X.1 X.2.1 dL_law_1669 (by decide) ?_
    exact W.widen (by omega) (by omega) (K _ ls hX ⟨A, x1, y1, q, U, O, _, _, _, _, hO, hD, hR, hA, hRP, hMO, hou⟩ (lv_sub hl [2, 3, 4, 5, 6] rfl))
set_option maxHeartbeats 4000000 in
set_option maxRecDepth 100000 in
theorem law_batten (p : Program) (l : Launch) (e : Env) (s : State) (m : MethodId) (b : Nat) (below : List Frame) (meth : Method) (c : Code) (g : En) (o r mo ua oa ga ou L n : Nat) (xs : Nat → Int32) (Q : State → Prop) (hl0 : l.stackTraces = false) (X : CX p s m #[Value.ref b] meth c yL_law cL_law 8 (some .boolean) g) (hE : EX s) (hV : va_X b L xs s s.heap) (hbl : b < s.heap.size) (hS : SP o r mo ua oa ga ou s.heap.size) (hn : 6 * n + 6 ≤ L) (hL : L ≤ 3072) (K : LK p l e s m b below meth c g o r mo ua oa ga ou Q n (n + 1) 1772) : LK p l e s m b below meth c g o r mo ua oa ga ou Q n n 1672 := by
  intro H ls hX hI hl
  obtain ⟨A, x1, y1, q, U, O, cd, ab, be, f, hO, hD, hR, hA, hRP, hMO, hou⟩ := hI
  obtain ⟨hM, hSo, hSr, hSu, hSz⟩ := hS
  have hU : OD o r ou A := ⟨hSo.2.2.2.2, hSr.2.2.2.2, fun j hj => (hA j hj).2.2.2.2⟩
  refine lv_aload_n X.1 X.2.1 dL_law_1672 rfl (lv_at hl 2 rfl) ?_
  refine lv_aload_n X.1 X.2.1 dL_law_1673 rfl (lv_at hl 1 rfl) ?_
  refine lv_iload X.1 X.2.1 dL_law_1674 (lv_at hl 0 rfl) ?_
  refine lv_iconst (v := nI 1) X.1 X.2.1 dL_law_1676 (by decide) ?_
  refine lv_iadd X.1 X.2.1 dL_law_1677 ?_
  refine w_i (nI_add _ _) ?_
  refine l_sld X hV hbl hX (k := (6 * n) + 1) (by omega) (by omega) dL_law_1678 ?_
  refine lv_aload_n X.1 X.2.1 dL_law_1679 rfl (lv_at hl 1 rfl) ?_
  refine lv_iload X.1 X.2.1 dL_law_1680 (lv_at hl 0 rfl) ?_
  refine lv_iconst (v := nI 2) X.1 X.2.1 dL_law_1682 (by decide) ?_
  refine lv_iadd X.1 X.2.1 dL_law_1683 ?_
  refine w_i (nI_add _ _) ?_
  refine l_sld X hV hbl hX (k := (6 * n) + 2) (by omega) (by omega) dL_law_1684 ?_
  refine lv_i2l X.1 X.2.1 dL_law_1685 rfl ?_
  refine lv_bipush (v := nI 32) X.1 X.2.1 dL_law_1686 (by decide) ?_
  refine lv_lshl X.1 X.2.1 dL_law_1688 rfl ?_
  refine lv_aload_n X.1 X.2.1 dL_law_1689 rfl (lv_at hl 1 rfl) ?_
  refine lv_iload X.1 X.2.1 dL_law_1690 (lv_at hl 0 rfl) ?_
  refine lv_iconst (v := nI 3) X.1 X.2.1 dL_law_1692 (by decide) ?_
  refine lv_iadd X.1 X.2.1 dL_law_1693 ?_
  refine w_i (nI_add _ _) ?_
  refine l_sld X hV hbl hX (k := (6 * n) + 3) (by omega) (by omega) dL_law_1694 ?_
  refine lv_i2l X.1 X.2.1 dL_law_1695 rfl ?_
  refine lv_ldc2 (v := 4294967295) X.1 X.2.1 X.2.2.2.1 (X.2.2.2.2.1 _ (List.mem_cons_of_mem _ mw_628)) dL_law_1696 ?_
  refine w_l (v' := lN 4294967295) (by decide) ?_
  refine lv_land X.1 X.2.1 dL_law_1699 ?_
  refine lv_lor X.1 X.2.1 dL_law_1700 ?_
  refine w_l (v' := mkL (xs ((6 * n) + 2)) (xs ((6 * n) + 3))) rfl ?_
  refine lv_aload_n X.1 X.2.1 dL_law_1701 rfl (lv_at hl 4 rfl) ?_
  refine g_callW (As := [.ref o, .int (xs ((6 * n) + 1)), .long (mkL (xs ((6 * n) + 2)) (xs ((6 * n) + 3))), .ref ou]) (rest := []) X hE (c_L_batten l g o r A x1 y1 q ou f (xs ((6 * n) + 1)) (mkL (xs ((6 * n) + 2)) (xs ((6 * n) + 3))) hl0 hO hU) ⟨mw_449, mw_450, mw_37, mw_451⟩ sgL_batten ⟨rfl, rfl, ⟨by decide, by decide⟩, (by show _ ≤ 797979; omega), (by show _ ≤ 6702166; omega)⟩ ⟨hRP, hou⟩ hX (fun q h => by rw [h]; exact hSz.2.2.2.2.2.2) rfl hl.1 rfl (Nat.le_of_ble_eq_true rfl) dL_law_1702 (fun v H1 hk hp => ?_)
  obtain ⟨rfl, hRP, f1, hou, hv1⟩ := hp
  have hX := hX.trF hk (fun q h => by rw [h]; exact hSz.2.2.2.2.2.2)
  have hMO := MO.exf hMO hk ⟨hSu.1, hSu.2.1, hSu.2.2.1, hSu.2.2.2⟩
  skip
  refine W.eq (g2 := F0 m 1705 ls [.int (nI (mk3 2 3 (inI (xs ((6 * n) + 1)) 4) (!gab q (toN (xs ((6 * n) + 1)))) (inL (mkL (xs ((6 * n) + 2)) (xs ((6 * n) + 3))) 1 10000)))]) rfl ?_
  refine lv_istore (lv' := [(5, .int (nI (mk3 2 3 (inI (xs ((6 * n) + 1)) 4) (!gab q (toN (xs ((6 * n) + 1)))) (inL (mkL (xs ((6 * n) + 2)) (xs ((6 * n) + 3))) 1 10000)))), (4, .int (nI (6 * n))), (0, .ref b), (1, .ref o), (2, .ref mo), (3, .ref ou)]) X.1 X.2.1 dL_law_1705 hl (by decide) rfl (fun ls hl => ?_)
  refine lv_aload_n X.1 X.2.1 dL_law_1707 rfl (lv_at hl 4 rfl) ?_
  refine lv_aload_n X.1 X.2.1 dL_law_1708 rfl (lv_at hl 2 rfl) ?_
  refine lv_iload X.1 X.2.1 dL_law_1709 (lv_at hl 1 rfl) ?_
  refine lv_iconst (v := nI 1) X.1 X.2.1 dL_law_1711 (by decide) ?_
  refine lv_iadd X.1 X.2.1 dL_law_1712 ?_
  refine w_i (nI_add _ _) ?_
  refine l_sld X hV hbl hX (k := (6 * n) + 1) (by omega) (by omega) dL_law_1713 ?_
  refine lv_aload_n X.1 X.2.1 dL_law_1714 rfl (lv_at hl 2 rfl) ?_
  refine lv_iload X.1 X.2.1 dL_law_1715 (lv_at hl 1 rfl) ?_
  refine lv_iconst (v := nI 2) X.1 X.2.1 dL_law_1717 (by decide) ?_
  refine lv_iadd X.1 X.2.1 dL_law_1718 ?_
  refine w_i (nI_add _ _) ?_
  refine l_sld X hV hbl hX (k := (6 * n) + 2) (by omega) (by omega) dL_law_1719 ?_
  refine lv_i2l X.1 X.2.1 dL_law_1720 rfl ?_
  refine lv_bipush (v := nI 32) X.1 X.2.1 dL_law_1721 (by decide) ?_
  refine lv_lshl X.1 X.2.1 dL_law_1723 rfl ?_
  refine lv_aload_n X.1 X.2.1 dL_law_1724 rfl (lv_at hl 2 rfl) ?_
  refine lv_iload X.1 X.2.1 dL_law_1725 (lv_at hl 1 rfl) ?_
  refine lv_iconst (v := nI 3) X.1 X.2.1 dL_law_1727 (by decide) ?_
  refine lv_iadd X.1 X.2.1 dL_law_1728 ?_
  refine w_i (nI_add _ _) ?_
  refine l_sld X hV hbl hX (k := (6 * n) + 3) (by omega) (by omega) dL_law_1729 ?_
  refine lv_i2l X.1 X.2.1 dL_law_1730 rfl ?_
  refine lv_ldc2 (v := 4294967295) X.1 X.2.1 X.2.2.2.1 (X.2.2.2.2.1 _ (List.mem_cons_of_mem _ mw_628)) dL_law_1731 ?_
  refine w_l (v' := lN 4294967295) (by decide) ?_
  refine lv_land X.1 X.2.1 dL_law_1734 ?_
  refine lv_lor X.1 X.2.1 dL_law_1735 ?_
  refine w_l (v' := mkL (xs ((6 * n) + 2)) (xs ((6 * n) + 3))) rfl ?_
  refine g_callV (C := RX2) (b := mo) (As := [.int (xs ((6 * n) + 1)), .long (mkL (xs ((6 * n) + 2)) (xs ((6 * n) + 3)))]) (rest := []) X (c_X2_batten l g mo ua oa ga cd ab be x1 y1 U O q (xs ((6 * n) + 1)) (mkL (xs ((6 * n) + 2)) (xs ((6 * n) + 3))) hO hR hM) ⟨mw_624, mw_625, mw_626, mw_40, mw_627⟩ sgX2_batten ⟨rfl, rfl, ⟨by decide, by decide⟩, (by show _ ≤ 797979; omega), (by show _ ≤ 6702166; omega)⟩ (hMO.at 0 rfl) rfl rfl hMO hX (fun q h => by rw [h]; exact hSz.2.2.1) rfl hl.1 rfl (Nat.le_of_ble_eq_true rfl) dL_law_1736 (fun v H2 hk2 hp2 => ?_)
  obtain ⟨⟨n9, ab1, be1, rfl, hMO⟩, w9, rfl, hw9⟩ := hp2
  have hX := hX.trF hk2 (fun q h => by rw [h]; exact hSz.2.2.1)
  have hRP := RP.exf hRP hk2 ⟨hSo.1, hSr.1⟩ (fun j hj => (hA j hj).1)
  have hou := at_exf hou hk2 hSu.1.symm
  refine W.eq (g2 := F0 m 1739 ls [.int w9]) rfl ?_
  refine lv_istore (lv' := [(6, .int w9), (5, .int (nI (mk3 2 3 (inI (xs ((6 * n) + 1)) 4) (!gab q (toN (xs ((6 * n) + 1)))) (inL (mkL (xs ((6 * n) + 2)) (xs ((6 * n) + 3))) 1 10000)))), (4, .int (nI (6 * n))), (0, .ref b), (1, .ref o), (2, .ref mo), (3, .ref ou)]) X.1 X.2.1 dL_law_1739 hl (by decide) rfl (fun ls hl => ?_)
  refine lv_aload_n X.1 X.2.1 dL_law_1741 rfl (lv_at hl 5 rfl) ?_
  refine p_callV (C := RX2) (b := mo) (As := []) (rest := []) X (c_X2_thrown l g mo ua oa ga (nI (mk3 2 3 (inI (xs ((6 * n) + 1)) 4) (!gab q (toN (xs ((6 * n) + 1)))) (inL (mkL (xs ((6 * n) + 2)) (xs ((6 * n) + 3))) 1 10000))) _ _ x1 y1 U O q) ⟨mw_491, mw_492, mw_493, mw_40, mw_494⟩ sgX2_thrown ⟨rfl, rfl, ⟨by decide, by decide⟩, (by show _ ≤ 797979; omega), (by show _ ≤ 6702166; omega)⟩ (hMO.at 0 rfl) rfl rfl hMO hX.1 rfl hl.1 rfl (Nat.le_of_ble_eq_true rfl) dL_law_1742 (fun v H3 hk3 hp3 => ?_)
  obtain rfl := hp3
  have hX := hX.tr hk3
  have hMO := PP.ext hMO hk3
  have hRP := RP.ext hRP hk3
  have hou := (PP.ext (PP.one hou) hk3) 0 _ rfl
  refine W.eq (g2 := F0 m 1745 ls [.int (nI (mk3 2 3 (inI (xs ((6 * n) + 1)) 4) (!gab q (toN (xs ((6 * n) + 1)))) (inL (mkL (xs ((6 * n) + 2)) (xs ((6 * n) + 3))) 1 10000)))]) rfl ?_
  refine lv_iload X.1 X.2.1 dL_law_1745 (lv_at hl 1 rfl) ?_
  refine lv_icmp_eq (tgt := 1752) X.1 X.2.1 dL_law_1747 (by decide) (fun _ => ?_) (fun h9 => absurd rfl h9)
  refine lv_iload X.1 X.2.1 dL_law_1752 (lv_at hl 1 rfl) ?_
  refine lv_if_ne (tgt := 1769) X.1 X.2.1 dL_law_1754 (by decide) (fun h9 => ?_) (fun h9 => ?_)
  ·
    refine lv_goto (tgt := 1772) X.1 X.2.1 dL_law_1769 (by decide) ?_
    exact W.widen (by omega) (by omega) (K _ ls hX ⟨A, x1, y1, q, U, O, _, _, _, _, hO, hD, hR, hA, hRP, hMO, hou⟩ (lv_sub hl [2, 3, 4, 5, 6] rfl))
  ·
    obtain ⟨t1, t2, t3⟩ := mk3_23 h9
    have hv1 := hv1 t1 t2 t3
    have hw9 := hw9 t1 t2 t3
    refine lv_aload_n X.1 X.2.1 dL_law_1757 rfl (lv_at hl 6 rfl) ?_
    refine lv_iconst (v := nI 0) X.1 X.2.1 dL_law_1758 (by decide) ?_
    refine f_lald X hou (k := 0) (by decide) (by decide) dL_law_1759 ?_
    refine lv_iload X.1 X.2.1 dL_law_1760 (lv_at hl 0 rfl) ?_
    refine lv_i2l X.1 X.2.1 dL_law_1762 rfl ?_
    refine q_leq X (tgt := 1769) dL_law_1763 dL_law_1764 (by decide) (fun _ => ?_) (fun h8 => absurd (by rw [hv1, hw9]) h8)
    refine lv_goto (tgt := 1772) X.1 X.2.1 dL_law_1769 (by decide) ?_
    exact W.widen (by omega) (by omega) (K _ ls hX ⟨A, x1, y1, q, U, O, _, _, _, _, hO, hD, hR, hA, hRP, hMO, hou⟩ (lv_sub hl [2, 3, 4, 5, 6] rfl))
