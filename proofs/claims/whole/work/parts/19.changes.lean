section FW2
variable {p : Program} {l : Launch} {e : Env} {R : Room} {s : State} {m : MethodId} {args : Array Value} {below : List Frame} {meth : Method} {c : Code} {H : Heap} {locs : List Loc} {cells slots : Nat} {Q : State → Prop} {pc : Nat} {ls : Array Slot} {rest st0 : List Value} {g : En}
variable {y y' : MethodName} {cy cy' : ByteArray} {nl nl' : Nat} {ret ret' : Option FieldType}
variable {mc ms n idx : Nat} {rm : Room} {G : Heap → Prop} {b : Nat} {As : List Value} {C : String} {F F' : Nat → Prop}
theorem f_putF (X : CX p s m args meth c y cy nl ret g) {T : u_T} {N ci idx a : Nat} (ty0 : Nat → FieldType) (hty : ∀ k, k < N → parseFieldDescriptor (T k).2.2.1 = some (ty0 k)) (hnm : ∀ a, a < N → ∀ b, b < N → a ≠ b → (T a).2.1 ≠ (T b).2.1) (hin : ∀ w ∈ u_ws y.cls T N, w ∈ tb) {fs : List Value} (hat : va_at g.1 cl0 (a, .inr (ci, fs)) H) (hc : cl0[ci]? = some (y.cls, T, N)) (k : Nat) (hk : k < N) (hl : Cond.fieldLink y.cls idx y.cls (T k).2.1 (T k).2.2.1 ∈ tb) (hsame : (T k).1 = y.cls) (hfin : (T k).2.2.2 = true) (hi0 : y.name = "<init>") {v : Value} {ty : FieldType} (hd : parseFieldDescriptor (T k).2.2.1 = some ty) (hn : narrow ty v = v) (hfit : fits ty v = true) (hl2 : k < fs.length) (hFa : F a ∨ s.heap.size ≤ a) (hlo : lok F s.heap.size locs) (hdg : decode cy pc = .ok (.putfield idx, 3))
    (kk : ∀ (H1 : Heap) (locs1 : List Loc), hxa a H H1 → lok F s.heap.size locs1 → va_at g.1 cl0 (a, .inr (ci, fs.set k v)) H1 → W p l e R s m args below meth c H1 locs1 cells slots Q (F0 m (pc + 3) ls rest)) : W p l e R s m args below meth c H locs cells slots Q (F0 m pc ls (v :: .ref a :: rest)) := by
  obtain ⟨hx, hb, hml, hown, hts, -, -, hK, hnm2, -⟩ := X
  have hts' : ∀ w ∈ tb, w.before args s = true := fun w h => hts w (List.mem_cons_of_mem _ h)
  have hap := va_apart (own := y.cls) hts' hin ty0 hty hnm hK hc
  obtain ⟨r, h1, cell, q1, q2, q3, q4⟩ := hat
  have hr : r = (y.cls, T, N) := Option.some.inj (h1.symm.trans hc)
  subst hr
  obtain ⟨hS, hfc, kC, hkC, hkind⟩ := hK.1 ci _ hc
  obtain ⟨cf, kf, fi, f, hi, hsl⟩ := hS k hk
  have hlay := hts' _ (hin _ (u_in_lay hk))
  unfold u_lay at hlay
  rw [if_pos hfin] at hlay
  have hst := (u_facts hfc hkC (u_lays hts' hin hk) hi).1
  have hcf : m.cls = cf := by
    obtain ⟨_, _, c', _, _, _, -, -, hf', -, -, -, hown2, -⟩ := Cond.laysFinal_spec hlay
    have e1 : c' = cf := by have := hi.symm.trans hf'; simp at this; exact this.1.symm
    rw [hsame] at hown2
    rw [← e1]; exact Option.some.inj (hown.symm.trans hown2)
  have h6 := u_fits hfc hkC hkind (Or.inr hlay) hi hd hn hfit
  refine W.putFinK hx hb hown (hts' _ hl) (by rw [hsame] at hi; exact hi) hst hcf (hnm2 hi0) (by rw [q2]; exact h6) q1 q3 (by rw [hsl]; exact k2_hasslot (q4 k hk)) rfl rfl hdg fun H' e1 e2 e3 => ?_
  rw [hsl] at e1 ⊢
  exact kk H' _ ⟨Nat.le_of_eq e2.symm, fun q _ h2 => e3 q h2⟩ (fun q hq => by
    rcases List.mem_append.mp hq with h | h
    · exact hlo q h
    · rw [List.mem_singleton] at h; subst h; exact hFa) ⟨_, hc, t_OB.to (V := updV (vp_V fs) k v) ⟨_, e1, q2, q3, t_set q4 hap hk v⟩ (fun j _ => vp_updV_set hl2 v j)⟩
theorem f_ivret {post : Heap → Prop} (X : CX p s m args meth c y cy nl none g) (hxx : hxf (fun q => q = b) s.heap H) (hlo : lok (fun q => q = b) s.heap.size locs) (hp : post H) (hc : cells ≤ mc ∧ slots ≤ ms) (hdg : decode cy pc = .ok (.return_, 1)) :
    W p l e R s m args below meth c H locs cells slots (MQ below (iQ b post) args s mc ms (fun q => q = b ∨ s.heap.size ≤ q)) (F0 m pc ls []) := by
  obtain ⟨hx, hb, hml, hown, hts, hr, hlocks, hK, -⟩ := X
  refine W.widen hc.1 hc.2 ?_
  exact W.vret hx hb hr (fun t ht hW => ⟨rfl, by rw [ht]; exact hxx, by rw [ht]; exact hp⟩) (fun q h => hlo q h) hdg hlocks
end FW2
theorem hxf.trn {F : Nat → Prop} {H H1 H2 : Heap} {a : Nat} (h : hxf F H H1) (ha : H.size ≤ a) (k : hxa a H1 H2) : hxf F H H2 := ⟨Nat.le_trans h.1 k.1, fun q h1 h2 => (k.2 q (Nat.lt_of_lt_of_le h1 h.1) (by omega)).trans (h.2 q h1 h2)⟩
theorem RF.exa {g : En} {A : Nat → Nat} {q : Nat → Rat} {H H1 : Heap} {a : Nat} (h : RF g A q H) (k : hxa a H H1) (hd : ∀ j, j < 4 → A j ≠ a) : RF g A q H1 := fun i hi => (PP.exa (PP.one (h i hi)) k (fun z hz => by simp only [List.mem_cons, List.not_mem_nil, or_false] at hz; subst hz; exact hd i hi)) 0 _ rfl
theorem up_some (A : Nat → Nat) (k b : Nat) : va_up (fun j => some (A j)) k (some b) = fun j => some (va_up A k b j) := by
  funext j
  unfold va_up
  split <;> rfl
theorem va_up_s {α : Type} (f : Nat → α) (k : Nat) (v : α) : va_up f k v k = v := by simp [va_up]
theorem va_up_n {α : Type} {f : Nat → α} {k j : Nat} {v : α} (h : j ≠ k) : va_up f k v j = f j := by simp [va_up, h]
/-- the cells of the object lie apart -/
def DD (o r : Nat) (A : Nat → Nat) : Prop := o ≠ r ∧ ∀ j, j < 4 → A j ≠ r ∧ A j ≠ o
section YW
variable {p : Program} {l : Launch} {e : Env} {R : Room} {s : State} {m : MethodId} {args : Array Value} {below : List Frame} {meth : Method} {c : Code} {H : Heap} {cells slots : Nat} {pc : Nat} {ls : Array Slot} {rest st0 : List Value} {g : En}
variable {y y' : MethodName} {cy cy' : ByteArray} {nl nl' : Nat} {ret ret' : Option FieldType}
variable {mc ms n idx : Nat} {post : Option Value → Heap → Prop} {px : String → Prop} {rm : Room} {G : Heap → Prop} {b : Nat} {As : List Value} {C : String} {F : Nat → Prop} {mc' ms' : Nat} {post' : Option Value → Heap → Prop} {px' : String → Prop} {free : Addr → Prop}
theorem y_callV (X : CX p s m args meth c y cy nl ret g) (hne : ∀ x ∈ c.exceptionTable.toList, False) (hE : EX s) (hM : XM l y' cy' nl' ret' rm g (.ref b :: As) G mc ms post px)
    (hw : Cond.methodLink y.cls idx y' ∈ tb ∧ Cond.instanceMethod y' ∈ tb ∧ Cond.selects C y' y' ∈ tb ∧ Cond.initialized C ∈ tb ∧ Cond.code y' cy' nl' ret' ∈ tb)
    (hd : y'.cls = C ∧ y'.cls ≠ "java/lang/invoke/MethodHandle" ∧ y'.cls ≠ "java/lang/invoke/VarHandle" ∧ (parseMethodDescriptor y'.desc).map (fun d => d.parameters.length) = some n)
    (hrm : rm.cells = mc ∧ rm.slots = ms ∧ (rm.frames + 1 ≤ R.frames ∧ 8 + (nl' + 11) + rm.locals ≤ R.locals) ∧ cells + mc ≤ R.cells ∧ slots + ms ≤ R.slots)
    {ci : Nat} {fs : List Value} {q : vw_C} (hat : va_at g.1 cl0 (b, .inr (ci, fs)) H) (hci : cl0[ci]? = some q) (hq : q.1 = C)
    (hG : G H) (hX : hxt s.heap H) (hn : As.length = n) (hls : ls.size = nl) (hst : st0 = As.reverse ++ .ref b :: rest) (hrest : (rest.map fun v => v.category).sum ≤ 8) (hdg : decode cy pc = .ok (.invokevirtual idx, 3))
    (hpx : ∀ E, px E → px' E) (hc : cells + mc ≤ mc' ∧ slots + ms ≤ ms')
    (kk : ∀ (v : Option Value) (H1 : Heap), hxt H H1 → post v H1 → W p l e R s m args below meth c H1 [] (cells + mc) (slots + ms) (vx_MQ below (fQ F post') (xQ px') args s mc' ms' free) (F0 m (pc + 3) ls (v.toList ++ rest))) : W p l e R s m args below meth c H [] cells slots (vx_MQ below (fQ F post') (xQ px') args s mc' ms' free) (F0 m pc ls st0) := by
  have X' := X
  obtain ⟨hx, hb, hml, hown, hts, -, -, hK, -⟩ := X
  obtain ⟨h1, h2, h3, h4, h5⟩ := hw
  obtain ⟨r1, r2, r3, r4⟩ := hrm
  subst hq
  exact x_call (a := (Value.ref b :: As).toArray) (vx_runV (C := q.1) (n := n) ⟨hx, hb, hml, hown, hts⟩ (hM H.size) (cwV n hts (tb_GV h1 h2 h3 h4 h5) rfl r1 r2 hd r3) ⟨xPc_blind, va_recv (q0 := 0) hK (PP.one hat) hci rfl, fun U hU hW => ⟨rfl, by rw [hU], by rw [hU]; exact hG, va_K.moved hW.alike hK, hE.at hW (by rw [hU]; exact hX)⟩⟩ rfl hn hls hst (lv_room hrest) hdg r4) hX.1 (fun E ce q9 H1 k1 k2 k3 k4 k5 => vx_out (fun x hx => (hne x hx).elim) X'.2.2.2.2.2.2.1 k3 k4 k5 (fun t ht _ => ⟨by rw [ht]; exact hX.tr k1, hpx E k2⟩) (fun z h => nomatch h) hc.1 hc.2) kk
theorem y_callS (X : CX p s m args meth c y cy nl ret g) (hne : ∀ x ∈ c.exceptionTable.toList, False) (hE : EX s) (hM : XM l y' cy' nl' ret' rm g As G mc ms post px)
    (hw : Cond.methodLink y.cls idx y' ∈ tb ∧ Cond.static y' ∈ tb ∧ Cond.initialized y.cls ∈ tb ∧ Cond.code y' cy' nl' ret' ∈ tb)
    (hd : y'.cls = y.cls ∧ y'.cls ≠ "java/lang/invoke/MethodHandle" ∧ y'.cls ≠ "java/lang/invoke/VarHandle" ∧ (parseMethodDescriptor y'.desc).map (fun d => d.parameters.length) = some n)
    (hrm : rm.cells = mc ∧ rm.slots = ms ∧ (rm.frames + 1 ≤ R.frames ∧ 8 + (nl' + 11) + rm.locals ≤ R.locals) ∧ cells + mc ≤ R.cells ∧ slots + ms ≤ R.slots)
    (hG : G H) (hX : hxt s.heap H) (hn : As.length = n) (hls : ls.size = nl) (hst : st0 = As.reverse ++ rest) (hrest : (rest.map fun v => v.category).sum ≤ 8) (hdg : decode cy pc = .ok (.invokestatic idx, 3))
    (hpx : ∀ E, px E → px' E) (hc : cells + mc ≤ mc' ∧ slots + ms ≤ ms')
    (kk : ∀ (v : Option Value) (H1 : Heap), hxt H H1 → post v H1 → W p l e R s m args below meth c H1 [] (cells + mc) (slots + ms) (vx_MQ below (fQ F post') (xQ px') args s mc' ms' free) (F0 m (pc + 3) ls (v.toList ++ rest))) : W p l e R s m args below meth c H [] cells slots (vx_MQ below (fQ F post') (xQ px') args s mc' ms' free) (F0 m pc ls st0) := by
  have X' := X
  obtain ⟨hx, hb, hml, hown, hts, -, -, hK, -⟩ := X
  obtain ⟨h1, h2, h4, h5⟩ := hw
  obtain ⟨r1, r2, r3, r4⟩ := hrm
  exact x_call (a := As.toArray) (vx_runS (n := n) ⟨hx, hb, hml, hown, hts⟩ (hM H.size) (cwS n hts (tb_GS h1 h2 h4 h5) rfl r1 r2 hd r3) ⟨xPc_blind, fun U hU hW => ⟨rfl, by rw [hU], by rw [hU]; exact hG, va_K.moved hW.alike hK, hE.at hW (by rw [hU]; exact hX)⟩⟩ rfl hn hls hst (lv_room hrest) hdg r4) hX.1 (fun E ce q9 H1 k1 k2 k3 k4 k5 => vx_out (fun x hx => (hne x hx).elim) X'.2.2.2.2.2.2.1 k3 k4 k5 (fun t ht _ => ⟨by rw [ht]; exact hX.tr k1, hpx E k2⟩) (fun z h => nomatch h) hc.1 hc.2) kk
end YW
set_option maxHeartbeats 4000000 in
set_option maxRecDepth 100000 in
theorem c_X1_outline (l : Launch) (g : En) (o r : Nat) (A : Nat → Nat) (x1 y1 : Nat) (q : Nat → Rat) (v0 w0 : Int64) (hl0 : l.stackTraces = false) (hO : OK x1 y1 q) (hD : DD o r A) : YM l yX1_outline cX1_outline 6 (some FieldType.boolean) { frames := 7, cells := 2, slots := 12, locals := 107 } g [.ref o, .long v0, .long w0] (fun H => RP g o r A x1 y1 q H) (fun q => q = o) 2 12 (fun v H => (inL v0 1 2000 = true ∧ inL w0 1 2000 = true) ∧ v = some (.int (bI (!(decide (toL v0 = x1) && decide (toL w0 = y1))))) ∧ RP g o r A (toL v0) (toL w0) q H) (xk true true (inL v0 1 2000 && inL w0 1 2000)) := by
  refine YM.of (by decide) (Nat.le_of_ble_eq_true rfl) (fun p e s m below meth c ls X hne hE hG hl => ?_)
  obtain ⟨hP, hF⟩ := hG
  have hX2 := hO.1.2
  have hY2 := hO.2.1.2
  have hl : lv_has ls 6 [(0, .ref o), (1, .long v0), (3, .long w0)] := hl
  have hX : hxf (fun q => q = o) s.heap s.heap := hxf.rf
  have hlo : lok (fun q => q = o) s.heap.size ([] : List Loc) := lok.nil
  have hP : PP g [ob o x1 y1 r, ar g r A] s.heap := hP
  have hX : hxt s.heap s.heap := hxt.rf
  refine lv_lload_n X.1 X.2.1 dX1_outline_0 rfl (lv_at hl 1 rfl) ?_
  refine lv_lconst (v := lN 1) X.1 X.2.1 dX1_outline_1 (by decide) ?_
  refine lv_ldc2 (v := 2000) X.1 X.2.1 X.2.2.2.1 (X.2.2.2.2.1 _ (List.mem_cons_of_mem _ mw_95)) dX1_outline_2 ?_
  refine w_l (v' := lN 2000) (by decide) ?_
  refine y_callS (F := fun q => q = o) (As := [.long v0, .long (lN 1), .long (lN 2000)]) (rest := []) X hne hE (c_X1_checkNumber l g v0 1 2000 hl0 (by decide) (by decide)) ⟨mw_96, mw_97, mw_38, mw_98⟩ sgX1_checkNumber ⟨rfl, rfl, ⟨by decide, by decide⟩, by decide, by decide⟩ trivial hX rfl hl.1 rfl (Nat.le_of_ble_eq_true rfl) dX1_outline_5 (fun E h => xk_G rfl rfl (fun h9 => by rw [h9]; rfl) h) ⟨by decide, by decide⟩ (fun v H1 hk2 hp => ?_)
  obtain ⟨rfl, ha⟩ := hp
  have hX := hX.tr hk2
  have hP := PP.ext hP hk2
  have hF := RF.ext hF hk2
  refine W.eq (g2 := F0 m 8 ls []) rfl ?_
  refine lv_lload_n X.1 X.2.1 dX1_outline_8 rfl (lv_at hl 2 rfl) ?_
  refine lv_lconst (v := lN 1) X.1 X.2.1 dX1_outline_9 (by decide) ?_
  refine lv_ldc2 (v := 2000) X.1 X.2.1 X.2.2.2.1 (X.2.2.2.2.1 _ (List.mem_cons_of_mem _ mw_95)) dX1_outline_10 ?_
  refine w_l (v' := lN 2000) (by decide) ?_
  refine y_callS (F := fun q => q = o) (As := [.long w0, .long (lN 1), .long (lN 2000)]) (rest := []) X hne hE (c_X1_checkNumber l g w0 1 2000 hl0 (by decide) (by decide)) ⟨mw_96, mw_97, mw_38, mw_98⟩ sgX1_checkNumber ⟨rfl, rfl, ⟨by decide, by decide⟩, by decide, by decide⟩ trivial hX rfl hl.1 rfl (Nat.le_of_ble_eq_true rfl) dX1_outline_13 (fun E h => xk_G rfl rfl (fun h9 => by rw [h9, ha]; rfl) h) ⟨by decide, by decide⟩ (fun v H3 hk4 hp => ?_)
  obtain ⟨rfl, hb⟩ := hp
  have hX := hX.tr hk4
  have hP := PP.ext hP hk4
  have hF := RF.ext hF hk4
  refine W.eq (g2 := F0 m 16 ls []) rfl ?_
  obtain ⟨x, hx1, hx2, rfl⟩ := inL_of ha (by decide)
  obtain ⟨y, hy1, hy2, rfl⟩ := inL_of hb (by decide)
  have ex : toL (lN x) = x := toL_k (by omega)
  have ey : toL (lN y) = y := toL_k (by omega)
  refine lv_lload_n X.1 X.2.1 dX1_outline_16 rfl (lv_at hl 1 rfl) ?_
  refine lv_aload_n X.1 X.2.1 dX1_outline_17 rfl (lv_at hl 0 rfl) ?_
  refine p_get (T := TX1) X uX1 (hP.at 0 rfl) rfl 0 (by decide) mw_77 rfl rfl dX1_outline_18 ?_
  refine q_Nne X (by omega) (by omega) (tgt := 34) dX1_outline_21 dX1_outline_22 (by decide) (fun hB5 => ?_) (fun hB5 => ?_)
  ·
    refine lv_iconst (v := nI 1) X.1 X.2.1 dX1_outline_34 (by decide) ?_
    refine lv_goto (tgt := 39) X.1 X.2.1 dX1_outline_35 (by decide) ?_
    refine lv_istore (lv' := [(5, .int (nI 1)), (0, .ref o), (1, .long (lN x)), (3, .long (lN y))]) X.1 X.2.1 dX1_outline_39 hl (by decide) rfl (fun ls hl => ?_)
    have hX := hxf.of (F := fun q => q = o) hX
    refine lv_aload_n X.1 X.2.1 dX1_outline_41 rfl (lv_at hl 1 rfl) ?_
    refine lv_lload_n X.1 X.2.1 dX1_outline_42 rfl (lv_at hl 2 rfl) ?_
    refine f_put (F := fun q => q = o) (T := TX1) (N := 3) (ci := 1) X tyX1 tyX1_ok nmX1 uX1 (hP.at 0 rfl) rfl 0 (by decide) mw_77 rfl rfl (v := .long (lN x)) (ty := .long) (by decide +kernel) rfl rfl (Nat.le_of_ble_eq_true rfl) (Or.inl rfl) hlo dX1_outline_43 (fun H6 locs hpa hlo hat => ?_)
    have hX := hX.tra (rfl) hpa
    have hP := PP.cons hat (PP.exa (hP.sub [1] rfl : PP g [ar g r A] _) hpa (fun z hz => by simp only [List.mem_cons, List.not_mem_nil, or_false] at hz; subst hz; first | exact hD.1.symm))
    have hP : PP g [(o, .inr (1, [.long (lN x), .long (lN y1), .ref r])), ar g r A] H6 := hP
    have hF := RF.exa hF hpa (fun j hj => (hD.2 j hj).2)
    refine lv_aload_n X.1 X.2.1 dX1_outline_46 rfl (lv_at hl 1 rfl) ?_
    refine lv_lload_n X.1 X.2.1 dX1_outline_47 rfl (lv_at hl 3 rfl) ?_
    refine f_put (F := fun q => q = o) (T := TX1) (N := 3) (ci := 1) X tyX1 tyX1_ok nmX1 uX1 (hP.at 0 rfl) rfl 1 (by decide) mw_78 rfl rfl (v := .long (lN y)) (ty := .long) (by decide +kernel) rfl rfl (Nat.le_of_ble_eq_true rfl) (Or.inl rfl) hlo dX1_outline_48 (fun H7 locs hpa hlo hat => ?_)
    have hX := hX.tra (rfl) hpa
    have hP := PP.cons hat (PP.exa (hP.sub [1] rfl : PP g [ar g r A] _) hpa (fun z hz => by simp only [List.mem_cons, List.not_mem_nil, or_false] at hz; subst hz; first | exact hD.1.symm))
    have hP : PP g [(o, .inr (1, [.long (lN x), .long (lN y), .ref r])), ar g r A] H7 := hP
    have hF := RF.exa hF hpa (fun j hj => (hD.2 j hj).2)
    refine lv_iload X.1 X.2.1 dX1_outline_51 (lv_at hl 0 rfl) ?_
    refine w_i (v' := bI true) (by decide) ?_
    exact vx_ret (f_zret (v := true) X hX hlo (⟨⟨ha, hb⟩, by simp only [ex, ey]; rw [decide_eq_false hB5]; rfl, by simp only [ex, ey]; exact ⟨hP.sub [0, 1] rfl, hF⟩⟩) ⟨by decide, by decide⟩ dX1_outline_53)
  ·
    refine lv_lload_n X.1 X.2.1 dX1_outline_25 rfl (lv_at hl 2 rfl) ?_
    refine lv_aload_n X.1 X.2.1 dX1_outline_26 rfl (lv_at hl 0 rfl) ?_
    refine p_get (T := TX1) X uX1 (hP.at 0 rfl) rfl 1 (by decide) mw_78 rfl rfl dX1_outline_27 ?_
    refine q_Neq X (by omega) (by omega) (tgt := 38) dX1_outline_30 dX1_outline_31 (by decide) (fun hB8 => ?_) (fun hB8 => ?_)
    ·
      refine lv_iconst (v := nI 0) X.1 X.2.1 dX1_outline_38 (by decide) ?_
      refine lv_istore (lv' := [(5, .int (nI 0)), (0, .ref o), (1, .long (lN x)), (3, .long (lN y))]) X.1 X.2.1 dX1_outline_39 hl (by decide) rfl (fun ls hl => ?_)
      have hX := hxf.of (F := fun q => q = o) hX
      refine lv_aload_n X.1 X.2.1 dX1_outline_41 rfl (lv_at hl 1 rfl) ?_
      refine lv_lload_n X.1 X.2.1 dX1_outline_42 rfl (lv_at hl 2 rfl) ?_
      refine f_put (F := fun q => q = o) (T := TX1) (N := 3) (ci := 1) X tyX1 tyX1_ok nmX1 uX1 (hP.at 0 rfl) rfl 0 (by decide) mw_77 rfl rfl (v := .long (lN x)) (ty := .long) (by decide +kernel) rfl rfl (Nat.le_of_ble_eq_true rfl) (Or.inl rfl) hlo dX1_outline_43 (fun H9 locs hpa hlo hat => ?_)
      have hX := hX.tra (rfl) hpa
      have hP := PP.cons hat (PP.exa (hP.sub [1] rfl : PP g [ar g r A] _) hpa (fun z hz => by simp only [List.mem_cons, List.not_mem_nil, or_false] at hz; subst hz; first | exact hD.1.symm))
      have hP : PP g [(o, .inr (1, [.long (lN x), .long (lN y1), .ref r])), ar g r A] H9 := hP
      have hF := RF.exa hF hpa (fun j hj => (hD.2 j hj).2)
      refine lv_aload_n X.1 X.2.1 dX1_outline_46 rfl (lv_at hl 1 rfl) ?_
      refine lv_lload_n X.1 X.2.1 dX1_outline_47 rfl (lv_at hl 3 rfl) ?_
      refine f_put (F := fun q => q = o) (T := TX1) (N := 3) (ci := 1) X tyX1 tyX1_ok nmX1 uX1 (hP.at 0 rfl) rfl 1 (by decide) mw_78 rfl rfl (v := .long (lN y)) (ty := .long) (by decide +kernel) rfl rfl (Nat.le_of_ble_eq_true rfl) (Or.inl rfl) hlo dX1_outline_48 (fun H10 locs hpa hlo hat => ?_)
      have hX := hX.tra (rfl) hpa
      have hP := PP.cons hat (PP.exa (hP.sub [1] rfl : PP g [ar g r A] _) hpa (fun z hz => by simp only [List.mem_cons, List.not_mem_nil, or_false] at hz; subst hz; first | exact hD.1.symm))
      have hP : PP g [(o, .inr (1, [.long (lN x), .long (lN y), .ref r])), ar g r A] H10 := hP
      have hF := RF.exa hF hpa (fun j hj => (hD.2 j hj).2)
      refine lv_iload X.1 X.2.1 dX1_outline_51 (lv_at hl 0 rfl) ?_
      refine w_i (v' := bI false) (by decide) ?_
      exact vx_ret (f_zret (v := false) X hX hlo (⟨⟨ha, hb⟩, by simp only [ex, ey]; rw [decide_eq_true hB5, decide_eq_true hB8]; rfl, by simp only [ex, ey]; exact ⟨hP.sub [0, 1] rfl, hF⟩⟩) ⟨by decide, by decide⟩ dX1_outline_53)
    ·
      refine lv_iconst (v := nI 1) X.1 X.2.1 dX1_outline_34 (by decide) ?_
      refine lv_goto (tgt := 39) X.1 X.2.1 dX1_outline_35 (by decide) ?_
      refine lv_istore (lv' := [(5, .int (nI 1)), (0, .ref o), (1, .long (lN x)), (3, .long (lN y))]) X.1 X.2.1 dX1_outline_39 hl (by decide) rfl (fun ls hl => ?_)
      have hX := hxf.of (F := fun q => q = o) hX
      refine lv_aload_n X.1 X.2.1 dX1_outline_41 rfl (lv_at hl 1 rfl) ?_
      refine lv_lload_n X.1 X.2.1 dX1_outline_42 rfl (lv_at hl 2 rfl) ?_
      refine f_put (F := fun q => q = o) (T := TX1) (N := 3) (ci := 1) X tyX1 tyX1_ok nmX1 uX1 (hP.at 0 rfl) rfl 0 (by decide) mw_77 rfl rfl (v := .long (lN x)) (ty := .long) (by decide +kernel) rfl rfl (Nat.le_of_ble_eq_true rfl) (Or.inl rfl) hlo dX1_outline_43 (fun H11 locs hpa hlo hat => ?_)
      have hX := hX.tra (rfl) hpa
      have hP := PP.cons hat (PP.exa (hP.sub [1] rfl : PP g [ar g r A] _) hpa (fun z hz => by simp only [List.mem_cons, List.not_mem_nil, or_false] at hz; subst hz; first | exact hD.1.symm))
      have hP : PP g [(o, .inr (1, [.long (lN x), .long (lN y1), .ref r])), ar g r A] H11 := hP
      have hF := RF.exa hF hpa (fun j hj => (hD.2 j hj).2)
      refine lv_aload_n X.1 X.2.1 dX1_outline_46 rfl (lv_at hl 1 rfl) ?_
      refine lv_lload_n X.1 X.2.1 dX1_outline_47 rfl (lv_at hl 3 rfl) ?_
      refine f_put (F := fun q => q = o) (T := TX1) (N := 3) (ci := 1) X tyX1 tyX1_ok nmX1 uX1 (hP.at 0 rfl) rfl 1 (by decide) mw_78 rfl rfl (v := .long (lN y)) (ty := .long) (by decide +kernel) rfl rfl (Nat.le_of_ble_eq_true rfl) (Or.inl rfl) hlo dX1_outline_48 (fun H12 locs hpa hlo hat => ?_)
      have hX := hX.tra (rfl) hpa
      have hP := PP.cons hat (PP.exa (hP.sub [1] rfl : PP g [ar g r A] _) hpa (fun z hz => by simp only [List.mem_cons, List.not_mem_nil, or_false] at hz; subst hz; first | exact hD.1.symm))
      have hP : PP g [(o, .inr (1, [.long (lN x), .long (lN y), .ref r])), ar g r A] H12 := hP
      have hF := RF.exa hF hpa (fun j hj => (hD.2 j hj).2)
      refine lv_iload X.1 X.2.1 dX1_outline_51 (lv_at hl 0 rfl) ?_
      refine w_i (v' := bI true) (by decide) ?_
      exact vx_ret (f_zret (v := true) X hX hlo (⟨⟨ha, hb⟩, by simp only [ex, ey]; rw [decide_eq_true hB5, decide_eq_false hB8]; rfl, by simp only [ex, ey]; exact ⟨hP.sub [0, 1] rfl, hF⟩⟩) ⟨by decide, by decide⟩ dX1_outline_53)
set_option maxHeartbeats 4000000 in
set_option maxRecDepth 100000 in
theorem c_X1_changeRun (l : Launch) (g : En) (o r : Nat) (A : Nat → Nat) (x1 y1 : Nat) (q : Nat → Rat) (k b : Nat) (z : Rat) (hO : OK x1 y1 q) (hD : DD o r A) (hk : k < 4) (hz : bd z 20 20) (hbr : b ≠ r) : FM l yX1_changeRun cX1_changeRun 4 (some FieldType.boolean) { frames := 1, cells := 0, slots := 0, locals := 21 } g [.ref o, .int (nI k), .ref b] (fun H => RP g o r A x1 y1 q H ∧ va_at g.1 cl0 (fq b z) H) (fun q => q = r) 0 0 (fun v H => v = some (.int (bI (!decide (z = q k)))) ∧ RP g o r (va_up A k b) x1 y1 (va_up q k z) H) := by
  refine FM.of (by decide) (Nat.le_of_ble_eq_true rfl) (fun p e s m below meth c ls X hG hl => ?_)
  obtain ⟨⟨hP, hF⟩, hz0⟩ := hG
  have hP := PP.cons hz0 hP
  have hl : lv_has ls 4 [(0, .ref o), (1, .int (nI k)), (2, .ref b)] := hl
  have hX : hxf (fun q => q = r) s.heap s.heap := hxf.rf
  have hlo : lok (fun q => q = r) s.heap.size ([] : List Loc) := lok.nil
  have hP : PP g [fq b z, ob o x1 y1 r, ar g r A] s.heap := hP
  refine lv_aload_n X.1 X.2.1 dX1_changeRun_0 rfl (lv_at hl 2 rfl) ?_
  refine lv_aload_n X.1 X.2.1 dX1_changeRun_1 rfl (lv_at hl 0 rfl) ?_
  refine p_get (T := TX1) X uX1 (hP.at 1 rfl) rfl 2 (by decide) mw_79 rfl rfl dX1_changeRun_2 ?_
  refine lv_iload_n X.1 X.2.1 dX1_changeRun_5 rfl (lv_at hl 1 rfl) ?_
  refine p_aald X (hP.at 2 rfl) hk (by decide) (r := A k) rfl dX1_changeRun_6 ?_
  have hP := PP.cons (hF k hk) hP
  refine p_callV (C := RX0) (b := b) (As := [.ref (A k)]) (rest := []) X (b_same l g _ _ hz (hO.2.2.1 k hk) (by decide) (by decide) (by decide) (by decide)) ⟨mw_204, mw_205, mw_206, mw_39, mw_207⟩ sgX0_isSame ⟨rfl, rfl, ⟨by decide, by decide⟩, by decide, by decide⟩ (hP.at 1 rfl) rfl rfl (hP.sub [1, 0] rfl) hX.1 rfl hl.1 rfl (Nat.le_of_ble_eq_true rfl) dX1_changeRun_7 (fun v H1 hk2 hp => ?_)
  obtain rfl := hp
  have hX := hX.tr hk2
  have hP := PP.ext hP hk2
  have hF := RF.ext hF hk2
  refine W.eq (g2 := F0 m 10 ls [.int (bI (decide (z = q k)))]) rfl ?_
  refine q_Bne X (tgt := 17) dX1_changeRun_10 (by decide) (fun hB3 => ?_) (fun hB3 => ?_)
  ·
    refine lv_iconst (v := nI 0) X.1 X.2.1 dX1_changeRun_17 (by decide) ?_
    refine lv_istore_n (lv' := [(3, .int (nI 0)), (0, .ref o), (1, .int (nI k)), (2, .ref b)]) X.1 X.2.1 dX1_changeRun_18 rfl hl (by decide) rfl (fun ls hl => ?_)
    refine lv_aload_n X.1 X.2.1 dX1_changeRun_19 rfl (lv_at hl 1 rfl) ?_
    refine p_get (T := TX1) X uX1 (hP.at 2 rfl) rfl 2 (by decide) mw_79 rfl rfl dX1_changeRun_20 ?_
    refine lv_iload_n X.1 X.2.1 dX1_changeRun_23 rfl (lv_at hl 2 rfl) ?_
    refine lv_aload_n X.1 X.2.1 dX1_changeRun_24 rfl (lv_at hl 3 rfl) ?_
    refine f_astq (F := fun q => q = r) X (hP.at 3 rfl) (hP.at 1 rfl) hk (by decide) (Or.inl rfl) hlo dX1_changeRun_25 (fun H4 locs hpa hlo hat => ?_)
    have hX := hX.tra rfl hpa
    have hF2 := RF.exa hF hpa (fun j hj => (hD.2 j hj).1)
    have hQ := PP.exa (hP.sub [1, 2] rfl : PP g [fq b z, ob o x1 y1 r] _) hpa (fun z hz => by simp only [List.mem_cons, List.not_mem_nil, or_false] at hz; rcases hz with rfl | rfl <;> first | exact hbr | exact hD.1)
    rw [up_some] at hat
    have hF3 : RF g (va_up A k b) (va_up q k z) H4 := fun j hj => by
      by_cases h9 : j = k
      · subst h9; rw [va_up_s, va_up_s]; exact hQ.at 0 rfl
      · rw [va_up_n h9, va_up_n h9]; exact hF2 j hj
    refine lv_iload_n X.1 X.2.1 dX1_changeRun_26 rfl (lv_at hl 0 rfl) ?_
    refine w_i (v' := bI false) (by decide) ?_
    exact f_zret (v := false) X hX hlo (⟨by rw [hB3]; rfl, PP.cons (hQ.at 1 rfl) (PP.one hat), hF3⟩) ⟨by decide, by decide⟩ dX1_changeRun_27
  ·
    refine lv_iconst (v := nI 1) X.1 X.2.1 dX1_changeRun_13 (by decide) ?_
    refine lv_goto (tgt := 18) X.1 X.2.1 dX1_changeRun_14 (by decide) ?_
    refine lv_istore_n (lv' := [(3, .int (nI 1)), (0, .ref o), (1, .int (nI k)), (2, .ref b)]) X.1 X.2.1 dX1_changeRun_18 rfl hl (by decide) rfl (fun ls hl => ?_)
    refine lv_aload_n X.1 X.2.1 dX1_changeRun_19 rfl (lv_at hl 1 rfl) ?_
    refine p_get (T := TX1) X uX1 (hP.at 2 rfl) rfl 2 (by decide) mw_79 rfl rfl dX1_changeRun_20 ?_
    refine lv_iload_n X.1 X.2.1 dX1_changeRun_23 rfl (lv_at hl 2 rfl) ?_
    refine lv_aload_n X.1 X.2.1 dX1_changeRun_24 rfl (lv_at hl 3 rfl) ?_
    refine f_astq (F := fun q => q = r) X (hP.at 3 rfl) (hP.at 1 rfl) hk (by decide) (Or.inl rfl) hlo dX1_changeRun_25 (fun H5 locs hpa hlo hat => ?_)
    have hX := hX.tra rfl hpa
    have hF2 := RF.exa hF hpa (fun j hj => (hD.2 j hj).1)
    have hQ := PP.exa (hP.sub [1, 2] rfl : PP g [fq b z, ob o x1 y1 r] _) hpa (fun z hz => by simp only [List.mem_cons, List.not_mem_nil, or_false] at hz; rcases hz with rfl | rfl <;> first | exact hbr | exact hD.1)
    rw [up_some] at hat
    have hF3 : RF g (va_up A k b) (va_up q k z) H5 := fun j hj => by
      by_cases h9 : j = k
      · subst h9; rw [va_up_s, va_up_s]; exact hQ.at 0 rfl
      · rw [va_up_n h9, va_up_n h9]; exact hF2 j hj
    refine lv_iload_n X.1 X.2.1 dX1_changeRun_26 rfl (lv_at hl 0 rfl) ?_
    refine w_i (v' := bI true) (by decide) ?_
    exact f_zret (v := true) X hX hlo (⟨by rw [hB3]; rfl, PP.cons (hQ.at 1 rfl) (PP.one hat), hF3⟩) ⟨by decide, by decide⟩ dX1_changeRun_27
theorem sl_bd {a b : Nat} (ha : 1 ≤ a) (ha2 : a ≤ 20) (hb2 : b ≤ 20) : bd ((b : Rat) / (a : Rat)) 20 20 := (bd_mk (by omega)).mono hb2 ha2
theorem DD.up {o r k b : Nat} {A : Nat → Nat} (h : DD o r A) (h1 : b ≠ r) (h2 : b ≠ o) : DD o r (va_up A k b) := ⟨h.1, fun j hj => by
  by_cases h9 : j = k
  · subst h9; rw [va_up_s]; exact ⟨h1, h2⟩
  · rw [va_up_n h9]; exact h.2 j hj⟩
set_option maxHeartbeats 4000000 in
set_option maxRecDepth 100000 in
theorem c_X1_slope (l : Launch) (g : En) (o r : Nat) (A : Nat → Nat) (x1 y1 : Nat) (q : Nat → Rat) (i : Int32) (a0 b0 : Int64) (N0 : Nat) (hl0 : l.stackTraces = false) (hO : OK x1 y1 q) (hD : DD o r A) : YM l yX1_slope cX1_slope 6 (some FieldType.boolean) { frames := 8, cells := 4, slots := 20, locals := 116 } g [.ref o, .int i, .long a0, .long b0] (fun H => RP g o r A x1 y1 q H ∧ N0 ≤ H.size) (fun q => q = r) 4 20 (fun v H => (inI i 4 = true ∧ inL a0 1 20 = true ∧ inL b0 1 20 = true) ∧ v = some (.int (bI (!decide (((toL b0 : Nat) : Rat) / ((toL a0 : Nat) : Rat) = q (toN i))))) ∧ ∃ b : Nat, N0 ≤ b ∧ DD o r (va_up A (toN i) b) ∧ RP g o r (va_up A (toN i) b) x1 y1 (va_up q (toN i) (((toL b0 : Nat) : Rat) / ((toL a0 : Nat) : Rat))) H) (xk (inI i 4) true (inL a0 1 20 && inL b0 1 20)) := by
  refine YM.of (by decide) (Nat.le_of_ble_eq_true rfl) (fun p e s m below meth c ls X hne hE hG hl => ?_)
  obtain ⟨⟨hP, hF⟩, hN0⟩ := hG
  have hl : lv_has ls 6 [(0, .ref o), (1, .int i), (2, .long a0), (4, .long b0)] := hl
  have hX : hxf (fun q => q = r) s.heap s.heap := hxf.rf
  have hlo : lok (fun q => q = r) s.heap.size ([] : List Loc) := lok.nil
  have hP : PP g [ob o x1 y1 r, ar g r A] s.heap := hP
  have hX : hxt s.heap s.heap := hxt.rf
  refine lv_iload_n X.1 X.2.1 dX1_slope_0 rfl (lv_at hl 1 rfl) ?_
  refine lv_iconst (v := nI 4) X.1 X.2.1 dX1_slope_1 (by decide) ?_
  refine y_callS (F := fun q => q = r) (As := [.int i, .int (nI 4)]) (rest := []) X hne hE (c_X1_checkIndex l g i 4 hl0 (by decide)) ⟨mw_175, mw_176, mw_38, mw_177⟩ sgX1_checkIndex ⟨rfl, rfl, ⟨by decide, by decide⟩, by decide, by decide⟩ trivial hX rfl hl.1 rfl (Nat.le_of_ble_eq_true rfl) dX1_slope_2 (fun E h => xk_A (fun h9 => h9) h) ⟨by decide, by decide⟩ (fun v H1 hk2 hp => ?_)
  obtain ⟨rfl, hi⟩ := hp
  have hX := hX.tr hk2
  have hP := PP.ext hP hk2
  have hF := RF.ext hF hk2
  refine W.eq (g2 := F0 m 5 ls []) rfl ?_
  obtain ⟨k, hk, rfl⟩ := inI_of hi (by decide)
  have ek : toN (nI k) = k := toN_k (by omega)
  refine lv_lload_n X.1 X.2.1 dX1_slope_5 rfl (lv_at hl 2 rfl) ?_
  refine lv_lconst (v := lN 1) X.1 X.2.1 dX1_slope_6 (by decide) ?_
  refine lv_ldc2 (v := 20) X.1 X.2.1 X.2.2.2.1 (X.2.2.2.2.1 _ (List.mem_cons_of_mem _ mw_199)) dX1_slope_7 ?_
  refine w_l (v' := lN 20) (by decide) ?_
  refine y_callS (F := fun q => q = r) (As := [.long a0, .long (lN 1), .long (lN 20)]) (rest := []) X hne hE (c_X1_checkNumber l g a0 1 20 hl0 (by decide) (by decide)) ⟨mw_96, mw_97, mw_38, mw_98⟩ sgX1_checkNumber ⟨rfl, rfl, ⟨by decide, by decide⟩, by decide, by decide⟩ trivial hX rfl hl.1 rfl (Nat.le_of_ble_eq_true rfl) dX1_slope_10 (fun E h => xk_G hi rfl (fun h9 => by rw [h9]; rfl) h) ⟨by decide, by decide⟩ (fun v H3 hk4 hp => ?_)
  obtain ⟨rfl, ha⟩ := hp
  have hX := hX.tr hk4
  have hP := PP.ext hP hk4
  have hF := RF.ext hF hk4
  refine W.eq (g2 := F0 m 13 ls []) rfl ?_
  refine lv_lload X.1 X.2.1 dX1_slope_13 (lv_at hl 3 rfl) ?_
  refine lv_lconst (v := lN 1) X.1 X.2.1 dX1_slope_15 (by decide) ?_
  refine lv_ldc2 (v := 20) X.1 X.2.1 X.2.2.2.1 (X.2.2.2.2.1 _ (List.mem_cons_of_mem _ mw_199)) dX1_slope_16 ?_
  refine w_l (v' := lN 20) (by decide) ?_
  refine y_callS (F := fun q => q = r) (As := [.long b0, .long (lN 1), .long (lN 20)]) (rest := []) X hne hE (c_X1_checkNumber l g b0 1 20 hl0 (by decide) (by decide)) ⟨mw_96, mw_97, mw_38, mw_98⟩ sgX1_checkNumber ⟨rfl, rfl, ⟨by decide, by decide⟩, by decide, by decide⟩ trivial hX rfl hl.1 rfl (Nat.le_of_ble_eq_true rfl) dX1_slope_19 (fun E h => xk_G hi rfl (fun h9 => by rw [h9, ha]; rfl) h) ⟨by decide, by decide⟩ (fun v H5 hk6 hp => ?_)
  obtain ⟨rfl, hb⟩ := hp
  have hX := hX.tr hk6
  have hP := PP.ext hP hk6
  have hF := RF.ext hF hk6
  refine W.eq (g2 := F0 m 22 ls []) rfl ?_
  obtain ⟨na, ha1, ha2, rfl⟩ := inL_of ha (by decide)
  obtain ⟨nb, hb1, hb2, rfl⟩ := inL_of hb (by decide)
  have ea : toL (lN na) = na := toL_k (by omega)
  have eb : toL (lN nb) = nb := toL_k (by omega)
  refine lv_aload_n X.1 X.2.1 dX1_slope_22 rfl (lv_at hl 0 rfl) ?_
  refine lv_iload_n X.1 X.2.1 dX1_slope_23 rfl (lv_at hl 1 rfl) ?_
  have hro : r < H5.size ∧ o < H5.size := ⟨va_at.lt (hP.at 1 rfl), va_at.lt (hP.at 0 rfl)⟩
  have hszN := Nat.le_trans hN0 hX.1
  refine p_new (C := RX0) (T := TX0) (N := 2) (ci := 0) X tyX0 tyX0_ok uX0 ⟨mw_58, mw_60, mw_39⟩ rfl [.long 0, .long 0] (fun j hj => by rcases (show j = 0 ∨ j = 1 by omega) with rfl | rfl <;> rfl) ⟨by decide, by decide⟩ dX1_slope_24 (fun q7 H8 eq7 zq7 kq7 hq7 => ?_)
  have hX0 := hX
  have hX := hX.tr kq7
  have hP0 := hP
  have hP := PP.ext hP kq7
  have hF0 := hF
  have hF := RF.ext hF kq7
  refine lv_dup X.1 X.2.1 dX1_slope_27 rfl ?_
  refine lv_lload X.1 X.2.1 dX1_slope_28 (lv_at hl 3 rfl) ?_
  refine lv_lload_n X.1 X.2.1 dX1_slope_30 rfl (lv_at hl 2 rfl) ?_
  have hNq : N0 ≤ q7 := by omega
  have hqn : q7 ≠ r ∧ q7 ≠ o := ⟨by omega, by omega⟩
  refine p_callI (b := q7) (As := [.long (lN nb), .long (lN na)]) (rest := [.ref q7, .int (nI k), .ref o]) X (c_X0_init l g q7 nb na (by omega) (by omega) (by omega)) ⟨mw_61, mw_62, mw_39, mw_63⟩ rfl sgX0_init ⟨rfl, rfl, ⟨by decide, by decide⟩, by decide, by decide⟩ (PP.one hq7) hX.1 (by rw [eq7]; exact hX0.1) rfl hl.1 rfl (Nat.le_of_ble_eq_true rfl) dX1_slope_31 (fun H9 hkq7 hp => ?_)
  have keq7 := kq7.init (Nat.le_of_eq eq7.symm) hkq7
  have hX := hX0.tr keq7
  have hP := PP.cons hp (PP.ext hP0 keq7)
  have hF := RF.ext hF0 keq7
  refine W.eq (g2 := F0 m 34 ls [.ref q7, .int (nI k), .ref o]) rfl ?_
  have hX := hxf.of (F := fun q => q = r) hX
  have hlo : lok (fun q => q = r) s.heap.size ([] : List Loc) := lok.nil
  refine f_callV (F := fun q => q = r) (C := RX1) (b := o) (As := [.int (nI k), .ref q7]) (rest := []) X (c_X1_changeRun l g o r A x1 y1 q k q7 ((nb : Rat) / (na : Rat)) hO hD hk (sl_bd ha1 ha2 hb2) hqn.1) ⟨mw_200, mw_202, mw_1, mw_38, mw_203⟩ sgX1_changeRun ⟨rfl, rfl, ⟨by decide, by decide⟩, by decide, by decide⟩ (hP.at 1 rfl) rfl rfl (⟨RP.of hP [1, 2] rfl hF, hP.at 0 rfl⟩) hX.1 (fun q h => h) hlo rfl hl.1 rfl (Nat.le_of_ble_eq_true rfl) dX1_slope_34 (fun v H10 locs hk11 hlo hp => ?_)
  obtain ⟨rfl, hRP⟩ := hp
  have hX := hX.trf (fun q h => h) hk11
  refine W.eq (g2 := F0 m 37 ls [.int (bI (!decide ((nb : Rat) / (na : Rat) = q k)))]) rfl ?_
  exact vx_ret (f_zret (v := !decide ((nb : Rat) / (na : Rat) = q k)) X hX hlo (⟨⟨hi, ha, hb⟩, by simp only [ek, ea, eb], q7, hNq, by simp only [ek]; exact hD.up hqn.1 hqn.2, by simp only [ek, ea, eb]; exact hRP⟩) ⟨by decide, by decide⟩ dX1_slope_37)
set_option maxHeartbeats 4000000 in
set_option maxRecDepth 100000 in
theorem c_X1_gable (l : Launch) (g : En) (o r : Nat) (A : Nat → Nat) (x1 y1 : Nat) (q : Nat → Rat) (i : Int32) (N0 : Nat) (hl0 : l.stackTraces = false) (hO : OK x1 y1 q) (hD : DD o r A) : YM l yX1_gable cX1_gable 2 (some FieldType.boolean) { frames := 8, cells := 3, slots := 14, locals := 116 } g [.ref o, .int i] (fun H => RP g o r A x1 y1 q H ∧ N0 ≤ H.size) (fun q => q = r) 3 14 (fun v H => (inI i 4 = true ∧ oth q (toN i) = true) ∧ v = some (.int (bI (!decide ((0 : Rat) = q (toN i))))) ∧ ∃ b : Nat, N0 ≤ b ∧ DD o r (va_up A (toN i) b) ∧ RP g o r (va_up A (toN i) b) x1 y1 (va_up q (toN i) ((0 : Rat))) H) (xk (inI i 4) (oth q (toN i)) true) := by
  refine YM.of (by decide) (Nat.le_of_ble_eq_true rfl) (fun p e s m below meth c ls X hne hE hG hl => ?_)
  obtain ⟨⟨hP, hF⟩, hN0⟩ := hG
  have hl : lv_has ls 2 [(0, .ref o), (1, .int i)] := hl
  have hX : hxf (fun q => q = r) s.heap s.heap := hxf.rf
  have hlo : lok (fun q => q = r) s.heap.size ([] : List Loc) := lok.nil
  have hP : PP g [ob o x1 y1 r, ar g r A] s.heap := hP
  have hX : hxt s.heap s.heap := hxt.rf
  refine lv_iload_n X.1 X.2.1 dX1_gable_0 rfl (lv_at hl 1 rfl) ?_
  refine lv_iconst (v := nI 4) X.1 X.2.1 dX1_gable_1 (by decide) ?_
  refine y_callS (F := fun q => q = r) (As := [.int i, .int (nI 4)]) (rest := []) X hne hE (c_X1_checkIndex l g i 4 hl0 (by decide)) ⟨mw_175, mw_176, mw_38, mw_177⟩ sgX1_checkIndex ⟨rfl, rfl, ⟨by decide, by decide⟩, by decide, by decide⟩ trivial hX rfl hl.1 rfl (Nat.le_of_ble_eq_true rfl) dX1_gable_2 (fun E h => xk_A (fun h9 => h9) h) ⟨by decide, by decide⟩ (fun v H1 hk2 hp => ?_)
  obtain ⟨rfl, hi⟩ := hp
  have hX := hX.tr hk2
  have hP := PP.ext hP hk2
  have hF := RF.ext hF hk2
  refine W.eq (g2 := F0 m 5 ls []) rfl ?_
  obtain ⟨k, hk, rfl⟩ := inI_of hi (by decide)
  have ek : toN (nI k) = k := toN_k (by omega)
  refine lv_aload_n X.1 X.2.1 dX1_gable_5 rfl (lv_at hl 0 rfl) ?_
  refine lv_iload_n X.1 X.2.1 dX1_gable_6 rfl (lv_at hl 1 rfl) ?_
  refine y_callV (F := fun q => q = r) (C := RX1) (b := o) (As := [.int (nI k)]) (rest := []) X hne hE (c_X1_checkOthersAreNotAllGables l g o r A x1 y1 q k hl0 hO hk) ⟨mw_216, mw_218, mw_2, mw_38, mw_219⟩ sgX1_checkOthersAreNotAllGables ⟨rfl, rfl, ⟨by decide, by decide⟩, by decide, by decide⟩ (hP.at 0 rfl) rfl rfl (RP.of hP [0, 1] rfl hF) hX rfl hl.1 rfl (Nat.le_of_ble_eq_true rfl) dX1_gable_7 (fun E h => xk_S hi (fun h9 => by rw [ek]; exact h9) h) ⟨by decide, by decide⟩ (fun v H3 hk4 hp => ?_)
  obtain ⟨rfl, ho⟩ := hp
  have hX := hX.tr hk4
  have hP := PP.ext hP hk4
  have hF := RF.ext hF hk4
  refine W.eq (g2 := F0 m 10 ls []) rfl ?_
  refine lv_aload_n X.1 X.2.1 dX1_gable_10 rfl (lv_at hl 0 rfl) ?_
  refine lv_iload_n X.1 X.2.1 dX1_gable_11 rfl (lv_at hl 1 rfl) ?_
  have hro : r < H3.size ∧ o < H3.size := ⟨va_at.lt (hP.at 1 rfl), va_at.lt (hP.at 0 rfl)⟩
  have hszN := Nat.le_trans hN0 hX.1
  refine p_new (C := RX0) (T := TX0) (N := 2) (ci := 0) X tyX0 tyX0_ok uX0 ⟨mw_58, mw_60, mw_39⟩ rfl [.long 0, .long 0] (fun j hj => by rcases (show j = 0 ∨ j = 1 by omega) with rfl | rfl <;> rfl) ⟨by decide, by decide⟩ dX1_gable_12 (fun q5 H6 eq5 zq5 kq5 hq5 => ?_)
  have hX0 := hX
  have hX := hX.tr kq5
  have hP0 := hP
  have hP := PP.ext hP kq5
  have hF0 := hF
  have hF := RF.ext hF kq5
  refine lv_dup X.1 X.2.1 dX1_gable_15 rfl ?_
  refine lv_lconst (v := lN 0) X.1 X.2.1 dX1_gable_16 (by decide) ?_
  refine lv_lconst (v := lN 1) X.1 X.2.1 dX1_gable_17 (by decide) ?_
  have hNq : N0 ≤ q5 := by omega
  have hqn : q5 ≠ r ∧ q5 ≠ o := ⟨by omega, by omega⟩
  refine p_callI (b := q5) (As := [.long (lN 0), .long (lN 1)]) (rest := [.ref q5, .int (nI k), .ref o]) X (c_X0_init l g q5 0 1 (by decide) (by decide) (by decide)) ⟨mw_61, mw_62, mw_39, mw_63⟩ rfl sgX0_init ⟨rfl, rfl, ⟨by decide, by decide⟩, by decide, by decide⟩ (PP.one hq5) hX.1 (by rw [eq5]; exact hX0.1) rfl hl.1 rfl (Nat.le_of_ble_eq_true rfl) dX1_gable_18 (fun H7 hkq5 hp => ?_)
  have keq5 := kq5.init (Nat.le_of_eq eq5.symm) hkq5
  have hX := hX0.tr keq5
  rw [show ((0 : Nat) : Rat) / ((1 : Nat) : Rat) = (0 : Rat) by decide +kernel] at hp
  have hP := PP.cons hp (PP.ext hP0 keq5)
  have hF := RF.ext hF0 keq5
  refine W.eq (g2 := F0 m 21 ls [.ref q5, .int (nI k), .ref o]) rfl ?_
  have hX := hxf.of (F := fun q => q = r) hX
  have hlo : lok (fun q => q = r) s.heap.size ([] : List Loc) := lok.nil
  refine f_callV (F := fun q => q = r) (C := RX1) (b := o) (As := [.int (nI k), .ref q5]) (rest := []) X (c_X1_changeRun l g o r A x1 y1 q k q5 ((0 : Rat)) hO hD hk ((bd_nat 0).mono (by decide) (by decide)) hqn.1) ⟨mw_200, mw_202, mw_1, mw_38, mw_203⟩ sgX1_changeRun ⟨rfl, rfl, ⟨by decide, by decide⟩, by decide, by decide⟩ (hP.at 1 rfl) rfl rfl (⟨RP.of hP [1, 2] rfl hF, hP.at 0 rfl⟩) hX.1 (fun q h => h) hlo rfl hl.1 rfl (Nat.le_of_ble_eq_true rfl) dX1_gable_21 (fun v H8 locs hk9 hlo hp => ?_)
  obtain ⟨rfl, hRP⟩ := hp
  have hX := hX.trf (fun q h => h) hk9
  refine W.eq (g2 := F0 m 24 ls [.int (bI (!decide ((0 : Rat) = q k)))]) rfl ?_
  exact vx_ret (f_zret (v := !decide ((0 : Rat) = q k)) X hX hlo (⟨⟨hi, by rw [ek]; exact ho⟩, by simp only [ek], q5, hNq, by simp only [ek]; exact hD.up hqn.1 hqn.2, by simp only [ek]; exact hRP⟩) ⟨by decide, by decide⟩ dX1_gable_24)
