/-! the two constructors -/
def jPc (g : En) (av : List Value) (G : Heap → Prop) (sz : Nat) : Array Value → State → Prop := fun v U => v = av.toArray ∧ U.heap.size = sz ∧ G U.heap ∧ KK g U ∧ va_AO RX0 U
theorem jPc_blind {g : En} {av : List Value} {G : Heap → Prop} {sz : Nat} : FrameBlind (jPc g av G sz) := fun a U f mk q => by
  obtain ⟨q0, q1, q2, qK, qA⟩ := q
  exact ⟨q0, q1, q2, va_K.moved (u := U) (U := U.calling f mk a) (Vm.Alike.refl U.vm) qK, va_AO.moved (u := U) (U := U.calling f mk a) (Vm.Alike.refl U.vm) qA⟩
def JM (l : Launch) (y : MethodName) (cy : ByteArray) (nl : Nat) (rm : Room) (g : En) (a : Nat) (av : List Value) (G : Heap → Prop) (mc ms : Nat) (post : Heap → Prop) : Prop :=
  ∀ sz : Nat, Met l y (Cond.code y cy nl none :: tb) rm (jPc g (.ref a :: av) G sz) (iQ a post) mc ms (fun q => q = a ∨ sz ≤ q)
theorem JM.of {l : Launch} {y : MethodName} {cy : ByteArray} {nl : Nat} {rm : Room} {g : En} {a : Nat} {av : List Value} {G : Heap → Prop} {mc ms : Nat} {post : Heap → Prop} (hy : plainName y.cls = true) (hav : (lg_sl (.ref a :: av)).length ≤ nl)
    (body : ∀ (p : Program) (e : Env) (s : State) (m : MethodId) (below : List Frame) (meth : Method) (c : Code) (ls : Array Slot), CX p s m (Value.ref a :: av).toArray meth c y cy nl none g → va_AO RX0 s → G s.heap → lv_has ls nl (lv_args 0 (.ref a :: av)) →
      W p l e rm s m (Value.ref a :: av).toArray below meth c s.heap [] 0 0 (MQ below (iQ a post) (Value.ref a :: av).toArray s mc ms (fun q => q = a ∨ s.heap.size ≤ q)) (F0 m 0 ls [])) : JM l y cy nl rm g a av G mc ms post := by
  intro sz
  refine Met.ofW (cc := cy) (maxL := nl) (ret := none) hy rfl ?_
  intro p e s m args below meth c s₁ B hml hv
  obtain ⟨rfl, hsz, hG, hK, hA⟩ := hv
  subst hsz
  have hts := atoms_spec (ws := Cond.code y cy nl none :: tb) B.pre
  rw [lg_entry_eq]
  exact body p e s m below meth c _ ⟨B.exec, B.bytes, hml, findClass_of_methodNamed B.named, hts, B.returns, B.notSynchronized, hK, fun h => (name_of_methodNamed B.named B.method).1.trans h, B.noHandlers (hts _ List.mem_cons_self)⟩ hA hG (lv_entry (.ref a :: av) hav)
section PJ
variable {p : Program} {l : Launch} {e : Env} {R : Room} {s : State} {m : MethodId} {args : Array Value} {below : List Frame} {meth : Method} {c : Code} {H : Heap} {locs : List Loc} {cells slots : Nat} {Q : State → Prop} {pc : Nat} {ls : Array Slot} {rest st0 : List Value} {g : En}
variable {y y' : MethodName} {cy cy' : ByteArray} {nl nl' : Nat} {ret ret' : Option FieldType}
variable {mc ms n idx : Nat} {post : Heap → Prop} {rm : Room} {G : Heap → Prop} {b : Nat} {As : List Value} {C : String}
theorem p_callJ (X : CX p s m args meth c y cy nl ret g) (hA : va_AO RX0 s) (hM : JM l y' cy' nl' rm g b As G mc ms post)
    (hw : Cond.methodLink y.cls idx y' ∈ tb ∧ Cond.instanceMethod y' ∈ tb ∧ Cond.initialized y'.cls ∈ tb ∧ Cond.code y' cy' nl' none ∈ tb) (hy1 : y'.name = "<init>")
    (hd : y'.cls ≠ "java/lang/invoke/MethodHandle" ∧ y'.cls ≠ "java/lang/invoke/VarHandle" ∧ (parseMethodDescriptor y'.desc).map (fun d => d.parameters.length) = some n)
    (hrm : rm.cells = mc ∧ rm.slots = ms ∧ (rm.frames + 1 ≤ R.frames ∧ 8 + (nl' + 11) + rm.locals ≤ R.locals) ∧ cells + mc ≤ R.cells ∧ slots + ms ≤ R.slots)
    (hG : G H) (hs : s.heap.size ≤ H.size) (hbs : s.heap.size ≤ b) (hn : As.length = n) (hls : ls.size = nl) (hst : st0 = As.reverse ++ .ref b :: rest) (hrest : (rest.map fun v => v.category).sum ≤ 8) (hdg : decode cy pc = .ok (.invokespecial idx, 3))
    (kk : ∀ (H1 : Heap), hxa b H H1 → post H1 → W p l e R s m args below meth c H1 locs (cells + mc) (slots + ms) Q (F0 m (pc + 3) ls rest)) : W p l e R s m args below meth c H locs cells slots Q (F0 m pc ls st0) := by
  obtain ⟨hx, hb, hml, hown, hts, -, -, hK, -⟩ := X
  have hts' : ∀ w ∈ tb, w.before args s = true := fun w h => hts w (List.mem_cons_of_mem _ h)
  obtain ⟨h1, h2, h4, h5⟩ := hw
  obtain ⟨r1, r2, r3, r4⟩ := hrm
  refine W.callX (W.runI (n := n) (As := As) (b := b) (rest := rest) ⟨hx, hb, hml, hown, hts⟩ (hM H.size) (cwI n hts (tb_GG h5) rfl r1 r2 (hts' _ h4) (hts' _ h1) (hts' _ h2) hy1 hd r3) ⟨jPc_blind, fun U hU hW => ⟨rfl, by rw [hU], by rw [hU]; exact hG, va_K.moved hW.alike hK, va_AO.moved hW.alike hA⟩⟩ rfl hn hls hst (lv_room hrest) hdg r4) (fun x hx => ?_) (fun v st₀ t h0 hq => ?_)
  · rcases hx with h | h
    · rw [h]; exact hbs
    · exact Nat.le_trans hs h
  · obtain ⟨e1, e2, e3⟩ := hq
    cases e1
    rw [h0] at e2
    exact kk t.heap e2 e3
end PJ
theorem arr_eq {cA : ClassId} {f h : Nat → Option Nat} {n : Nat} (e : ∀ j, j < n → f j = h j) : vp_cell cA (n, .inr (.inr (.inr (.inr f)))) = vp_cell cA (n, .inr (.inr (.inr (.inr h)))) := by
  rw [vp_cell_q, vp_cell_q]
  unfold arrV
  congr 1
  apply Array.ext
  · simp
  · intro i h1 h2
    simp only [Array.getElem_ofFn] at *
    first
      | (rw [e i (by simpa using h1)])
      | (simp at h1 ⊢; rw [e i (by omega)])
def qq4 (a b c d : Nat) : Nat → Nat := fun j => if j = 0 then a else if j = 1 then b else if j = 2 then c else d
theorem qq4_eq (a b c d : Nat) : ∀ j, j < 4 → va_up (va_up (va_up (va_up (fun _ => (none : Option Nat)) 0 (some a)) 1 (some b)) 2 (some c)) 3 (some d) j = (fun k => some (qq4 a b c d k)) j := fun j hj => by
  rcases (show j = 0 ∨ j = 1 ∨ j = 2 ∨ j = 3 by omega) with rfl | rfl | rfl | rfl <;> rfl
def one4 : Nat → Nat := va_up (va_up (va_up (va_up (fun _ => 0) 0 1) 1 1) 2 1) 3 1
theorem MR_one : MR (fun _ => 1) one4 one4 := fun k hk _ => by
  rcases (show k = 0 ∨ k = 1 ∨ k = 2 ∨ k = 3 by omega) with rfl | rfl | rfl | rfl <;> exact ⟨rfl, rfl⟩
theorem OK_one : OK 1000 600 (fun _ => 1) := ⟨by decide, by decide, fun _ _ => show bd (1 : Rat) 20 20 from ⟨by decide, by decide, by decide⟩, 0, by decide, by decide⟩
set_option maxHeartbeats 4000000 in
set_option maxRecDepth 100000 in
theorem c_X1_init (l : Launch) (g : En) (o N0 : Nat) : JM l yX1_init cX1_init 2 { frames := 2, cells := 5, slots := 12, locals := 60 } g o [] (fun H => PP g [(o, .inr (1, [.long 0, .long 0, .null]))] H ∧ N0 ≤ H.size) 5 12 (fun H => ∃ (r : Nat) (A : Nat → Nat), N0 ≤ r ∧ DD o r A ∧ RP g o r A 1000 600 (fun _ => 1) H) := by
  refine JM.of (by decide) (Nat.le_of_ble_eq_true rfl) (fun p e s m below meth c ls X hAO hG hl => ?_)
  obtain ⟨hP, hN0⟩ := hG
  have hos : o < s.heap.size := va_at.lt (hP.at 0 rfl)
  have hl : lv_has ls 2 [(0, .ref o)] := hl
  have hX : hxf (fun q => q = o) s.heap s.heap := hxf.rf
  have hlo : lok (fun q => q = o) s.heap.size ([] : List Loc) := lok.nil
  have hP : PP g [(o, .inr (1, [.long 0, .long 0, .null]))] s.heap := hP
  refine lv_aload_n X.1 X.2.1 dX1_init_0 rfl (lv_at hl 0 rfl) ?_
  refine W.objInit X.1 X.2.1 X.2.2.2.1 (X.2.2.2.2.1 _ (List.mem_cons_of_mem _ mw_53)) (X.2.2.2.2.1 _ (List.mem_cons_of_mem _ mw_54)) (X.2.2.2.2.1 _ (List.mem_cons_of_mem _ mw_55)) rfl (by rw [X.2.2.1]; exact hl.1) rfl dX1_init_1 (Nat.le_of_ble_eq_true rfl) (Nat.le_of_ble_eq_true rfl) ?_
  refine W.eq (g2 := F0 m 4 ls []) rfl ?_
  refine lv_aload_n X.1 X.2.1 dX1_init_4 rfl (lv_at hl 0 rfl) ?_
  refine lv_ldc2 (v := 1000) X.1 X.2.1 X.2.2.2.1 (X.2.2.2.2.1 _ (List.mem_cons_of_mem _ mw_56)) dX1_init_5 ?_
  refine w_l (v' := lN 1000) (by decide) ?_
  refine f_put (F := fun q => q = o) (T := TX1) (N := 3) (ci := 1) X tyX1 tyX1_ok nmX1 uX1 (hP.at 0 rfl) rfl 0 (by decide) mw_77 rfl rfl (v := .long (lN 1000)) (ty := .long) (by decide +kernel) rfl rfl (Nat.le_of_ble_eq_true rfl) (Or.inl rfl) hlo dX1_init_8 (fun H1 locs hpa hlo hat => ?_)
  have hX := hX.tra (rfl) hpa
  have hP := PP.one hat
  have hP : PP g [(o, .inr (1, [.long (lN 1000), .long 0, .null]))] H1 := hP
  refine lv_aload_n X.1 X.2.1 dX1_init_11 rfl (lv_at hl 0 rfl) ?_
  refine lv_ldc2 (v := 600) X.1 X.2.1 X.2.2.2.1 (X.2.2.2.2.1 _ (List.mem_cons_of_mem _ mw_57)) dX1_init_12 ?_
  refine w_l (v' := lN 600) (by decide) ?_
  refine f_put (F := fun q => q = o) (T := TX1) (N := 3) (ci := 1) X tyX1 tyX1_ok nmX1 uX1 (hP.at 0 rfl) rfl 1 (by decide) mw_78 rfl rfl (v := .long (lN 600)) (ty := .long) (by decide +kernel) rfl rfl (Nat.le_of_ble_eq_true rfl) (Or.inl rfl) hlo dX1_init_15 (fun H2 locs hpa hlo hat => ?_)
  have hX := hX.tra (rfl) hpa
  have hP := PP.one hat
  have hP : PP g [(o, .inr (1, [.long (lN 1000), .long (lN 600), .null]))] H2 := hP
  refine lv_aload_n X.1 X.2.1 dX1_init_18 rfl (lv_at hl 0 rfl) ?_
  refine lv_iconst (v := nI 4) X.1 X.2.1 dX1_init_19 (by decide) ?_
  have sb3 : s.heap.size ≤ H2.size := hX.1
  have tb3_0 : o < H2.size := va_at.lt (hP.at 0 rfl)
  refine f_newq X mw_58 hAO (n := 4) (by decide) ⟨by decide, by decide⟩ dX1_init_20 (fun q4 H5 eq4 zq4 kq4 hq4 => ?_)
  have hX := hX.tr kq4
  have hP := PP.cons hq4 (PP.ext hP kq4)
  have hP : PP g [(q4, .inl (g.2.1, 4, .inr (.inr (.inr (.inr (fun _ => none)))))), (o, .inr (1, [.long (lN 1000), .long (lN 600), .null]))] H5 := hP
  have szH5 := hX.1
  refine f_putF (F := fun q => q = o) (T := TX1) (N := 3) (ci := 1) X tyX1 tyX1_ok nmX1 uX1 (hP.at 1 rfl) rfl 2 (by decide) mw_79 rfl rfl rfl (v := .ref q4) (ty := .array (.object "RafterPlaces$Fraction")) (by decide +kernel) rfl rfl (Nat.le_of_ble_eq_true rfl) (Or.inl rfl) hlo dX1_init_23 (fun H6 locs hpa hlo hat => ?_)
  have hX := hX.tra (rfl) hpa
  have hP := PP.cons hat (PP.exa (hP.sub [0] rfl : PP g [(q4, .inl (g.2.1, 4, .inr (.inr (.inr (.inr (fun _ => none))))))] _) hpa (fun z hz => by simp only [List.mem_cons, List.not_mem_nil, or_false] at hz; subst hz; first | exact by omega | exact by simp only [fq, mla]; omega))
  have hP : PP g [(o, .inr (1, [.long (lN 1000), .long (lN 600), .ref q4])), (q4, .inl (g.2.1, 4, .inr (.inr (.inr (.inr (fun _ => none))))))] H6 := hP
  refine lv_iconst (v := nI 0) X.1 X.2.1 dX1_init_26 (by decide) ?_
  refine lv_istore_n (lv' := [(1, .int (nI 0)), (0, .ref o)]) X.1 X.2.1 dX1_init_27 rfl hl (by decide) rfl (fun ls hl => ?_)
  refine lv_iload_n X.1 X.2.1 dX1_init_28 rfl (lv_at hl 0 rfl) ?_
  refine lv_iconst (v := nI 4) X.1 X.2.1 dX1_init_29 (by decide) ?_
  have hrs : s.heap.size ≤ q4 := by omega
  refine lv_icmp_ge (tgt := 54) X.1 X.2.1 dX1_init_30 (by decide) (fun h9 => absurd h9 (by decide)) (fun _ => ?_)
  refine lv_aload_n X.1 X.2.1 dX1_init_33 rfl (lv_at hl 1 rfl) ?_
  refine p_get (T := TX1) X uX1 (hP.at 0 rfl) rfl 2 (by decide) mw_79 rfl rfl dX1_init_34 ?_
  refine lv_iload_n X.1 X.2.1 dX1_init_37 rfl (lv_at hl 0 rfl) ?_
  have sb7 : s.heap.size ≤ H6.size := hX.1
  have tb7_0 : o < H6.size := va_at.lt (hP.at 0 rfl)
  have tb7_1 : q4 < H6.size := va_at.lt (hP.at 1 rfl)
  refine p_new (C := RX0) (T := TX0) (N := 2) (ci := 0) X tyX0 tyX0_ok uX0 ⟨mw_58, mw_60, mw_39⟩ rfl [.long 0, .long 0] (fun j hj => by rcases (show j = 0 ∨ j = 1 by omega) with rfl | rfl <;> rfl) ⟨by decide, by decide⟩ dX1_init_38 (fun q8 H9 eq8 zq8 kq8 hq8 => ?_)
  have hX0 := hX
  have hX := hX.tr kq8
  have hP0 := hP
  have hP := PP.ext hP kq8
  refine lv_dup X.1 X.2.1 dX1_init_41 rfl ?_
  refine lv_lconst (v := lN 1) X.1 X.2.1 dX1_init_42 (by decide) ?_
  refine lv_lconst (v := lN 1) X.1 X.2.1 dX1_init_43 (by decide) ?_
  refine p_callI (b := q8) (As := [.long (lN 1), .long (lN 1)]) (rest := [.ref q8, .int (nI 0), .ref q4]) X (c_X0_init l g q8 1 1 (by decide) (by decide) (by decide)) ⟨mw_61, mw_62, mw_39, mw_63⟩ rfl sgX0_init ⟨rfl, rfl, ⟨by decide, by decide⟩, by decide, by decide⟩ (PP.one hq8) hX.1 (by rw [eq8]; exact hX0.1) rfl hl.1 rfl (Nat.le_of_ble_eq_true rfl) dX1_init_44 (fun H10 hkq8 hp => ?_)
  have keq8 := kq8.init (Nat.le_of_eq eq8.symm) hkq8
  have hX := hX0.tr keq8
  rw [show ((1 : Nat) : Rat) / ((1 : Nat) : Rat) = (1 : Rat) by decide +kernel] at hp
  have hP := PP.cons hp (PP.ext hP0 keq8)
  refine W.eq (g2 := F0 m 47 ls [.ref q8, .int (nI 0), .ref q4]) rfl ?_
  have hNq8 : q4 < q8 ∧ o < q8 ∧ q8 < H10.size := ⟨by omega, by omega, va_at.lt (hP.at 0 rfl)⟩
  refine f_astq (F := fun q => q = o) X (hP.at 2 rfl) (hP.at 0 rfl) (k := 0) (by decide) (by decide) (Or.inr hrs) hlo dX1_init_47 (fun H11 locs hpa hlo hat => ?_)
  have hX := hX.trn hrs hpa
  have hP := PP.cons hat (PP.exa (hP.sub [0, 1] rfl : PP g [fq q8 (1 : Rat), (o, .inr (1, [.long (lN 1000), .long (lN 600), .ref q4]))] _) hpa (fun z hz => by simp only [List.mem_cons, List.not_mem_nil, or_false] at hz; rcases hz with rfl | rfl <;> first | omega | (simp only [fq, mla]; omega)))
  have hP : PP g [(q4, .inl (g.2.1, 4, .inr (.inr (.inr (.inr (va_up (fun _ => none) 0 (some q8))))))), fq q8 (1 : Rat), (o, .inr (1, [.long (lN 1000), .long (lN 600), .ref q4]))] H11 := hP
  refine lv_iinc (v := nI 1) (lv' := [(1, .int (nI 1)), (0, .ref o)]) X.1 X.2.1 dX1_init_48 hl (k := 0) rfl (nI_1 _) (by decide) rfl (fun ls hl => ?_)
  refine lv_goto (tgt := 28) X.1 X.2.1 dX1_init_51 (by decide) ?_
  refine lv_iload_n X.1 X.2.1 dX1_init_28 rfl (lv_at hl 0 rfl) ?_
  refine lv_iconst (v := nI 4) X.1 X.2.1 dX1_init_29 (by decide) ?_
  refine lv_icmp_ge (tgt := 54) X.1 X.2.1 dX1_init_30 (by decide) (fun h9 => absurd h9 (by decide)) (fun _ => ?_)
  refine lv_aload_n X.1 X.2.1 dX1_init_33 rfl (lv_at hl 1 rfl) ?_
  refine p_get (T := TX1) X uX1 (hP.at 2 rfl) rfl 2 (by decide) mw_79 rfl rfl dX1_init_34 ?_
  refine lv_iload_n X.1 X.2.1 dX1_init_37 rfl (lv_at hl 0 rfl) ?_
  have sb12 : s.heap.size ≤ H11.size := hX.1
  have tb12_0 : q4 < H11.size := va_at.lt (hP.at 0 rfl)
  have tb12_1 : q8 < H11.size := va_at.lt (hP.at 1 rfl)
  have tb12_2 : o < H11.size := va_at.lt (hP.at 2 rfl)
  refine p_new (C := RX0) (T := TX0) (N := 2) (ci := 0) X tyX0 tyX0_ok uX0 ⟨mw_58, mw_60, mw_39⟩ rfl [.long 0, .long 0] (fun j hj => by rcases (show j = 0 ∨ j = 1 by omega) with rfl | rfl <;> rfl) ⟨by decide, by decide⟩ dX1_init_38 (fun q13 H14 eq13 zq13 kq13 hq13 => ?_)
  have hX0 := hX
  have hX := hX.tr kq13
  have hP0 := hP
  have hP := PP.ext hP kq13
  refine lv_dup X.1 X.2.1 dX1_init_41 rfl ?_
  refine lv_lconst (v := lN 1) X.1 X.2.1 dX1_init_42 (by decide) ?_
  refine lv_lconst (v := lN 1) X.1 X.2.1 dX1_init_43 (by decide) ?_
  refine p_callI (b := q13) (As := [.long (lN 1), .long (lN 1)]) (rest := [.ref q13, .int (nI 1), .ref q4]) X (c_X0_init l g q13 1 1 (by decide) (by decide) (by decide)) ⟨mw_61, mw_62, mw_39, mw_63⟩ rfl sgX0_init ⟨rfl, rfl, ⟨by decide, by decide⟩, by decide, by decide⟩ (PP.one hq13) hX.1 (by rw [eq13]; exact hX0.1) rfl hl.1 rfl (Nat.le_of_ble_eq_true rfl) dX1_init_44 (fun H15 hkq13 hp => ?_)
  have keq13 := kq13.init (Nat.le_of_eq eq13.symm) hkq13
  have hX := hX0.tr keq13
  rw [show ((1 : Nat) : Rat) / ((1 : Nat) : Rat) = (1 : Rat) by decide +kernel] at hp
  have hP := PP.cons hp (PP.ext hP0 keq13)
  refine W.eq (g2 := F0 m 47 ls [.ref q13, .int (nI 1), .ref q4]) rfl ?_
  have hNq13 : q4 < q13 ∧ o < q13 ∧ q13 < H15.size := ⟨by omega, by omega, va_at.lt (hP.at 0 rfl)⟩
  refine f_astq (F := fun q => q = o) X (hP.at 1 rfl) (hP.at 0 rfl) (k := 1) (by decide) (by decide) (Or.inr hrs) hlo dX1_init_47 (fun H16 locs hpa hlo hat => ?_)
  have hX := hX.trn hrs hpa
  have hP := PP.cons hat (PP.exa (hP.sub [0, 2, 3] rfl : PP g [fq q13 (1 : Rat), fq q8 (1 : Rat), (o, .inr (1, [.long (lN 1000), .long (lN 600), .ref q4]))] _) hpa (fun z hz => by simp only [List.mem_cons, List.not_mem_nil, or_false] at hz; rcases hz with rfl | rfl | rfl <;> first | omega | (simp only [fq, mla]; omega)))
  have hP : PP g [(q4, .inl (g.2.1, 4, .inr (.inr (.inr (.inr (va_up (va_up (fun _ => none) 0 (some q8)) 1 (some q13))))))), fq q13 (1 : Rat), fq q8 (1 : Rat), (o, .inr (1, [.long (lN 1000), .long (lN 600), .ref q4]))] H16 := hP
  refine lv_iinc (v := nI 2) (lv' := [(1, .int (nI 2)), (0, .ref o)]) X.1 X.2.1 dX1_init_48 hl (k := 0) rfl (nI_1 _) (by decide) rfl (fun ls hl => ?_)
  refine lv_goto (tgt := 28) X.1 X.2.1 dX1_init_51 (by decide) ?_
  refine lv_iload_n X.1 X.2.1 dX1_init_28 rfl (lv_at hl 0 rfl) ?_
  refine lv_iconst (v := nI 4) X.1 X.2.1 dX1_init_29 (by decide) ?_
  refine lv_icmp_ge (tgt := 54) X.1 X.2.1 dX1_init_30 (by decide) (fun h9 => absurd h9 (by decide)) (fun _ => ?_)
  refine lv_aload_n X.1 X.2.1 dX1_init_33 rfl (lv_at hl 1 rfl) ?_
  refine p_get (T := TX1) X uX1 (hP.at 3 rfl) rfl 2 (by decide) mw_79 rfl rfl dX1_init_34 ?_
  refine lv_iload_n X.1 X.2.1 dX1_init_37 rfl (lv_at hl 0 rfl) ?_
  have sb17 : s.heap.size ≤ H16.size := hX.1
  have tb17_0 : q4 < H16.size := va_at.lt (hP.at 0 rfl)
  have tb17_1 : q13 < H16.size := va_at.lt (hP.at 1 rfl)
  have tb17_2 : q8 < H16.size := va_at.lt (hP.at 2 rfl)
  have tb17_3 : o < H16.size := va_at.lt (hP.at 3 rfl)
  refine p_new (C := RX0) (T := TX0) (N := 2) (ci := 0) X tyX0 tyX0_ok uX0 ⟨mw_58, mw_60, mw_39⟩ rfl [.long 0, .long 0] (fun j hj => by rcases (show j = 0 ∨ j = 1 by omega) with rfl | rfl <;> rfl) ⟨by decide, by decide⟩ dX1_init_38 (fun q18 H19 eq18 zq18 kq18 hq18 => ?_)
  have hX0 := hX
  have hX := hX.tr kq18
  have hP0 := hP
  have hP := PP.ext hP kq18
  refine lv_dup X.1 X.2.1 dX1_init_41 rfl ?_
  refine lv_lconst (v := lN 1) X.1 X.2.1 dX1_init_42 (by decide) ?_
  refine lv_lconst (v := lN 1) X.1 X.2.1 dX1_init_43 (by decide) ?_
  refine p_callI (b := q18) (As := [.long (lN 1), .long (lN 1)]) (rest := [.ref q18, .int (nI 2), .ref q4]) X (c_X0_init l g q18 1 1 (by decide) (by decide) (by decide)) ⟨mw_61, mw_62, mw_39, mw_63⟩ rfl sgX0_init ⟨rfl, rfl, ⟨by decide, by decide⟩, by decide, by decide⟩ (PP.one hq18) hX.1 (by rw [eq18]; exact hX0.1) rfl hl.1 rfl (Nat.le_of_ble_eq_true rfl) dX1_init_44 (fun H20 hkq18 hp => ?_)
  have keq18 := kq18.init (Nat.le_of_eq eq18.symm) hkq18
  have hX := hX0.tr keq18
  rw [show ((1 : Nat) : Rat) / ((1 : Nat) : Rat) = (1 : Rat) by decide +kernel] at hp
  have hP := PP.cons hp (PP.ext hP0 keq18)
  refine W.eq (g2 := F0 m 47 ls [.ref q18, .int (nI 2), .ref q4]) rfl ?_
  have hNq18 : q4 < q18 ∧ o < q18 ∧ q18 < H20.size := ⟨by omega, by omega, va_at.lt (hP.at 0 rfl)⟩
  refine f_astq (F := fun q => q = o) X (hP.at 1 rfl) (hP.at 0 rfl) (k := 2) (by decide) (by decide) (Or.inr hrs) hlo dX1_init_47 (fun H21 locs hpa hlo hat => ?_)
  have hX := hX.trn hrs hpa
  have hP := PP.cons hat (PP.exa (hP.sub [0, 2, 3, 4] rfl : PP g [fq q18 (1 : Rat), fq q13 (1 : Rat), fq q8 (1 : Rat), (o, .inr (1, [.long (lN 1000), .long (lN 600), .ref q4]))] _) hpa (fun z hz => by simp only [List.mem_cons, List.not_mem_nil, or_false] at hz; rcases hz with rfl | rfl | rfl | rfl <;> first | omega | (simp only [fq, mla]; omega)))
  have hP : PP g [(q4, .inl (g.2.1, 4, .inr (.inr (.inr (.inr (va_up (va_up (va_up (fun _ => none) 0 (some q8)) 1 (some q13)) 2 (some q18))))))), fq q18 (1 : Rat), fq q13 (1 : Rat), fq q8 (1 : Rat), (o, .inr (1, [.long (lN 1000), .long (lN 600), .ref q4]))] H21 := hP
  refine lv_iinc (v := nI 3) (lv' := [(1, .int (nI 3)), (0, .ref o)]) X.1 X.2.1 dX1_init_48 hl (k := 0) rfl (nI_1 _) (by decide) rfl (fun ls hl => ?_)
  refine lv_goto (tgt := 28) X.1 X.2.1 dX1_init_51 (by decide) ?_
  refine lv_iload_n X.1 X.2.1 dX1_init_28 rfl (lv_at hl 0 rfl) ?_
  refine lv_iconst (v := nI 4) X.1 X.2.1 dX1_init_29 (by decide) ?_
  refine lv_icmp_ge (tgt := 54) X.1 X.2.1 dX1_init_30 (by decide) (fun h9 => absurd h9 (by decide)) (fun _ => ?_)
  refine lv_aload_n X.1 X.2.1 dX1_init_33 rfl (lv_at hl 1 rfl) ?_
  refine p_get (T := TX1) X uX1 (hP.at 4 rfl) rfl 2 (by decide) mw_79 rfl rfl dX1_init_34 ?_
  refine lv_iload_n X.1 X.2.1 dX1_init_37 rfl (lv_at hl 0 rfl) ?_
  have sb22 : s.heap.size ≤ H21.size := hX.1
  have tb22_0 : q4 < H21.size := va_at.lt (hP.at 0 rfl)
  have tb22_1 : q18 < H21.size := va_at.lt (hP.at 1 rfl)
  have tb22_2 : q13 < H21.size := va_at.lt (hP.at 2 rfl)
  have tb22_3 : q8 < H21.size := va_at.lt (hP.at 3 rfl)
  have tb22_4 : o < H21.size := va_at.lt (hP.at 4 rfl)
  refine p_new (C := RX0) (T := TX0) (N := 2) (ci := 0) X tyX0 tyX0_ok uX0 ⟨mw_58, mw_60, mw_39⟩ rfl [.long 0, .long 0] (fun j hj => by rcases (show j = 0 ∨ j = 1 by omega) with rfl | rfl <;> rfl) ⟨by decide, by decide⟩ dX1_init_38 (fun q23 H24 eq23 zq23 kq23 hq23 => ?_)
  have hX0 := hX
  have hX := hX.tr kq23
  have hP0 := hP
  have hP := PP.ext hP kq23
  refine lv_dup X.1 X.2.1 dX1_init_41 rfl ?_
  refine lv_lconst (v := lN 1) X.1 X.2.1 dX1_init_42 (by decide) ?_
  refine lv_lconst (v := lN 1) X.1 X.2.1 dX1_init_43 (by decide) ?_
  refine p_callI (b := q23) (As := [.long (lN 1), .long (lN 1)]) (rest := [.ref q23, .int (nI 3), .ref q4]) X (c_X0_init l g q23 1 1 (by decide) (by decide) (by decide)) ⟨mw_61, mw_62, mw_39, mw_63⟩ rfl sgX0_init ⟨rfl, rfl, ⟨by decide, by decide⟩, by decide, by decide⟩ (PP.one hq23) hX.1 (by rw [eq23]; exact hX0.1) rfl hl.1 rfl (Nat.le_of_ble_eq_true rfl) dX1_init_44 (fun H25 hkq23 hp => ?_)
  have keq23 := kq23.init (Nat.le_of_eq eq23.symm) hkq23
  have hX := hX0.tr keq23
  rw [show ((1 : Nat) : Rat) / ((1 : Nat) : Rat) = (1 : Rat) by decide +kernel] at hp
  have hP := PP.cons hp (PP.ext hP0 keq23)
  refine W.eq (g2 := F0 m 47 ls [.ref q23, .int (nI 3), .ref q4]) rfl ?_
  have hNq23 : q4 < q23 ∧ o < q23 ∧ q23 < H25.size := ⟨by omega, by omega, va_at.lt (hP.at 0 rfl)⟩
  refine f_astq (F := fun q => q = o) X (hP.at 1 rfl) (hP.at 0 rfl) (k := 3) (by decide) (by decide) (Or.inr hrs) hlo dX1_init_47 (fun H26 locs hpa hlo hat => ?_)
  have hX := hX.trn hrs hpa
  have hP := PP.cons hat (PP.exa (hP.sub [0, 2, 3, 4, 5] rfl : PP g [fq q23 (1 : Rat), fq q18 (1 : Rat), fq q13 (1 : Rat), fq q8 (1 : Rat), (o, .inr (1, [.long (lN 1000), .long (lN 600), .ref q4]))] _) hpa (fun z hz => by simp only [List.mem_cons, List.not_mem_nil, or_false] at hz; rcases hz with rfl | rfl | rfl | rfl | rfl <;> first | omega | (simp only [fq, mla]; omega)))
  have hP : PP g [(q4, .inl (g.2.1, 4, .inr (.inr (.inr (.inr (va_up (va_up (va_up (va_up (fun _ => none) 0 (some q8)) 1 (some q13)) 2 (some q18)) 3 (some q23))))))), fq q23 (1 : Rat), fq q18 (1 : Rat), fq q13 (1 : Rat), fq q8 (1 : Rat), (o, .inr (1, [.long (lN 1000), .long (lN 600), .ref q4]))] H26 := hP
  refine lv_iinc (v := nI 4) (lv' := [(1, .int (nI 4)), (0, .ref o)]) X.1 X.2.1 dX1_init_48 hl (k := 0) rfl (nI_1 _) (by decide) rfl (fun ls hl => ?_)
  refine lv_goto (tgt := 28) X.1 X.2.1 dX1_init_51 (by decide) ?_
  refine lv_iload_n X.1 X.2.1 dX1_init_28 rfl (lv_at hl 0 rfl) ?_
  refine lv_iconst (v := nI 4) X.1 X.2.1 dX1_init_29 (by decide) ?_
  refine lv_icmp_ge (tgt := 54) X.1 X.2.1 dX1_init_30 (by decide) (fun _ => ?_) (fun h9 => absurd (by decide) h9)
  have hR1 : va_at g.1 cl0 (ar g q4 (qq4 q8 q13 q18 q23)) H26 := by
    have h9 := hP.at 0 rfl
    show _ = _
    rw [← arr_eq (qq4_eq q8 q13 q18 q23)]
    exact h9
  have hF1 : RF g (qq4 q8 q13 q18 q23) (fun _ => 1) H26 := fun j hj => by
    rcases (show j = 0 ∨ j = 1 ∨ j = 2 ∨ j = 3 by omega) with rfl | rfl | rfl | rfl
    · exact hP.at 4 rfl
    · exact hP.at 3 rfl
    · exact hP.at 2 rfl
    · exact hP.at 1 rfl
  have hD1 : DD o q4 (qq4 q8 q13 q18 q23) := ⟨by omega, fun j hj => by
    rcases (show j = 0 ∨ j = 1 ∨ j = 2 ∨ j = 3 by omega) with rfl | rfl | rfl | rfl
    · show q8 ≠ q4 ∧ q8 ≠ o; omega
    · show q13 ≠ q4 ∧ q13 ≠ o; omega
    · show q18 ≠ q4 ∧ q18 ≠ o; omega
    · show q23 ≠ q4 ∧ q23 ≠ o; omega⟩
  exact f_ivret X hX hlo ⟨q4, qq4 q8 q13 q18 q23, Nat.le_trans hN0 hrs, hD1, PP.cons (hP.at 5 rfl) (PP.one hR1), hF1⟩ ⟨by decide, by decide⟩ dX1_init_54
set_option maxHeartbeats 4000000 in
set_option maxRecDepth 100000 in
theorem c_X2_init (l : Launch) (g : En) (mo N0 : Nat) : JM l yX2_init cX2_init 2 { frames := 1, cells := 3, slots := 12, locals := 30 } g mo [] (fun H => PP g [(mo, .inr (2, [.int 0, .long 0, .long 0, .null, .null, .null, .long 0, .long 0]))] H ∧ N0 ≤ H.size) 3 12 (fun H => ∃ ua oa ga : Nat, (N0 ≤ ua ∧ N0 ≤ oa ∧ N0 ≤ ga) ∧ MD mo ua oa ga ∧ MO g mo ua oa ga 0 0 0 1000 600 one4 one4 (fun _ => 1) H) := by
  refine JM.of (by decide) (Nat.le_of_ble_eq_true rfl) (fun p e s m below meth c ls X hAO hG hl => ?_)
  obtain ⟨hP, hN0⟩ := hG
  have hos : mo < s.heap.size := va_at.lt (hP.at 0 rfl)
  have hl : lv_has ls 2 [(0, .ref mo)] := hl
  have hX : hxf (fun q => q = mo) s.heap s.heap := hxf.rf
  have hlo : lok (fun q => q = mo) s.heap.size ([] : List Loc) := lok.nil
  have hP : PP g [(mo, .inr (2, [.int 0, .long 0, .long 0, .null, .null, .null, .long 0, .long 0]))] s.heap := hP
  refine lv_aload_n X.1 X.2.1 dX2_init_0 rfl (lv_at hl 0 rfl) ?_
  refine W.objInit X.1 X.2.1 X.2.2.2.1 (X.2.2.2.2.1 _ (List.mem_cons_of_mem _ mw_461)) (X.2.2.2.2.1 _ (List.mem_cons_of_mem _ mw_54)) (X.2.2.2.2.1 _ (List.mem_cons_of_mem _ mw_55)) rfl (by rw [X.2.2.1]; exact hl.1) rfl dX2_init_1 (Nat.le_of_ble_eq_true rfl) (Nat.le_of_ble_eq_true rfl) ?_
  refine W.eq (g2 := F0 m 4 ls []) rfl ?_
  refine lv_aload_n X.1 X.2.1 dX2_init_4 rfl (lv_at hl 0 rfl) ?_
  refine lv_ldc2 (v := 1000) X.1 X.2.1 X.2.2.2.1 (X.2.2.2.2.1 _ (List.mem_cons_of_mem _ mw_462)) dX2_init_5 ?_
  refine w_l (v' := lN 1000) (by decide) ?_
  refine f_put (F := fun q => q = mo) (T := TX2) (N := 8) (ci := 2) X tyX2 tyX2_ok nmX2 uX2 (hP.at 0 rfl) rfl 1 (by decide) mw_465 rfl rfl (v := .long (lN 1000)) (ty := .long) (by decide +kernel) rfl rfl (Nat.le_of_ble_eq_true rfl) (Or.inl rfl) hlo dX2_init_8 (fun H1 locs hpa hlo hat => ?_)
  have hX := hX.tra (rfl) hpa
  have hP := PP.one hat
  have hP : PP g [(mo, .inr (2, [.int 0, .long (lN 1000), .long 0, .null, .null, .null, .long 0, .long 0]))] H1 := hP
  refine lv_aload_n X.1 X.2.1 dX2_init_11 rfl (lv_at hl 0 rfl) ?_
  refine lv_ldc2 (v := 600) X.1 X.2.1 X.2.2.2.1 (X.2.2.2.2.1 _ (List.mem_cons_of_mem _ mw_463)) dX2_init_12 ?_
  refine w_l (v' := lN 600) (by decide) ?_
  refine f_put (F := fun q => q = mo) (T := TX2) (N := 8) (ci := 2) X tyX2 tyX2_ok nmX2 uX2 (hP.at 0 rfl) rfl 2 (by decide) mw_466 rfl rfl (v := .long (lN 600)) (ty := .long) (by decide +kernel) rfl rfl (Nat.le_of_ble_eq_true rfl) (Or.inl rfl) hlo dX2_init_15 (fun H2 locs hpa hlo hat => ?_)
  have hX := hX.tra (rfl) hpa
  have hP := PP.one hat
  have hP : PP g [(mo, .inr (2, [.int 0, .long (lN 1000), .long (lN 600), .null, .null, .null, .long 0, .long 0]))] H2 := hP
  refine lv_aload_n X.1 X.2.1 dX2_init_18 rfl (lv_at hl 0 rfl) ?_
  refine lv_iconst (v := nI 4) X.1 X.2.1 dX2_init_19 (by decide) ?_
  have sb3 : s.heap.size ≤ H2.size := hX.1
  have tb3_0 : mo < H2.size := va_at.lt (hP.at 0 rfl)
  refine f_newl X mw_489 (n := 4) (by decide) ⟨by decide, by decide⟩ dX2_init_20 (fun q4 H5 eq4 zq4 kq4 hq4 => ?_)
  have hX := hX.tr kq4
  have hP := PP.cons hq4 (PP.ext hP kq4)
  have hP : PP g [(q4, .inl (g.2.2.1, 4, .inr (.inl (fun _ => lN 0)))), (mo, .inr (2, [.int 0, .long (lN 1000), .long (lN 600), .null, .null, .null, .long 0, .long 0]))] H5 := hP
  have szH5 := hX.1
  have hNq4 : s.heap.size ≤ q4 ∧ q4 < H5.size := ⟨by omega, va_at.lt (hP.at 0 rfl)⟩
  refine f_putF (F := fun q => q = mo) (T := TX2) (N := 8) (ci := 2) X tyX2 tyX2_ok nmX2 uX2 (hP.at 1 rfl) rfl 3 (by decide) mw_467 rfl rfl rfl (v := .ref q4) (ty := .array .long) (by decide +kernel) rfl rfl (Nat.le_of_ble_eq_true rfl) (Or.inl rfl) hlo dX2_init_22 (fun H6 locs hpa hlo hat => ?_)
  have hX := hX.tra (rfl) hpa
  have hP := PP.cons hat (PP.exa (hP.sub [0] rfl : PP g [(q4, .inl (g.2.2.1, 4, .inr (.inl (fun _ => lN 0))))] _) hpa (fun z hz => by simp only [List.mem_cons, List.not_mem_nil, or_false] at hz; subst hz; first | exact by omega | exact by simp only [fq, mla]; omega))
  have hP : PP g [(mo, .inr (2, [.int 0, .long (lN 1000), .long (lN 600), .ref q4, .null, .null, .long 0, .long 0])), (q4, .inl (g.2.2.1, 4, .inr (.inl (fun _ => lN 0))))] H6 := hP
  have hsq4 := hpa.1
  refine lv_aload_n X.1 X.2.1 dX2_init_25 rfl (lv_at hl 0 rfl) ?_
  refine lv_iconst (v := nI 4) X.1 X.2.1 dX2_init_26 (by decide) ?_
  have sb7 : s.heap.size ≤ H6.size := hX.1
  have tb7_0 : mo < H6.size := va_at.lt (hP.at 0 rfl)
  have tb7_1 : q4 < H6.size := va_at.lt (hP.at 1 rfl)
  refine f_newl X mw_489 (n := 4) (by decide) ⟨by decide, by decide⟩ dX2_init_27 (fun q8 H9 eq8 zq8 kq8 hq8 => ?_)
  have hX := hX.tr kq8
  have hP := PP.cons hq8 (PP.ext hP kq8)
  have hP : PP g [(q8, .inl (g.2.2.1, 4, .inr (.inl (fun _ => lN 0)))), (mo, .inr (2, [.int 0, .long (lN 1000), .long (lN 600), .ref q4, .null, .null, .long 0, .long 0])), (q4, .inl (g.2.2.1, 4, .inr (.inl (fun _ => lN 0))))] H9 := hP
  have szH9 := hX.1
  have hNq8 : s.heap.size ≤ q8 ∧ q8 < H9.size := ⟨by omega, va_at.lt (hP.at 0 rfl)⟩
  refine f_putF (F := fun q => q = mo) (T := TX2) (N := 8) (ci := 2) X tyX2 tyX2_ok nmX2 uX2 (hP.at 1 rfl) rfl 4 (by decide) mw_468 rfl rfl rfl (v := .ref q8) (ty := .array .long) (by decide +kernel) rfl rfl (Nat.le_of_ble_eq_true rfl) (Or.inl rfl) hlo dX2_init_29 (fun H10 locs hpa hlo hat => ?_)
  have hX := hX.tra (rfl) hpa
  have hP := PP.cons hat (PP.exa (hP.sub [0, 2] rfl : PP g [(q8, .inl (g.2.2.1, 4, .inr (.inl (fun _ => lN 0)))), (q4, .inl (g.2.2.1, 4, .inr (.inl (fun _ => lN 0))))] _) hpa (fun z hz => by simp only [List.mem_cons, List.not_mem_nil, or_false] at hz; rcases hz with rfl | rfl <;> first | exact by omega | exact by simp only [fq, mla]; omega))
  have hP : PP g [(mo, .inr (2, [.int 0, .long (lN 1000), .long (lN 600), .ref q4, .ref q8, .null, .long 0, .long 0])), (q8, .inl (g.2.2.1, 4, .inr (.inl (fun _ => lN 0)))), (q4, .inl (g.2.2.1, 4, .inr (.inl (fun _ => lN 0))))] H10 := hP
  have hsq8 := hpa.1
  refine lv_aload_n X.1 X.2.1 dX2_init_32 rfl (lv_at hl 0 rfl) ?_
  refine lv_iconst (v := nI 4) X.1 X.2.1 dX2_init_33 (by decide) ?_
  have sb11 : s.heap.size ≤ H10.size := hX.1
  have tb11_0 : mo < H10.size := va_at.lt (hP.at 0 rfl)
  have tb11_1 : q8 < H10.size := va_at.lt (hP.at 1 rfl)
  have tb11_2 : q4 < H10.size := va_at.lt (hP.at 2 rfl)
  refine f_newz X mw_490 (n := 4) (by decide) ⟨by decide, by decide⟩ dX2_init_34 (fun q12 H13 eq12 zq12 kq12 hq12 => ?_)
  have hX := hX.tr kq12
  have hP := PP.cons hq12 (PP.ext hP kq12)
  have hP : PP g [(q12, .inl (g.2.2.2, 4, .inl (fun _ => 0))), (mo, .inr (2, [.int 0, .long (lN 1000), .long (lN 600), .ref q4, .ref q8, .null, .long 0, .long 0])), (q8, .inl (g.2.2.1, 4, .inr (.inl (fun _ => lN 0)))), (q4, .inl (g.2.2.1, 4, .inr (.inl (fun _ => lN 0))))] H13 := hP
  have szH13 := hX.1
  have hNq12 : s.heap.size ≤ q12 ∧ q12 < H13.size := ⟨by omega, va_at.lt (hP.at 0 rfl)⟩
  refine f_putF (F := fun q => q = mo) (T := TX2) (N := 8) (ci := 2) X tyX2 tyX2_ok nmX2 uX2 (hP.at 1 rfl) rfl 5 (by decide) mw_469 rfl rfl rfl (v := .ref q12) (ty := .array .boolean) (by decide +kernel) rfl rfl (Nat.le_of_ble_eq_true rfl) (Or.inl rfl) hlo dX2_init_36 (fun H14 locs hpa hlo hat => ?_)
  have hX := hX.tra (rfl) hpa
  have hP := PP.cons hat (PP.exa (hP.sub [0, 2, 3] rfl : PP g [(q12, .inl (g.2.2.2, 4, .inl (fun _ => 0))), (q8, .inl (g.2.2.1, 4, .inr (.inl (fun _ => lN 0)))), (q4, .inl (g.2.2.1, 4, .inr (.inl (fun _ => lN 0))))] _) hpa (fun z hz => by simp only [List.mem_cons, List.not_mem_nil, or_false] at hz; rcases hz with rfl | rfl | rfl <;> first | exact by omega | exact by simp only [fq, mla]; omega))
  have hP : PP g [(mo, .inr (2, [.int 0, .long (lN 1000), .long (lN 600), .ref q4, .ref q8, .ref q12, .long 0, .long 0])), (q12, .inl (g.2.2.2, 4, .inl (fun _ => 0))), (q8, .inl (g.2.2.1, 4, .inr (.inl (fun _ => lN 0)))), (q4, .inl (g.2.2.1, 4, .inr (.inl (fun _ => lN 0))))] H14 := hP
  have hsq12 := hpa.1
  refine lv_iconst (v := nI 0) X.1 X.2.1 dX2_init_39 (by decide) ?_
  refine lv_istore_n (lv' := [(1, .int (nI 0)), (0, .ref mo)]) X.1 X.2.1 dX2_init_40 rfl hl (by decide) rfl (fun ls hl => ?_)
  refine lv_iload_n X.1 X.2.1 dX2_init_41 rfl (lv_at hl 0 rfl) ?_
  refine lv_iconst (v := nI 4) X.1 X.2.1 dX2_init_42 (by decide) ?_
  have hDs : q4 < q8 ∧ q8 < q12 ∧ mo < q4 := by omega
  refine lv_icmp_ge (tgt := 66) X.1 X.2.1 dX2_init_43 (by decide) (fun h9 => absurd h9 (by decide)) (fun _ => ?_)
  refine lv_aload_n X.1 X.2.1 dX2_init_46 rfl (lv_at hl 1 rfl) ?_
  refine p_get (T := TX2) X uX2 (hP.at 0 rfl) rfl 3 (by decide) mw_467 rfl rfl dX2_init_47 ?_
  refine lv_iload_n X.1 X.2.1 dX2_init_50 rfl (lv_at hl 0 rfl) ?_
  refine lv_lconst (v := lN 1) X.1 X.2.1 dX2_init_51 (by decide) ?_
  refine f_last (F := fun q => q = mo) X (hP.at 3 rfl) (k := 0) (by decide) (by decide) (Or.inr hNq4.1) hlo dX2_init_52 (fun H15 locs hpa hlo hat => ?_)
  have hX := hX.trn hNq4.1 hpa
  rw [upL] at hat
  have hP := PP.cons hat (PP.exa (hP.sub [0, 1, 2] rfl : PP g [(mo, .inr (2, [.int 0, .long (lN 1000), .long (lN 600), .ref q4, .ref q8, .ref q12, .long 0, .long 0])), (q12, .inl (g.2.2.2, 4, .inl (fun _ => 0))), (q8, .inl (g.2.2.1, 4, .inr (.inl (fun _ => lN 0))))] _) hpa (fun z hz => by simp only [List.mem_cons, List.not_mem_nil, or_false] at hz; rcases hz with rfl | rfl | rfl <;> first | omega | (simp only [fq, mla]; omega)))
  have hP : PP g [mla g q4 (va_up (fun _ => 0) 0 1), (mo, .inr (2, [.int 0, .long (lN 1000), .long (lN 600), .ref q4, .ref q8, .ref q12, .long 0, .long 0])), (q12, .inl (g.2.2.2, 4, .inl (fun _ => 0))), (q8, .inl (g.2.2.1, 4, .inr (.inl (fun _ => lN 0))))] H15 := hP
  refine lv_aload_n X.1 X.2.1 dX2_init_53 rfl (lv_at hl 1 rfl) ?_
  refine p_get (T := TX2) X uX2 (hP.at 1 rfl) rfl 4 (by decide) mw_468 rfl rfl dX2_init_54 ?_
  refine lv_iload_n X.1 X.2.1 dX2_init_57 rfl (lv_at hl 0 rfl) ?_
  refine lv_lconst (v := lN 1) X.1 X.2.1 dX2_init_58 (by decide) ?_
  refine f_last (F := fun q => q = mo) X (hP.at 3 rfl) (k := 0) (by decide) (by decide) (Or.inr hNq8.1) hlo dX2_init_59 (fun H16 locs hpa hlo hat => ?_)
  have hX := hX.trn hNq8.1 hpa
  rw [upL] at hat
  have hP := PP.cons hat (PP.exa (hP.sub [0, 1, 2] rfl : PP g [mla g q4 (va_up (fun _ => 0) 0 1), (mo, .inr (2, [.int 0, .long (lN 1000), .long (lN 600), .ref q4, .ref q8, .ref q12, .long 0, .long 0])), (q12, .inl (g.2.2.2, 4, .inl (fun _ => 0)))] _) hpa (fun z hz => by simp only [List.mem_cons, List.not_mem_nil, or_false] at hz; rcases hz with rfl | rfl | rfl <;> first | omega | (simp only [fq, mla]; omega)))
  have hP : PP g [mla g q8 (va_up (fun _ => 0) 0 1), mla g q4 (va_up (fun _ => 0) 0 1), (mo, .inr (2, [.int 0, .long (lN 1000), .long (lN 600), .ref q4, .ref q8, .ref q12, .long 0, .long 0])), (q12, .inl (g.2.2.2, 4, .inl (fun _ => 0)))] H16 := hP
  refine lv_iinc (v := nI 1) (lv' := [(1, .int (nI 1)), (0, .ref mo)]) X.1 X.2.1 dX2_init_60 hl (k := 0) rfl (nI_1 _) (by decide) rfl (fun ls hl => ?_)
  refine lv_goto (tgt := 41) X.1 X.2.1 dX2_init_63 (by decide) ?_
  refine lv_iload_n X.1 X.2.1 dX2_init_41 rfl (lv_at hl 0 rfl) ?_
  refine lv_iconst (v := nI 4) X.1 X.2.1 dX2_init_42 (by decide) ?_
  refine lv_icmp_ge (tgt := 66) X.1 X.2.1 dX2_init_43 (by decide) (fun h9 => absurd h9 (by decide)) (fun _ => ?_)
  refine lv_aload_n X.1 X.2.1 dX2_init_46 rfl (lv_at hl 1 rfl) ?_
  refine p_get (T := TX2) X uX2 (hP.at 2 rfl) rfl 3 (by decide) mw_467 rfl rfl dX2_init_47 ?_
  refine lv_iload_n X.1 X.2.1 dX2_init_50 rfl (lv_at hl 0 rfl) ?_
  refine lv_lconst (v := lN 1) X.1 X.2.1 dX2_init_51 (by decide) ?_
  refine f_last (F := fun q => q = mo) X (hP.at 1 rfl) (k := 1) (by decide) (by decide) (Or.inr hNq4.1) hlo dX2_init_52 (fun H17 locs hpa hlo hat => ?_)
  have hX := hX.trn hNq4.1 hpa
  rw [upL] at hat
  have hP := PP.cons hat (PP.exa (hP.sub [0, 2, 3] rfl : PP g [mla g q8 (va_up (fun _ => 0) 0 1), (mo, .inr (2, [.int 0, .long (lN 1000), .long (lN 600), .ref q4, .ref q8, .ref q12, .long 0, .long 0])), (q12, .inl (g.2.2.2, 4, .inl (fun _ => 0)))] _) hpa (fun z hz => by simp only [List.mem_cons, List.not_mem_nil, or_false] at hz; rcases hz with rfl | rfl | rfl <;> first | omega | (simp only [fq, mla]; omega)))
  have hP : PP g [mla g q4 (va_up (va_up (fun _ => 0) 0 1) 1 1), mla g q8 (va_up (fun _ => 0) 0 1), (mo, .inr (2, [.int 0, .long (lN 1000), .long (lN 600), .ref q4, .ref q8, .ref q12, .long 0, .long 0])), (q12, .inl (g.2.2.2, 4, .inl (fun _ => 0)))] H17 := hP
  refine lv_aload_n X.1 X.2.1 dX2_init_53 rfl (lv_at hl 1 rfl) ?_
  refine p_get (T := TX2) X uX2 (hP.at 2 rfl) rfl 4 (by decide) mw_468 rfl rfl dX2_init_54 ?_
  refine lv_iload_n X.1 X.2.1 dX2_init_57 rfl (lv_at hl 0 rfl) ?_
  refine lv_lconst (v := lN 1) X.1 X.2.1 dX2_init_58 (by decide) ?_
  refine f_last (F := fun q => q = mo) X (hP.at 1 rfl) (k := 1) (by decide) (by decide) (Or.inr hNq8.1) hlo dX2_init_59 (fun H18 locs hpa hlo hat => ?_)
  have hX := hX.trn hNq8.1 hpa
  rw [upL] at hat
  have hP := PP.cons hat (PP.exa (hP.sub [0, 2, 3] rfl : PP g [mla g q4 (va_up (va_up (fun _ => 0) 0 1) 1 1), (mo, .inr (2, [.int 0, .long (lN 1000), .long (lN 600), .ref q4, .ref q8, .ref q12, .long 0, .long 0])), (q12, .inl (g.2.2.2, 4, .inl (fun _ => 0)))] _) hpa (fun z hz => by simp only [List.mem_cons, List.not_mem_nil, or_false] at hz; rcases hz with rfl | rfl | rfl <;> first | omega | (simp only [fq, mla]; omega)))
  have hP : PP g [mla g q8 (va_up (va_up (fun _ => 0) 0 1) 1 1), mla g q4 (va_up (va_up (fun _ => 0) 0 1) 1 1), (mo, .inr (2, [.int 0, .long (lN 1000), .long (lN 600), .ref q4, .ref q8, .ref q12, .long 0, .long 0])), (q12, .inl (g.2.2.2, 4, .inl (fun _ => 0)))] H18 := hP
  refine lv_iinc (v := nI 2) (lv' := [(1, .int (nI 2)), (0, .ref mo)]) X.1 X.2.1 dX2_init_60 hl (k := 0) rfl (nI_1 _) (by decide) rfl (fun ls hl => ?_)
  refine lv_goto (tgt := 41) X.1 X.2.1 dX2_init_63 (by decide) ?_
  refine lv_iload_n X.1 X.2.1 dX2_init_41 rfl (lv_at hl 0 rfl) ?_
  refine lv_iconst (v := nI 4) X.1 X.2.1 dX2_init_42 (by decide) ?_
  refine lv_icmp_ge (tgt := 66) X.1 X.2.1 dX2_init_43 (by decide) (fun h9 => absurd h9 (by decide)) (fun _ => ?_)
  refine lv_aload_n X.1 X.2.1 dX2_init_46 rfl (lv_at hl 1 rfl) ?_
  refine p_get (T := TX2) X uX2 (hP.at 2 rfl) rfl 3 (by decide) mw_467 rfl rfl dX2_init_47 ?_
  refine lv_iload_n X.1 X.2.1 dX2_init_50 rfl (lv_at hl 0 rfl) ?_
  refine lv_lconst (v := lN 1) X.1 X.2.1 dX2_init_51 (by decide) ?_
  refine f_last (F := fun q => q = mo) X (hP.at 1 rfl) (k := 2) (by decide) (by decide) (Or.inr hNq4.1) hlo dX2_init_52 (fun H19 locs hpa hlo hat => ?_)
  have hX := hX.trn hNq4.1 hpa
  rw [upL] at hat
  have hP := PP.cons hat (PP.exa (hP.sub [0, 2, 3] rfl : PP g [mla g q8 (va_up (va_up (fun _ => 0) 0 1) 1 1), (mo, .inr (2, [.int 0, .long (lN 1000), .long (lN 600), .ref q4, .ref q8, .ref q12, .long 0, .long 0])), (q12, .inl (g.2.2.2, 4, .inl (fun _ => 0)))] _) hpa (fun z hz => by simp only [List.mem_cons, List.not_mem_nil, or_false] at hz; rcases hz with rfl | rfl | rfl <;> first | omega | (simp only [fq, mla]; omega)))
  have hP : PP g [mla g q4 (va_up (va_up (va_up (fun _ => 0) 0 1) 1 1) 2 1), mla g q8 (va_up (va_up (fun _ => 0) 0 1) 1 1), (mo, .inr (2, [.int 0, .long (lN 1000), .long (lN 600), .ref q4, .ref q8, .ref q12, .long 0, .long 0])), (q12, .inl (g.2.2.2, 4, .inl (fun _ => 0)))] H19 := hP
  refine lv_aload_n X.1 X.2.1 dX2_init_53 rfl (lv_at hl 1 rfl) ?_
  refine p_get (T := TX2) X uX2 (hP.at 2 rfl) rfl 4 (by decide) mw_468 rfl rfl dX2_init_54 ?_
  refine lv_iload_n X.1 X.2.1 dX2_init_57 rfl (lv_at hl 0 rfl) ?_
  refine lv_lconst (v := lN 1) X.1 X.2.1 dX2_init_58 (by decide) ?_
  refine f_last (F := fun q => q = mo) X (hP.at 1 rfl) (k := 2) (by decide) (by decide) (Or.inr hNq8.1) hlo dX2_init_59 (fun H20 locs hpa hlo hat => ?_)
  have hX := hX.trn hNq8.1 hpa
  rw [upL] at hat
  have hP := PP.cons hat (PP.exa (hP.sub [0, 2, 3] rfl : PP g [mla g q4 (va_up (va_up (va_up (fun _ => 0) 0 1) 1 1) 2 1), (mo, .inr (2, [.int 0, .long (lN 1000), .long (lN 600), .ref q4, .ref q8, .ref q12, .long 0, .long 0])), (q12, .inl (g.2.2.2, 4, .inl (fun _ => 0)))] _) hpa (fun z hz => by simp only [List.mem_cons, List.not_mem_nil, or_false] at hz; rcases hz with rfl | rfl | rfl <;> first | omega | (simp only [fq, mla]; omega)))
  have hP : PP g [mla g q8 (va_up (va_up (va_up (fun _ => 0) 0 1) 1 1) 2 1), mla g q4 (va_up (va_up (va_up (fun _ => 0) 0 1) 1 1) 2 1), (mo, .inr (2, [.int 0, .long (lN 1000), .long (lN 600), .ref q4, .ref q8, .ref q12, .long 0, .long 0])), (q12, .inl (g.2.2.2, 4, .inl (fun _ => 0)))] H20 := hP
  refine lv_iinc (v := nI 3) (lv' := [(1, .int (nI 3)), (0, .ref mo)]) X.1 X.2.1 dX2_init_60 hl (k := 0) rfl (nI_1 _) (by decide) rfl (fun ls hl => ?_)
  refine lv_goto (tgt := 41) X.1 X.2.1 dX2_init_63 (by decide) ?_
  refine lv_iload_n X.1 X.2.1 dX2_init_41 rfl (lv_at hl 0 rfl) ?_
  refine lv_iconst (v := nI 4) X.1 X.2.1 dX2_init_42 (by decide) ?_
  refine lv_icmp_ge (tgt := 66) X.1 X.2.1 dX2_init_43 (by decide) (fun h9 => absurd h9 (by decide)) (fun _ => ?_)
  refine lv_aload_n X.1 X.2.1 dX2_init_46 rfl (lv_at hl 1 rfl) ?_
  refine p_get (T := TX2) X uX2 (hP.at 2 rfl) rfl 3 (by decide) mw_467 rfl rfl dX2_init_47 ?_
  refine lv_iload_n X.1 X.2.1 dX2_init_50 rfl (lv_at hl 0 rfl) ?_
  refine lv_lconst (v := lN 1) X.1 X.2.1 dX2_init_51 (by decide) ?_
  refine f_last (F := fun q => q = mo) X (hP.at 1 rfl) (k := 3) (by decide) (by decide) (Or.inr hNq4.1) hlo dX2_init_52 (fun H21 locs hpa hlo hat => ?_)
  have hX := hX.trn hNq4.1 hpa
  rw [upL] at hat
  have hP := PP.cons hat (PP.exa (hP.sub [0, 2, 3] rfl : PP g [mla g q8 (va_up (va_up (va_up (fun _ => 0) 0 1) 1 1) 2 1), (mo, .inr (2, [.int 0, .long (lN 1000), .long (lN 600), .ref q4, .ref q8, .ref q12, .long 0, .long 0])), (q12, .inl (g.2.2.2, 4, .inl (fun _ => 0)))] _) hpa (fun z hz => by simp only [List.mem_cons, List.not_mem_nil, or_false] at hz; rcases hz with rfl | rfl | rfl <;> first | omega | (simp only [fq, mla]; omega)))
  have hP : PP g [mla g q4 (va_up (va_up (va_up (va_up (fun _ => 0) 0 1) 1 1) 2 1) 3 1), mla g q8 (va_up (va_up (va_up (fun _ => 0) 0 1) 1 1) 2 1), (mo, .inr (2, [.int 0, .long (lN 1000), .long (lN 600), .ref q4, .ref q8, .ref q12, .long 0, .long 0])), (q12, .inl (g.2.2.2, 4, .inl (fun _ => 0)))] H21 := hP
  refine lv_aload_n X.1 X.2.1 dX2_init_53 rfl (lv_at hl 1 rfl) ?_
  refine p_get (T := TX2) X uX2 (hP.at 2 rfl) rfl 4 (by decide) mw_468 rfl rfl dX2_init_54 ?_
  refine lv_iload_n X.1 X.2.1 dX2_init_57 rfl (lv_at hl 0 rfl) ?_
  refine lv_lconst (v := lN 1) X.1 X.2.1 dX2_init_58 (by decide) ?_
  refine f_last (F := fun q => q = mo) X (hP.at 1 rfl) (k := 3) (by decide) (by decide) (Or.inr hNq8.1) hlo dX2_init_59 (fun H22 locs hpa hlo hat => ?_)
  have hX := hX.trn hNq8.1 hpa
  rw [upL] at hat
  have hP := PP.cons hat (PP.exa (hP.sub [0, 2, 3] rfl : PP g [mla g q4 (va_up (va_up (va_up (va_up (fun _ => 0) 0 1) 1 1) 2 1) 3 1), (mo, .inr (2, [.int 0, .long (lN 1000), .long (lN 600), .ref q4, .ref q8, .ref q12, .long 0, .long 0])), (q12, .inl (g.2.2.2, 4, .inl (fun _ => 0)))] _) hpa (fun z hz => by simp only [List.mem_cons, List.not_mem_nil, or_false] at hz; rcases hz with rfl | rfl | rfl <;> first | omega | (simp only [fq, mla]; omega)))
  have hP : PP g [mla g q8 (va_up (va_up (va_up (va_up (fun _ => 0) 0 1) 1 1) 2 1) 3 1), mla g q4 (va_up (va_up (va_up (va_up (fun _ => 0) 0 1) 1 1) 2 1) 3 1), (mo, .inr (2, [.int 0, .long (lN 1000), .long (lN 600), .ref q4, .ref q8, .ref q12, .long 0, .long 0])), (q12, .inl (g.2.2.2, 4, .inl (fun _ => 0)))] H22 := hP
  refine lv_iinc (v := nI 4) (lv' := [(1, .int (nI 4)), (0, .ref mo)]) X.1 X.2.1 dX2_init_60 hl (k := 0) rfl (nI_1 _) (by decide) rfl (fun ls hl => ?_)
  refine lv_goto (tgt := 41) X.1 X.2.1 dX2_init_63 (by decide) ?_
  refine lv_iload_n X.1 X.2.1 dX2_init_41 rfl (lv_at hl 0 rfl) ?_
  refine lv_iconst (v := nI 4) X.1 X.2.1 dX2_init_42 (by decide) ?_
  refine lv_icmp_ge (tgt := 66) X.1 X.2.1 dX2_init_43 (by decide) (fun _ => ?_) (fun h9 => absurd (by decide) h9)
  have hD1 : MD mo q4 q8 q12 := by refine ⟨?_, ?_, ?_, ?_, ?_, ?_⟩ <;> omega
  exact f_ivret X hX hlo ⟨q4, q8, q12, ⟨by omega, by omega, by omega⟩, hD1, hP.sub [2, 1, 0, 3] rfl⟩ ⟨by decide, by decide⟩ dX2_init_66
