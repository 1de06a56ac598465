/-! exceptions: what the launch gives of the throwables, and methods that return or throw, changing no old cell -/
abbrev eA : String := "java/lang/ArrayIndexOutOfBoundsException"
abbrev eS : String := "java/lang/IllegalStateException"
abbrev eG : String := "java/lang/IllegalArgumentException"
def NGd : List MethodName := [Bundle.initS "java/lang/IndexOutOfBoundsException", Bundle.initS "java/lang/RuntimeException", Bundle.initS "java/lang/Exception", Bundle.initS Bundle.tN]
def NG : List Cond := NGd.map Cond.declares ++ [eA, eS, eG].map (fun x => Cond.castable x x)
theorem NG_tbl : ∀ w ∈ NG, w ∈ lw_tbl := by decide +kernel
theorem NG_on : ∀ w ∈ NG, w.onTables = true := by decide +kernel
theorem NG_warm {s U : State} (hW : s.WarmedH U.vm) (h : ∀ w ∈ NG, va_Nw w s) : ∀ w ∈ NG, va_Nw w U := fun w hw => by
  rcases List.mem_append.mp hw with h1 | h1
  · obtain ⟨x, -, rfl⟩ := List.mem_map.mp h1
    exact va_Nw.warmD hW (h _ hw)
  · obtain ⟨x, -, rfl⟩ := List.mem_map.mp h1
    exact va_Nw.warmC hW (h _ hw)
def ZZ (n d : String) (U : State) : Prop := vx_Zq Bundle.tN n d (fun q => U.heap.size ≤ q) U U.heap
def NC (U : State) : Prop := va_Nc eS eA U ∧ va_Nc eG eA U ∧ va_Nc eG eS U
def EX (U : State) : Prop := ZZ "UNASSIGNED_STACK" Bundle.steD U ∧ ZZ "SUPPRESSED_SENTINEL" Bundle.listD U ∧ (∀ w ∈ NG, va_Nw w U) ∧ NC U ∧
  (∃ a, vk_R RX1 130 "there is no such side, part, cut, end or hip" a U) ∧ (∃ a, vk_R RX1 137 "the number is not as said" a U) ∧ (∃ a, vk_R RX1 146 "the side is a gable" a U) ∧ ∃ a, vk_R RX1 149 "all other sides are gables" a U
theorem ZZ.at {n d : String} {s U : State} (h : ZZ n d s) (hW : s.WarmedH U.vm) (hk : hxt s.heap U.heap) : ZZ n d U := by
  have h1 : vx_Zq Bundle.tN n d (fun q => s.heap.size ≤ q) s U.heap := vx_Zq.kept h (fun a ha _ => hk.2 a ha)
  exact vx_Zq.moved hW.alike (h1.narrow (fun q hq => Nat.le_trans hk.1 hq))
theorem EX.at {s U : State} (h : EX s) (hW : s.WarmedH U.vm) (hk : hxt s.heap U.heap) : EX U := by
  obtain ⟨h1, h2, h3, h4, ⟨a5, h5⟩, ⟨a6, h6⟩, ⟨a7, h7⟩, ⟨a8, h8⟩⟩ := h
  exact ⟨h1.at hW hk, h2.at hW hk, NG_warm hW h3, ⟨h4.1.moved hW.alike, h4.2.1.moved hW.alike, h4.2.2.moved hW.alike⟩, ⟨a5, vk_R.warm hW h5⟩, ⟨a6, vk_R.warm hW h6⟩, ⟨a7, vk_R.warm hW h7⟩, ⟨a8, vk_R.warm hW h8⟩⟩
theorem EX.calling {U : State} {f : JFrame} {mk : MethodId} {a : Array Value} (h : EX U) : EX (U.calling f mk a) := by
  have hW : U.WarmedH (U.calling f mk a).vm := State.WarmedH.refl U
  exact EX.at h hW (show hxt U.heap (U.calling f mk a).heap from hxt.rf)
def xPc (g : En) (av : List Value) (G : Heap → Prop) (sz : Nat) : Array Value → State → Prop := fun v U => v = av.toArray ∧ U.heap.size = sz ∧ G U.heap ∧ KK g U ∧ EX U
def xQ (px : String → Prop) : String → State → State → Prop := fun E st t => hxt st.heap t.heap ∧ px E
def XM (l : Launch) (y : MethodName) (cy : ByteArray) (nl : Nat) (ret : Option FieldType) (rm : Room) (g : En) (av : List Value) (G : Heap → Prop) (mc ms : Nat) (post : Option Value → Heap → Prop) (px : String → Prop) : Prop :=
  ∀ sz : Nat, vx_Met l y (Cond.code y cy nl ret :: tb) rm (xPc g av G sz) (pQ post) (xQ px) mc ms (fun q => sz ≤ q)
theorem xPc_blind {g : En} {av : List Value} {G : Heap → Prop} {sz : Nat} : FrameBlind (xPc g av G sz) := fun a U f mk q => by
  obtain ⟨q0, q1, q2, qK, qE⟩ := q
  exact ⟨q0, q1, q2, va_K.moved (u := U) (U := U.calling f mk a) (Vm.Alike.refl U.vm) qK, qE.calling⟩
theorem XM.of {l : Launch} {y : MethodName} {cy : ByteArray} {nl : Nat} {ret : Option FieldType} {rm : Room} {g : En} {av : List Value} {G : Heap → Prop} {mc ms : Nat} {post : Option Value → Heap → Prop} {px : String → Prop} (hy : plainName y.cls = true) (hav : (lg_sl av).length ≤ nl)
    (body : ∀ (p : Program) (e : Env) (s : State) (m : MethodId) (below : List Frame) (meth : Method) (c : Code) (ls : Array Slot), CX p s m av.toArray meth c y cy nl ret g → (∀ x ∈ c.exceptionTable.toList, False) → EX s → G s.heap → lv_has ls nl (lv_args 0 av) →
      W p l e rm s m av.toArray below meth c s.heap [] 0 0 (vx_MQ below (pQ post) (xQ px) av.toArray s mc ms (fun q => s.heap.size ≤ q)) (F0 m 0 ls [])) : XM l y cy nl ret rm g av G mc ms post px := by
  intro sz
  refine vx_ofW (cc := cy) (maxL := nl) (ret := ret) hy rfl ?_
  intro p e s m args below meth c s₁ B hml hne hv
  obtain ⟨rfl, hsz, hG, hK, hE⟩ := hv
  subst hsz
  have hts := atoms_spec (ws := Cond.code y cy nl ret :: tb) B.pre
  rw [lg_entry_eq]
  exact body p e s m below meth c _ ⟨B.exec, B.bytes, hml, findClass_of_methodNamed B.named, hts, B.returns, B.notSynchronized, hK, fun h => (name_of_methodNamed B.named B.method).1.trans h, B.noHandlers (hts _ List.mem_cons_self)⟩ hne hE hG (lv_entry av hav)
section XW
variable {p : Program} {l : Launch} {e : Env} {R : Room} {s : State} {m : MethodId} {args : Array Value} {below : List Frame} {meth : Method} {c : Code} {H : Heap} {locs : List Loc} {cells slots : Nat} {Q : State → Prop} {pc : Nat} {ls : Array Slot} {rest st0 : List Value} {g : En}
variable {y y' : MethodName} {cy cy' : ByteArray} {nl nl' : Nat} {ret ret' : Option FieldType}
variable {mc ms n idx : Nat} {post : Option Value → Heap → Prop} {px : String → Prop} {a : Array Value} {rm : Room} {G : Heap → Prop} {b : Nat} {As : List Value} {C : String}
theorem x_call (hr : vx_Run p l e R s m args below meth c H locs cells slots mc ms (F0 m pc ls st0) rest (pQ post a) (xQ px) (fun q => H.size ≤ q)) (hs : s.heap.size ≤ H.size)
    (kx : ∀ (E : String) (ce : Cell) (q9 : Addr) (H1 : Heap), hxt H H1 → px E → H1[q9]? = some ce → ce.vm = .none → s.vm.findClass E = some ce.cls → vx_W p l e R s m args below meth c H1 locs (cells + mc) (slots + ms) Q (F0 m pc ls rest) q9)
    (kk : ∀ (v : Option Value) (H1 : Heap), hxt H H1 → post v H1 → W p l e R s m args below meth c H1 locs (cells + mc) (slots + ms) Q (F0 m (pc + 3) ls (v.toList ++ rest))) : W p l e R s m args below meth c H locs cells slots Q (F0 m pc ls st0) := by
  intro T hT X
  rcases hr T hT X with ⟨v, st₀, t, T', L, h0, X', hL, e1, e2, ⟨v', f1, f2, f3⟩, st⟩ | ⟨q, st₀, t, T', L, E, ce, h0, X', hL, e1, e2, ⟨f2, f3⟩, hce, hcv, hcl, st⟩
  · cases f1
    rw [h0] at f2
    obtain ⟨t2, a1, b1⟩ := kk v t.heap f2 f3 T' e1 (Stand.forget X' (fun x h => Nat.le_trans hs (hL x h)))
    exact ⟨t2, st t2 a1, b1⟩
  · rw [h0] at f2
    obtain ⟨t2, a1, b1⟩ := kx E ce q t.heap f2 f3 hce hcv hcl T' e1 (Stand.forget X' (fun x h => Nat.le_trans hs (hL x h)))
    exact ⟨t2, st.trans a1, b1⟩
variable {mc' ms' : Nat} {post' : Option Value → Heap → Prop} {px' : String → Prop} {free : Addr → Prop}
/-- it is thrown on -/
theorem x_thru {E : String} {ce : Cell} {q9 : Addr} {H1 : Heap} (X : CX p s m args meth c y cy nl ret g) (hne : ∀ x ∈ c.exceptionTable.toList, False) (hX : hxt s.heap H1) (hp : px' E) (h1 : H1[q9]? = some ce) (h2 : ce.vm = .none) (h3 : s.vm.findClass E = some ce.cls) (hc : cells ≤ mc' ∧ slots ≤ ms') :
    vx_W p l e R s m args below meth c H1 [] cells slots (vx_MQ below (pQ post') (xQ px') args s mc' ms' free) (F0 m pc ls rest) q9 :=
  vx_out (fun x hx => (hne x hx).elim) X.2.2.2.2.2.2.1 h1 h2 h3 (fun t ht _ => ⟨by rw [ht]; exact hX, hp⟩) (fun z h => nomatch h) hc.1 hc.2
theorem x_callV (X : CX p s m args meth c y cy nl ret g) (hne : ∀ x ∈ c.exceptionTable.toList, False) (hE : EX s) (hM : XM l y' cy' nl' ret' rm g (.ref b :: As) G mc ms post px)
    (hw : Cond.methodLink y.cls idx y' ∈ tb ∧ Cond.instanceMethod y' ∈ tb ∧ Cond.selects C y' y' ∈ tb ∧ Cond.initialized C ∈ tb ∧ Cond.code y' cy' nl' ret' ∈ tb)
    (hd : y'.cls = C ∧ y'.cls ≠ "java/lang/invoke/MethodHandle" ∧ y'.cls ≠ "java/lang/invoke/VarHandle" ∧ (parseMethodDescriptor y'.desc).map (fun d => d.parameters.length) = some n)
    (hrm : rm.cells = mc ∧ rm.slots = ms ∧ (rm.frames + 1 ≤ R.frames ∧ 8 + (nl' + 11) + rm.locals ≤ R.locals) ∧ cells + mc ≤ R.cells ∧ slots + ms ≤ R.slots)
    {ci : Nat} {fs : List Value} {q : vw_C} (hat : va_at g.1 cl0 (b, .inr (ci, fs)) H) (hci : cl0[ci]? = some q) (hq : q.1 = C)
    (hG : G H) (hX : hxt s.heap H) (hn : As.length = n) (hls : ls.size = nl) (hst : st0 = As.reverse ++ .ref b :: rest) (hrest : (rest.map fun v => v.category).sum ≤ 8) (hdg : decode cy pc = .ok (.invokevirtual idx, 3))
    (hpx : ∀ E, px E → px' E) (hc : cells + mc ≤ mc' ∧ slots + ms ≤ ms')
    (kk : ∀ (v : Option Value) (H1 : Heap), hxt H H1 → post v H1 → W p l e R s m args below meth c H1 [] (cells + mc) (slots + ms) (vx_MQ below (pQ post') (xQ px') args s mc' ms' free) (F0 m (pc + 3) ls (v.toList ++ rest))) : W p l e R s m args below meth c H [] cells slots (vx_MQ below (pQ post') (xQ px') args s mc' ms' free) (F0 m pc ls st0) := by
  have X' := X
  obtain ⟨hx, hb, hml, hown, hts, -, -, hK, -⟩ := X
  obtain ⟨h1, h2, h3, h4, h5⟩ := hw
  obtain ⟨r1, r2, r3, r4⟩ := hrm
  subst hq
  exact x_call (a := (Value.ref b :: As).toArray) (vx_runV (C := q.1) (n := n) ⟨hx, hb, hml, hown, hts⟩ (hM H.size) (cwV n hts (tb_GV h1 h2 h3 h4 h5) rfl r1 r2 hd r3) ⟨xPc_blind, va_recv (q0 := 0) hK (PP.one hat) hci rfl, fun U hU hW => ⟨rfl, by rw [hU], by rw [hU]; exact hG, va_K.moved hW.alike hK, hE.at hW (by rw [hU]; exact hX)⟩⟩ rfl hn hls hst (lv_room hrest) hdg r4) hX.1 (fun E ce q9 H1 k1 k2 k3 k4 k5 => x_thru X' hne (hX.tr k1) (hpx E k2) k3 k4 k5 hc) kk
theorem x_callS (X : CX p s m args meth c y cy nl ret g) (hne : ∀ x ∈ c.exceptionTable.toList, False) (hE : EX s) (hM : XM l y' cy' nl' ret' rm g As G mc ms post px)
    (hw : Cond.methodLink y.cls idx y' ∈ tb ∧ Cond.static y' ∈ tb ∧ Cond.initialized y.cls ∈ tb ∧ Cond.code y' cy' nl' ret' ∈ tb)
    (hd : y'.cls = y.cls ∧ y'.cls ≠ "java/lang/invoke/MethodHandle" ∧ y'.cls ≠ "java/lang/invoke/VarHandle" ∧ (parseMethodDescriptor y'.desc).map (fun d => d.parameters.length) = some n)
    (hrm : rm.cells = mc ∧ rm.slots = ms ∧ (rm.frames + 1 ≤ R.frames ∧ 8 + (nl' + 11) + rm.locals ≤ R.locals) ∧ cells + mc ≤ R.cells ∧ slots + ms ≤ R.slots)
    (hG : G H) (hX : hxt s.heap H) (hn : As.length = n) (hls : ls.size = nl) (hst : st0 = As.reverse ++ rest) (hrest : (rest.map fun v => v.category).sum ≤ 8) (hdg : decode cy pc = .ok (.invokestatic idx, 3))
    (hpx : ∀ E, px E → px' E) (hc : cells + mc ≤ mc' ∧ slots + ms ≤ ms')
    (kk : ∀ (v : Option Value) (H1 : Heap), hxt H H1 → post v H1 → W p l e R s m args below meth c H1 [] (cells + mc) (slots + ms) (vx_MQ below (pQ post') (xQ px') args s mc' ms' free) (F0 m (pc + 3) ls (v.toList ++ rest))) : W p l e R s m args below meth c H [] cells slots (vx_MQ below (pQ post') (xQ px') args s mc' ms' free) (F0 m pc ls st0) := by
  have X' := X
  obtain ⟨hx, hb, hml, hown, hts, -, -, hK, -⟩ := X
  obtain ⟨h1, h2, h4, h5⟩ := hw
  obtain ⟨r1, r2, r3, r4⟩ := hrm
  exact x_call (a := As.toArray) (vx_runS (n := n) ⟨hx, hb, hml, hown, hts⟩ (hM H.size) (cwS n hts (tb_GS h1 h2 h4 h5) rfl r1 r2 hd r3) ⟨xPc_blind, fun U hU hW => ⟨rfl, by rw [hU], by rw [hU]; exact hG, va_K.moved hW.alike hK, hE.at hW (by rw [hU]; exact hX)⟩⟩ rfl hn hls hst (lv_room hrest) hdg r4) hX.1 (fun E ce q9 H1 k1 k2 k3 k4 k5 => x_thru X' hne (hX.tr k1) (hpx E k2) k3 k4 k5 hc) kk
/-- throw new E("..") in RafterPlaces -/
theorem x_throw (X : CX p s m args meth c y cy nl ret g) (hne : ∀ x ∈ c.exceptionTable.toList, False) (hE : EX s) (hl : l.stackTraces = false) {cls text : String} {names : List String} {ik is ic : Nat} (hy : y.cls = RX1) (hcls : Bundle.fit cls = true) (hnames : ∀ n ∈ names, Bundle.fit n = true)
    (hw : Cond.classLink RX1 ik cls ∈ tb ∧ Cond.initialized cls ∈ tb) (hstr : ∃ a, vk_R RX1 is text a s) (hat1 : ∀ w ∈ (vx_atS RX1 ic cls names).filter goodWord, w ∈ tb) (hat2 : ∀ w ∈ (vx_atS RX1 ic cls names).filter (fun w => !goodWord w), w ∈ NG)
    (hgood : ∀ w ∈ Cond.classLink RX1 ik cls :: Cond.initialized cls :: vx_atS RX1 ic cls names, vx_ot w = true) (hX : hxt s.heap H) (hls : ls.size = nl)
    (d0 : decode cy pc = .ok (.new ik, 3)) (d3 : decode cy (pc + 3) = .ok (.dup, 1)) (d4 : decode cy (pc + 4) = .ok (.ldc is, 2)) (d6 : decode cy (pc + 6) = .ok (.invokespecial ic, 3)) (d9 : decode cy (pc + 9) = .ok (.athrow, 1))
    (hR : names.length + 3 < R.frames ∧ (rest.map fun v => v.category).sum + (13 * (names.length + 1) + 43) ≤ R.locals ∧ cells + 1 ≤ R.cells ∧ slots + 6 ≤ R.slots) (hp : px' cls) (hc : cells + 1 ≤ mc' ∧ slots + 6 ≤ ms') :
    W p l e R s m args below meth c H [] cells slots (vx_MQ below (pQ post') (xQ px') args s mc' ms' free) (F0 m pc ls rest) := by
  obtain ⟨hx, hb, hml, hown, hts, -, hlocks, hK, -⟩ := X
  have hts' : ∀ w ∈ tb, w.before args s = true := fun w h => hts w (List.mem_cons_of_mem _ h)
  obtain ⟨sa, hstr⟩ := hstr
  rw [hy] at hown
  refine vx_throwS (A := fun q => s.heap.size ≤ q) (sa := sa) hx hb hl hown hcls hnames (hts' _ hw.1) (hts' _ hw.2) hstr (vx_hat (B := NG) (fun w hw => hts' w (hat1 w hw)) hat2 (fun w hw => va_Nw.use (NG_on w hw) (hE.2.2.1 w hw))) hgood hE.1 hE.2.1 ⟨hX.1, fun q h1 _ => hX.2 q h1, fun q h => nomatch h⟩ (hls.trans hml.symm) d0 d3 d4 d6 d9 (fun x hx => (hne x hx).elim) hR.1 hR.2.1 hR.2.2.1 hR.2.2.2 hlocks (fun t _ h1 h2 => ⟨hX.tr ⟨h1, h2⟩, hp⟩) (fun z h => nomatch h) hc.1 hc.2
end XW
theorem tA1 : ∀ w ∈ (vx_atS RX1 132 eA ["java/lang/IndexOutOfBoundsException", "java/lang/RuntimeException", "java/lang/Exception"]).filter goodWord, w ∈ tb := by decide +kernel
theorem tA2 : ∀ w ∈ (vx_atS RX1 132 eA ["java/lang/IndexOutOfBoundsException", "java/lang/RuntimeException", "java/lang/Exception"]).filter (fun w => !goodWord w), w ∈ NG := by decide +kernel
theorem tA3 : ∀ w ∈ Cond.classLink RX1 128 eA :: Cond.initialized eA :: vx_atS RX1 132 eA ["java/lang/IndexOutOfBoundsException", "java/lang/RuntimeException", "java/lang/Exception"], vx_ot w = true := by decide +kernel
theorem tG1 : ∀ w ∈ (vx_atS RX1 139 eG ["java/lang/RuntimeException", "java/lang/Exception"]).filter goodWord, w ∈ tb := by decide +kernel
theorem tG2 : ∀ w ∈ (vx_atS RX1 139 eG ["java/lang/RuntimeException", "java/lang/Exception"]).filter (fun w => !goodWord w), w ∈ NG := by decide +kernel
theorem tG3 : ∀ w ∈ Cond.classLink RX1 135 eG :: Cond.initialized eG :: vx_atS RX1 139 eG ["java/lang/RuntimeException", "java/lang/Exception"], vx_ot w = true := by decide +kernel
theorem tS1 : ∀ w ∈ (vx_atS RX1 148 eS ["java/lang/RuntimeException", "java/lang/Exception"]).filter goodWord, w ∈ tb := by decide +kernel
theorem tS2 : ∀ w ∈ (vx_atS RX1 148 eS ["java/lang/RuntimeException", "java/lang/Exception"]).filter (fun w => !goodWord w), w ∈ NG := by decide +kernel
theorem tS3 : ∀ w ∈ Cond.classLink RX1 144 eS :: Cond.initialized eS :: vx_atS RX1 148 eS ["java/lang/RuntimeException", "java/lang/Exception"], vx_ot w = true := by decide +kernel
