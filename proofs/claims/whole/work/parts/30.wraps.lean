/-! the law's wrappers: methods with a table -/
section VXC
variable {p : Program} {l : Launch} {e : Env} {R : Room} {s : State} {m : MethodId} {args : Array Value} {below : List Frame} {meth : Method} {c : Code} {H : Heap} {locs : List Loc} {cells slots : Nat} {Q : State → Prop} {pc : Nat} {ls : Array Slot} {rest st0 : List Value} {g : En}
variable {y y' : MethodName} {cy cy' : ByteArray} {nl nl' : Nat} {ret ret' : Option FieldType} {hh : List (Nat × Nat × Nat × Nat)}
variable {mc ms n idx : Nat} {post : Option Value → Heap → Prop} {px : String → Prop} {a : Array Value} {rm : Room} {G : Heap → Prop} {b : Nat} {As : List Value} {C : String} {F F' : Nat → Prop}
/-- a row of the table that covers: its class is looked up, then asked -/
theorem hn_row {Qh : Handler → Pre} {E : CtlPost} {d : Bool} {acts : List Action} {S : State} {f : JFrame} {q : Addr} {x : ExceptionTableEntry} {t : List ExceptionTableEntry} {k : ClassId} {ce : Cell} (hx : covers x f.pc = true) (h0 : x.catchType ≠ 0) (hl : S.vm.ClassLinks e.platform f.method.cls x.catchType k) (hcell : S.heap[q]? = some ce) (hobj : ∀ i, ce.vm ≠ .statics i) (hk : ∃ z, S.vm.classes[ce.cls]? = some z) (hc : ∃ z, S.vm.classes[k]? = some z) :
    wp (findHandler.go f q (x :: t)) Qh E e d acts S ↔ (if S.vm.assignable ce.cls k = true then Qh (.found x.handlerPc) d acts (S.setVm (S.vm.noted f.method.cls x.catchType (.cls k))) else wp (findHandler.go f q t) Qh E e d acts (S.setVm (S.vm.noted f.method.cls x.catchType (.cls k)))) := by
  have al : S.vm.Alike (S.vm.noted f.method.cls x.catchType (.cls k)) := (Vm.Alike.refl S.vm).noted _ _ _
  have r := (resolveClass_links e.toSetting hl).op (op := VmOp.resolveClass f.method.cls x.catchType) rfl
  obtain ⟨z1, hz1⟩ := hk
  obtain ⟨y1, hy1, -⟩ := al.2.2 _ _ hz1
  obtain ⟨z2, hz2⟩ := hc
  obtain ⟨y2, hy2, -⟩ := al.2.2 _ _ hz2
  have ea : (S.vm.noted f.method.cls x.catchType (.cls k)).assignable ce.cls k = S.vm.assignable ce.cls k := al.assignable _ _
  simp only [covers] at hx
  cases hf : S.vm.assignable ce.cls k
  · rw [hf] at ea
    simp [findHandler.go, hx, h0, r.1, r.2, hcell, hobj, hy1, hy2, ea, VmOp.dirties, VmOp.acts]
  · rw [hf] at ea
    simp [findHandler.go, hx, h0, r.1, r.2, hcell, hobj, hy1, hy2, ea, VmOp.dirties, VmOp.acts]
/-- the search through the rows -/
theorem hn_go {f : JFrame} {q : Addr} {ce : Cell} {x : ExceptionTableEntry} {suf : List ExceptionTableEntry} {k : ClassId} (hobj : ∀ i, ce.vm ≠ .statics i) (hk0 : ∃ z, s.vm.classes[ce.cls]? = some z) (hx : covers x f.pc = true) (h0 : x.catchType ≠ 0) (hl : s.vm.ClassLinks e.platform f.method.cls x.catchType k) (hfit : s.vm.assignable ce.cls k = true) :
    ∀ (pre : List ExceptionTableEntry) (S : State), s.WarmedH S.vm → S.heap[q]? = some ce → (∀ z ∈ pre, covers z f.pc = false ∨ (z.catchType ≠ 0 ∧ ∃ k2, s.vm.ClassLinks e.platform f.method.cls z.catchType k2 ∧ s.vm.assignable ce.cls k2 = false)) →
      ∃ vm9, s.WarmedH vm9 ∧ ∀ (Qh : Handler → Pre) (E : CtlPost) (d : Bool) (acts : List Action), wp (findHandler.go f q (pre ++ x :: suf)) Qh E e d acts S ↔ Qh (.found x.handlerPc) d acts (S.setVm vm9) := by
  have look : ∀ {z : ExceptionTableEntry} {k2 : ClassId} {S : State}, s.WarmedH S.vm → s.vm.ClassLinks e.platform f.method.cls z.catchType k2 → s.WarmedH (S.vm.noted f.method.cls z.catchType (.cls k2)) ∧ S.vm.ClassLinks e.platform f.method.cls z.catchType k2 ∧ (∃ i, S.vm.classes[ce.cls]? = some i) ∧ (∃ i, S.vm.classes[k2]? = some i) ∧ S.vm.assignable ce.cls k2 = s.vm.assignable ce.cls k2 := by
    intro z k2 S hW hl2
    obtain ⟨dk, _, _, kt, hd, _, _, _, _, hkt, _, hopen⟩ := hl2.here
    obtain ⟨i1, hi1⟩ := hk0
    obtain ⟨j1, hj1, -⟩ := hW.alike.2.2 _ _ hi1
    obtain ⟨j2, hj2, -⟩ := hW.alike.2.2 _ _ hkt
    exact ⟨hW.noted hd hopen (State.rightAt_cls hl2), hW.classLinks hl2, ⟨j1, hj1⟩, ⟨j2, hj2⟩, hW.alike.assignable _ _⟩
  intro pre
  induction pre with
  | nil =>
    intro S hW hcell _
    obtain ⟨w1, w2, w3, w4, w5⟩ := look hW hl
    refine ⟨_, w1, fun Qh E d acts => ?_⟩
    rw [List.nil_append, hn_row hx h0 w2 hcell hobj w3 w4, w5, if_pos hfit]
  | cons z zs ih =>
    intro S hW hcell hp
    have hzs : ∀ y ∈ zs, covers y f.pc = false ∨ (y.catchType ≠ 0 ∧ ∃ k2, s.vm.ClassLinks e.platform f.method.cls y.catchType k2 ∧ s.vm.assignable ce.cls k2 = false) := fun y hy => hp y (List.mem_cons_of_mem _ hy)
    cases hcv : covers z f.pc with
    | false =>
      obtain ⟨vm9, v1, v2⟩ := ih S hW hcell hzs
      exact ⟨vm9, v1, fun Qh E d acts => (W.findHandler_go_skip hcv).trans (v2 Qh E d acts)⟩
    | true =>
      rcases hp z List.mem_cons_self with h | ⟨hz0, k2, hl2, hno⟩
      · rw [hcv] at h; cases h
      · obtain ⟨w1, w2, w3, w4, w5⟩ := look hW hl2
        obtain ⟨vm9, v1, v2⟩ := ih (S.setVm (S.vm.noted f.method.cls z.catchType (.cls k2))) w1 hcell hzs
        refine ⟨vm9, v1, fun Qh E d acts => ?_⟩
        rw [List.cons_append, hn_row hcv hz0 w2 hcell hobj w3 w4, w5, if_neg (by rw [hno]; decide)]
        exact v2 Qh E d acts
/-- caught by the row x of this method's table; the rows ahead don't take it -/
theorem hn_catch {own name : String} {E : String} {ce : Cell} {q : Addr} (hown : s.vm.findClass own = some m.cls) (pre : List ExceptionTableEntry) (x : ExceptionTableEntry) (suf : List ExceptionTableEntry) (hsplit : c.exceptionTable.toList = pre ++ x :: suf)
    (hpass : ∀ z ∈ pre, covers z pc = false ∨ (z.catchType ≠ 0 ∧ ∃ nm : String, (Cond.classLink own z.catchType nm).before args s = true ∧ va_Nc E nm s)) (hx : covers x pc = true) (h0 : x.catchType ≠ 0)
    (hlink : (Cond.classLink own x.catchType name).before args s = true) (hcast : (Cond.castable E name).before args s = true) (hcell : H[q]? = some ce) (hv : ce.vm = .none) (hcl : s.vm.findClass E = some ce.cls)
    (kk : W p l e R s m args below meth c H locs cells slots Q (F0 m x.handlerPc ls [.ref q])) : vx_W p l e R s m args below meth c H locs cells slots Q (F0 m pc ls rest) q := by
  intro T hT X
  have hpl : e.platform.magicAccessors = ({} : Platform).magicAccessors := by rw [X.admits.platform]
  obtain ⟨i1, i2, hi1, hi2, hasg⟩ := Cond.castable_spec hcast
  cases Option.some.inj (hi1.symm.trans hcl)
  obtain ⟨i3, hi3, hlk⟩ := Cond.classLink_spec hown hlink e.platform hpl
  cases Option.some.inj (hi2.symm.trans hi3)
  have hh : At T (F0 m pc ls rest).method c below := X.here
  obtain ⟨vm9, v1, v2⟩ := hn_go (s := s) (e := e) (f := F0 m pc ls rest) (q := q) (ce := ce) (x := x) (suf := suf) (k := i2) (VmData.ne_statics_of (by rw [hv]; rfl)) (Vm.classAt_of_findClass hcl) hx h0 hlk hasg pre ((T.setTop (F0 m pc ls rest)).pushFrame (.throwing q)) X.warmed (show T.heap[q]? = some ce by rw [hT]; exact hcell) (fun z hz => by
    rcases hpass z hz with h | ⟨hz0, nm, hn1, j1, j2, g1, g2, g3⟩
    · exact Or.inl h
    · obtain ⟨j3, g4, g5⟩ := Cond.classLink_spec hown hn1 e.platform hpl
      cases Option.some.inj (g1.symm.trans hcl)
      cases Option.some.inj (g2.symm.trans g4)
      exact Or.inr ⟨hz0, _, g5, g3⟩)
  have hfind : ∀ (Qh : Handler → Pre) (E : CtlPost) (d : Bool) (acts : List Action), wp (findHandler (F0 m pc ls rest) q) Qh E e d acts ((T.setTop (F0 m pc ls rest)).pushFrame (.throwing q)) ↔ Qh (.found x.handlerPc) d acts (((T.setTop (F0 m pc ls rest)).pushFrame (.throwing q)).setVm vm9) := fun Qh E d acts => by
    rw [W.findHandler_eq (meth := meth) (code := c) X.method' X.code, hsplit]
    exact v2 Qh E d acts
  obtain ⟨t, a1, b1⟩ := kk (T.setVm vm9) hT (X.noted v1)
  refine ⟨t, ?_, b1⟩
  obtain ⟨u1, u2⟩ := hh.throwing q
  refine Steps.head u1 u2 ?_
  obtain ⟨g0, hfr⟩ := X.frames_eq
  have hst : (stepThrowing e ((T.setTop (F0 m pc ls rest)).pushFrame (.throwing q)) q (.java (F0 m pc ls rest) :: below)).1 = (T.setVm vm9).setTop (F0 m x.handlerPc ls [.ref q]) := by
    simp only [stepThrowing, searchFrame, vmDo]
    generalize hr : Sem.go _ e false [] ((T.setTop (F0 m pc ls rest)).pushFrame (.throwing q)) = res
    obtain ⟨as, rfl, -⟩ := Sem.eq_ok_of hr (a := Handler.found x.handlerPc) (s' := ((T.setTop (F0 m pc ls rest)).pushFrame (.throwing q)).setVm vm9) (acts' := []) (by simp [hfind _ _ _ _])
    have hfr9 : (T.setVm vm9).frames = .java g0 :: below := hfr
    show (((T.setTop (F0 m pc ls rest)).pushFrame (.throwing q)).setVm vm9).setFrames _ = _
    rw [State.setTop_of_frames _ hfr9, State.pushFrame, State.setTop_of_frames _ hfr]
    show (((T.setVm vm9).setFrames _).setFrames _).setFrames _ = _
    rw [State.setFrames_setFrames, State.setFrames_setFrames]
  rw [stepThread_throwing (frames_entered hh.top _), X.tail, hst]
  exact a1
end VXC
def CXW (p : Program) (s : State) (m : MethodId) (args : Array Value) (meth : Method) (c : Code) (y : MethodName) (cy : ByteArray) (nl : Nat) (hh : List (Nat × Nat × Nat × Nat)) (g : En) : Prop :=
  p.tables.exec = Jvm.exec ∧ c.code = cy ∧ c.maxLocals = nl ∧ s.vm.findClass y.cls = some m.cls ∧ (∀ w ∈ Cond.codeWith y cy nl (some .int) hh :: tb, w.before args s = true) ∧ meth.sig.returnType = some .int ∧ meth.locks = false ∧ KK g s ∧ c.exceptionTable.toList = tableOf hh
def WM (l : Launch) (y : MethodName) (cy : ByteArray) (nl : Nat) (hh : List (Nat × Nat × Nat × Nat)) (rm : Room) (g : En) (av : List Value) (G : Heap → Prop) (F : Nat → Prop) (mc ms : Nat) (post : Option Value → Heap → Prop) : Prop :=
  ∀ sz : Nat, Met l y (Cond.codeWith y cy nl (some .int) hh :: tb) rm (xPc g av G sz) (fQ F post) mc ms (fun q => F q ∨ sz ≤ q)
theorem WM.of {l : Launch} {y : MethodName} {cy : ByteArray} {nl : Nat} {hh : List (Nat × Nat × Nat × Nat)} {rm : Room} {g : En} {av : List Value} {G : Heap → Prop} {F : Nat → Prop} {mc ms : Nat} {post : Option Value → Heap → Prop} (hy : plainName y.cls = true) (hav : (lg_sl av).length ≤ nl)
    (body : ∀ (p : Program) (e : Env) (s : State) (m : MethodId) (below : List Frame) (meth : Method) (c : Code) (ls : Array Slot), CXW p s m av.toArray meth c y cy nl hh g → EX s → G s.heap → lv_has ls nl (lv_args 0 av) →
      W p l e rm s m av.toArray below meth c s.heap [] 0 0 (MQ below (fQ F post) av.toArray s mc ms (fun q => F q ∨ s.heap.size ≤ q)) (F0 m 0 ls [])) : WM l y cy nl hh rm g av G F mc ms post := by
  intro sz
  refine va_MetW (cc := cy) (maxL := nl) (ret := some .int) (hh := hh) hy rfl ?_
  intro p e s m args below meth c s₁ B hml hv
  obtain ⟨rfl, hsz, hG, hK, hE⟩ := hv
  subst hsz
  have hts := atoms_spec (ws := Cond.codeWith y cy nl (some .int) hh :: tb) B.pre
  rw [lg_entry_eq]
  exact body p e s m below meth c _ ⟨B.exec, B.bytes, hml, findClass_of_methodNamed B.named, hts, B.returns, B.notSynchronized, hK, vx_table (x := y) B (hts _ List.mem_cons_self)⟩ hE hG (lv_entry av hav)
section WW
variable {p : Program} {l : Launch} {e : Env} {R : Room} {s : State} {m : MethodId} {args : Array Value} {below : List Frame} {meth : Method} {c : Code} {H : Heap} {locs : List Loc} {cells slots : Nat} {Q : State → Prop} {pc : Nat} {ls : Array Slot} {rest st0 : List Value} {g : En}
variable {y y' : MethodName} {cy cy' : ByteArray} {nl nl' : Nat} {ret ret' : Option FieldType} {hh : List (Nat × Nat × Nat × Nat)}
variable {mc ms n idx : Nat} {post : Option Value → Heap → Prop} {px : String → Prop} {a : Array Value} {rm : Room} {G : Heap → Prop} {b : Nat} {As : List Value} {C : String} {F F' : Nat → Prop}
theorem w_callX (X : CXW p s m args meth c y cy nl hh g) (hE : EX s) (hM : XM l y' cy' nl' ret' rm g (.ref b :: As) G mc ms post px)
    (hw : Cond.methodLink y.cls idx y' ∈ tb ∧ Cond.instanceMethod y' ∈ tb ∧ Cond.selects C y' y' ∈ tb ∧ Cond.initialized C ∈ tb ∧ Cond.code y' cy' nl' ret' ∈ tb)
    (hd : y'.cls = C ∧ y'.cls ≠ "java/lang/invoke/MethodHandle" ∧ y'.cls ≠ "java/lang/invoke/VarHandle" ∧ (parseMethodDescriptor y'.desc).map (fun d => d.parameters.length) = some n)
    (hrm : rm.cells = mc ∧ rm.slots = ms ∧ (rm.frames + 1 ≤ R.frames ∧ 8 + (nl' + 11) + rm.locals ≤ R.locals) ∧ cells + mc ≤ R.cells ∧ slots + ms ≤ R.slots)
    {ci : Nat} {fs : List Value} {q : vw_C} (hat : va_at g.1 cl0 (b, .inr (ci, fs)) H) (hci : cl0[ci]? = some q) (hq : q.1 = C)
    (hG : G H) (hX : hxt s.heap H) (hn : As.length = n) (hls : ls.size = nl) (hst : st0 = As.reverse ++ .ref b :: rest) (hrest : (rest.map fun v => v.category).sum ≤ 8) (hdg : decode cy pc = .ok (.invokevirtual idx, 3))
    (kx : ∀ (E : String) (ce : Cell) (q9 : Addr) (H1 : Heap), hxt H H1 → px E → H1[q9]? = some ce → ce.vm = .none → s.vm.findClass E = some ce.cls → vx_W p l e R s m args below meth c H1 locs (cells + mc) (slots + ms) Q (F0 m pc ls rest) q9)
    (kk : ∀ (v : Option Value) (H1 : Heap), hxt H H1 → post v H1 → W p l e R s m args below meth c H1 locs (cells + mc) (slots + ms) Q (F0 m (pc + 3) ls (v.toList ++ rest))) : W p l e R s m args below meth c H locs cells slots Q (F0 m pc ls st0) := by
  obtain ⟨hx, hb, hml, hown, hts, -, -, hK, -⟩ := X
  obtain ⟨h1, h2, h3, h4, h5⟩ := hw
  obtain ⟨r1, r2, r3, r4⟩ := hrm
  subst hq
  exact x_call (a := (Value.ref b :: As).toArray) (vx_runV (C := q.1) (n := n) ⟨hx, hb, hml, hown, hts⟩ (hM H.size) (cwV n hts (tb_GV h1 h2 h3 h4 h5) rfl r1 r2 hd r3) ⟨xPc_blind, va_recv (q0 := 0) hK (PP.one hat) hci rfl, fun U hU hW => ⟨rfl, by rw [hU], by rw [hU]; exact hG, va_K.moved hW.alike hK, hE.at hW (by rw [hU]; exact hX)⟩⟩ rfl hn hls hst (lv_room hrest) hdg r4) hX.1 kx kk
theorem yy_call (hr : vx_Run p l e R s m args below meth c H locs cells slots mc ms (F0 m pc ls st0) rest (fQ F' post a) (xQ px) (fun q => F' q ∨ H.size ≤ q)) (hs : s.heap.size ≤ H.size) (hF : ∀ q, F' q → F q) (hlo : lok F s.heap.size locs)
    (kx : ∀ (E : String) (ce : Cell) (q9 : Addr) (H1 : Heap) (locs1 : List Loc), hxt H H1 → lok F s.heap.size locs1 → px E → H1[q9]? = some ce → ce.vm = .none → s.vm.findClass E = some ce.cls → vx_W p l e R s m args below meth c H1 locs1 (cells + mc) (slots + ms) Q (F0 m pc ls rest) q9)
    (kk : ∀ (v : Option Value) (H1 : Heap) (locs1 : List Loc), hxf F' H H1 → lok F s.heap.size locs1 → post v H1 → W p l e R s m args below meth c H1 locs1 (cells + mc) (slots + ms) Q (F0 m (pc + 3) ls (v.toList ++ rest))) : W p l e R s m args below meth c H locs cells slots Q (F0 m pc ls st0) := by
  intro T hT X
  have hlk : ∀ L : List Loc, (∀ z ∈ L, F' z.base ∨ H.size ≤ z.base) → lok F s.heap.size (locs ++ L) := fun L hL q hq => by
    rcases List.mem_append.mp hq with h | h
    · exact hlo q h
    · rcases hL q h with h | h
      · exact Or.inl (hF _ h)
      · exact Or.inr (Nat.le_trans hs h)
  rcases hr T hT X with ⟨v, st₀, t, T', L, h0, X', hL, e1, e2, ⟨v', f1, f2, f3⟩, st⟩ | ⟨q, st₀, t, T', L, E, ce, h0, X', hL, e1, e2, ⟨f2, f3⟩, hce, hcv, hcl, st⟩
  · cases f1
    rw [h0] at f2
    obtain ⟨t2, a1, b1⟩ := kk v t.heap (locs ++ L) f2 (hlk L hL) f3 T' e1 X'
    exact ⟨t2, st t2 a1, b1⟩
  · rw [h0] at f2
    obtain ⟨t2, a1, b1⟩ := kx E ce q t.heap (locs ++ L) f2 (hlk L hL) f3 hce hcv hcl T' e1 X'
    exact ⟨t2, st.trans a1, b1⟩
theorem w_callY (X : CXW p s m args meth c y cy nl hh g) (hE : EX s) (hM : YM l y' cy' nl' ret' rm g (.ref b :: As) G F' mc ms post px)
    (hw : Cond.methodLink y.cls idx y' ∈ tb ∧ Cond.instanceMethod y' ∈ tb ∧ Cond.selects C y' y' ∈ tb ∧ Cond.initialized C ∈ tb ∧ Cond.code y' cy' nl' ret' ∈ tb)
    (hd : y'.cls = C ∧ y'.cls ≠ "java/lang/invoke/MethodHandle" ∧ y'.cls ≠ "java/lang/invoke/VarHandle" ∧ (parseMethodDescriptor y'.desc).map (fun d => d.parameters.length) = some n)
    (hrm : rm.cells = mc ∧ rm.slots = ms ∧ (rm.frames + 1 ≤ R.frames ∧ 8 + (nl' + 11) + rm.locals ≤ R.locals) ∧ cells + mc ≤ R.cells ∧ slots + ms ≤ R.slots)
    {ci : Nat} {fs : List Value} {q : vw_C} (hat : va_at g.1 cl0 (b, .inr (ci, fs)) H) (hci : cl0[ci]? = some q) (hq : q.1 = C)
    (hG : G H) (hX : hxt s.heap H) (hF : ∀ q, F' q → F q) (hlo : lok F s.heap.size locs) (hn : As.length = n) (hls : ls.size = nl) (hst : st0 = As.reverse ++ .ref b :: rest) (hrest : (rest.map fun v => v.category).sum ≤ 8) (hdg : decode cy pc = .ok (.invokevirtual idx, 3))
    (kx : ∀ (E : String) (ce : Cell) (q9 : Addr) (H1 : Heap) (locs1 : List Loc), hxt H H1 → lok F s.heap.size locs1 → px E → H1[q9]? = some ce → ce.vm = .none → s.vm.findClass E = some ce.cls → vx_W p l e R s m args below meth c H1 locs1 (cells + mc) (slots + ms) Q (F0 m pc ls rest) q9)
    (kk : ∀ (v : Option Value) (H1 : Heap) (locs1 : List Loc), hxf F' H H1 → lok F s.heap.size locs1 → post v H1 → W p l e R s m args below meth c H1 locs1 (cells + mc) (slots + ms) Q (F0 m (pc + 3) ls (v.toList ++ rest))) : W p l e R s m args below meth c H locs cells slots Q (F0 m pc ls st0) := by
  obtain ⟨hx, hb, hml, hown, hts, -, -, hK, -⟩ := X
  obtain ⟨h1, h2, h3, h4, h5⟩ := hw
  obtain ⟨r1, r2, r3, r4⟩ := hrm
  subst hq
  exact yy_call (a := (Value.ref b :: As).toArray) (vx_runV (C := q.1) (n := n) ⟨hx, hb, hml, hown, hts⟩ (hM H.size) (cwV n hts (tb_GV h1 h2 h3 h4 h5) rfl r1 r2 hd r3) ⟨xPc_blind, va_recv (q0 := 0) hK (PP.one hat) hci rfl, fun U hU hW => ⟨rfl, by rw [hU], by rw [hU]; exact hG, va_K.moved hW.alike hK, hE.at hW (by rw [hU]; exact hX)⟩⟩ rfl hn hls hst (lv_room hrest) hdg r4) hX.1 hF hlo kx kk
theorem w_last (X : CXW p s m args meth c y cy nl hh g) {a k n : Nat} {f : Nat → Int64} {v : Int64} (hat : va_at g.1 cl0 (a, .inl (g.2.2.1, n, .inr (.inl f))) H) (hk : k < n) (hn : n < 2 ^ 31) (hFa : F a ∨ s.heap.size ≤ a) (hlo : lok F s.heap.size locs) (hdg : decode cy pc = .ok (.lastore, 1))
    (kk : ∀ (H1 : Heap) (locs1 : List Loc), hxa a H H1 → lok F s.heap.size locs1 → va_at g.1 cl0 (a, .inl (g.2.2.1, n, .inr (.inl (vp_updL f k v)))) H1 → W p l e R s m args below meth c H1 locs1 cells slots Q (F0 m (pc + 1) ls rest)) : W p l e R s m args below meth c H locs cells slots Q (F0 m pc ls (.long v :: .int (nI k) :: .ref a :: rest)) := by
  obtain ⟨hx, hb, hml, hown, hts, -, -, hK, -⟩ := X
  have hin := vp_in_nI hk hn
  refine W.last hx hb hat ((hK.2 1 _ rfl).1 n (fun j => .long (f j))) (fun q => by cases q) (by show ¬ (nI k < 0 ∨ (arrV _ _ _).slots.size ≤ _); rw [arrV_size]; exact hin) rfl rfl hdg fun H1 e z oq => ?_
  refine kk H1 _ ⟨Nat.le_of_eq z.symm, fun q _ h2 => oq q h2⟩ (fun q hq => by
    rcases List.mem_append.mp hq with h | h
    · exact hlo q h
    · rw [List.mem_singleton] at h; subst h; exact hFa) ?_
  show H1[a]? = some (vp_cell _ _)
  rw [e]
  rw [vp_cell_l, vp_cell_l, arrV_store, nI_clamp (Nat.lt_trans hk hn)]
  congr 2
  funext q
  by_cases hq : q = k
  · subst hq; simp [updV, vp_updL]
  · simp [updV, vp_updL, hq]
theorem w_iret (X : CXW p s m args meth c y cy nl hh g) {v : Int32} (hxx : hxf F s.heap H) (hlo : lok F s.heap.size locs) (hp : post (some (.int v)) H) (hc : cells ≤ mc ∧ slots ≤ ms) (hdg : decode cy pc = .ok (.ireturn, 1)) :
    W p l e R s m args below meth c H locs cells slots (MQ below (fQ F post) args s mc ms (fun q => F q ∨ s.heap.size ≤ q)) (F0 m pc ls [.int v]) := by
  obtain ⟨hx, hb, hml, hown, hts, hr, hlocks, hK, -⟩ := X
  refine W.widen hc.1 hc.2 ?_
  exact W.iret (v := v) hx hb hr (fun t ht hW => ⟨_, rfl, by rw [ht]; exact hxx, by rw [ht]; exact hp⟩) (fun q h => hlo q h) hdg hlocks
theorem w_cast (hE : EX s) {E : String} (h : Cond.castable E E ∈ NG) : (Cond.castable E E).before args s = true := va_Nw.use (NG_on _ h) (hE.2.2.1 _ h)
end WW
theorem cA : Cond.castable eA eA ∈ NG := by decide +kernel
theorem cS : Cond.castable eS eS ∈ NG := by decide +kernel
theorem cG : Cond.castable eG eG ∈ NG := by decide +kernel
abbrev oua (g : En) (ou : Nat) (f : Nat → Int64) : Nat × va_E := (ou, .inl (g.2.2.1, 1, .inr (.inl f)))
def OD (o r ou : Nat) (A : Nat → Nat) : Prop := o ≠ ou ∧ r ≠ ou ∧ ∀ j, j < 4 → A j ≠ ou
theorem RP.exa {g : En} {o r : Nat} {A : Nat → Nat} {X Y : Nat} {q : Nat → Rat} {H H1 : Heap} {a : Nat} (h : RP g o r A X Y q H) (k : hxa a H H1) (hD : OD o r a A) : RP g o r A X Y q H1 := ⟨PP.exa h.1 k (fun z hz => by
    simp only [List.mem_cons, List.not_mem_nil, or_false] at hz
    rcases hz with rfl | rfl
    · exact hD.1
    · exact hD.2.1), RF.exa h.2 k hD.2.2⟩
theorem RP.ext {g : En} {o r : Nat} {A : Nat → Nat} {X Y : Nat} {q : Nat → Rat} {H H1 : Heap} (h : RP g o r A X Y q H) (k : hxt H H1) : RP g o r A X Y q H1 := ⟨PP.ext h.1 k, RF.ext h.2 k⟩
set_option maxHeartbeats 4000000 in
set_option maxRecDepth 100000 in
theorem c_L_place (l : Launch) (g : En) (o r : Nat) (A : Nat → Nat) (x1 y1 : Nat) (q : Nat → Rat) (ou : Nat) (f0 : Nat → Int64) (vx vy : Int64) (j : Int32) (hl0 : l.stackTraces = false) (hO : OK x1 y1 q) (hU : OD o r ou A) : WM l yL_place cL_place 8 [(0, 12, 15, 19), (0, 12, 19, 13)] { frames := 9, cells := 10, slots := 32, locals := 160 } g [.ref o, .long vx, .long vy, .int j, .ref ou] (fun H => RP g o r A x1 y1 q H ∧ va_at g.1 cl0 (oua g ou f0) H) (fun q => q = ou) 10 32 (fun v H => v = some (.int (nI (mk3 2 2 (inI j 2) (true) (inL vx 0 x1 && inL vy 0 y1)))) ∧ RP g o r A x1 y1 q H ∧ ∃ f : Nat → Int64, va_at g.1 cl0 (oua g ou f) H ∧ ((inI j 2) = true → (true) = true → (inL vx 0 x1 && inL vy 0 y1) = true → f 0 = lN (prt (hgt x1 y1 q (toL vx) (toL vy) (lwp x1 y1 q (toL vx) (toL vy) 3)) (toN j)))) := by
  refine WM.of (by decide) (Nat.le_of_ble_eq_true rfl) (fun p e s m below meth c ls X hE hG hl => ?_)
  obtain ⟨⟨hP, hF⟩, hou⟩ := hG
  have hP := PP.cons hou hP
  have hl : lv_has ls 8 [(0, .ref o), (1, .long vx), (3, .long vy), (5, .int j), (6, .ref ou)] := hl
  have hX : hxf (fun q => q = ou) s.heap s.heap := hxf.rf
  have hlo : lok (fun q => q = ou) s.heap.size ([] : List Loc) := lok.nil
  have hP : PP g [oua g ou f0, ob o x1 y1 r, ar g r A] s.heap := hP
  refine lv_aload X.1 X.2.1 dL_place_0 (lv_at hl 4 rfl) ?_
  refine lv_iconst (v := nI 0) X.1 X.2.1 dL_place_2 (by decide) ?_
  refine lv_aload_n X.1 X.2.1 dL_place_3 rfl (lv_at hl 0 rfl) ?_
  refine lv_lload_n X.1 X.2.1 dL_place_4 rfl (lv_at hl 1 rfl) ?_
  refine lv_lload_n X.1 X.2.1 dL_place_5 rfl (lv_at hl 2 rfl) ?_
  refine lv_iload X.1 X.2.1 dL_place_6 (lv_at hl 3 rfl) ?_
  refine w_callX (C := RX1) (b := o) (As := [.long vx, .long vy, .int j]) (rest := [.int (nI 0), .ref ou]) X hE (c_X1_place l g o r A x1 y1 q vx vy j hl0 hO) ⟨mw_243, mw_244, mw_245, mw_38, mw_246⟩ sgX1_place ⟨rfl, rfl, ⟨by decide, by decide⟩, by decide, by decide⟩ (hP.at 1 rfl) rfl rfl (RP.of hP [1, 2] rfl hF) hxt.rf rfl hl.1 rfl (Nat.le_of_ble_eq_true rfl) dL_place_8 (fun E ce q9 H1 hk hpx h1 h2 h3 => ?_) (fun v H1 hk hp => ?_)
  ·
    have hX := hX.tr hk
    have hou := (PP.ext (PP.one hou) hk) 0 _ rfl
    have hRP := RP.ext (RP.of hP [1, 2] rfl hF) hk
    obtain ⟨ha, rfl⟩ | ⟨ha, hs, rfl⟩ | ⟨ha, hs, hg, rfl⟩ := hpx
    ·
      refine hn_catch (own := yL_place.cls) (name := eA) (pc := 8) (E := eA) X.2.2.2.1 [] (⟨0, 12, 15, 19⟩ : ExceptionTableEntry) [(⟨0, 12, 19, 13⟩ : ExceptionTableEntry)] (X.2.2.2.2.2.2.2.2) (fun z hz => nomatch hz) (by decide) (by decide) (X.2.2.2.2.1 _ (List.mem_cons_of_mem _ mw_170)) (w_cast hE cA) h1 h2 h3 ?_
      refine W.eq (g2 := F0 m 15 ls [.ref q9]) rfl ?_
      refine lv_astore (lv' := [(7, .ref q9), (0, .ref o), (1, .long vx), (3, .long vy), (5, .int j), (6, .ref ou)]) X.1 X.2.1 dL_place_15 hl (by decide) rfl (fun ls hl => ?_)
      refine lv_iconst (v := nI 1) X.1 X.2.1 dL_place_17 (by decide) ?_
      exact w_iret X hX hlo (⟨by rw [mk3, ha]; rfl, hRP, _, hou, fun h9 h8 h7 => by rw [ha] at h9; cases h9⟩) ⟨by decide, by decide⟩ dL_place_18
    ·
      exact absurd hs (by decide)
    ·
      refine hn_catch (own := yL_place.cls) (name := eG) (pc := 8) (E := eG) X.2.2.2.1 [(⟨0, 12, 15, 19⟩ : ExceptionTableEntry)] (⟨0, 12, 19, 13⟩ : ExceptionTableEntry) [] (X.2.2.2.2.2.2.2.2) (fun z hz => by simp only [List.mem_cons, List.not_mem_nil, or_false] at hz; subst hz <;> first | exact Or.inr ⟨by decide, eA, X.2.2.2.2.1 _ (List.mem_cons_of_mem _ mw_170), hE.2.2.2.1.2.1⟩) (by decide) (by decide) (X.2.2.2.2.1 _ (List.mem_cons_of_mem _ mw_90)) (w_cast hE cG) h1 h2 h3 ?_
      refine W.eq (g2 := F0 m 19 ls [.ref q9]) rfl ?_
      refine lv_astore (lv' := [(7, .ref q9), (0, .ref o), (1, .long vx), (3, .long vy), (5, .int j), (6, .ref ou)]) X.1 X.2.1 dL_place_19 hl (by decide) rfl (fun ls hl => ?_)
      refine lv_iconst (v := nI 2) X.1 X.2.1 dL_place_21 (by decide) ?_
      exact w_iret X hX hlo (⟨by rw [mk3, ha, hs, hg]; rfl, hRP, _, hou, fun h9 h8 h7 => by rw [hg] at h7; cases h7⟩) ⟨by decide, by decide⟩ dL_place_22
  ·
    have hX := hX.tr hk
    have hP := PP.ext hP hk
    have hF := RF.ext hF hk
    obtain ⟨⟨ha, hs, hg⟩, rfl⟩ := hp
    refine W.eq (g2 := F0 m 11 ls [.long (lN (prt (hgt x1 y1 q (toL vx) (toL vy) (lwp x1 y1 q (toL vx) (toL vy) 3)) (toN j))), .int (nI 0), .ref ou]) rfl ?_
    refine w_last (F := fun q => q = ou) X (hP.at 0 rfl) (k := 0) (by decide) (by decide) (Or.inl rfl) hlo dL_place_11 (fun H2 locs hpa hlo hat => ?_)
    have hX := hX.tra rfl hpa
    have hRP := RP.exa (RP.of hP [1, 2] rfl hF) hpa hU
    refine lv_goto (tgt := 23) X.1 X.2.1 dL_place_12 (by decide) ?_
    refine lv_iconst (v := nI 0) X.1 X.2.1 dL_place_23 (by decide) ?_
    exact w_iret X hX hlo (⟨by rw [mk3, ha, hs, hg]; rfl, hRP, _, hat, fun _ _ _ => by simp [vp_updL]⟩) ⟨by decide, by decide⟩ dL_place_24
set_option maxHeartbeats 4000000 in
set_option maxRecDepth 100000 in
theorem c_L_face (l : Launch) (g : En) (o r : Nat) (A : Nat → Nat) (x1 y1 : Nat) (q : Nat → Rat) (ou : Nat) (f0 : Nat → Int64) (vx vy : Int64) (hl0 : l.stackTraces = false) (hO : OK x1 y1 q) (hU : OD o r ou A) : WM l yL_face cL_face 7 [(0, 11, 14, 13)] { frames := 9, cells := 8, slots := 24, locals := 159 } g [.ref o, .long vx, .long vy, .ref ou] (fun H => RP g o r A x1 y1 q H ∧ va_at g.1 cl0 (oua g ou f0) H) (fun q => q = ou) 8 24 (fun v H => v = some (.int (nI (mk3 2 1 (true) (true) (inL vx 0 x1 && inL vy 0 y1)))) ∧ RP g o r A x1 y1 q H ∧ ∃ f : Nat → Int64, va_at g.1 cl0 (oua g ou f) H ∧ ((true) = true → (true) = true → (inL vx 0 x1 && inL vy 0 y1) = true → f 0 = (nI (lwp x1 y1 q (toL vx) (toL vy) 3)).toInt64)) := by
  refine WM.of (by decide) (Nat.le_of_ble_eq_true rfl) (fun p e s m below meth c ls X hE hG hl => ?_)
  obtain ⟨⟨hP, hF⟩, hou⟩ := hG
  have hP := PP.cons hou hP
  have hl : lv_has ls 7 [(0, .ref o), (1, .long vx), (3, .long vy), (5, .ref ou)] := hl
  have hX : hxf (fun q => q = ou) s.heap s.heap := hxf.rf
  have hlo : lok (fun q => q = ou) s.heap.size ([] : List Loc) := lok.nil
  have hP : PP g [oua g ou f0, ob o x1 y1 r, ar g r A] s.heap := hP
  refine lv_aload X.1 X.2.1 dL_face_0 (lv_at hl 3 rfl) ?_
  refine lv_iconst (v := nI 0) X.1 X.2.1 dL_face_2 (by decide) ?_
  refine lv_aload_n X.1 X.2.1 dL_face_3 rfl (lv_at hl 0 rfl) ?_
  refine lv_lload_n X.1 X.2.1 dL_face_4 rfl (lv_at hl 1 rfl) ?_
  refine lv_lload_n X.1 X.2.1 dL_face_5 rfl (lv_at hl 2 rfl) ?_
  refine w_callX (C := RX1) (b := o) (As := [.long vx, .long vy]) (rest := [.int (nI 0), .ref ou]) X hE (c_X1_face l g o r A x1 y1 q vx vy hl0 hO) ⟨mw_278, mw_279, mw_280, mw_38, mw_281⟩ sgX1_face ⟨rfl, rfl, ⟨by decide, by decide⟩, by decide, by decide⟩ (hP.at 1 rfl) rfl rfl (RP.of hP [1, 2] rfl hF) hxt.rf rfl hl.1 rfl (Nat.le_of_ble_eq_true rfl) dL_face_6 (fun E ce q9 H1 hk hpx h1 h2 h3 => ?_) (fun v H1 hk hp => ?_)
  ·
    have hX := hX.tr hk
    have hou := (PP.ext (PP.one hou) hk) 0 _ rfl
    have hRP := RP.ext (RP.of hP [1, 2] rfl hF) hk
    obtain ⟨ha, rfl⟩ | ⟨ha, hs, rfl⟩ | ⟨ha, hs, hg, rfl⟩ := hpx
    ·
      exact absurd ha (by decide)
    ·
      exact absurd hs (by decide)
    ·
      refine hn_catch (own := yL_face.cls) (name := eG) (pc := 6) (E := eG) X.2.2.2.1 [] (⟨0, 11, 14, 13⟩ : ExceptionTableEntry) [] (X.2.2.2.2.2.2.2.2) (fun z hz => nomatch hz) (by decide) (by decide) (X.2.2.2.2.1 _ (List.mem_cons_of_mem _ mw_90)) (w_cast hE cG) h1 h2 h3 ?_
      refine W.eq (g2 := F0 m 14 ls [.ref q9]) rfl ?_
      refine lv_astore (lv' := [(6, .ref q9), (0, .ref o), (1, .long vx), (3, .long vy), (5, .ref ou)]) X.1 X.2.1 dL_face_14 hl (by decide) rfl (fun ls hl => ?_)
      refine lv_iconst (v := nI 1) X.1 X.2.1 dL_face_16 (by decide) ?_
      exact w_iret X hX hlo (⟨by rw [mk3, ha, hs, hg]; rfl, hRP, _, hou, fun h9 h8 h7 => by rw [hg] at h7; cases h7⟩) ⟨by decide, by decide⟩ dL_face_17
  ·
    have hX := hX.tr hk
    have hP := PP.ext hP hk
    have hF := RF.ext hF hk
    obtain ⟨⟨ha, hs, hg⟩, rfl⟩ := hp
    refine W.eq (g2 := F0 m 9 ls [.int (nI (lwp x1 y1 q (toL vx) (toL vy) 3)), .int (nI 0), .ref ou]) rfl ?_
    refine lv_i2l X.1 X.2.1 dL_face_9 rfl ?_
    refine w_last (F := fun q => q = ou) X (hP.at 0 rfl) (k := 0) (by decide) (by decide) (Or.inl rfl) hlo dL_face_10 (fun H2 locs hpa hlo hat => ?_)
    have hX := hX.tra rfl hpa
    have hRP := RP.exa (RP.of hP [1, 2] rfl hF) hpa hU
    refine lv_goto (tgt := 18) X.1 X.2.1 dL_face_11 (by decide) ?_
    refine lv_iconst (v := nI 0) X.1 X.2.1 dL_face_18 (by decide) ?_
    exact w_iret X hX hlo (⟨by rw [mk3, ha, hs, hg]; rfl, hRP, _, hat, fun _ _ _ => by simp [vp_updL]⟩) ⟨by decide, by decide⟩ dL_face_19
set_option maxHeartbeats 4000000 in
set_option maxRecDepth 100000 in
theorem c_L_rafter (l : Launch) (g : En) (o r : Nat) (A : Nat → Nat) (x1 y1 : Nat) (q : Nat → Rat) (ou : Nat) (f0 : Nat → Int64) (i : Int32) (v0 : Int64) (hl0 : l.stackTraces = false) (hO : OK x1 y1 q) (hU : OD o r ou A) : WM l yL_rafter cL_rafter 6 [(0, 11, 14, 19), (0, 11, 18, 25), (0, 11, 22, 13)] { frames := 9, cells := 3, slots := 18, locals := 139 } g [.ref o, .int i, .long v0, .ref ou] (fun H => RP g o r A x1 y1 q H ∧ va_at g.1 cl0 (oua g ou f0) H) (fun q => q = ou) 3 18 (fun v H => v = some (.int (nI (mk3 2 3 (inI i 4) (!gab q (toN i)) (inL v0 1 10000)))) ∧ RP g o r A x1 y1 q H ∧ ∃ f : Nat → Int64, va_at g.1 cl0 (oua g ou f) H ∧ ((inI i 4) = true → (!gab q (toN i)) = true → (inL v0 1 10000) = true → f 0 = (nI (slen x1 y1 (toN i) / toL v0 + 1)).toInt64)) := by
  refine WM.of (by decide) (Nat.le_of_ble_eq_true rfl) (fun p e s m below meth c ls X hE hG hl => ?_)
  obtain ⟨⟨hP, hF⟩, hou⟩ := hG
  have hP := PP.cons hou hP
  have hl : lv_has ls 6 [(0, .ref o), (1, .int i), (2, .long v0), (4, .ref ou)] := hl
  have hX : hxf (fun q => q = ou) s.heap s.heap := hxf.rf
  have hlo : lok (fun q => q = ou) s.heap.size ([] : List Loc) := lok.nil
  have hP : PP g [oua g ou f0, ob o x1 y1 r, ar g r A] s.heap := hP
  refine lv_aload X.1 X.2.1 dL_rafter_0 (lv_at hl 3 rfl) ?_
  refine lv_iconst (v := nI 0) X.1 X.2.1 dL_rafter_2 (by decide) ?_
  refine lv_aload_n X.1 X.2.1 dL_rafter_3 rfl (lv_at hl 0 rfl) ?_
  refine lv_iload_n X.1 X.2.1 dL_rafter_4 rfl (lv_at hl 1 rfl) ?_
  refine lv_lload_n X.1 X.2.1 dL_rafter_5 rfl (lv_at hl 2 rfl) ?_
  refine w_callX (C := RX1) (b := o) (As := [.int i, .long v0]) (rest := [.int (nI 0), .ref ou]) X hE (c_X1_rafter l g o r A x1 y1 q i v0 hl0 hO) ⟨mw_285, mw_286, mw_287, mw_38, mw_288⟩ sgX1_rafter ⟨rfl, rfl, ⟨by decide, by decide⟩, by decide, by decide⟩ (hP.at 1 rfl) rfl rfl (RP.of hP [1, 2] rfl hF) hxt.rf rfl hl.1 rfl (Nat.le_of_ble_eq_true rfl) dL_rafter_6 (fun E ce q9 H1 hk hpx h1 h2 h3 => ?_) (fun v H1 hk hp => ?_)
  ·
    have hX := hX.tr hk
    have hou := (PP.ext (PP.one hou) hk) 0 _ rfl
    have hRP := RP.ext (RP.of hP [1, 2] rfl hF) hk
    obtain ⟨ha, rfl⟩ | ⟨ha, hs, rfl⟩ | ⟨ha, hs, hg, rfl⟩ := hpx
    ·
      refine hn_catch (own := yL_rafter.cls) (name := eA) (pc := 6) (E := eA) X.2.2.2.1 [] (⟨0, 11, 14, 19⟩ : ExceptionTableEntry) [(⟨0, 11, 18, 25⟩ : ExceptionTableEntry), (⟨0, 11, 22, 13⟩ : ExceptionTableEntry)] (X.2.2.2.2.2.2.2.2) (fun z hz => nomatch hz) (by decide) (by decide) (X.2.2.2.2.1 _ (List.mem_cons_of_mem _ mw_170)) (w_cast hE cA) h1 h2 h3 ?_
      refine W.eq (g2 := F0 m 14 ls [.ref q9]) rfl ?_
      refine lv_astore (lv' := [(5, .ref q9), (0, .ref o), (1, .int i), (2, .long v0), (4, .ref ou)]) X.1 X.2.1 dL_rafter_14 hl (by decide) rfl (fun ls hl => ?_)
      refine lv_iconst (v := nI 1) X.1 X.2.1 dL_rafter_16 (by decide) ?_
      exact w_iret X hX hlo (⟨by rw [mk3, ha]; rfl, hRP, _, hou, fun h9 h8 h7 => by rw [ha] at h9; cases h9⟩) ⟨by decide, by decide⟩ dL_rafter_17
    ·
      refine hn_catch (own := yL_rafter.cls) (name := eS) (pc := 6) (E := eS) X.2.2.2.1 [(⟨0, 11, 14, 19⟩ : ExceptionTableEntry)] (⟨0, 11, 18, 25⟩ : ExceptionTableEntry) [(⟨0, 11, 22, 13⟩ : ExceptionTableEntry)] (X.2.2.2.2.2.2.2.2) (fun z hz => by simp only [List.mem_cons, List.not_mem_nil, or_false] at hz; subst hz <;> first | exact Or.inr ⟨by decide, eA, X.2.2.2.2.1 _ (List.mem_cons_of_mem _ mw_170), hE.2.2.2.1.1⟩) (by decide) (by decide) (X.2.2.2.2.1 _ (List.mem_cons_of_mem _ mw_211)) (w_cast hE cS) h1 h2 h3 ?_
      refine W.eq (g2 := F0 m 18 ls [.ref q9]) rfl ?_
      refine lv_astore (lv' := [(5, .ref q9), (0, .ref o), (1, .int i), (2, .long v0), (4, .ref ou)]) X.1 X.2.1 dL_rafter_18 hl (by decide) rfl (fun ls hl => ?_)
      refine lv_iconst (v := nI 2) X.1 X.2.1 dL_rafter_20 (by decide) ?_
      exact w_iret X hX hlo (⟨by rw [mk3, ha, hs]; rfl, hRP, _, hou, fun h9 h8 h7 => by rw [hs] at h8; cases h8⟩) ⟨by decide, by decide⟩ dL_rafter_21
    ·
      refine hn_catch (own := yL_rafter.cls) (name := eG) (pc := 6) (E := eG) X.2.2.2.1 [(⟨0, 11, 14, 19⟩ : ExceptionTableEntry), (⟨0, 11, 18, 25⟩ : ExceptionTableEntry)] (⟨0, 11, 22, 13⟩ : ExceptionTableEntry) [] (X.2.2.2.2.2.2.2.2) (fun z hz => by simp only [List.mem_cons, List.not_mem_nil, or_false] at hz; rcases hz with rfl | rfl <;> first | exact Or.inr ⟨by decide, eA, X.2.2.2.2.1 _ (List.mem_cons_of_mem _ mw_170), hE.2.2.2.1.2.1⟩ | exact Or.inr ⟨by decide, eS, X.2.2.2.2.1 _ (List.mem_cons_of_mem _ mw_211), hE.2.2.2.1.2.2⟩) (by decide) (by decide) (X.2.2.2.2.1 _ (List.mem_cons_of_mem _ mw_90)) (w_cast hE cG) h1 h2 h3 ?_
      refine W.eq (g2 := F0 m 22 ls [.ref q9]) rfl ?_
      refine lv_astore (lv' := [(5, .ref q9), (0, .ref o), (1, .int i), (2, .long v0), (4, .ref ou)]) X.1 X.2.1 dL_rafter_22 hl (by decide) rfl (fun ls hl => ?_)
      refine lv_iconst (v := nI 3) X.1 X.2.1 dL_rafter_24 (by decide) ?_
      exact w_iret X hX hlo (⟨by rw [mk3, ha, hs, hg]; rfl, hRP, _, hou, fun h9 h8 h7 => by rw [hg] at h7; cases h7⟩) ⟨by decide, by decide⟩ dL_rafter_25
  ·
    have hX := hX.tr hk
    have hP := PP.ext hP hk
    have hF := RF.ext hF hk
    obtain ⟨⟨ha, hs, hg⟩, rfl⟩ := hp
    refine W.eq (g2 := F0 m 9 ls [.int (nI (slen x1 y1 (toN i) / toL v0 + 1)), .int (nI 0), .ref ou]) rfl ?_
    refine lv_i2l X.1 X.2.1 dL_rafter_9 rfl ?_
    refine w_last (F := fun q => q = ou) X (hP.at 0 rfl) (k := 0) (by decide) (by decide) (Or.inl rfl) hlo dL_rafter_10 (fun H2 locs hpa hlo hat => ?_)
    have hX := hX.tra rfl hpa
    have hRP := RP.exa (RP.of hP [1, 2] rfl hF) hpa hU
    refine lv_goto (tgt := 26) X.1 X.2.1 dL_rafter_11 (by decide) ?_
    refine lv_iconst (v := nI 0) X.1 X.2.1 dL_rafter_26 (by decide) ?_
    exact w_iret X hX hlo (⟨by rw [mk3, ha, hs, hg]; rfl, hRP, _, hat, fun _ _ _ => by simp [vp_updL]⟩) ⟨by decide, by decide⟩ dL_rafter_27
set_option maxHeartbeats 4000000 in
set_option maxRecDepth 100000 in
theorem c_L_end (l : Launch) (g : En) (o r : Nat) (A : Nat → Nat) (x1 y1 : Nat) (q : Nat → Rat) (ou : Nat) (f0 : Nat → Int64) (i : Int32) (v0 : Int64) (j : Int32) (hl0 : l.stackTraces = false) (hO : OK x1 y1 q) (hU : OD o r ou A) : WM l yL_end cL_end 7 [(0, 12, 15, 19), (0, 12, 19, 25), (0, 12, 23, 13)] { frames := 9, cells := 22, slots := 60, locals := 182 } g [.ref o, .int i, .long v0, .int j, .ref ou] (fun H => RP g o r A x1 y1 q H ∧ va_at g.1 cl0 (oua g ou f0) H) (fun q => q = ou) 22 60 (fun v H => v = some (.int (nI (mk3 2 3 (inI i 4 && inI j 2) (!gab q (toN i)) (inL v0 0 (slen x1 y1 (toN i)))))) ∧ RP g o r A x1 y1 q H ∧ ∃ f : Nat → Int64, va_at g.1 cl0 (oua g ou f) H ∧ ((inI i 4 && inI j 2) = true → (!gab q (toN i)) = true → (inL v0 0 (slen x1 y1 (toN i))) = true → f 0 = lN (prt (raf x1 y1 q (toN i) (toL v0)) (toN j)))) := by
  refine WM.of (by decide) (Nat.le_of_ble_eq_true rfl) (fun p e s m below meth c ls X hE hG hl => ?_)
  obtain ⟨⟨hP, hF⟩, hou⟩ := hG
  have hP := PP.cons hou hP
  have hl : lv_has ls 7 [(0, .ref o), (1, .int i), (2, .long v0), (4, .int j), (5, .ref ou)] := hl
  have hX : hxf (fun q => q = ou) s.heap s.heap := hxf.rf
  have hlo : lok (fun q => q = ou) s.heap.size ([] : List Loc) := lok.nil
  have hP : PP g [oua g ou f0, ob o x1 y1 r, ar g r A] s.heap := hP
  refine lv_aload X.1 X.2.1 dL_end_0 (lv_at hl 4 rfl) ?_
  refine lv_iconst (v := nI 0) X.1 X.2.1 dL_end_2 (by decide) ?_
  refine lv_aload_n X.1 X.2.1 dL_end_3 rfl (lv_at hl 0 rfl) ?_
  refine lv_iload_n X.1 X.2.1 dL_end_4 rfl (lv_at hl 1 rfl) ?_
  refine lv_lload_n X.1 X.2.1 dL_end_5 rfl (lv_at hl 2 rfl) ?_
  refine lv_iload X.1 X.2.1 dL_end_6 (lv_at hl 3 rfl) ?_
  refine w_callX (C := RX1) (b := o) (As := [.int i, .long v0, .int j]) (rest := [.int (nI 0), .ref ou]) X hE (c_X1_end l g o r A x1 y1 q i v0 j hl0 hO) ⟨mw_305, mw_306, mw_307, mw_38, mw_308⟩ sgX1_end ⟨rfl, rfl, ⟨by decide, by decide⟩, by decide, by decide⟩ (hP.at 1 rfl) rfl rfl (RP.of hP [1, 2] rfl hF) hxt.rf rfl hl.1 rfl (Nat.le_of_ble_eq_true rfl) dL_end_8 (fun E ce q9 H1 hk hpx h1 h2 h3 => ?_) (fun v H1 hk hp => ?_)
  ·
    have hX := hX.tr hk
    have hou := (PP.ext (PP.one hou) hk) 0 _ rfl
    have hRP := RP.ext (RP.of hP [1, 2] rfl hF) hk
    obtain ⟨ha, rfl⟩ | ⟨ha, hs, rfl⟩ | ⟨ha, hs, hg, rfl⟩ := hpx
    ·
      refine hn_catch (own := yL_end.cls) (name := eA) (pc := 8) (E := eA) X.2.2.2.1 [] (⟨0, 12, 15, 19⟩ : ExceptionTableEntry) [(⟨0, 12, 19, 25⟩ : ExceptionTableEntry), (⟨0, 12, 23, 13⟩ : ExceptionTableEntry)] (X.2.2.2.2.2.2.2.2) (fun z hz => nomatch hz) (by decide) (by decide) (X.2.2.2.2.1 _ (List.mem_cons_of_mem _ mw_170)) (w_cast hE cA) h1 h2 h3 ?_
      refine W.eq (g2 := F0 m 15 ls [.ref q9]) rfl ?_
      refine lv_astore (lv' := [(6, .ref q9), (0, .ref o), (1, .int i), (2, .long v0), (4, .int j), (5, .ref ou)]) X.1 X.2.1 dL_end_15 hl (by decide) rfl (fun ls hl => ?_)
      refine lv_iconst (v := nI 1) X.1 X.2.1 dL_end_17 (by decide) ?_
      exact w_iret X hX hlo (⟨by rw [mk3, ha]; rfl, hRP, _, hou, fun h9 h8 h7 => by rw [ha] at h9; cases h9⟩) ⟨by decide, by decide⟩ dL_end_18
    ·
      refine hn_catch (own := yL_end.cls) (name := eS) (pc := 8) (E := eS) X.2.2.2.1 [(⟨0, 12, 15, 19⟩ : ExceptionTableEntry)] (⟨0, 12, 19, 25⟩ : ExceptionTableEntry) [(⟨0, 12, 23, 13⟩ : ExceptionTableEntry)] (X.2.2.2.2.2.2.2.2) (fun z hz => by simp only [List.mem_cons, List.not_mem_nil, or_false] at hz; subst hz <;> first | exact Or.inr ⟨by decide, eA, X.2.2.2.2.1 _ (List.mem_cons_of_mem _ mw_170), hE.2.2.2.1.1⟩) (by decide) (by decide) (X.2.2.2.2.1 _ (List.mem_cons_of_mem _ mw_211)) (w_cast hE cS) h1 h2 h3 ?_
      refine W.eq (g2 := F0 m 19 ls [.ref q9]) rfl ?_
      refine lv_astore (lv' := [(6, .ref q9), (0, .ref o), (1, .int i), (2, .long v0), (4, .int j), (5, .ref ou)]) X.1 X.2.1 dL_end_19 hl (by decide) rfl (fun ls hl => ?_)
      refine lv_iconst (v := nI 2) X.1 X.2.1 dL_end_21 (by decide) ?_
      exact w_iret X hX hlo (⟨by rw [mk3, ha, hs]; rfl, hRP, _, hou, fun h9 h8 h7 => by rw [hs] at h8; cases h8⟩) ⟨by decide, by decide⟩ dL_end_22
    ·
      refine hn_catch (own := yL_end.cls) (name := eG) (pc := 8) (E := eG) X.2.2.2.1 [(⟨0, 12, 15, 19⟩ : ExceptionTableEntry), (⟨0, 12, 19, 25⟩ : ExceptionTableEntry)] (⟨0, 12, 23, 13⟩ : ExceptionTableEntry) [] (X.2.2.2.2.2.2.2.2) (fun z hz => by simp only [List.mem_cons, List.not_mem_nil, or_false] at hz; rcases hz with rfl | rfl <;> first | exact Or.inr ⟨by decide, eA, X.2.2.2.2.1 _ (List.mem_cons_of_mem _ mw_170), hE.2.2.2.1.2.1⟩ | exact Or.inr ⟨by decide, eS, X.2.2.2.2.1 _ (List.mem_cons_of_mem _ mw_211), hE.2.2.2.1.2.2⟩) (by decide) (by decide) (X.2.2.2.2.1 _ (List.mem_cons_of_mem _ mw_90)) (w_cast hE cG) h1 h2 h3 ?_
      refine W.eq (g2 := F0 m 23 ls [.ref q9]) rfl ?_
      refine lv_astore (lv' := [(6, .ref q9), (0, .ref o), (1, .int i), (2, .long v0), (4, .int j), (5, .ref ou)]) X.1 X.2.1 dL_end_23 hl (by decide) rfl (fun ls hl => ?_)
      refine lv_iconst (v := nI 3) X.1 X.2.1 dL_end_25 (by decide) ?_
      exact w_iret X hX hlo (⟨by rw [mk3, ha, hs, hg]; rfl, hRP, _, hou, fun h9 h8 h7 => by rw [hg] at h7; cases h7⟩) ⟨by decide, by decide⟩ dL_end_26
  ·
    have hX := hX.tr hk
    have hP := PP.ext hP hk
    have hF := RF.ext hF hk
    obtain ⟨⟨ha, hs, hg⟩, rfl⟩ := hp
    refine W.eq (g2 := F0 m 11 ls [.long (lN (prt (raf x1 y1 q (toN i) (toL v0)) (toN j))), .int (nI 0), .ref ou]) rfl ?_
    refine w_last (F := fun q => q = ou) X (hP.at 0 rfl) (k := 0) (by decide) (by decide) (Or.inl rfl) hlo dL_end_11 (fun H2 locs hpa hlo hat => ?_)
    have hX := hX.tra rfl hpa
    have hRP := RP.exa (RP.of hP [1, 2] rfl hF) hpa hU
    refine lv_goto (tgt := 27) X.1 X.2.1 dL_end_12 (by decide) ?_
    refine lv_iconst (v := nI 0) X.1 X.2.1 dL_end_27 (by decide) ?_
    exact w_iret X hX hlo (⟨by rw [mk3, ha, hs, hg]; rfl, hRP, _, hat, fun _ _ _ => by simp [vp_updL]⟩) ⟨by decide, by decide⟩ dL_end_28
set_option maxHeartbeats 4000000 in
set_option maxRecDepth 100000 in
theorem c_L_against (l : Launch) (g : En) (o r : Nat) (A : Nat → Nat) (x1 y1 : Nat) (q : Nat → Rat) (ou : Nat) (f0 : Nat → Int64) (i : Int32) (v0 : Int64) (hl0 : l.stackTraces = false) (hO : OK x1 y1 q) (hU : OD o r ou A) : WM l yL_against cL_against 6 [(0, 11, 14, 19), (0, 11, 18, 25), (0, 11, 22, 13)] { frames := 9, cells := 18, slots := 48, locals := 158 } g [.ref o, .int i, .long v0, .ref ou] (fun H => RP g o r A x1 y1 q H ∧ va_at g.1 cl0 (oua g ou f0) H) (fun q => q = ou) 18 48 (fun v H => v = some (.int (nI (mk3 2 3 (inI i 4) (!gab q (toN i)) (inL v0 0 (slen x1 y1 (toN i)))))) ∧ RP g o r A x1 y1 q H ∧ ∃ f : Nat → Int64, va_at g.1 cl0 (oua g ou f) H ∧ ((inI i 4) = true → (!gab q (toN i)) = true → (inL v0 0 (slen x1 y1 (toN i))) = true → f 0 = (nI (enp x1 y1 q (toN i) (toL v0) 4)).toInt64)) := by
  refine WM.of (by decide) (Nat.le_of_ble_eq_true rfl) (fun p e s m below meth c ls X hE hG hl => ?_)
  obtain ⟨⟨hP, hF⟩, hou⟩ := hG
  have hP := PP.cons hou hP
  have hl : lv_has ls 6 [(0, .ref o), (1, .int i), (2, .long v0), (4, .ref ou)] := hl
  have hX : hxf (fun q => q = ou) s.heap s.heap := hxf.rf
  have hlo : lok (fun q => q = ou) s.heap.size ([] : List Loc) := lok.nil
  have hP : PP g [oua g ou f0, ob o x1 y1 r, ar g r A] s.heap := hP
  refine lv_aload X.1 X.2.1 dL_against_0 (lv_at hl 3 rfl) ?_
  refine lv_iconst (v := nI 0) X.1 X.2.1 dL_against_2 (by decide) ?_
  refine lv_aload_n X.1 X.2.1 dL_against_3 rfl (lv_at hl 0 rfl) ?_
  refine lv_iload_n X.1 X.2.1 dL_against_4 rfl (lv_at hl 1 rfl) ?_
  refine lv_lload_n X.1 X.2.1 dL_against_5 rfl (lv_at hl 2 rfl) ?_
  refine w_callX (C := RX1) (b := o) (As := [.int i, .long v0]) (rest := [.int (nI 0), .ref ou]) X hE (c_X1_against l g o r A x1 y1 q i v0 hl0 hO) ⟨mw_349, mw_350, mw_351, mw_38, mw_352⟩ sgX1_against ⟨rfl, rfl, ⟨by decide, by decide⟩, by decide, by decide⟩ (hP.at 1 rfl) rfl rfl (RP.of hP [1, 2] rfl hF) hxt.rf rfl hl.1 rfl (Nat.le_of_ble_eq_true rfl) dL_against_6 (fun E ce q9 H1 hk hpx h1 h2 h3 => ?_) (fun v H1 hk hp => ?_)
  ·
    have hX := hX.tr hk
    have hou := (PP.ext (PP.one hou) hk) 0 _ rfl
    have hRP := RP.ext (RP.of hP [1, 2] rfl hF) hk
    obtain ⟨ha, rfl⟩ | ⟨ha, hs, rfl⟩ | ⟨ha, hs, hg, rfl⟩ := hpx
    ·
      refine hn_catch (own := yL_against.cls) (name := eA) (pc := 6) (E := eA) X.2.2.2.1 [] (⟨0, 11, 14, 19⟩ : ExceptionTableEntry) [(⟨0, 11, 18, 25⟩ : ExceptionTableEntry), (⟨0, 11, 22, 13⟩ : ExceptionTableEntry)] (X.2.2.2.2.2.2.2.2) (fun z hz => nomatch hz) (by decide) (by decide) (X.2.2.2.2.1 _ (List.mem_cons_of_mem _ mw_170)) (w_cast hE cA) h1 h2 h3 ?_
      refine W.eq (g2 := F0 m 14 ls [.ref q9]) rfl ?_
      refine lv_astore (lv' := [(5, .ref q9), (0, .ref o), (1, .int i), (2, .long v0), (4, .ref ou)]) X.1 X.2.1 dL_against_14 hl (by decide) rfl (fun ls hl => ?_)
      refine lv_iconst (v := nI 1) X.1 X.2.1 dL_against_16 (by decide) ?_
      exact w_iret X hX hlo (⟨by rw [mk3, ha]; rfl, hRP, _, hou, fun h9 h8 h7 => by rw [ha] at h9; cases h9⟩) ⟨by decide, by decide⟩ dL_against_17
    ·
      refine hn_catch (own := yL_against.cls) (name := eS) (pc := 6) (E := eS) X.2.2.2.1 [(⟨0, 11, 14, 19⟩ : ExceptionTableEntry)] (⟨0, 11, 18, 25⟩ : ExceptionTableEntry) [(⟨0, 11, 22, 13⟩ : ExceptionTableEntry)] (X.2.2.2.2.2.2.2.2) (fun z hz => by simp only [List.mem_cons, List.not_mem_nil, or_false] at hz; subst hz <;> first | exact Or.inr ⟨by decide, eA, X.2.2.2.2.1 _ (List.mem_cons_of_mem _ mw_170), hE.2.2.2.1.1⟩) (by decide) (by decide) (X.2.2.2.2.1 _ (List.mem_cons_of_mem _ mw_211)) (w_cast hE cS) h1 h2 h3 ?_
      refine W.eq (g2 := F0 m 18 ls [.ref q9]) rfl ?_
      refine lv_astore (lv' := [(5, .ref q9), (0, .ref o), (1, .int i), (2, .long v0), (4, .ref ou)]) X.1 X.2.1 dL_against_18 hl (by decide) rfl (fun ls hl => ?_)
      refine lv_iconst (v := nI 2) X.1 X.2.1 dL_against_20 (by decide) ?_
      exact w_iret X hX hlo (⟨by rw [mk3, ha, hs]; rfl, hRP, _, hou, fun h9 h8 h7 => by rw [hs] at h8; cases h8⟩) ⟨by decide, by decide⟩ dL_against_21
    ·
      refine hn_catch (own := yL_against.cls) (name := eG) (pc := 6) (E := eG) X.2.2.2.1 [(⟨0, 11, 14, 19⟩ : ExceptionTableEntry), (⟨0, 11, 18, 25⟩ : ExceptionTableEntry)] (⟨0, 11, 22, 13⟩ : ExceptionTableEntry) [] (X.2.2.2.2.2.2.2.2) (fun z hz => by simp only [List.mem_cons, List.not_mem_nil, or_false] at hz; rcases hz with rfl | rfl <;> first | exact Or.inr ⟨by decide, eA, X.2.2.2.2.1 _ (List.mem_cons_of_mem _ mw_170), hE.2.2.2.1.2.1⟩ | exact Or.inr ⟨by decide, eS, X.2.2.2.2.1 _ (List.mem_cons_of_mem _ mw_211), hE.2.2.2.1.2.2⟩) (by decide) (by decide) (X.2.2.2.2.1 _ (List.mem_cons_of_mem _ mw_90)) (w_cast hE cG) h1 h2 h3 ?_
      refine W.eq (g2 := F0 m 22 ls [.ref q9]) rfl ?_
      refine lv_astore (lv' := [(5, .ref q9), (0, .ref o), (1, .int i), (2, .long v0), (4, .ref ou)]) X.1 X.2.1 dL_against_22 hl (by decide) rfl (fun ls hl => ?_)
      refine lv_iconst (v := nI 3) X.1 X.2.1 dL_against_24 (by decide) ?_
      exact w_iret X hX hlo (⟨by rw [mk3, ha, hs, hg]; rfl, hRP, _, hou, fun h9 h8 h7 => by rw [hg] at h7; cases h7⟩) ⟨by decide, by decide⟩ dL_against_25
  ·
    have hX := hX.tr hk
    have hP := PP.ext hP hk
    have hF := RF.ext hF hk
    obtain ⟨⟨ha, hs, hg⟩, rfl⟩ := hp
    refine W.eq (g2 := F0 m 9 ls [.int (nI (enp x1 y1 q (toN i) (toL v0) 4)), .int (nI 0), .ref ou]) rfl ?_
    refine lv_i2l X.1 X.2.1 dL_against_9 rfl ?_
    refine w_last (F := fun q => q = ou) X (hP.at 0 rfl) (k := 0) (by decide) (by decide) (Or.inl rfl) hlo dL_against_10 (fun H2 locs hpa hlo hat => ?_)
    have hX := hX.tra rfl hpa
    have hRP := RP.exa (RP.of hP [1, 2] rfl hF) hpa hU
    refine lv_goto (tgt := 26) X.1 X.2.1 dL_against_11 (by decide) ?_
    refine lv_iconst (v := nI 0) X.1 X.2.1 dL_against_26 (by decide) ?_
    exact w_iret X hX hlo (⟨by rw [mk3, ha, hs, hg]; rfl, hRP, _, hat, fun _ _ _ => by simp [vp_updL]⟩) ⟨by decide, by decide⟩ dL_against_27
set_option maxHeartbeats 4000000 in
set_option maxRecDepth 100000 in
theorem c_L_length (l : Launch) (g : En) (o r : Nat) (A : Nat → Nat) (x1 y1 : Nat) (q : Nat → Rat) (ou : Nat) (f0 : Nat → Int64) (i : Int32) (v0 : Int64) (j : Int32) (hl0 : l.stackTraces = false) (hO : OK x1 y1 q) (hU : OD o r ou A) : WM l yL_length cL_length 7 [(0, 12, 15, 19), (0, 12, 19, 25), (0, 12, 23, 13)] { frames := 9, cells := 28, slots := 72, locals := 186 } g [.ref o, .int i, .long v0, .int j, .ref ou] (fun H => RP g o r A x1 y1 q H ∧ va_at g.1 cl0 (oua g ou f0) H) (fun q => q = ou) 28 72 (fun v H => v = some (.int (nI (mk3 2 3 (inI i 4 && inI j 2) (!gab q (toN i)) (inL v0 0 (slen x1 y1 (toN i)))))) ∧ RP g o r A x1 y1 q H ∧ ∃ f : Nat → Int64, va_at g.1 cl0 (oua g ou f) H ∧ ((inI i 4 && inI j 2) = true → (!gab q (toN i)) = true → (inL v0 0 (slen x1 y1 (toN i))) = true → f 0 = lN (lenv (sqr q (toN i) (raf x1 y1 q (toN i) (toL v0))) (toN j)))) := by
  refine WM.of (by decide) (Nat.le_of_ble_eq_true rfl) (fun p e s m below meth c ls X hE hG hl => ?_)
  obtain ⟨⟨hP, hF⟩, hou⟩ := hG
  have hP := PP.cons hou hP
  have hl : lv_has ls 7 [(0, .ref o), (1, .int i), (2, .long v0), (4, .int j), (5, .ref ou)] := hl
  have hX : hxf (fun q => q = ou) s.heap s.heap := hxf.rf
  have hlo : lok (fun q => q = ou) s.heap.size ([] : List Loc) := lok.nil
  have hP : PP g [oua g ou f0, ob o x1 y1 r, ar g r A] s.heap := hP
  refine lv_aload X.1 X.2.1 dL_length_0 (lv_at hl 4 rfl) ?_
  refine lv_iconst (v := nI 0) X.1 X.2.1 dL_length_2 (by decide) ?_
  refine lv_aload_n X.1 X.2.1 dL_length_3 rfl (lv_at hl 0 rfl) ?_
  refine lv_iload_n X.1 X.2.1 dL_length_4 rfl (lv_at hl 1 rfl) ?_
  refine lv_lload_n X.1 X.2.1 dL_length_5 rfl (lv_at hl 2 rfl) ?_
  refine lv_iload X.1 X.2.1 dL_length_6 (lv_at hl 3 rfl) ?_
  refine w_callX (C := RX1) (b := o) (As := [.int i, .long v0, .int j]) (rest := [.int (nI 0), .ref ou]) X hE (c_X1_length l g o r A x1 y1 q i v0 j hl0 hO) ⟨mw_356, mw_357, mw_358, mw_38, mw_359⟩ sgX1_length ⟨rfl, rfl, ⟨by decide, by decide⟩, by decide, by decide⟩ (hP.at 1 rfl) rfl rfl (RP.of hP [1, 2] rfl hF) hxt.rf rfl hl.1 rfl (Nat.le_of_ble_eq_true rfl) dL_length_8 (fun E ce q9 H1 hk hpx h1 h2 h3 => ?_) (fun v H1 hk hp => ?_)
  ·
    have hX := hX.tr hk
    have hou := (PP.ext (PP.one hou) hk) 0 _ rfl
    have hRP := RP.ext (RP.of hP [1, 2] rfl hF) hk
    obtain ⟨ha, rfl⟩ | ⟨ha, hs, rfl⟩ | ⟨ha, hs, hg, rfl⟩ := hpx
    ·
      refine hn_catch (own := yL_length.cls) (name := eA) (pc := 8) (E := eA) X.2.2.2.1 [] (⟨0, 12, 15, 19⟩ : ExceptionTableEntry) [(⟨0, 12, 19, 25⟩ : ExceptionTableEntry), (⟨0, 12, 23, 13⟩ : ExceptionTableEntry)] (X.2.2.2.2.2.2.2.2) (fun z hz => nomatch hz) (by decide) (by decide) (X.2.2.2.2.1 _ (List.mem_cons_of_mem _ mw_170)) (w_cast hE cA) h1 h2 h3 ?_
      refine W.eq (g2 := F0 m 15 ls [.ref q9]) rfl ?_
      refine lv_astore (lv' := [(6, .ref q9), (0, .ref o), (1, .int i), (2, .long v0), (4, .int j), (5, .ref ou)]) X.1 X.2.1 dL_length_15 hl (by decide) rfl (fun ls hl => ?_)
      refine lv_iconst (v := nI 1) X.1 X.2.1 dL_length_17 (by decide) ?_
      exact w_iret X hX hlo (⟨by rw [mk3, ha]; rfl, hRP, _, hou, fun h9 h8 h7 => by rw [ha] at h9; cases h9⟩) ⟨by decide, by decide⟩ dL_length_18
    ·
      refine hn_catch (own := yL_length.cls) (name := eS) (pc := 8) (E := eS) X.2.2.2.1 [(⟨0, 12, 15, 19⟩ : ExceptionTableEntry)] (⟨0, 12, 19, 25⟩ : ExceptionTableEntry) [(⟨0, 12, 23, 13⟩ : ExceptionTableEntry)] (X.2.2.2.2.2.2.2.2) (fun z hz => by simp only [List.mem_cons, List.not_mem_nil, or_false] at hz; subst hz <;> first | exact Or.inr ⟨by decide, eA, X.2.2.2.2.1 _ (List.mem_cons_of_mem _ mw_170), hE.2.2.2.1.1⟩) (by decide) (by decide) (X.2.2.2.2.1 _ (List.mem_cons_of_mem _ mw_211)) (w_cast hE cS) h1 h2 h3 ?_
      refine W.eq (g2 := F0 m 19 ls [.ref q9]) rfl ?_
      refine lv_astore (lv' := [(6, .ref q9), (0, .ref o), (1, .int i), (2, .long v0), (4, .int j), (5, .ref ou)]) X.1 X.2.1 dL_length_19 hl (by decide) rfl (fun ls hl => ?_)
      refine lv_iconst (v := nI 2) X.1 X.2.1 dL_length_21 (by decide) ?_
      exact w_iret X hX hlo (⟨by rw [mk3, ha, hs]; rfl, hRP, _, hou, fun h9 h8 h7 => by rw [hs] at h8; cases h8⟩) ⟨by decide, by decide⟩ dL_length_22
    ·
      refine hn_catch (own := yL_length.cls) (name := eG) (pc := 8) (E := eG) X.2.2.2.1 [(⟨0, 12, 15, 19⟩ : ExceptionTableEntry), (⟨0, 12, 19, 25⟩ : ExceptionTableEntry)] (⟨0, 12, 23, 13⟩ : ExceptionTableEntry) [] (X.2.2.2.2.2.2.2.2) (fun z hz => by simp only [List.mem_cons, List.not_mem_nil, or_false] at hz; rcases hz with rfl | rfl <;> first | exact Or.inr ⟨by decide, eA, X.2.2.2.2.1 _ (List.mem_cons_of_mem _ mw_170), hE.2.2.2.1.2.1⟩ | exact Or.inr ⟨by decide, eS, X.2.2.2.2.1 _ (List.mem_cons_of_mem _ mw_211), hE.2.2.2.1.2.2⟩) (by decide) (by decide) (X.2.2.2.2.1 _ (List.mem_cons_of_mem _ mw_90)) (w_cast hE cG) h1 h2 h3 ?_
      refine W.eq (g2 := F0 m 23 ls [.ref q9]) rfl ?_
      refine lv_astore (lv' := [(6, .ref q9), (0, .ref o), (1, .int i), (2, .long v0), (4, .int j), (5, .ref ou)]) X.1 X.2.1 dL_length_23 hl (by decide) rfl (fun ls hl => ?_)
      refine lv_iconst (v := nI 3) X.1 X.2.1 dL_length_25 (by decide) ?_
      exact w_iret X hX hlo (⟨by rw [mk3, ha, hs, hg]; rfl, hRP, _, hou, fun h9 h8 h7 => by rw [hg] at h7; cases h7⟩) ⟨by decide, by decide⟩ dL_length_26
  ·
    have hX := hX.tr hk
    have hP := PP.ext hP hk
    have hF := RF.ext hF hk
    obtain ⟨⟨ha, hs, hg⟩, rfl⟩ := hp
    refine W.eq (g2 := F0 m 11 ls [.long (lN (lenv (sqr q (toN i) (raf x1 y1 q (toN i) (toL v0))) (toN j))), .int (nI 0), .ref ou]) rfl ?_
    refine w_last (F := fun q => q = ou) X (hP.at 0 rfl) (k := 0) (by decide) (by decide) (Or.inl rfl) hlo dL_length_11 (fun H2 locs hpa hlo hat => ?_)
    have hX := hX.tra rfl hpa
    have hRP := RP.exa (RP.of hP [1, 2] rfl hF) hpa hU
    refine lv_goto (tgt := 27) X.1 X.2.1 dL_length_12 (by decide) ?_
    refine lv_iconst (v := nI 0) X.1 X.2.1 dL_length_27 (by decide) ?_
    exact w_iret X hX hlo (⟨by rw [mk3, ha, hs, hg]; rfl, hRP, _, hat, fun _ _ _ => by simp [vp_updL]⟩) ⟨by decide, by decide⟩ dL_length_28
set_option maxHeartbeats 4000000 in
set_option maxRecDepth 100000 in
theorem c_L_tangent (l : Launch) (g : En) (o r : Nat) (A : Nat → Nat) (x1 y1 : Nat) (q : Nat → Rat) (ou : Nat) (f0 : Nat → Int64) (i : Int32) (v0 : Int64) (cu j : Int32) (hl0 : l.stackTraces = false) (hO : OK x1 y1 q) (hU : OD o r ou A) : WM l yL_tangent cL_tangent 8 [(0, 14, 17, 19), (0, 14, 21, 25), (0, 14, 25, 13)] { frames := 9, cells := 21, slots := 62, locals := 186 } g [.ref o, .int i, .long v0, .int cu, .int j, .ref ou] (fun H => RP g o r A x1 y1 q H ∧ va_at g.1 cl0 (oua g ou f0) H) (fun q => q = ou) 21 62 (fun v H => v = some (.int (nI (mk3 2 3 (inI i 4 && inI cu 3 && inI j 2) (!gab q (toN i)) (inL v0 0 (slen x1 y1 (toN i)))))) ∧ RP g o r A x1 y1 q H ∧ ∃ f : Nat → Int64, va_at g.1 cl0 (oua g ou f) H ∧ ((inI i 4 && inI cu 3 && inI j 2) = true → (!gab q (toN i)) = true → (inL v0 0 (slen x1 y1 (toN i))) = true → f 0 = lN (prt (tng x1 y1 q (toN i) (toL v0) (toN cu)) (toN j)))) := by
  refine WM.of (by decide) (Nat.le_of_ble_eq_true rfl) (fun p e s m below meth c ls X hE hG hl => ?_)
  obtain ⟨⟨hP, hF⟩, hou⟩ := hG
  have hP := PP.cons hou hP
  have hl : lv_has ls 8 [(0, .ref o), (1, .int i), (2, .long v0), (4, .int cu), (5, .int j), (6, .ref ou)] := hl
  have hX : hxf (fun q => q = ou) s.heap s.heap := hxf.rf
  have hlo : lok (fun q => q = ou) s.heap.size ([] : List Loc) := lok.nil
  have hP : PP g [oua g ou f0, ob o x1 y1 r, ar g r A] s.heap := hP
  refine lv_aload X.1 X.2.1 dL_tangent_0 (lv_at hl 5 rfl) ?_
  refine lv_iconst (v := nI 0) X.1 X.2.1 dL_tangent_2 (by decide) ?_
  refine lv_aload_n X.1 X.2.1 dL_tangent_3 rfl (lv_at hl 0 rfl) ?_
  refine lv_iload_n X.1 X.2.1 dL_tangent_4 rfl (lv_at hl 1 rfl) ?_
  refine lv_lload_n X.1 X.2.1 dL_tangent_5 rfl (lv_at hl 2 rfl) ?_
  refine lv_iload X.1 X.2.1 dL_tangent_6 (lv_at hl 3 rfl) ?_
  refine lv_iload X.1 X.2.1 dL_tangent_8 (lv_at hl 4 rfl) ?_
  refine w_callX (C := RX1) (b := o) (As := [.int i, .long v0, .int cu, .int j]) (rest := [.int (nI 0), .ref ou]) X hE (c_X1_tangent l g o r A x1 y1 q i v0 cu j hl0 hO) ⟨mw_382, mw_383, mw_384, mw_38, mw_385⟩ sgX1_tangent ⟨rfl, rfl, ⟨by decide, by decide⟩, by decide, by decide⟩ (hP.at 1 rfl) rfl rfl (RP.of hP [1, 2] rfl hF) hxt.rf rfl hl.1 rfl (Nat.le_of_ble_eq_true rfl) dL_tangent_10 (fun E ce q9 H1 hk hpx h1 h2 h3 => ?_) (fun v H1 hk hp => ?_)
  ·
    have hX := hX.tr hk
    have hou := (PP.ext (PP.one hou) hk) 0 _ rfl
    have hRP := RP.ext (RP.of hP [1, 2] rfl hF) hk
    obtain ⟨ha, rfl⟩ | ⟨ha, hs, rfl⟩ | ⟨ha, hs, hg, rfl⟩ := hpx
    ·
      refine hn_catch (own := yL_tangent.cls) (name := eA) (pc := 10) (E := eA) X.2.2.2.1 [] (⟨0, 14, 17, 19⟩ : ExceptionTableEntry) [(⟨0, 14, 21, 25⟩ : ExceptionTableEntry), (⟨0, 14, 25, 13⟩ : ExceptionTableEntry)] (X.2.2.2.2.2.2.2.2) (fun z hz => nomatch hz) (by decide) (by decide) (X.2.2.2.2.1 _ (List.mem_cons_of_mem _ mw_170)) (w_cast hE cA) h1 h2 h3 ?_
      refine W.eq (g2 := F0 m 17 ls [.ref q9]) rfl ?_
      refine lv_astore (lv' := [(7, .ref q9), (0, .ref o), (1, .int i), (2, .long v0), (4, .int cu), (5, .int j), (6, .ref ou)]) X.1 X.2.1 dL_tangent_17 hl (by decide) rfl (fun ls hl => ?_)
      refine lv_iconst (v := nI 1) X.1 X.2.1 dL_tangent_19 (by decide) ?_
      exact w_iret X hX hlo (⟨by rw [mk3, ha]; rfl, hRP, _, hou, fun h9 h8 h7 => by rw [ha] at h9; cases h9⟩) ⟨by decide, by decide⟩ dL_tangent_20
    ·
      refine hn_catch (own := yL_tangent.cls) (name := eS) (pc := 10) (E := eS) X.2.2.2.1 [(⟨0, 14, 17, 19⟩ : ExceptionTableEntry)] (⟨0, 14, 21, 25⟩ : ExceptionTableEntry) [(⟨0, 14, 25, 13⟩ : ExceptionTableEntry)] (X.2.2.2.2.2.2.2.2) (fun z hz => by simp only [List.mem_cons, List.not_mem_nil, or_false] at hz; subst hz <;> first | exact Or.inr ⟨by decide, eA, X.2.2.2.2.1 _ (List.mem_cons_of_mem _ mw_170), hE.2.2.2.1.1⟩) (by decide) (by decide) (X.2.2.2.2.1 _ (List.mem_cons_of_mem _ mw_211)) (w_cast hE cS) h1 h2 h3 ?_
      refine W.eq (g2 := F0 m 21 ls [.ref q9]) rfl ?_
      refine lv_astore (lv' := [(7, .ref q9), (0, .ref o), (1, .int i), (2, .long v0), (4, .int cu), (5, .int j), (6, .ref ou)]) X.1 X.2.1 dL_tangent_21 hl (by decide) rfl (fun ls hl => ?_)
      refine lv_iconst (v := nI 2) X.1 X.2.1 dL_tangent_23 (by decide) ?_
      exact w_iret X hX hlo (⟨by rw [mk3, ha, hs]; rfl, hRP, _, hou, fun h9 h8 h7 => by rw [hs] at h8; cases h8⟩) ⟨by decide, by decide⟩ dL_tangent_24
    ·
      refine hn_catch (own := yL_tangent.cls) (name := eG) (pc := 10) (E := eG) X.2.2.2.1 [(⟨0, 14, 17, 19⟩ : ExceptionTableEntry), (⟨0, 14, 21, 25⟩ : ExceptionTableEntry)] (⟨0, 14, 25, 13⟩ : ExceptionTableEntry) [] (X.2.2.2.2.2.2.2.2) (fun z hz => by simp only [List.mem_cons, List.not_mem_nil, or_false] at hz; rcases hz with rfl | rfl <;> first | exact Or.inr ⟨by decide, eA, X.2.2.2.2.1 _ (List.mem_cons_of_mem _ mw_170), hE.2.2.2.1.2.1⟩ | exact Or.inr ⟨by decide, eS, X.2.2.2.2.1 _ (List.mem_cons_of_mem _ mw_211), hE.2.2.2.1.2.2⟩) (by decide) (by decide) (X.2.2.2.2.1 _ (List.mem_cons_of_mem _ mw_90)) (w_cast hE cG) h1 h2 h3 ?_
      refine W.eq (g2 := F0 m 25 ls [.ref q9]) rfl ?_
      refine lv_astore (lv' := [(7, .ref q9), (0, .ref o), (1, .int i), (2, .long v0), (4, .int cu), (5, .int j), (6, .ref ou)]) X.1 X.2.1 dL_tangent_25 hl (by decide) rfl (fun ls hl => ?_)
      refine lv_iconst (v := nI 3) X.1 X.2.1 dL_tangent_27 (by decide) ?_
      exact w_iret X hX hlo (⟨by rw [mk3, ha, hs, hg]; rfl, hRP, _, hou, fun h9 h8 h7 => by rw [hg] at h7; cases h7⟩) ⟨by decide, by decide⟩ dL_tangent_28
  ·
    have hX := hX.tr hk
    have hP := PP.ext hP hk
    have hF := RF.ext hF hk
    obtain ⟨⟨ha, hs, hg⟩, rfl⟩ := hp
    refine W.eq (g2 := F0 m 13 ls [.long (lN (prt (tng x1 y1 q (toN i) (toL v0) (toN cu)) (toN j))), .int (nI 0), .ref ou]) rfl ?_
    refine w_last (F := fun q => q = ou) X (hP.at 0 rfl) (k := 0) (by decide) (by decide) (Or.inl rfl) hlo dL_tangent_13 (fun H2 locs hpa hlo hat => ?_)
    have hX := hX.tra rfl hpa
    have hRP := RP.exa (RP.of hP [1, 2] rfl hF) hpa hU
    refine lv_goto (tgt := 29) X.1 X.2.1 dL_tangent_14 (by decide) ?_
    refine lv_iconst (v := nI 0) X.1 X.2.1 dL_tangent_29 (by decide) ?_
    exact w_iret X hX hlo (⟨by rw [mk3, ha, hs, hg]; rfl, hRP, _, hat, fun _ _ _ => by simp [vp_updL]⟩) ⟨by decide, by decide⟩ dL_tangent_30
set_option maxHeartbeats 4000000 in
set_option maxRecDepth 100000 in
theorem c_L_mouth (l : Launch) (g : En) (o r : Nat) (A : Nat → Nat) (x1 y1 : Nat) (q : Nat → Rat) (ou : Nat) (f0 : Nat → Int64) (i : Int32) (v0 : Int64) (j : Int32) (hl0 : l.stackTraces = false) (hO : OK x1 y1 q) (hU : OD o r ou A) : WM l yL_mouth cL_mouth 7 [(0, 12, 15, 19), (0, 12, 19, 25), (0, 12, 23, 13)] { frames := 9, cells := 5, slots := 26, locals := 140 } g [.ref o, .int i, .long v0, .int j, .ref ou] (fun H => RP g o r A x1 y1 q H ∧ va_at g.1 cl0 (oua g ou f0) H) (fun q => q = ou) 5 26 (fun v H => v = some (.int (nI (mk3 2 3 (inI i 4 && inI j 2) (!gab q (toN i)) (inL v0 0 1000)))) ∧ RP g o r A x1 y1 q H ∧ ∃ f : Nat → Int64, va_at g.1 cl0 (oua g ou f) H ∧ ((inI i 4 && inI j 2) = true → (!gab q (toN i)) = true → (inL v0 0 1000) = true → f 0 = lN (prt (q (toN i) * ((toL v0 : Nat) : Rat)) (toN j)))) := by
  refine WM.of (by decide) (Nat.le_of_ble_eq_true rfl) (fun p e s m below meth c ls X hE hG hl => ?_)
  obtain ⟨⟨hP, hF⟩, hou⟩ := hG
  have hP := PP.cons hou hP
  have hl : lv_has ls 7 [(0, .ref o), (1, .int i), (2, .long v0), (4, .int j), (5, .ref ou)] := hl
  have hX : hxf (fun q => q = ou) s.heap s.heap := hxf.rf
  have hlo : lok (fun q => q = ou) s.heap.size ([] : List Loc) := lok.nil
  have hP : PP g [oua g ou f0, ob o x1 y1 r, ar g r A] s.heap := hP
  refine lv_aload X.1 X.2.1 dL_mouth_0 (lv_at hl 4 rfl) ?_
  refine lv_iconst (v := nI 0) X.1 X.2.1 dL_mouth_2 (by decide) ?_
  refine lv_aload_n X.1 X.2.1 dL_mouth_3 rfl (lv_at hl 0 rfl) ?_
  refine lv_iload_n X.1 X.2.1 dL_mouth_4 rfl (lv_at hl 1 rfl) ?_
  refine lv_lload_n X.1 X.2.1 dL_mouth_5 rfl (lv_at hl 2 rfl) ?_
  refine lv_iload X.1 X.2.1 dL_mouth_6 (lv_at hl 3 rfl) ?_
  refine w_callX (C := RX1) (b := o) (As := [.int i, .long v0, .int j]) (rest := [.int (nI 0), .ref ou]) X hE (c_X1_mouth l g o r A x1 y1 q i v0 j hl0 hO) ⟨mw_393, mw_394, mw_395, mw_38, mw_396⟩ sgX1_mouth ⟨rfl, rfl, ⟨by decide, by decide⟩, by decide, by decide⟩ (hP.at 1 rfl) rfl rfl (RP.of hP [1, 2] rfl hF) hxt.rf rfl hl.1 rfl (Nat.le_of_ble_eq_true rfl) dL_mouth_8 (fun E ce q9 H1 hk hpx h1 h2 h3 => ?_) (fun v H1 hk hp => ?_)
  ·
    have hX := hX.tr hk
    have hou := (PP.ext (PP.one hou) hk) 0 _ rfl
    have hRP := RP.ext (RP.of hP [1, 2] rfl hF) hk
    obtain ⟨ha, rfl⟩ | ⟨ha, hs, rfl⟩ | ⟨ha, hs, hg, rfl⟩ := hpx
    ·
      refine hn_catch (own := yL_mouth.cls) (name := eA) (pc := 8) (E := eA) X.2.2.2.1 [] (⟨0, 12, 15, 19⟩ : ExceptionTableEntry) [(⟨0, 12, 19, 25⟩ : ExceptionTableEntry), (⟨0, 12, 23, 13⟩ : ExceptionTableEntry)] (X.2.2.2.2.2.2.2.2) (fun z hz => nomatch hz) (by decide) (by decide) (X.2.2.2.2.1 _ (List.mem_cons_of_mem _ mw_170)) (w_cast hE cA) h1 h2 h3 ?_
      refine W.eq (g2 := F0 m 15 ls [.ref q9]) rfl ?_
      refine lv_astore (lv' := [(6, .ref q9), (0, .ref o), (1, .int i), (2, .long v0), (4, .int j), (5, .ref ou)]) X.1 X.2.1 dL_mouth_15 hl (by decide) rfl (fun ls hl => ?_)
      refine lv_iconst (v := nI 1) X.1 X.2.1 dL_mouth_17 (by decide) ?_
      exact w_iret X hX hlo (⟨by rw [mk3, ha]; rfl, hRP, _, hou, fun h9 h8 h7 => by rw [ha] at h9; cases h9⟩) ⟨by decide, by decide⟩ dL_mouth_18
    ·
      refine hn_catch (own := yL_mouth.cls) (name := eS) (pc := 8) (E := eS) X.2.2.2.1 [(⟨0, 12, 15, 19⟩ : ExceptionTableEntry)] (⟨0, 12, 19, 25⟩ : ExceptionTableEntry) [(⟨0, 12, 23, 13⟩ : ExceptionTableEntry)] (X.2.2.2.2.2.2.2.2) (fun z hz => by simp only [List.mem_cons, List.not_mem_nil, or_false] at hz; subst hz <;> first | exact Or.inr ⟨by decide, eA, X.2.2.2.2.1 _ (List.mem_cons_of_mem _ mw_170), hE.2.2.2.1.1⟩) (by decide) (by decide) (X.2.2.2.2.1 _ (List.mem_cons_of_mem _ mw_211)) (w_cast hE cS) h1 h2 h3 ?_
      refine W.eq (g2 := F0 m 19 ls [.ref q9]) rfl ?_
      refine lv_astore (lv' := [(6, .ref q9), (0, .ref o), (1, .int i), (2, .long v0), (4, .int j), (5, .ref ou)]) X.1 X.2.1 dL_mouth_19 hl (by decide) rfl (fun ls hl => ?_)
      refine lv_iconst (v := nI 2) X.1 X.2.1 dL_mouth_21 (by decide) ?_
      exact w_iret X hX hlo (⟨by rw [mk3, ha, hs]; rfl, hRP, _, hou, fun h9 h8 h7 => by rw [hs] at h8; cases h8⟩) ⟨by decide, by decide⟩ dL_mouth_22
    ·
      refine hn_catch (own := yL_mouth.cls) (name := eG) (pc := 8) (E := eG) X.2.2.2.1 [(⟨0, 12, 15, 19⟩ : ExceptionTableEntry), (⟨0, 12, 19, 25⟩ : ExceptionTableEntry)] (⟨0, 12, 23, 13⟩ : ExceptionTableEntry) [] (X.2.2.2.2.2.2.2.2) (fun z hz => by simp only [List.mem_cons, List.not_mem_nil, or_false] at hz; rcases hz with rfl | rfl <;> first | exact Or.inr ⟨by decide, eA, X.2.2.2.2.1 _ (List.mem_cons_of_mem _ mw_170), hE.2.2.2.1.2.1⟩ | exact Or.inr ⟨by decide, eS, X.2.2.2.2.1 _ (List.mem_cons_of_mem _ mw_211), hE.2.2.2.1.2.2⟩) (by decide) (by decide) (X.2.2.2.2.1 _ (List.mem_cons_of_mem _ mw_90)) (w_cast hE cG) h1 h2 h3 ?_
      refine W.eq (g2 := F0 m 23 ls [.ref q9]) rfl ?_
      refine lv_astore (lv' := [(6, .ref q9), (0, .ref o), (1, .int i), (2, .long v0), (4, .int j), (5, .ref ou)]) X.1 X.2.1 dL_mouth_23 hl (by decide) rfl (fun ls hl => ?_)
      refine lv_iconst (v := nI 3) X.1 X.2.1 dL_mouth_25 (by decide) ?_
      exact w_iret X hX hlo (⟨by rw [mk3, ha, hs, hg]; rfl, hRP, _, hou, fun h9 h8 h7 => by rw [hg] at h7; cases h7⟩) ⟨by decide, by decide⟩ dL_mouth_26
  ·
    have hX := hX.tr hk
    have hP := PP.ext hP hk
    have hF := RF.ext hF hk
    obtain ⟨⟨ha, hs, hg⟩, rfl⟩ := hp
    refine W.eq (g2 := F0 m 11 ls [.long (lN (prt (q (toN i) * ((toL v0 : Nat) : Rat)) (toN j))), .int (nI 0), .ref ou]) rfl ?_
    refine w_last (F := fun q => q = ou) X (hP.at 0 rfl) (k := 0) (by decide) (by decide) (Or.inl rfl) hlo dL_mouth_11 (fun H2 locs hpa hlo hat => ?_)
    have hX := hX.tra rfl hpa
    have hRP := RP.exa (RP.of hP [1, 2] rfl hF) hpa hU
    refine lv_goto (tgt := 27) X.1 X.2.1 dL_mouth_12 (by decide) ?_
    refine lv_iconst (v := nI 0) X.1 X.2.1 dL_mouth_27 (by decide) ?_
    exact w_iret X hX hlo (⟨by rw [mk3, ha, hs, hg]; rfl, hRP, _, hat, fun _ _ _ => by simp [vp_updL]⟩) ⟨by decide, by decide⟩ dL_mouth_28
set_option maxHeartbeats 4000000 in
set_option maxRecDepth 100000 in
theorem c_L_hip (l : Launch) (g : En) (o r : Nat) (A : Nat → Nat) (x1 y1 : Nat) (q : Nat → Rat) (ou : Nat) (f0 : Nat → Int64) (i wh j : Int32) (hl0 : l.stackTraces = false) (hO : OK x1 y1 q) (hU : OD o r ou A) : WM l yL_hip cL_hip 6 [(0, 11, 14, 19), (0, 11, 18, 25)] { frames := 9, cells := 12, slots := 44, locals := 149 } g [.ref o, .int i, .int wh, .int j, .ref ou] (fun H => RP g o r A x1 y1 q H ∧ va_at g.1 cl0 (oua g ou f0) H) (fun q => q = ou) 12 44 (fun v H => v = some (.int (nI (mk3 2 3 (inI i 4 && inI wh 2 && inI j 2) (!gab q (toN i) && !gab q (behind (toN i))) (true)))) ∧ RP g o r A x1 y1 q H ∧ ∃ f : Nat → Int64, va_at g.1 cl0 (oua g ou f) H ∧ ((inI i 4 && inI wh 2 && inI j 2) = true → (!gab q (toN i) && !gab q (behind (toN i))) = true → (true) = true → f 0 = lN (prt (pk x1 y1 q * q (if toN wh = 0 then toN i else behind (toN i))) (toN j)))) := by
  refine WM.of (by decide) (Nat.le_of_ble_eq_true rfl) (fun p e s m below meth c ls X hE hG hl => ?_)
  obtain ⟨⟨hP, hF⟩, hou⟩ := hG
  have hP := PP.cons hou hP
  have hl : lv_has ls 6 [(0, .ref o), (1, .int i), (2, .int wh), (3, .int j), (4, .ref ou)] := hl
  have hX : hxf (fun q => q = ou) s.heap s.heap := hxf.rf
  have hlo : lok (fun q => q = ou) s.heap.size ([] : List Loc) := lok.nil
  have hP : PP g [oua g ou f0, ob o x1 y1 r, ar g r A] s.heap := hP
  refine lv_aload X.1 X.2.1 dL_hip_0 (lv_at hl 4 rfl) ?_
  refine lv_iconst (v := nI 0) X.1 X.2.1 dL_hip_2 (by decide) ?_
  refine lv_aload_n X.1 X.2.1 dL_hip_3 rfl (lv_at hl 0 rfl) ?_
  refine lv_iload_n X.1 X.2.1 dL_hip_4 rfl (lv_at hl 1 rfl) ?_
  refine lv_iload_n X.1 X.2.1 dL_hip_5 rfl (lv_at hl 2 rfl) ?_
  refine lv_iload_n X.1 X.2.1 dL_hip_6 rfl (lv_at hl 3 rfl) ?_
  refine w_callX (C := RX1) (b := o) (As := [.int i, .int wh, .int j]) (rest := [.int (nI 0), .ref ou]) X hE (c_X1_hip l g o r A x1 y1 q i wh j hl0 hO) ⟨mw_400, mw_401, mw_402, mw_38, mw_403⟩ sgX1_hip ⟨rfl, rfl, ⟨by decide, by decide⟩, by decide, by decide⟩ (hP.at 1 rfl) rfl rfl (RP.of hP [1, 2] rfl hF) hxt.rf rfl hl.1 rfl (Nat.le_of_ble_eq_true rfl) dL_hip_7 (fun E ce q9 H1 hk hpx h1 h2 h3 => ?_) (fun v H1 hk hp => ?_)
  ·
    have hX := hX.tr hk
    have hou := (PP.ext (PP.one hou) hk) 0 _ rfl
    have hRP := RP.ext (RP.of hP [1, 2] rfl hF) hk
    obtain ⟨ha, rfl⟩ | ⟨ha, hs, rfl⟩ | ⟨ha, hs, hg, rfl⟩ := hpx
    ·
      refine hn_catch (own := yL_hip.cls) (name := eA) (pc := 7) (E := eA) X.2.2.2.1 [] (⟨0, 11, 14, 19⟩ : ExceptionTableEntry) [(⟨0, 11, 18, 25⟩ : ExceptionTableEntry)] (X.2.2.2.2.2.2.2.2) (fun z hz => nomatch hz) (by decide) (by decide) (X.2.2.2.2.1 _ (List.mem_cons_of_mem _ mw_170)) (w_cast hE cA) h1 h2 h3 ?_
      refine W.eq (g2 := F0 m 14 ls [.ref q9]) rfl ?_
      refine lv_astore (lv' := [(5, .ref q9), (0, .ref o), (1, .int i), (2, .int wh), (3, .int j), (4, .ref ou)]) X.1 X.2.1 dL_hip_14 hl (by decide) rfl (fun ls hl => ?_)
      refine lv_iconst (v := nI 1) X.1 X.2.1 dL_hip_16 (by decide) ?_
      exact w_iret X hX hlo (⟨by rw [mk3, ha]; rfl, hRP, _, hou, fun h9 h8 h7 => by rw [ha] at h9; cases h9⟩) ⟨by decide, by decide⟩ dL_hip_17
    ·
      refine hn_catch (own := yL_hip.cls) (name := eS) (pc := 7) (E := eS) X.2.2.2.1 [(⟨0, 11, 14, 19⟩ : ExceptionTableEntry)] (⟨0, 11, 18, 25⟩ : ExceptionTableEntry) [] (X.2.2.2.2.2.2.2.2) (fun z hz => by simp only [List.mem_cons, List.not_mem_nil, or_false] at hz; subst hz <;> first | exact Or.inr ⟨by decide, eA, X.2.2.2.2.1 _ (List.mem_cons_of_mem _ mw_170), hE.2.2.2.1.1⟩) (by decide) (by decide) (X.2.2.2.2.1 _ (List.mem_cons_of_mem _ mw_211)) (w_cast hE cS) h1 h2 h3 ?_
      refine W.eq (g2 := F0 m 18 ls [.ref q9]) rfl ?_
      refine lv_astore (lv' := [(5, .ref q9), (0, .ref o), (1, .int i), (2, .int wh), (3, .int j), (4, .ref ou)]) X.1 X.2.1 dL_hip_18 hl (by decide) rfl (fun ls hl => ?_)
      refine lv_iconst (v := nI 2) X.1 X.2.1 dL_hip_20 (by decide) ?_
      exact w_iret X hX hlo (⟨by rw [mk3, ha, hs]; rfl, hRP, _, hou, fun h9 h8 h7 => by rw [hs] at h8; cases h8⟩) ⟨by decide, by decide⟩ dL_hip_21
    ·
      exact absurd hg (by decide)
  ·
    have hX := hX.tr hk
    have hP := PP.ext hP hk
    have hF := RF.ext hF hk
    obtain ⟨⟨ha, hs, hg⟩, rfl⟩ := hp
    refine W.eq (g2 := F0 m 10 ls [.long (lN (prt (pk x1 y1 q * q (if toN wh = 0 then toN i else behind (toN i))) (toN j))), .int (nI 0), .ref ou]) rfl ?_
    refine w_last (F := fun q => q = ou) X (hP.at 0 rfl) (k := 0) (by decide) (by decide) (Or.inl rfl) hlo dL_hip_10 (fun H2 locs hpa hlo hat => ?_)
    have hX := hX.tra rfl hpa
    have hRP := RP.exa (RP.of hP [1, 2] rfl hF) hpa hU
    refine lv_goto (tgt := 22) X.1 X.2.1 dL_hip_11 (by decide) ?_
    refine lv_iconst (v := nI 0) X.1 X.2.1 dL_hip_22 (by decide) ?_
    exact w_iret X hX hlo (⟨by rw [mk3, ha, hs, hg]; rfl, hRP, _, hat, fun _ _ _ => by simp [vp_updL]⟩) ⟨by decide, by decide⟩ dL_hip_23
set_option maxHeartbeats 4000000 in
set_option maxRecDepth 100000 in
theorem c_L_peak (l : Launch) (g : En) (o r : Nat) (A : Nat → Nat) (x1 y1 : Nat) (q : Nat → Rat) (ou : Nat) (f0 : Nat → Int64) (j : Int32) (hl0 : l.stackTraces = false) (hO : OK x1 y1 q) (hU : OD o r ou A) : WM l yL_peak cL_peak 4 [(0, 8, 11, 19)] { frames := 9, cells := 7, slots := 18, locals := 137 } g [.ref o, .int j, .ref ou] (fun H => RP g o r A x1 y1 q H ∧ va_at g.1 cl0 (oua g ou f0) H) (fun q => q = ou) 7 18 (fun v H => v = some (.int (nI (mk3 2 3 (inI j 2) (true) (true)))) ∧ RP g o r A x1 y1 q H ∧ ∃ f : Nat → Int64, va_at g.1 cl0 (oua g ou f) H ∧ ((inI j 2) = true → (true) = true → (true) = true → f 0 = lN (prt (pk x1 y1 q) (toN j)))) := by
  refine WM.of (by decide) (Nat.le_of_ble_eq_true rfl) (fun p e s m below meth c ls X hE hG hl => ?_)
  obtain ⟨⟨hP, hF⟩, hou⟩ := hG
  have hP := PP.cons hou hP
  have hl : lv_has ls 4 [(0, .ref o), (1, .int j), (2, .ref ou)] := hl
  have hX : hxf (fun q => q = ou) s.heap s.heap := hxf.rf
  have hlo : lok (fun q => q = ou) s.heap.size ([] : List Loc) := lok.nil
  have hP : PP g [oua g ou f0, ob o x1 y1 r, ar g r A] s.heap := hP
  refine lv_aload_n X.1 X.2.1 dL_peak_0 rfl (lv_at hl 2 rfl) ?_
  refine lv_iconst (v := nI 0) X.1 X.2.1 dL_peak_1 (by decide) ?_
  refine lv_aload_n X.1 X.2.1 dL_peak_2 rfl (lv_at hl 0 rfl) ?_
  refine lv_iload_n X.1 X.2.1 dL_peak_3 rfl (lv_at hl 1 rfl) ?_
  refine w_callX (C := RX1) (b := o) (As := [.int j]) (rest := [.int (nI 0), .ref ou]) X hE (c_X1_peak l g o r A x1 y1 q j hl0 hO) ⟨mw_418, mw_419, mw_420, mw_38, mw_421⟩ sgX1_peak ⟨rfl, rfl, ⟨by decide, by decide⟩, by decide, by decide⟩ (hP.at 1 rfl) rfl rfl (RP.of hP [1, 2] rfl hF) hxt.rf rfl hl.1 rfl (Nat.le_of_ble_eq_true rfl) dL_peak_4 (fun E ce q9 H1 hk hpx h1 h2 h3 => ?_) (fun v H1 hk hp => ?_)
  ·
    have hX := hX.tr hk
    have hou := (PP.ext (PP.one hou) hk) 0 _ rfl
    have hRP := RP.ext (RP.of hP [1, 2] rfl hF) hk
    obtain ⟨ha, rfl⟩ | ⟨ha, hs, rfl⟩ | ⟨ha, hs, hg, rfl⟩ := hpx
    ·
      refine hn_catch (own := yL_peak.cls) (name := eA) (pc := 4) (E := eA) X.2.2.2.1 [] (⟨0, 8, 11, 19⟩ : ExceptionTableEntry) [] (X.2.2.2.2.2.2.2.2) (fun z hz => nomatch hz) (by decide) (by decide) (X.2.2.2.2.1 _ (List.mem_cons_of_mem _ mw_170)) (w_cast hE cA) h1 h2 h3 ?_
      refine W.eq (g2 := F0 m 11 ls [.ref q9]) rfl ?_
      refine lv_astore_n (lv' := [(3, .ref q9), (0, .ref o), (1, .int j), (2, .ref ou)]) X.1 X.2.1 dL_peak_11 rfl hl (by decide) rfl (fun ls hl => ?_)
      refine lv_iconst (v := nI 1) X.1 X.2.1 dL_peak_12 (by decide) ?_
      exact w_iret X hX hlo (⟨by rw [mk3, ha]; rfl, hRP, _, hou, fun h9 h8 h7 => by rw [ha] at h9; cases h9⟩) ⟨by decide, by decide⟩ dL_peak_13
    ·
      exact absurd hs (by decide)
    ·
      exact absurd hg (by decide)
  ·
    have hX := hX.tr hk
    have hP := PP.ext hP hk
    have hF := RF.ext hF hk
    obtain ⟨⟨ha, hs, hg⟩, rfl⟩ := hp
    refine W.eq (g2 := F0 m 7 ls [.long (lN (prt (pk x1 y1 q) (toN j))), .int (nI 0), .ref ou]) rfl ?_
    refine w_last (F := fun q => q = ou) X (hP.at 0 rfl) (k := 0) (by decide) (by decide) (Or.inl rfl) hlo dL_peak_7 (fun H2 locs hpa hlo hat => ?_)
    have hX := hX.tra rfl hpa
    have hRP := RP.exa (RP.of hP [1, 2] rfl hF) hpa hU
    refine lv_goto (tgt := 14) X.1 X.2.1 dL_peak_8 (by decide) ?_
    refine lv_iconst (v := nI 0) X.1 X.2.1 dL_peak_14 (by decide) ?_
    exact w_iret X hX hlo (⟨by rw [mk3, ha, hs, hg]; rfl, hRP, _, hat, fun _ _ _ => by simp [vp_updL]⟩) ⟨by decide, by decide⟩ dL_peak_15
set_option maxHeartbeats 4000000 in
set_option maxRecDepth 100000 in
theorem c_L_ridge (l : Launch) (g : En) (o r : Nat) (A : Nat → Nat) (x1 y1 : Nat) (q : Nat → Rat) (ou : Nat) (f0 : Nat → Int64) (i j : Int32) (hl0 : l.stackTraces = false) (hO : OK x1 y1 q) (hU : OD o r ou A) : WM l yL_ridge cL_ridge 5 [(0, 9, 12, 19)] { frames := 9, cells := 10, slots := 28, locals := 168 } g [.ref o, .int i, .int j, .ref ou] (fun H => RP g o r A x1 y1 q H ∧ va_at g.1 cl0 (oua g ou f0) H) (fun q => q = ou) 10 28 (fun v H => v = some (.int (nI (mk3 2 3 (inI i 4 && inI j 2) (true) (true)))) ∧ RP g o r A x1 y1 q H ∧ ∃ f : Nat → Int64, va_at g.1 cl0 (oua g ou f) H ∧ ((inI i 4 && inI j 2) = true → (true) = true → (true) = true → f 0 = lN (prt (rdg x1 y1 q (toN i)) (toN j)))) := by
  refine WM.of (by decide) (Nat.le_of_ble_eq_true rfl) (fun p e s m below meth c ls X hE hG hl => ?_)
  obtain ⟨⟨hP, hF⟩, hou⟩ := hG
  have hP := PP.cons hou hP
  have hl : lv_has ls 5 [(0, .ref o), (1, .int i), (2, .int j), (3, .ref ou)] := hl
  have hX : hxf (fun q => q = ou) s.heap s.heap := hxf.rf
  have hlo : lok (fun q => q = ou) s.heap.size ([] : List Loc) := lok.nil
  have hP : PP g [oua g ou f0, ob o x1 y1 r, ar g r A] s.heap := hP
  refine lv_aload_n X.1 X.2.1 dL_ridge_0 rfl (lv_at hl 3 rfl) ?_
  refine lv_iconst (v := nI 0) X.1 X.2.1 dL_ridge_1 (by decide) ?_
  refine lv_aload_n X.1 X.2.1 dL_ridge_2 rfl (lv_at hl 0 rfl) ?_
  refine lv_iload_n X.1 X.2.1 dL_ridge_3 rfl (lv_at hl 1 rfl) ?_
  refine lv_iload_n X.1 X.2.1 dL_ridge_4 rfl (lv_at hl 2 rfl) ?_
  refine w_callX (C := RX1) (b := o) (As := [.int i, .int j]) (rest := [.int (nI 0), .ref ou]) X hE (c_X1_ridge l g o r A x1 y1 q i j hl0 hO) ⟨mw_425, mw_426, mw_427, mw_38, mw_428⟩ sgX1_ridge ⟨rfl, rfl, ⟨by decide, by decide⟩, by decide, by decide⟩ (hP.at 1 rfl) rfl rfl (RP.of hP [1, 2] rfl hF) hxt.rf rfl hl.1 rfl (Nat.le_of_ble_eq_true rfl) dL_ridge_5 (fun E ce q9 H1 hk hpx h1 h2 h3 => ?_) (fun v H1 hk hp => ?_)
  ·
    have hX := hX.tr hk
    have hou := (PP.ext (PP.one hou) hk) 0 _ rfl
    have hRP := RP.ext (RP.of hP [1, 2] rfl hF) hk
    obtain ⟨ha, rfl⟩ | ⟨ha, hs, rfl⟩ | ⟨ha, hs, hg, rfl⟩ := hpx
    ·
      refine hn_catch (own := yL_ridge.cls) (name := eA) (pc := 5) (E := eA) X.2.2.2.1 [] (⟨0, 9, 12, 19⟩ : ExceptionTableEntry) [] (X.2.2.2.2.2.2.2.2) (fun z hz => nomatch hz) (by decide) (by decide) (X.2.2.2.2.1 _ (List.mem_cons_of_mem _ mw_170)) (w_cast hE cA) h1 h2 h3 ?_
      refine W.eq (g2 := F0 m 12 ls [.ref q9]) rfl ?_
      refine lv_astore (lv' := [(4, .ref q9), (0, .ref o), (1, .int i), (2, .int j), (3, .ref ou)]) X.1 X.2.1 dL_ridge_12 hl (by decide) rfl (fun ls hl => ?_)
      refine lv_iconst (v := nI 1) X.1 X.2.1 dL_ridge_14 (by decide) ?_
      exact w_iret X hX hlo (⟨by rw [mk3, ha]; rfl, hRP, _, hou, fun h9 h8 h7 => by rw [ha] at h9; cases h9⟩) ⟨by decide, by decide⟩ dL_ridge_15
    ·
      exact absurd hs (by decide)
    ·
      exact absurd hg (by decide)
  ·
    have hX := hX.tr hk
    have hP := PP.ext hP hk
    have hF := RF.ext hF hk
    obtain ⟨⟨ha, hs, hg⟩, rfl⟩ := hp
    refine W.eq (g2 := F0 m 8 ls [.long (lN (prt (rdg x1 y1 q (toN i)) (toN j))), .int (nI 0), .ref ou]) rfl ?_
    refine w_last (F := fun q => q = ou) X (hP.at 0 rfl) (k := 0) (by decide) (by decide) (Or.inl rfl) hlo dL_ridge_8 (fun H2 locs hpa hlo hat => ?_)
    have hX := hX.tra rfl hpa
    have hRP := RP.exa (RP.of hP [1, 2] rfl hF) hpa hU
    refine lv_goto (tgt := 16) X.1 X.2.1 dL_ridge_9 (by decide) ?_
    refine lv_iconst (v := nI 0) X.1 X.2.1 dL_ridge_16 (by decide) ?_
    exact w_iret X hX hlo (⟨by rw [mk3, ha, hs, hg]; rfl, hRP, _, hat, fun _ _ _ => by simp [vp_updL]⟩) ⟨by decide, by decide⟩ dL_ridge_17
set_option maxHeartbeats 4000000 in
set_option maxRecDepth 100000 in
theorem c_L_area (l : Launch) (g : En) (o r : Nat) (A : Nat → Nat) (x1 y1 : Nat) (q : Nat → Rat) (ou : Nat) (f0 : Nat → Int64) (i j : Int32) (hl0 : l.stackTraces = false) (hO : OK x1 y1 q) (hU : OD o r ou A) : WM l yL_area cL_area 5 [(0, 9, 12, 19), (0, 9, 16, 25)] { frames := 9, cells := 14, slots := 40, locals := 150 } g [.ref o, .int i, .int j, .ref ou] (fun H => RP g o r A x1 y1 q H ∧ va_at g.1 cl0 (oua g ou f0) H) (fun q => q = ou) 14 40 (fun v H => v = some (.int (nI (mk3 2 3 (inI i 4 && inI j 2) (!gab q (toN i)) (true)))) ∧ RP g o r A x1 y1 q H ∧ ∃ f : Nat → Int64, va_at g.1 cl0 (oua g ou f) H ∧ ((inI i 4 && inI j 2) = true → (!gab q (toN i)) = true → (true) = true → f 0 = lN (prt (are x1 y1 q (toN i)) (toN j)))) := by
  refine WM.of (by decide) (Nat.le_of_ble_eq_true rfl) (fun p e s m below meth c ls X hE hG hl => ?_)
  obtain ⟨⟨hP, hF⟩, hou⟩ := hG
  have hP := PP.cons hou hP
  have hl : lv_has ls 5 [(0, .ref o), (1, .int i), (2, .int j), (3, .ref ou)] := hl
  have hX : hxf (fun q => q = ou) s.heap s.heap := hxf.rf
  have hlo : lok (fun q => q = ou) s.heap.size ([] : List Loc) := lok.nil
  have hP : PP g [oua g ou f0, ob o x1 y1 r, ar g r A] s.heap := hP
  refine lv_aload_n X.1 X.2.1 dL_area_0 rfl (lv_at hl 3 rfl) ?_
  refine lv_iconst (v := nI 0) X.1 X.2.1 dL_area_1 (by decide) ?_
  refine lv_aload_n X.1 X.2.1 dL_area_2 rfl (lv_at hl 0 rfl) ?_
  refine lv_iload_n X.1 X.2.1 dL_area_3 rfl (lv_at hl 1 rfl) ?_
  refine lv_iload_n X.1 X.2.1 dL_area_4 rfl (lv_at hl 2 rfl) ?_
  refine w_callX (C := RX1) (b := o) (As := [.int i, .int j]) (rest := [.int (nI 0), .ref ou]) X hE (c_X1_area l g o r A x1 y1 q i j hl0 hO) ⟨mw_440, mw_441, mw_442, mw_38, mw_443⟩ sgX1_area ⟨rfl, rfl, ⟨by decide, by decide⟩, by decide, by decide⟩ (hP.at 1 rfl) rfl rfl (RP.of hP [1, 2] rfl hF) hxt.rf rfl hl.1 rfl (Nat.le_of_ble_eq_true rfl) dL_area_5 (fun E ce q9 H1 hk hpx h1 h2 h3 => ?_) (fun v H1 hk hp => ?_)
  ·
    have hX := hX.tr hk
    have hou := (PP.ext (PP.one hou) hk) 0 _ rfl
    have hRP := RP.ext (RP.of hP [1, 2] rfl hF) hk
    obtain ⟨ha, rfl⟩ | ⟨ha, hs, rfl⟩ | ⟨ha, hs, hg, rfl⟩ := hpx
    ·
      refine hn_catch (own := yL_area.cls) (name := eA) (pc := 5) (E := eA) X.2.2.2.1 [] (⟨0, 9, 12, 19⟩ : ExceptionTableEntry) [(⟨0, 9, 16, 25⟩ : ExceptionTableEntry)] (X.2.2.2.2.2.2.2.2) (fun z hz => nomatch hz) (by decide) (by decide) (X.2.2.2.2.1 _ (List.mem_cons_of_mem _ mw_170)) (w_cast hE cA) h1 h2 h3 ?_
      refine W.eq (g2 := F0 m 12 ls [.ref q9]) rfl ?_
      refine lv_astore (lv' := [(4, .ref q9), (0, .ref o), (1, .int i), (2, .int j), (3, .ref ou)]) X.1 X.2.1 dL_area_12 hl (by decide) rfl (fun ls hl => ?_)
      refine lv_iconst (v := nI 1) X.1 X.2.1 dL_area_14 (by decide) ?_
      exact w_iret X hX hlo (⟨by rw [mk3, ha]; rfl, hRP, _, hou, fun h9 h8 h7 => by rw [ha] at h9; cases h9⟩) ⟨by decide, by decide⟩ dL_area_15
    ·
      refine hn_catch (own := yL_area.cls) (name := eS) (pc := 5) (E := eS) X.2.2.2.1 [(⟨0, 9, 12, 19⟩ : ExceptionTableEntry)] (⟨0, 9, 16, 25⟩ : ExceptionTableEntry) [] (X.2.2.2.2.2.2.2.2) (fun z hz => by simp only [List.mem_cons, List.not_mem_nil, or_false] at hz; subst hz <;> first | exact Or.inr ⟨by decide, eA, X.2.2.2.2.1 _ (List.mem_cons_of_mem _ mw_170), hE.2.2.2.1.1⟩) (by decide) (by decide) (X.2.2.2.2.1 _ (List.mem_cons_of_mem _ mw_211)) (w_cast hE cS) h1 h2 h3 ?_
      refine W.eq (g2 := F0 m 16 ls [.ref q9]) rfl ?_
      refine lv_astore (lv' := [(4, .ref q9), (0, .ref o), (1, .int i), (2, .int j), (3, .ref ou)]) X.1 X.2.1 dL_area_16 hl (by decide) rfl (fun ls hl => ?_)
      refine lv_iconst (v := nI 2) X.1 X.2.1 dL_area_18 (by decide) ?_
      exact w_iret X hX hlo (⟨by rw [mk3, ha, hs]; rfl, hRP, _, hou, fun h9 h8 h7 => by rw [hs] at h8; cases h8⟩) ⟨by decide, by decide⟩ dL_area_19
    ·
      exact absurd hg (by decide)
  ·
    have hX := hX.tr hk
    have hP := PP.ext hP hk
    have hF := RF.ext hF hk
    obtain ⟨⟨ha, hs, hg⟩, rfl⟩ := hp
    refine W.eq (g2 := F0 m 8 ls [.long (lN (prt (are x1 y1 q (toN i)) (toN j))), .int (nI 0), .ref ou]) rfl ?_
    refine w_last (F := fun q => q = ou) X (hP.at 0 rfl) (k := 0) (by decide) (by decide) (Or.inl rfl) hlo dL_area_8 (fun H2 locs hpa hlo hat => ?_)
    have hX := hX.tra rfl hpa
    have hRP := RP.exa (RP.of hP [1, 2] rfl hF) hpa hU
    refine lv_goto (tgt := 20) X.1 X.2.1 dL_area_9 (by decide) ?_
    refine lv_iconst (v := nI 0) X.1 X.2.1 dL_area_20 (by decide) ?_
    exact w_iret X hX hlo (⟨by rw [mk3, ha, hs, hg]; rfl, hRP, _, hat, fun _ _ _ => by simp [vp_updL]⟩) ⟨by decide, by decide⟩ dL_area_21
set_option maxHeartbeats 4000000 in
set_option maxRecDepth 100000 in
theorem c_L_batten (l : Launch) (g : En) (o r : Nat) (A : Nat → Nat) (x1 y1 : Nat) (q : Nat → Rat) (ou : Nat) (f0 : Nat → Int64) (i : Int32) (v0 : Int64) (hl0 : l.stackTraces = false) (hO : OK x1 y1 q) (hU : OD o r ou A) : WM l yL_batten cL_batten 6 [(0, 11, 14, 19), (0, 11, 18, 25), (0, 11, 22, 13)] { frames := 9, cells := 16, slots := 44, locals := 150 } g [.ref o, .int i, .long v0, .ref ou] (fun H => RP g o r A x1 y1 q H ∧ va_at g.1 cl0 (oua g ou f0) H) (fun q => q = ou) 16 44 (fun v H => v = some (.int (nI (mk3 2 3 (inI i 4) (!gab q (toN i)) (inL v0 1 10000)))) ∧ RP g o r A x1 y1 q H ∧ ∃ f : Nat → Int64, va_at g.1 cl0 (oua g ou f) H ∧ ((inI i 4) = true → (!gab q (toN i)) = true → (inL v0 1 10000) = true → f 0 = (nI (isq (nu (sqr q (toN i) (pk x1 y1 q * q (toN i))) / (sqr q (toN i) (pk x1 y1 q * q (toN i))).den) / toL v0)).toInt64)) := by
  refine WM.of (by decide) (Nat.le_of_ble_eq_true rfl) (fun p e s m below meth c ls X hE hG hl => ?_)
  obtain ⟨⟨hP, hF⟩, hou⟩ := hG
  have hP := PP.cons hou hP
  have hl : lv_has ls 6 [(0, .ref o), (1, .int i), (2, .long v0), (4, .ref ou)] := hl
  have hX : hxf (fun q => q = ou) s.heap s.heap := hxf.rf
  have hlo : lok (fun q => q = ou) s.heap.size ([] : List Loc) := lok.nil
  have hP : PP g [oua g ou f0, ob o x1 y1 r, ar g r A] s.heap := hP
  refine lv_aload X.1 X.2.1 dL_batten_0 (lv_at hl 3 rfl) ?_
  refine lv_iconst (v := nI 0) X.1 X.2.1 dL_batten_2 (by decide) ?_
  refine lv_aload_n X.1 X.2.1 dL_batten_3 rfl (lv_at hl 0 rfl) ?_
  refine lv_iload_n X.1 X.2.1 dL_batten_4 rfl (lv_at hl 1 rfl) ?_
  refine lv_lload_n X.1 X.2.1 dL_batten_5 rfl (lv_at hl 2 rfl) ?_
  refine w_callX (C := RX1) (b := o) (As := [.int i, .long v0]) (rest := [.int (nI 0), .ref ou]) X hE (c_X1_batten l g o r A x1 y1 q i v0 hl0 hO) ⟨mw_452, mw_453, mw_454, mw_38, mw_455⟩ sgX1_batten ⟨rfl, rfl, ⟨by decide, by decide⟩, by decide, by decide⟩ (hP.at 1 rfl) rfl rfl (RP.of hP [1, 2] rfl hF) hxt.rf rfl hl.1 rfl (Nat.le_of_ble_eq_true rfl) dL_batten_6 (fun E ce q9 H1 hk hpx h1 h2 h3 => ?_) (fun v H1 hk hp => ?_)
  ·
    have hX := hX.tr hk
    have hou := (PP.ext (PP.one hou) hk) 0 _ rfl
    have hRP := RP.ext (RP.of hP [1, 2] rfl hF) hk
    obtain ⟨ha, rfl⟩ | ⟨ha, hs, rfl⟩ | ⟨ha, hs, hg, rfl⟩ := hpx
    ·
      refine hn_catch (own := yL_batten.cls) (name := eA) (pc := 6) (E := eA) X.2.2.2.1 [] (⟨0, 11, 14, 19⟩ : ExceptionTableEntry) [(⟨0, 11, 18, 25⟩ : ExceptionTableEntry), (⟨0, 11, 22, 13⟩ : ExceptionTableEntry)] (X.2.2.2.2.2.2.2.2) (fun z hz => nomatch hz) (by decide) (by decide) (X.2.2.2.2.1 _ (List.mem_cons_of_mem _ mw_170)) (w_cast hE cA) h1 h2 h3 ?_
      refine W.eq (g2 := F0 m 14 ls [.ref q9]) rfl ?_
      refine lv_astore (lv' := [(5, .ref q9), (0, .ref o), (1, .int i), (2, .long v0), (4, .ref ou)]) X.1 X.2.1 dL_batten_14 hl (by decide) rfl (fun ls hl => ?_)
      refine lv_iconst (v := nI 1) X.1 X.2.1 dL_batten_16 (by decide) ?_
      exact w_iret X hX hlo (⟨by rw [mk3, ha]; rfl, hRP, _, hou, fun h9 h8 h7 => by rw [ha] at h9; cases h9⟩) ⟨by decide, by decide⟩ dL_batten_17
    ·
      refine hn_catch (own := yL_batten.cls) (name := eS) (pc := 6) (E := eS) X.2.2.2.1 [(⟨0, 11, 14, 19⟩ : ExceptionTableEntry)] (⟨0, 11, 18, 25⟩ : ExceptionTableEntry) [(⟨0, 11, 22, 13⟩ : ExceptionTableEntry)] (X.2.2.2.2.2.2.2.2) (fun z hz => by simp only [List.mem_cons, List.not_mem_nil, or_false] at hz; subst hz <;> first | exact Or.inr ⟨by decide, eA, X.2.2.2.2.1 _ (List.mem_cons_of_mem _ mw_170), hE.2.2.2.1.1⟩) (by decide) (by decide) (X.2.2.2.2.1 _ (List.mem_cons_of_mem _ mw_211)) (w_cast hE cS) h1 h2 h3 ?_
      refine W.eq (g2 := F0 m 18 ls [.ref q9]) rfl ?_
      refine lv_astore (lv' := [(5, .ref q9), (0, .ref o), (1, .int i), (2, .long v0), (4, .ref ou)]) X.1 X.2.1 dL_batten_18 hl (by decide) rfl (fun ls hl => ?_)
      refine lv_iconst (v := nI 2) X.1 X.2.1 dL_batten_20 (by decide) ?_
      exact w_iret X hX hlo (⟨by rw [mk3, ha, hs]; rfl, hRP, _, hou, fun h9 h8 h7 => by rw [hs] at h8; cases h8⟩) ⟨by decide, by decide⟩ dL_batten_21
    ·
      refine hn_catch (own := yL_batten.cls) (name := eG) (pc := 6) (E := eG) X.2.2.2.1 [(⟨0, 11, 14, 19⟩ : ExceptionTableEntry), (⟨0, 11, 18, 25⟩ : ExceptionTableEntry)] (⟨0, 11, 22, 13⟩ : ExceptionTableEntry) [] (X.2.2.2.2.2.2.2.2) (fun z hz => by simp only [List.mem_cons, List.not_mem_nil, or_false] at hz; rcases hz with rfl | rfl <;> first | exact Or.inr ⟨by decide, eA, X.2.2.2.2.1 _ (List.mem_cons_of_mem _ mw_170), hE.2.2.2.1.2.1⟩ | exact Or.inr ⟨by decide, eS, X.2.2.2.2.1 _ (List.mem_cons_of_mem _ mw_211), hE.2.2.2.1.2.2⟩) (by decide) (by decide) (X.2.2.2.2.1 _ (List.mem_cons_of_mem _ mw_90)) (w_cast hE cG) h1 h2 h3 ?_
      refine W.eq (g2 := F0 m 22 ls [.ref q9]) rfl ?_
      refine lv_astore (lv' := [(5, .ref q9), (0, .ref o), (1, .int i), (2, .long v0), (4, .ref ou)]) X.1 X.2.1 dL_batten_22 hl (by decide) rfl (fun ls hl => ?_)
      refine lv_iconst (v := nI 3) X.1 X.2.1 dL_batten_24 (by decide) ?_
      exact w_iret X hX hlo (⟨by rw [mk3, ha, hs, hg]; rfl, hRP, _, hou, fun h9 h8 h7 => by rw [hg] at h7; cases h7⟩) ⟨by decide, by decide⟩ dL_batten_25
  ·
    have hX := hX.tr hk
    have hP := PP.ext hP hk
    have hF := RF.ext hF hk
    obtain ⟨⟨ha, hs, hg⟩, rfl⟩ := hp
    refine W.eq (g2 := F0 m 9 ls [.int (nI (isq (nu (sqr q (toN i) (pk x1 y1 q * q (toN i))) / (sqr q (toN i) (pk x1 y1 q * q (toN i))).den) / toL v0)), .int (nI 0), .ref ou]) rfl ?_
    refine lv_i2l X.1 X.2.1 dL_batten_9 rfl ?_
    refine w_last (F := fun q => q = ou) X (hP.at 0 rfl) (k := 0) (by decide) (by decide) (Or.inl rfl) hlo dL_batten_10 (fun H2 locs hpa hlo hat => ?_)
    have hX := hX.tra rfl hpa
    have hRP := RP.exa (RP.of hP [1, 2] rfl hF) hpa hU
    refine lv_goto (tgt := 26) X.1 X.2.1 dL_batten_11 (by decide) ?_
    refine lv_iconst (v := nI 0) X.1 X.2.1 dL_batten_26 (by decide) ?_
    exact w_iret X hX hlo (⟨by rw [mk3, ha, hs, hg]; rfl, hRP, _, hat, fun _ _ _ => by simp [vp_updL]⟩) ⟨by decide, by decide⟩ dL_batten_27
