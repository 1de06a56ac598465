/-! the classes whose objects the worlds hold; the environment; heaps that only grow -/
abbrev cl0 : List vw_C := [(RX0, TX0, 2), (RX1, TX1, 3), (RX2, TX2, 8)]
abbrev En : Type := va_G × (ClassId × ClassId × ClassId)
abbrev tys0 (z : ClassId × ClassId × ClassId) : List (ClassId × FieldType) := [(z.1, .object "RafterPlaces$Fraction"), (z.2.1, .long), (z.2.2, .boolean)]
abbrev KK (g : En) (U : State) : Prop := va_K g.1 cl0 (tys0 g.2) U
abbrev PP (g : En) (ws : va_W) (H : Heap) : Prop := va_P g.1 cl0 ws H
def hxt (H H1 : Heap) : Prop := H.size ≤ H1.size ∧ ∀ q : Nat, q < H.size → H1[q]? = H[q]?
theorem hxt.rf {H : Heap} : hxt H H := ⟨Nat.le_refl _, fun _ _ => rfl⟩
theorem hxt.tr {H H1 H2 : Heap} (h : hxt H H1) (k : hxt H1 H2) : hxt H H2 := ⟨Nat.le_trans h.1 k.1, fun q hq => (k.2 q (Nat.lt_of_lt_of_le hq h.1)).trans (h.2 q hq)⟩
theorem PP.ext {g : En} {ws : va_W} {H H1 : Heap} (h : PP g ws H) (k : hxt H H1) : PP g ws H1 := fun i q hq => (h i q hq).kept (k.2 q.1 (h i q hq).lt)
theorem PP.cons {g : En} {ws : va_W} {H : Heap} {a : Nat × va_E} (h : va_at g.1 cl0 a H) (k : PP g ws H) : PP g (a :: ws) H := fun i q hq => match i, hq with
  | 0, hq => by cases hq; exact h
  | i + 1, hq => k i q hq
theorem PP.nil {g : En} {H : Heap} : PP g [] H := fun i q hq => by simp at hq
theorem PP.one {g : En} {H : Heap} {a : Nat × va_E} (h : va_at g.1 cl0 a H) : PP g [a] H := PP.cons h PP.nil
theorem PP.at {g : En} {ws : va_W} {H : Heap} (h : PP g ws H) (k : Nat) {a : Nat × va_E} (hk : ws[k]? = some a) : va_at g.1 cl0 a H := h k a hk
theorem tb_GG {c c' : Cond} (h : c' ∈ tb) : GoodIn (c :: tb) (c' :: tb) := fun w hw => by
  rcases List.mem_cons.mp hw with e | hw
  · exact ⟨List.mem_cons_of_mem _ (e ▸ h), good_of_word (e ▸ (List.mem_filter.mp h).2)⟩
  · exact ⟨List.mem_cons_of_mem _ hw, good_of_word (List.mem_filter.mp hw).2⟩
theorem tb_G1 {c w : Cond} (h : w ∈ tb) : w ∈ c :: tb ∧ ((w.onTables && w.keeps) = true ∨ ∃ ty, w = .arrayClass ty) := ⟨List.mem_cons_of_mem _ h, good_of_word (List.mem_filter.mp h).2⟩
theorem tb_GV {c : Cond} {own C : String} {idx nl : Nat} {y : MethodName} {cy : ByteArray} {ret : Option FieldType} (h1 : Cond.methodLink own idx y ∈ tb) (h2 : Cond.instanceMethod y ∈ tb) (h3 : Cond.selects C y y ∈ tb) (h4 : Cond.initialized C ∈ tb) (h5 : Cond.code y cy nl ret ∈ tb) : GoodIn (c :: tb) (wsV own idx C y (Cond.code y cy nl ret :: tb)) := fun w hw => by
  rcases List.mem_append.mp hw with hw | hw
  · simp only [List.mem_cons, List.not_mem_nil, or_false] at hw
    rcases hw with rfl | rfl | rfl | rfl
    · exact tb_G1 h1
    · exact tb_G1 h2
    · exact tb_G1 h3
    · exact tb_G1 h4
  · exact tb_GG h5 w hw
theorem tb_GS {c : Cond} {own : String} {idx nl : Nat} {y : MethodName} {cy : ByteArray} {ret : Option FieldType} (h1 : Cond.methodLink own idx y ∈ tb) (h2 : Cond.static y ∈ tb) (h4 : Cond.initialized own ∈ tb) (h5 : Cond.code y cy nl ret ∈ tb) : GoodIn (c :: tb) (wsS own idx y (Cond.code y cy nl ret :: tb)) := fun w hw => by
  rcases List.mem_append.mp hw with hw | hw
  · simp only [List.mem_cons, List.not_mem_nil, or_false] at hw
    rcases hw with rfl | rfl | rfl
    · exact tb_G1 h1
    · exact tb_G1 h2
    · exact tb_G1 h4
  · exact tb_GG h5 w hw
/-! contracts of methods that change no old cell -/
def pPc (g : En) (av : List Value) (G : Heap → Prop) (sz : Nat) : Array Value → State → Prop := fun v U => v = av.toArray ∧ U.heap.size = sz ∧ G U.heap ∧ KK g U
def pQ (post : Option Value → Heap → Prop) : Array Value → State → Outcome → State → Prop := fun _ st o t => ∃ v, o = .returned v ∧ hxt st.heap t.heap ∧ post v t.heap
def PM (l : Launch) (y : MethodName) (cy : ByteArray) (nl : Nat) (ret : Option FieldType) (rm : Room) (g : En) (av : List Value) (G : Heap → Prop) (mc ms : Nat) (post : Option Value → Heap → Prop) : Prop :=
  ∀ sz : Nat, Met l y (Cond.code y cy nl ret :: tb) rm (pPc g av G sz) (pQ post) mc ms (fun q => sz ≤ q)
theorem pPc_blind {g : En} {av : List Value} {G : Heap → Prop} {sz : Nat} : FrameBlind (pPc g av G sz) := fun a U f mk q => by
  obtain ⟨q0, q1, q2, qK⟩ := q
  exact ⟨q0, q1, q2, va_K.moved (u := U) (U := U.calling f mk a) (Vm.Alike.refl U.vm) qK⟩
/-- what a body knows -/
def CX (p : Program) (s : State) (m : MethodId) (args : Array Value) (meth : Method) (c : Code) (y : MethodName) (cy : ByteArray) (nl : Nat) (ret : Option FieldType) (g : En) : Prop :=
  p.tables.exec = Jvm.exec ∧ c.code = cy ∧ c.maxLocals = nl ∧ s.vm.findClass y.cls = some m.cls ∧ (∀ w ∈ Cond.code y cy nl ret :: tb, w.before args s = true) ∧ meth.sig.returnType = ret ∧ meth.locks = false ∧ KK g s ∧ (y.name = "<init>" → meth.name = "<init>") ∧ c.exceptionTable.isEmpty = true
theorem PM.of {l : Launch} {y : MethodName} {cy : ByteArray} {nl : Nat} {ret : Option FieldType} {rm : Room} {g : En} {av : List Value} {G : Heap → Prop} {mc ms : Nat} {post : Option Value → Heap → Prop} (hy : plainName y.cls = true) (hav : (lg_sl av).length ≤ nl)
    (body : ∀ (p : Program) (e : Env) (s : State) (m : MethodId) (below : List Frame) (meth : Method) (c : Code) (ls : Array Slot), CX p s m av.toArray meth c y cy nl ret g → G s.heap → lv_has ls nl (lv_args 0 av) →
      W p l e rm s m av.toArray below meth c s.heap [] 0 0 (MQ below (pQ post) av.toArray s mc ms (fun q => s.heap.size ≤ q)) (F0 m 0 ls [])) : PM l y cy nl ret rm g av G mc ms post := by
  intro sz
  refine Met.ofW (cc := cy) (maxL := nl) (ret := ret) hy rfl ?_
  intro p e s m args below meth c s₁ B hml hv
  obtain ⟨rfl, hsz, hG, hK⟩ := hv
  subst hsz
  have hts := atoms_spec (ws := Cond.code y cy nl ret :: tb) B.pre
  rw [lg_entry_eq]
  exact body p e s m below meth c _ ⟨B.exec, B.bytes, hml, findClass_of_methodNamed B.named, hts, B.returns, B.notSynchronized, hK, fun h => (name_of_methodNamed B.named B.method).1.trans h, B.noHandlers (hts _ List.mem_cons_self)⟩ hG (lv_entry av hav)
section PW
variable {p : Program} {l : Launch} {e : Env} {R : Room} {s : State} {m : MethodId} {args : Array Value} {below : List Frame} {meth : Method} {c : Code} {H : Heap} {locs : List Loc} {cells slots : Nat} {Q : State → Prop} {pc : Nat} {ls : Array Slot} {rest st0 : List Value} {g : En}
variable {y y' : MethodName} {cy cy' : ByteArray} {nl nl' : Nat} {ret ret' : Option FieldType}
theorem w_l {v v' : Int64} (h : v = v') (k : W p l e R s m args below meth c H locs cells slots Q (F0 m pc ls (.long v' :: rest))) : W p l e R s m args below meth c H locs cells slots Q (F0 m pc ls (.long v :: rest)) := h ▸ k
theorem w_i {v v' : Int32} (h : v = v') (k : W p l e R s m args below meth c H locs cells slots Q (F0 m pc ls (.int v' :: rest))) : W p l e R s m args below meth c H locs cells slots Q (F0 m pc ls (.int v :: rest)) := h ▸ k
variable {mc ms n idx : Nat} {post : Option Value → Heap → Prop} {a : Array Value} {rm : Room} {G : Heap → Prop} {b : Nat} {As : List Value} {C : String}
/-- calls -/
theorem p_call (hr : CallRun p l e R s m args below meth c H locs cells slots mc ms (F0 m pc ls st0) rest (pQ post a) (fun q => H.size ≤ q)) (hs : s.heap.size ≤ H.size)
    (kk : ∀ (v : Option Value) (H1 : Heap), hxt H H1 → post v H1 → W p l e R s m args below meth c H1 locs (cells + mc) (slots + ms) Q (F0 m (pc + 3) ls (v.toList ++ rest))) : W p l e R s m args below meth c H locs cells slots Q (F0 m pc ls st0) := by
  refine W.callX hr (fun x hx => Nat.le_trans hs hx) (fun v st₀ t h0 hq => ?_)
  obtain ⟨v', e1, e2, e3⟩ := hq
  cases e1
  rw [h0] at e2
  exact kk v t.heap e2 e3
theorem p_callV (X : CX p s m args meth c y cy nl ret g) (hM : PM l y' cy' nl' ret' rm g (.ref b :: As) G mc ms post)
    (hw : Cond.methodLink y.cls idx y' ∈ tb ∧ Cond.instanceMethod y' ∈ tb ∧ Cond.selects C y' y' ∈ tb ∧ Cond.initialized C ∈ tb ∧ Cond.code y' cy' nl' ret' ∈ tb)
    (hd : y'.cls = C ∧ y'.cls ≠ "java/lang/invoke/MethodHandle" ∧ y'.cls ≠ "java/lang/invoke/VarHandle" ∧ (parseMethodDescriptor y'.desc).map (fun d => d.parameters.length) = some n)
    (hrm : rm.cells = mc ∧ rm.slots = ms ∧ (rm.frames + 1 ≤ R.frames ∧ 8 + (nl' + 11) + rm.locals ≤ R.locals) ∧ cells + mc ≤ R.cells ∧ slots + ms ≤ R.slots)
    {ci : Nat} {fs : List Value} {q : vw_C} (hat : va_at g.1 cl0 (b, .inr (ci, fs)) H) (hci : cl0[ci]? = some q) (hq : q.1 = C)
    (hG : G H) (hs : s.heap.size ≤ H.size) (hn : As.length = n) (hls : ls.size = nl) (hst : st0 = As.reverse ++ .ref b :: rest) (hrest : (rest.map fun v => v.category).sum ≤ 8) (hdg : decode cy pc = .ok (.invokevirtual idx, 3))
    (kk : ∀ (v : Option Value) (H1 : Heap), hxt H H1 → post v H1 → W p l e R s m args below meth c H1 locs (cells + mc) (slots + ms) Q (F0 m (pc + 3) ls (v.toList ++ rest))) : W p l e R s m args below meth c H locs cells slots Q (F0 m pc ls st0) := by
  obtain ⟨hx, hb, hml, hown, hts, -, -, hK, -⟩ := X
  obtain ⟨h1, h2, h3, h4, h5⟩ := hw
  obtain ⟨r1, r2, r3, r4⟩ := hrm
  subst hq
  exact p_call (a := (Value.ref b :: As).toArray) (W.runV (C := q.1) (n := n) ⟨hx, hb, hml, hown, hts⟩ (hM H.size) (cwV n hts (tb_GV h1 h2 h3 h4 h5) rfl r1 r2 hd r3) ⟨pPc_blind, va_recv (q0 := 0) hK (PP.one hat) hci rfl, fun U hU hW => ⟨rfl, by rw [hU], by rw [hU]; exact hG, va_K.moved hW.alike hK⟩⟩ rfl hn hls hst (lv_room hrest) hdg r4) hs kk
theorem p_callS (X : CX p s m args meth c y cy nl ret g) (hM : PM l y' cy' nl' ret' rm g As G mc ms post)
    (hw : Cond.methodLink y.cls idx y' ∈ tb ∧ Cond.static y' ∈ tb ∧ Cond.initialized y.cls ∈ tb ∧ Cond.code y' cy' nl' ret' ∈ tb)
    (hd : y'.cls = y.cls ∧ y'.cls ≠ "java/lang/invoke/MethodHandle" ∧ y'.cls ≠ "java/lang/invoke/VarHandle" ∧ (parseMethodDescriptor y'.desc).map (fun d => d.parameters.length) = some n)
    (hrm : rm.cells = mc ∧ rm.slots = ms ∧ (rm.frames + 1 ≤ R.frames ∧ 8 + (nl' + 11) + rm.locals ≤ R.locals) ∧ cells + mc ≤ R.cells ∧ slots + ms ≤ R.slots)
    (hG : G H) (hs : s.heap.size ≤ H.size) (hn : As.length = n) (hls : ls.size = nl) (hst : st0 = As.reverse ++ rest) (hrest : (rest.map fun v => v.category).sum ≤ 8) (hdg : decode cy pc = .ok (.invokestatic idx, 3))
    (kk : ∀ (v : Option Value) (H1 : Heap), hxt H H1 → post v H1 → W p l e R s m args below meth c H1 locs (cells + mc) (slots + ms) Q (F0 m (pc + 3) ls (v.toList ++ rest))) : W p l e R s m args below meth c H locs cells slots Q (F0 m pc ls st0) := by
  obtain ⟨hx, hb, hml, hown, hts, -, -, hK, -⟩ := X
  obtain ⟨h1, h2, h4, h5⟩ := hw
  obtain ⟨r1, r2, r3, r4⟩ := hrm
  exact p_call (a := As.toArray) (W.runS (n := n) ⟨hx, hb, hml, hown, hts⟩ (hM H.size) (cwS n hts (tb_GS h1 h2 h4 h5) rfl r1 r2 hd r3) ⟨pPc_blind, fun U hU hW => ⟨rfl, by rw [hU], by rw [hU]; exact hG, va_K.moved hW.alike hK⟩⟩ rfl hn hls hst (lv_room hrest) hdg r4) hs kk
/-- a new object -/
theorem p_new (X : CX p s m args meth c y cy nl ret g) {C : String} {T : u_T} {N ci idx : Nat} (ty : Nat → FieldType) (hty : ∀ k, k < N → parseFieldDescriptor (T k).2.2.1 = some (ty k)) (hin : ∀ w ∈ u_ws C T N, w ∈ tb)
    (hw : Cond.classLink y.cls idx C ∈ tb ∧ Cond.instantiable C N ∈ tb ∧ Cond.initialized C ∈ tb) (hc : cl0[ci]? = some (C, T, N)) (fs : List Value) (hfs : ∀ j, j < N → defaultValue (ty j) = vp_V fs j) (hrm : cells + 1 ≤ R.cells ∧ slots + N ≤ R.slots) (hdg : decode cy pc = .ok (.new idx, 3))
    (kk : ∀ (q : Nat) (H1 : Heap), q = H.size → H1.size = H.size + 1 → hxt H H1 → va_at g.1 cl0 (q, .inr (ci, fs)) H1 → W p l e R s m args below meth c H1 locs (cells + 1) (slots + N) Q (F0 m (pc + 3) ls (.ref q :: rest))) : W p l e R s m args below meth c H locs cells slots Q (F0 m pc ls rest) := by
  obtain ⟨hx, hb, hml, hown, hts, -, -, hK, -⟩ := X
  have hts' : ∀ w ∈ tb, w.before args s = true := fun w h => hts w (List.mem_cons_of_mem _ h)
  have hKn := hK.1 ci _ hc
  refine W.newcK hx hb hown (hts' _ hw.1) (hts' _ hw.2.1) (hts' _ hw.2.2) rfl hdg hrm.1 hrm.2 hKn.2.1 rfl fun H1 kC hkC e1 z1 o1 => ?_
  exact kk H.size H1 rfl z1 ⟨by omega, o1⟩ ⟨_, hc, (u_born ty hts' hin hKn hkC e1 hty).to hfs⟩
/-- a field -/
theorem p_get (X : CX p s m args meth c y cy nl ret g) {ref C : String} {T : u_T} {N ci idx a : Nat} (hin : ∀ w ∈ u_ws C T N, w ∈ tb) {fs : List Value} (hat : va_at g.1 cl0 (a, .inr (ci, fs)) H) (hc : cl0[ci]? = some (C, T, N)) (k : Nat) (hk : k < N) (hl : Cond.fieldLink y.cls idx ref (T k).2.1 (T k).2.2.1 ∈ tb) (hsame : (T k).1 = ref) {v : Value} (hv : fs[k]? = some v) (hdg : decode cy pc = .ok (.getfield idx, 3))
    (kk : W p l e R s m args below meth c H locs cells slots Q (F0 m (pc + 3) ls (v :: rest))) : W p l e R s m args below meth c H locs cells slots Q (F0 m pc ls (.ref a :: rest)) := by
  obtain ⟨hx, hb, hml, hown, hts, -, -, hK, -⟩ := X
  have hts' : ∀ w ∈ tb, w.before args s = true := fun w h => hts w (List.mem_cons_of_mem _ h)
  exact va_get hx hb hts' hin hown hK (PP.one hat) 0 rfl hc k hk (hts' _ hl) (fun x h9 => by rw [← hsame]; exact h9) hv hdg kk
/-- an element of an array of fractions -/
theorem p_aald (X : CX p s m args meth c y cy nl ret g) {a k n : Nat} {f : Nat → Option Nat} (hat : va_at g.1 cl0 (a, .inl (g.2.1, n, .inr (.inr (.inr (.inr f))))) H) (hk : k < n) (hn : n < 2 ^ 31) {r : Nat} (hf : f k = some r) (hdg : decode cy pc = .ok (.aaload, 1))
    (kk : W p l e R s m args below meth c H locs cells slots Q (F0 m (pc + 1) ls (.ref r :: rest))) : W p l e R s m args below meth c H locs cells slots Q (F0 m pc ls (.int (nI k) :: .ref a :: rest)) := by
  obtain ⟨hx, hb, hml, hown, hts, -, -, hK, -⟩ := X
  refine va_aldq hx hb hK (PP.one hat) 0 0 rfl rfl (vp_in_nI hk hn) hdg ?_
  rw [nI_clamp (Nat.lt_trans hk hn), hf]
  exact kk
/-- ends -/
theorem p_lret (X : CX p s m args meth c y cy nl (some .long) g) {v : Int64} {free : Addr → Prop} (hxx : hxt s.heap H) (hp : post (some (.long v)) H) (hc : cells ≤ mc ∧ slots ≤ ms) (hdg : decode cy pc = .ok (.lreturn, 1)) :
    W p l e R s m args below meth c H [] cells slots (MQ below (pQ post) args s mc ms free) (F0 m pc ls [.long v]) := by
  obtain ⟨hx, hb, hml, hown, hts, hr, hlocks, hK, -⟩ := X
  refine W.widen hc.1 hc.2 ?_
  exact W.lret (v := v) hx hb hr (fun t ht hW => ⟨_, rfl, by rw [ht]; exact hxx, by rw [ht]; exact hp⟩) (fun q h => nomatch h) hdg hlocks
theorem p_iret (X : CX p s m args meth c y cy nl (some .int) g) {v : Int32} {free : Addr → Prop} (hxx : hxt s.heap H) (hp : post (some (.int v)) H) (hc : cells ≤ mc ∧ slots ≤ ms) (hdg : decode cy pc = .ok (.ireturn, 1)) :
    W p l e R s m args below meth c H [] cells slots (MQ below (pQ post) args s mc ms free) (F0 m pc ls [.int v]) := by
  obtain ⟨hx, hb, hml, hown, hts, hr, hlocks, hK, -⟩ := X
  refine W.widen hc.1 hc.2 ?_
  exact W.iret (v := v) hx hb hr (fun t ht hW => ⟨_, rfl, by rw [ht]; exact hxx, by rw [ht]; exact hp⟩) (fun q h => nomatch h) hdg hlocks
theorem p_zret (X : CX p s m args meth c y cy nl (some .boolean) g) {v : Bool} {free : Addr → Prop} (hxx : hxt s.heap H) (hp : post (some (.int (if v then 1 else 0))) H) (hc : cells ≤ mc ∧ slots ≤ ms) (hdg : decode cy pc = .ok (.ireturn, 1)) :
    W p l e R s m args below meth c H [] cells slots (MQ below (pQ post) args s mc ms free) (F0 m pc ls [.int (if v then 1 else 0)]) := by
  obtain ⟨hx, hb, hml, hown, hts, hr, hlocks, hK, -⟩ := X
  refine W.widen hc.1 hc.2 ?_
  exact W.zret (v := (if v then 1 else 0)) hx hb hr (by cases v <;> decide) (fun t ht hW => ⟨_, rfl, by rw [ht]; exact hxx, by rw [ht]; exact hp⟩) (fun q h => nomatch h) hdg hlocks
theorem p_aret (X : CX p s m args meth c y cy nl (some (.object C)) g) {v : Nat} {free : Addr → Prop} (hxx : hxt s.heap H) (hp : post (some (.ref v)) H) (hc : cells ≤ mc ∧ slots ≤ ms) (hdg : decode cy pc = .ok (.areturn, 1)) :
    W p l e R s m args below meth c H [] cells slots (MQ below (pQ post) args s mc ms free) (F0 m pc ls [.ref v]) := by
  obtain ⟨hx, hb, hml, hown, hts, hr, hlocks, hK, -⟩ := X
  refine W.widen hc.1 hc.2 ?_
  exact W.aret (v := .ref v) hx hb hr (Or.inl ⟨_, rfl⟩) (Or.inr ⟨_, rfl⟩) (fun t ht hW => ⟨_, rfl, by rw [ht]; exact hxx, by rw [ht]; exact hp⟩) (fun q h => nomatch h) hdg hlocks
theorem p_vret (X : CX p s m args meth c y cy nl none g) {free : Addr → Prop} (hxx : hxt s.heap H) (hp : post none H) (hc : cells ≤ mc ∧ slots ≤ ms) (hdg : decode cy pc = .ok (.return_, 1)) :
    W p l e R s m args below meth c H [] cells slots (MQ below (pQ post) args s mc ms free) (F0 m pc ls []) := by
  obtain ⟨hx, hb, hml, hown, hts, hr, hlocks, hK, -⟩ := X
  refine W.widen hc.1 hc.2 ?_
  exact W.vret hx hb hr (fun t ht hW => ⟨_, rfl, by rw [ht]; exact hxx, by rw [ht]; exact hp⟩) (fun q h => nomatch h) hdg hlocks
end PW
/-! constructors: one cell is written -/
def hxa (a : Nat) (H H1 : Heap) : Prop := H.size ≤ H1.size ∧ ∀ q : Nat, q < H.size → q ≠ a → H1[q]? = H[q]?
theorem hxt.init {H H1 H2 : Heap} {a : Nat} (h : hxt H H1) (ha : H.size ≤ a) (k : hxa a H1 H2) : hxt H H2 := ⟨Nat.le_trans h.1 k.1, fun q hq => (k.2 q (Nat.lt_of_lt_of_le hq h.1) (by omega)).trans (h.2 q hq)⟩
def iPc (g : En) (a : Nat) (av : List Value) (G : Heap → Prop) (sz : Nat) : Array Value → State → Prop := fun v U => v = (Value.ref a :: av).toArray ∧ U.heap.size = sz ∧ G U.heap ∧ KK g U
def iQ (a : Nat) (post : Heap → Prop) : Array Value → State → Outcome → State → Prop := fun _ st o t => o = .returned none ∧ hxa a st.heap t.heap ∧ post t.heap
def IM (l : Launch) (y : MethodName) (cy : ByteArray) (nl : Nat) (rm : Room) (g : En) (a : Nat) (av : List Value) (G : Heap → Prop) (mc ms : Nat) (post : Heap → Prop) : Prop :=
  ∀ sz : Nat, Met l y (Cond.code y cy nl none :: tb) rm (pPc g (.ref a :: av) G sz) (iQ a post) mc ms (fun q => q = a ∨ sz ≤ q)
theorem IM.of {l : Launch} {y : MethodName} {cy : ByteArray} {nl : Nat} {rm : Room} {g : En} {a : Nat} {av : List Value} {G : Heap → Prop} {mc ms : Nat} {post : Heap → Prop} (hy : plainName y.cls = true) (hav : (lg_sl (.ref a :: av)).length ≤ nl)
    (body : ∀ (p : Program) (e : Env) (s : State) (m : MethodId) (below : List Frame) (meth : Method) (c : Code) (ls : Array Slot), CX p s m (Value.ref a :: av).toArray meth c y cy nl none g → G s.heap → lv_has ls nl (lv_args 0 (.ref a :: av)) →
      W p l e rm s m (Value.ref a :: av).toArray below meth c s.heap [] 0 0 (MQ below (iQ a post) (Value.ref a :: av).toArray s mc ms (fun q => q = a ∨ s.heap.size ≤ q)) (F0 m 0 ls [])) : IM l y cy nl rm g a av G mc ms post := by
  intro sz
  refine Met.ofW (cc := cy) (maxL := nl) (ret := none) hy rfl ?_
  intro p e s m args below meth c s₁ B hml hv
  obtain ⟨rfl, hsz, hG, hK⟩ := hv
  subst hsz
  have hts := atoms_spec (ws := Cond.code y cy nl none :: tb) B.pre
  rw [lg_entry_eq]
  exact body p e s m below meth c _ ⟨B.exec, B.bytes, hml, findClass_of_methodNamed B.named, hts, B.returns, B.notSynchronized, hK, fun h => (name_of_methodNamed B.named B.method).1.trans h, B.noHandlers (hts _ List.mem_cons_self)⟩ hG (lv_entry (.ref a :: av) hav)
section PI
variable {p : Program} {l : Launch} {e : Env} {R : Room} {s : State} {m : MethodId} {args : Array Value} {below : List Frame} {meth : Method} {c : Code} {H : Heap} {locs : List Loc} {cells slots : Nat} {Q : State → Prop} {pc : Nat} {ls : Array Slot} {rest st0 : List Value} {g : En}
variable {y y' : MethodName} {cy cy' : ByteArray} {nl nl' : Nat} {ret ret' : Option FieldType}
variable {mc ms n idx : Nat} {post : Heap → Prop} {rm : Room} {G : Heap → Prop} {b : Nat} {As : List Value} {C : String}
theorem p_callI (X : CX p s m args meth c y cy nl ret g) (hM : IM l y' cy' nl' rm g b As G mc ms post)
    (hw : Cond.methodLink y.cls idx y' ∈ tb ∧ Cond.instanceMethod y' ∈ tb ∧ Cond.initialized y'.cls ∈ tb ∧ Cond.code y' cy' nl' none ∈ tb) (hy1 : y'.name = "<init>")
    (hd : y'.cls ≠ "java/lang/invoke/MethodHandle" ∧ y'.cls ≠ "java/lang/invoke/VarHandle" ∧ (parseMethodDescriptor y'.desc).map (fun d => d.parameters.length) = some n)
    (hrm : rm.cells = mc ∧ rm.slots = ms ∧ (rm.frames + 1 ≤ R.frames ∧ 8 + (nl' + 11) + rm.locals ≤ R.locals) ∧ cells + mc ≤ R.cells ∧ slots + ms ≤ R.slots)
    (hG : G H) (hs : s.heap.size ≤ H.size) (hbs : s.heap.size ≤ b) (hn : As.length = n) (hls : ls.size = nl) (hst : st0 = As.reverse ++ .ref b :: rest) (hrest : (rest.map fun v => v.category).sum ≤ 8) (hdg : decode cy pc = .ok (.invokespecial idx, 3))
    (kk : ∀ (H1 : Heap), hxa b H H1 → post H1 → W p l e R s m args below meth c H1 locs (cells + mc) (slots + ms) Q (F0 m (pc + 3) ls rest)) : W p l e R s m args below meth c H locs cells slots Q (F0 m pc ls st0) := by
  obtain ⟨hx, hb, hml, hown, hts, -, -, hK, -⟩ := X
  have hts' : ∀ w ∈ tb, w.before args s = true := fun w h => hts w (List.mem_cons_of_mem _ h)
  obtain ⟨h1, h2, h4, h5⟩ := hw
  obtain ⟨r1, r2, r3, r4⟩ := hrm
  refine W.callX (W.runI (n := n) (As := As) (b := b) (rest := rest) ⟨hx, hb, hml, hown, hts⟩ (hM H.size) (cwI n hts (tb_GG h5) rfl r1 r2 (hts' _ h4) (hts' _ h1) (hts' _ h2) hy1 hd r3) ⟨pPc_blind, fun U hU hW => ⟨rfl, by rw [hU], by rw [hU]; exact hG, va_K.moved hW.alike hK⟩⟩ rfl hn hls hst (lv_room hrest) hdg r4) (fun x hx => ?_) (fun v st₀ t h0 hq => ?_)
  · rcases hx with h | h
    · rw [h]; exact hbs
    · exact Nat.le_trans hs h
  · obtain ⟨e1, e2, e3⟩ := hq
    cases e1
    rw [h0] at e2
    exact kk t.heap e2 e3
/-- a final field of the object that is being made -/
theorem p_putF (X : CX p s m args meth c y cy nl ret g) {T : u_T} {N ci idx a : Nat} (ty0 : Nat → FieldType) (hty : ∀ k, k < N → parseFieldDescriptor (T k).2.2.1 = some (ty0 k)) (hnm : ∀ a, a < N → ∀ b, b < N → a ≠ b → (T a).2.1 ≠ (T b).2.1) (hin : ∀ w ∈ u_ws y.cls T N, w ∈ tb) {fs : List Value} (hat : va_at g.1 cl0 (a, .inr (ci, fs)) H) (hc : cl0[ci]? = some (y.cls, T, N)) (k : Nat) (hk : k < N) (hl : Cond.fieldLink y.cls idx y.cls (T k).2.1 (T k).2.2.1 ∈ tb) (hsame : (T k).1 = y.cls) (hfin : (T k).2.2.2 = true) (hi : y.name = "<init>") {v : Value} {ty : FieldType} (hd : parseFieldDescriptor (T k).2.2.1 = some ty) (hn : narrow ty v = v) (hfit : fits ty v = true) (hl2 : k < fs.length) (hlocs : ∀ q ∈ locs, q.base = a) (hdg : decode cy pc = .ok (.putfield idx, 3))
    (kk : ∀ (H1 : Heap) (locs1 : List Loc), hxa a H H1 → (∀ q ∈ locs1, q.base = a) → va_at g.1 cl0 (a, .inr (ci, fs.set k v)) H1 → W p l e R s m args below meth c H1 locs1 cells slots Q (F0 m (pc + 3) ls rest)) : W p l e R s m args below meth c H locs cells slots Q (F0 m pc ls (v :: .ref a :: rest)) := by
  obtain ⟨hx, hb, hml, hown, hts, -, -, hK, hnm2, -⟩ := X
  have hts' : ∀ w ∈ tb, w.before args s = true := fun w h => hts w (List.mem_cons_of_mem _ h)
  refine va_putF (A := fun q => q = a) (H0 := H) hx hb hts' hin ty0 hty hnm hown hK (PP.one hat) ⟨fun i j p q hi hj _ => ?_, fun k q hq => ?_⟩ ⟨Nat.le_refl _, fun _ _ _ => rfl, fun q h => hlocs q h⟩ 0 rfl hc k hk (hts' _ hl) (fun x h9 => by rw [← hsame]; exact h9) hfin (hnm2 hi) hsame hd hn hfit hl2 hdg (fun H1 locs1 hP1 hD1 hS1 => kk H1 locs1 ⟨hS1.1, fun q h1 h2 => hS1.2.1 q h1 h2⟩ hS1.2.2 (hP1 0 _ rfl))
  · have h1 : i < 1 := (List.getElem?_eq_some_iff.mp hi).1
    have h2 : j < 1 := (List.getElem?_eq_some_iff.mp hj).1
    omega
  · have h1 : k < 1 := (List.getElem?_eq_some_iff.mp hq).1
    rw [show k = 0 by omega] at hq
    cases hq; rfl
theorem p_ivret (X : CX p s m args meth c y cy nl none g) (hxx : hxa b s.heap H) (hlocs : ∀ q ∈ locs, q.base = b) (hp : post H) (hc : cells ≤ mc ∧ slots ≤ ms) (hdg : decode cy pc = .ok (.return_, 1)) :
    W p l e R s m args below meth c H locs cells slots (MQ below (iQ b post) args s mc ms (fun q => q = b ∨ s.heap.size ≤ q)) (F0 m pc ls []) := by
  obtain ⟨hx, hb, hml, hown, hts, hr, hlocks, hK, -⟩ := X
  refine W.widen hc.1 hc.2 ?_
  exact W.vret hx hb hr (fun t ht hW => ⟨rfl, by rw [ht]; exact hxx, by rw [ht]; exact hp⟩) (fun q h => Or.inl (hlocs q h)) hdg hlocks
end PI
theorem uX0 : ∀ w ∈ u_ws RX0 TX0 2, w ∈ tb := by decide +kernel
theorem uX1 : ∀ w ∈ u_ws RX1 TX1 3, w ∈ tb := by decide +kernel
theorem uX2 : ∀ w ∈ u_ws RX2 TX2 8, w ∈ tb := by decide +kernel
