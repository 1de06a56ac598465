/-! contracts of methods that change some old cells -/
def hxf (F : Nat → Prop) (H H1 : Heap) : Prop := H.size ≤ H1.size ∧ ∀ q : Nat, q < H.size → ¬ F q → H1[q]? = H[q]?
theorem hxf.rf {F : Nat → Prop} {H : Heap} : hxf F H H := ⟨Nat.le_refl _, fun _ _ _ => rfl⟩
theorem hxf.tr {F : Nat → Prop} {H H1 H2 : Heap} (h : hxf F H H1) (k : hxt H1 H2) : hxf F H H2 := ⟨Nat.le_trans h.1 k.1, fun q h1 h2 => (k.2 q (Nat.lt_of_lt_of_le h1 h.1)).trans (h.2 q h1 h2)⟩
theorem hxf.trf {F F' : Nat → Prop} {H H1 H2 : Heap} (h : hxf F H H1) (hF : ∀ q, F' q → F q) (k : hxf F' H1 H2) : hxf F H H2 := ⟨Nat.le_trans h.1 k.1, fun q h1 h2 => (k.2 q (Nat.lt_of_lt_of_le h1 h.1) (fun h3 => h2 (hF q h3))).trans (h.2 q h1 h2)⟩
theorem hxf.tra {F : Nat → Prop} {H H1 H2 : Heap} {a : Nat} (h : hxf F H H1) (hF : F a) (k : hxa a H1 H2) : hxf F H H2 := ⟨Nat.le_trans h.1 k.1, fun q h1 h2 => (k.2 q (Nat.lt_of_lt_of_le h1 h.1) (fun h3 => h2 (h3 ▸ hF))).trans (h.2 q h1 h2)⟩
theorem hxf.of {F : Nat → Prop} {H H1 : Heap} (h : hxt H H1) : hxf F H H1 := ⟨h.1, fun q h1 _ => h.2 q h1⟩
def lok (F : Nat → Prop) (sz : Nat) (locs : List Loc) : Prop := ∀ q ∈ locs, F q.base ∨ sz ≤ q.base
theorem lok.nil {F : Nat → Prop} {sz : Nat} : lok F sz [] := fun q h => nomatch h
/-- cells that are not the one that is written stay -/
theorem PP.exa {g : En} {ws : va_W} {H H1 : Heap} {a : Nat} (h : PP g ws H) (k : hxa a H H1) (hd : ∀ q ∈ ws, q.1 ≠ a) : PP g ws H1 := fun i q hq => (h i q hq).kept (k.2 q.1 (h i q hq).lt (hd q (List.mem_of_getElem? hq)))
theorem PP.exf {g : En} {ws : va_W} {H H1 : Heap} {F : Nat → Prop} (h : PP g ws H) (k : hxf F H H1) (hd : ∀ q ∈ ws, ¬ F q.1) : PP g ws H1 := fun i q hq => (h i q hq).kept (k.2 q.1 (h i q hq).lt (hd q (List.mem_of_getElem? hq)))
def fQ (F : Nat → Prop) (post : Option Value → Heap → Prop) : Array Value → State → Outcome → State → Prop := fun _ st o t => ∃ v, o = .returned v ∧ hxf F st.heap t.heap ∧ post v t.heap
def FM (l : Launch) (y : MethodName) (cy : ByteArray) (nl : Nat) (ret : Option FieldType) (rm : Room) (g : En) (av : List Value) (G : Heap → Prop) (F : Nat → Prop) (mc ms : Nat) (post : Option Value → Heap → Prop) : Prop :=
  ∀ sz : Nat, Met l y (Cond.code y cy nl ret :: tb) rm (pPc g av G sz) (fQ F post) mc ms (fun q => F q ∨ sz ≤ q)
theorem FM.of {l : Launch} {y : MethodName} {cy : ByteArray} {nl : Nat} {ret : Option FieldType} {rm : Room} {g : En} {av : List Value} {G : Heap → Prop} {F : Nat → Prop} {mc ms : Nat} {post : Option Value → Heap → Prop} (hy : plainName y.cls = true) (hav : (lg_sl av).length ≤ nl)
    (body : ∀ (p : Program) (e : Env) (s : State) (m : MethodId) (below : List Frame) (meth : Method) (c : Code) (ls : Array Slot), CX p s m av.toArray meth c y cy nl ret g → G s.heap → lv_has ls nl (lv_args 0 av) →
      W p l e rm s m av.toArray below meth c s.heap [] 0 0 (MQ below (fQ F post) av.toArray s mc ms (fun q => F q ∨ s.heap.size ≤ q)) (F0 m 0 ls [])) : FM l y cy nl ret rm g av G F mc ms post := by
  intro sz
  refine Met.ofW (cc := cy) (maxL := nl) (ret := ret) hy rfl ?_
  intro p e s m args below meth c s₁ B hml hv
  obtain ⟨rfl, hsz, hG, hK⟩ := hv
  subst hsz
  have hts := atoms_spec (ws := Cond.code y cy nl ret :: tb) B.pre
  rw [lg_entry_eq]
  exact body p e s m below meth c _ ⟨B.exec, B.bytes, hml, findClass_of_methodNamed B.named, hts, B.returns, B.notSynchronized, hK, fun h => (name_of_methodNamed B.named B.method).1.trans h, B.noHandlers (hts _ List.mem_cons_self)⟩ hG (lv_entry av hav)
/-- .. or throw before they do -/
def YM (l : Launch) (y : MethodName) (cy : ByteArray) (nl : Nat) (ret : Option FieldType) (rm : Room) (g : En) (av : List Value) (G : Heap → Prop) (F : Nat → Prop) (mc ms : Nat) (post : Option Value → Heap → Prop) (px : String → Prop) : Prop :=
  ∀ sz : Nat, vx_Met l y (Cond.code y cy nl ret :: tb) rm (xPc g av G sz) (fQ F post) (xQ px) mc ms (fun q => F q ∨ sz ≤ q)
theorem YM.of {l : Launch} {y : MethodName} {cy : ByteArray} {nl : Nat} {ret : Option FieldType} {rm : Room} {g : En} {av : List Value} {G : Heap → Prop} {F : Nat → Prop} {mc ms : Nat} {post : Option Value → Heap → Prop} {px : String → Prop} (hy : plainName y.cls = true) (hav : (lg_sl av).length ≤ nl)
    (body : ∀ (p : Program) (e : Env) (s : State) (m : MethodId) (below : List Frame) (meth : Method) (c : Code) (ls : Array Slot), CX p s m av.toArray meth c y cy nl ret g → (∀ x ∈ c.exceptionTable.toList, False) → EX s → G s.heap → lv_has ls nl (lv_args 0 av) →
      W p l e rm s m av.toArray below meth c s.heap [] 0 0 (vx_MQ below (fQ F post) (xQ px) av.toArray s mc ms (fun q => F q ∨ s.heap.size ≤ q)) (F0 m 0 ls [])) : YM l y cy nl ret rm g av G F mc ms post px := by
  intro sz
  refine vx_ofW (cc := cy) (maxL := nl) (ret := ret) hy rfl ?_
  intro p e s m args below meth c s₁ B hml hne hv
  obtain ⟨rfl, hsz, hG, hK, hE⟩ := hv
  subst hsz
  have hts := atoms_spec (ws := Cond.code y cy nl ret :: tb) B.pre
  rw [lg_entry_eq]
  exact body p e s m below meth c _ ⟨B.exec, B.bytes, hml, findClass_of_methodNamed B.named, hts, B.returns, B.notSynchronized, hK, fun h => (name_of_methodNamed B.named B.method).1.trans h, B.noHandlers (hts _ List.mem_cons_self)⟩ hne hE hG (lv_entry av hav)
section FW
variable {p : Program} {l : Launch} {e : Env} {R : Room} {s : State} {m : MethodId} {args : Array Value} {below : List Frame} {meth : Method} {c : Code} {H : Heap} {locs : List Loc} {cells slots : Nat} {Q : State → Prop} {pc : Nat} {ls : Array Slot} {rest st0 : List Value} {g : En}
variable {y y' : MethodName} {cy cy' : ByteArray} {nl nl' : Nat} {ret ret' : Option FieldType}
variable {mc ms n idx : Nat} {post : Option Value → Heap → Prop} {px : String → Prop} {a : Array Value} {rm : Room} {G : Heap → Prop} {b : Nat} {As : List Value} {C : String} {F F' : Nat → Prop}
theorem f_call (hr : CallRun p l e R s m args below meth c H locs cells slots mc ms (F0 m pc ls st0) rest (fQ F' post a) (fun q => F' q ∨ H.size ≤ q)) (hs : s.heap.size ≤ H.size) (hF : ∀ q, F' q → F q) (hlo : lok F s.heap.size locs)
    (kk : ∀ (v : Option Value) (H1 : Heap) (locs1 : List Loc), hxf F' H H1 → lok F s.heap.size locs1 → post v H1 → W p l e R s m args below meth c H1 locs1 (cells + mc) (slots + ms) Q (F0 m (pc + 3) ls (v.toList ++ rest))) : W p l e R s m args below meth c H locs cells slots Q (F0 m pc ls st0) := by
  intro T hT X
  obtain ⟨v, st₀, t, T', L, h0, X', hL, e1, ⟨v', f1, f2, f3⟩, st⟩ := hr T hT X
  cases f1
  rw [h0] at f2
  obtain ⟨t2, a1, b1⟩ := kk v t.heap (locs ++ L) f2 (fun q hq => by
    rcases List.mem_append.mp hq with h | h
    · exact hlo q h
    · rcases hL q h with h | h
      · exact Or.inl (hF _ h)
      · exact Or.inr (Nat.le_trans hs h)) f3 T' e1 X'
  exact ⟨t2, st t2 a1, b1⟩
theorem f_callV (X : CX p s m args meth c y cy nl ret g) (hM : FM l y' cy' nl' ret' rm g (.ref b :: As) G F' mc ms post)
    (hw : Cond.methodLink y.cls idx y' ∈ tb ∧ Cond.instanceMethod y' ∈ tb ∧ Cond.selects C y' y' ∈ tb ∧ Cond.initialized C ∈ tb ∧ Cond.code y' cy' nl' ret' ∈ tb)
    (hd : y'.cls = C ∧ y'.cls ≠ "java/lang/invoke/MethodHandle" ∧ y'.cls ≠ "java/lang/invoke/VarHandle" ∧ (parseMethodDescriptor y'.desc).map (fun d => d.parameters.length) = some n)
    (hrm : rm.cells = mc ∧ rm.slots = ms ∧ (rm.frames + 1 ≤ R.frames ∧ 8 + (nl' + 11) + rm.locals ≤ R.locals) ∧ cells + mc ≤ R.cells ∧ slots + ms ≤ R.slots)
    {ci : Nat} {fs : List Value} {q : vw_C} (hat : va_at g.1 cl0 (b, .inr (ci, fs)) H) (hci : cl0[ci]? = some q) (hq : q.1 = C)
    (hG : G H) (hs : s.heap.size ≤ H.size) (hF : ∀ q, F' q → F q) (hlo : lok F s.heap.size locs) (hn : As.length = n) (hls : ls.size = nl) (hst : st0 = As.reverse ++ .ref b :: rest) (hrest : (rest.map fun v => v.category).sum ≤ 8) (hdg : decode cy pc = .ok (.invokevirtual idx, 3))
    (kk : ∀ (v : Option Value) (H1 : Heap) (locs1 : List Loc), hxf F' H H1 → lok F s.heap.size locs1 → post v H1 → W p l e R s m args below meth c H1 locs1 (cells + mc) (slots + ms) Q (F0 m (pc + 3) ls (v.toList ++ rest))) : W p l e R s m args below meth c H locs cells slots Q (F0 m pc ls st0) := by
  obtain ⟨hx, hb, hml, hown, hts, -, -, hK, -⟩ := X
  obtain ⟨h1, h2, h3, h4, h5⟩ := hw
  obtain ⟨r1, r2, r3, r4⟩ := hrm
  subst hq
  exact f_call (a := (Value.ref b :: As).toArray) (W.runV (C := q.1) (n := n) ⟨hx, hb, hml, hown, hts⟩ (hM H.size) (cwV n hts (tb_GV h1 h2 h3 h4 h5) rfl r1 r2 hd r3) ⟨pPc_blind, va_recv (q0 := 0) hK (PP.one hat) hci rfl, fun U hU hW => ⟨rfl, by rw [hU], by rw [hU]; exact hG, va_K.moved hW.alike hK⟩⟩ rfl hn hls hst (lv_room hrest) hdg r4) hs hF hlo kk
/-- a field that is not final -/
theorem f_put (X : CX p s m args meth c y cy nl ret g) {T : u_T} {N ci idx a : Nat} (ty0 : Nat → FieldType) (hty : ∀ k, k < N → parseFieldDescriptor (T k).2.2.1 = some (ty0 k)) (hnm : ∀ a, a < N → ∀ b, b < N → a ≠ b → (T a).2.1 ≠ (T b).2.1) {ref C : String} (hin : ∀ w ∈ u_ws C T N, w ∈ tb) {fs : List Value} (hat : va_at g.1 cl0 (a, .inr (ci, fs)) H) (hc : cl0[ci]? = some (C, T, N)) (k : Nat) (hk : k < N) (hl : Cond.fieldLink y.cls idx ref (T k).2.1 (T k).2.2.1 ∈ tb) (hsame : (T k).1 = ref) (hfin : (T k).2.2.2 = false) {v : Value} {ty : FieldType} (hd : parseFieldDescriptor (T k).2.2.1 = some ty) (hn : narrow ty v = v) (hfit : fits ty v = true) (hl2 : k < fs.length) (hFa : F a ∨ s.heap.size ≤ a) (hlo : lok F s.heap.size locs) (hdg : decode cy pc = .ok (.putfield idx, 3))
    (kk : ∀ (H1 : Heap) (locs1 : List Loc), hxa a H H1 → lok F s.heap.size locs1 → va_at g.1 cl0 (a, .inr (ci, fs.set k v)) H1 → W p l e R s m args below meth c H1 locs1 cells slots Q (F0 m (pc + 3) ls rest)) : W p l e R s m args below meth c H locs cells slots Q (F0 m pc ls (v :: .ref a :: rest)) := by
  obtain ⟨hx, hb, hml, hown, hts, -, -, hK, hnm2, -⟩ := X
  have hts' : ∀ w ∈ tb, w.before args s = true := fun w h => hts w (List.mem_cons_of_mem _ h)
  have hap := va_apart (own := y.cls) hts' hin ty0 hty hnm hK hc
  obtain ⟨r, h1, cell, q1, q2, q3, q4⟩ := hat
  have hr : r = (C, T, N) := Option.some.inj (h1.symm.trans hc)
  subst hr
  obtain ⟨hS, hfc, kC, hkC, hkind⟩ := hK.1 ci _ hc
  obtain ⟨cf, kf, fi, f, hi, hsl⟩ := hS k hk
  have hlay := hts' _ (hin _ (u_in_lay hk))
  unfold u_lay at hlay
  rw [if_neg (by rw [hfin]; decide)] at hlay
  have hst := (u_facts hfc hkC (u_lays hts' hin hk) hi).1
  have h6 := u_store hfc hkC hkind hlay hi hd hn hfit
  refine W.putK hx hb (f := f) ⟨hown, hts' _ hl, ⟨cf, kf, fi, by rw [← hsame]; exact hi⟩, hst⟩ (by rw [q2]; exact h6) q1 q3 (by rw [hsl]; exact k2_hasslot (q4 k hk)) rfl rfl hdg fun H' e1 e2 e3 => ?_
  rw [hsl] at e1 ⊢
  exact kk H' _ ⟨Nat.le_of_eq e2.symm, fun q _ h2 => e3 q h2⟩ (fun q hq => by
    rcases List.mem_append.mp hq with h | h
    · exact hlo q h
    · rw [List.mem_singleton] at h; subst h; exact hFa) ⟨_, hc, t_OB.to (V := updV (vp_V fs) k v) ⟨_, e1, q2, q3, t_set q4 hap hk v⟩ (fun j _ => vp_updV_set hl2 v j)⟩
/-- elements -/
theorem f_lald (X : CX p s m args meth c y cy nl ret g) {a k n : Nat} {f : Nat → Int64} (hat : va_at g.1 cl0 (a, .inl (g.2.2.1, n, .inr (.inl f))) H) (hk : k < n) (hn : n < 2 ^ 31) (hdg : decode cy pc = .ok (.laload, 1))
    (kk : W p l e R s m args below meth c H locs cells slots Q (F0 m (pc + 1) ls (.long (f k) :: rest))) : W p l e R s m args below meth c H locs cells slots Q (F0 m pc ls (.int (nI k) :: .ref a :: rest)) := by
  obtain ⟨hx, hb, hml, hown, hts, -, -, hK, -⟩ := X
  refine va_lald hx hb hK (PP.one hat) 0 1 rfl rfl (vp_in_nI hk hn) hdg ?_
  rw [nI_clamp (Nat.lt_trans hk hn)]
  exact kk
theorem f_zald (X : CX p s m args meth c y cy nl ret g) {a k n : Nat} {f : Nat → Int32} (hat : va_at g.1 cl0 (a, .inl (g.2.2.2, n, .inl f)) H) (hk : k < n) (hn : n < 2 ^ 31) (hdg : decode cy pc = .ok (.baload, 1))
    (kk : W p l e R s m args below meth c H locs cells slots Q (F0 m (pc + 1) ls (.int (f k) :: rest))) : W p l e R s m args below meth c H locs cells slots Q (F0 m pc ls (.int (nI k) :: .ref a :: rest)) := by
  obtain ⟨hx, hb, hml, hown, hts, -, -, hK, -⟩ := X
  refine va_zald hx hb hK (PP.one hat) 0 2 rfl rfl (vp_in_nI hk hn) hdg ?_
  rw [nI_clamp (Nat.lt_trans hk hn)]
  exact kk
theorem one_D {A : Nat → Prop} {a : Nat × va_E} (h : A a.1) : va_D A [a] := ⟨fun i j p q hi hj _ => by
    have h1 : i < 1 := (List.getElem?_eq_some_iff.mp hi).1
    have h2 : j < 1 := (List.getElem?_eq_some_iff.mp hj).1
    omega, fun k q hq => by
    have h1 : k < 1 := (List.getElem?_eq_some_iff.mp hq).1
    rw [show k = 0 by omega] at hq
    cases hq; exact h⟩
theorem f_last (X : CX p s m args meth c y cy nl ret g) {a k n : Nat} {f : Nat → Int64} {v : Int64} (hat : va_at g.1 cl0 (a, .inl (g.2.2.1, n, .inr (.inl f))) H) (hk : k < n) (hn : n < 2 ^ 31) (hFa : F a ∨ s.heap.size ≤ a) (hlo : lok F s.heap.size locs) (hdg : decode cy pc = .ok (.lastore, 1))
    (kk : ∀ (H1 : Heap) (locs1 : List Loc), hxa a H H1 → lok F s.heap.size locs1 → va_at g.1 cl0 (a, .inl (g.2.2.1, n, .inr (.inl (vp_updL f k v)))) H1 → W p l e R s m args below meth c H1 locs1 cells slots Q (F0 m (pc + 1) ls rest)) : W p l e R s m args below meth c H locs cells slots Q (F0 m pc ls (.long v :: .int (nI k) :: .ref a :: rest)) := by
  obtain ⟨hx, hb, hml, hown, hts, -, -, hK, -⟩ := X
  have hin := vp_in_nI hk hn
  refine W.last hx hb hat ((hK.2 1 _ rfl).1 n (fun j => .long (f j))) (fun q => by cases q) (by show ¬ (nI k < 0 ∨ (arrV _ _ _).slots.size ≤ _); rw [arrV_size]; exact hin) rfl rfl hdg fun H1 e z oq => ?_
  refine kk H1 _ ⟨Nat.le_of_eq z.symm, fun q _ h2 => oq q h2⟩ (fun q hq => by
    rcases List.mem_append.mp hq with h | h
    · exact hlo q h
    · rw [List.mem_singleton] at h; subst h; exact hFa) ?_
  show H1[a]? = some (vp_cell _ _)
  rw [e]
  rw [vp_cell_l, vp_cell_l, arrV_store, nI_clamp (Nat.lt_trans hk hn)]
  congr 2
  funext q
  by_cases hq : q = k
  · subst hq; simp [updV, vp_updL]
  · simp [updV, vp_updL, hq]
theorem f_zast (X : CX p s m args meth c y cy nl ret g) {a k n : Nat} {f : Nat → Int32} {v : Bool} (hat : va_at g.1 cl0 (a, .inl (g.2.2.2, n, .inl f)) H) (hk : k < n) (hn : n < 2 ^ 31) (hFa : F a ∨ s.heap.size ≤ a) (hlo : lok F s.heap.size locs) (hdg : decode cy pc = .ok (.bastore, 1))
    (kk : ∀ (H1 : Heap) (locs1 : List Loc), hxa a H H1 → lok F s.heap.size locs1 → va_at g.1 cl0 (a, .inl (g.2.2.2, n, .inl (upd f k (bI v)))) H1 → W p l e R s m args below meth c H1 locs1 cells slots Q (F0 m (pc + 1) ls rest)) : W p l e R s m args below meth c H locs cells slots Q (F0 m pc ls (.int (bI v) :: .int (nI k) :: .ref a :: rest)) := by
  obtain ⟨hx, hb, hml, hown, hts, -, -, hK, -⟩ := X
  have hin := vp_in_nI hk hn
  refine W.zast hx hb hat ((hK.2 2 _ rfl).1 n (fun j => .int (f j))) (fun q => by cases q) (by show ¬ (nI k < 0 ∨ (arrV _ _ _).slots.size ≤ _); rw [arrV_size]; exact hin) rfl rfl hdg fun H1 e z oq => ?_
  refine kk H1 _ ⟨Nat.le_of_eq z.symm, fun q _ h2 => oq q h2⟩ (fun q hq => by
    rcases List.mem_append.mp hq with h | h
    · exact hlo q h
    · rw [List.mem_singleton] at h; subst h; exact hFa) ?_
  show H1[a]? = some (vp_cell _ _)
  rw [e]
  rw [vp_cell_i, vp_cell_i, arrV_store, nI_clamp (Nat.lt_trans hk hn)]
  congr 2
  funext q
  by_cases hq : q = k
  · subst hq
    have : narrow .boolean (.int (bI v)) = .int (bI v) := by cases v <;> decide
    simp [updV, upd, this]
  · simp [updV, upd, hq]
theorem f_astq (X : CX p s m args meth c y cy nl ret g) {a k n v : Nat} {f : Nat → Option Nat} {fs : List Value} (hat : va_at g.1 cl0 (a, .inl (g.2.1, n, .inr (.inr (.inr (.inr f))))) H) (hv : va_at g.1 cl0 (v, .inr (0, fs)) H) (hk : k < n) (hn : n < 2 ^ 31) (hFa : F a ∨ s.heap.size ≤ a) (hlo : lok F s.heap.size locs) (hdg : decode cy pc = .ok (.aastore, 1))
    (kk : ∀ (H1 : Heap) (locs1 : List Loc), hxa a H H1 → lok F s.heap.size locs1 → va_at g.1 cl0 (a, .inl (g.2.1, n, .inr (.inr (.inr (.inr (va_up f k (some v))))))) H1 → W p l e R s m args below meth c H1 locs1 cells slots Q (F0 m (pc + 1) ls rest)) : W p l e R s m args below meth c H locs cells slots Q (F0 m pc ls (.ref v :: .int (nI k) :: .ref a :: rest)) := by
  obtain ⟨hx, hb, hml, hown, hts, -, -, hK, -⟩ := X
  have h0 : ¬ nI k < 0 := nI_pos (Nat.lt_trans hk hn)
  have hlt : (nI k).toNatClampNeg < n := by rw [nI_clamp (Nat.lt_trans hk hn)]; exact hk
  obtain ⟨r', hr', cellV, g1, g2, g3, -⟩ := hv
  have hcls := (hK.1 0 _ rfl).2
  obtain ⟨kA, comp, k1, k2, k3, -⟩ := (hK.2 0 _ rfl).2
  have hcomp : comp = g.1.1 0 := Option.some.inj (k3.symm.trans hcls.1)
  subst hcomp
  obtain ⟨kC, hkC, -⟩ := hcls.2
  refine W.aast hx hb hat (fun q h => by cases h) (fun h => by cases h) k1 k2 rfl hkC ⟨h0, by show _ < (arrV _ _ _).slots.size; rw [arrV_size]; exact hlt⟩ g1 (fun q h => by rw [g3] at h; cases h) (by rw [g2]; exact hkC) (by rw [g2]; exact va_assign hcls) rfl rfl hdg fun H1 e z oq => ?_
  refine kk H1 _ ⟨Nat.le_of_eq z.symm, fun q _ h2 => oq q h2⟩ (fun q hq => by
    rcases List.mem_append.mp hq with h | h
    · exact hlo q h
    · rw [List.mem_singleton] at h; subst h; exact hFa) ?_
  show H1[a]? = some (vp_cell _ _)
  rw [e]
  rw [vp_cell_q, vp_cell_q, arrV_store, nI_clamp (Nat.lt_trans hk hn)]
  congr 2
  funext q
  by_cases hq : q = k
  · subst hq; simp [updV, va_up, va_rf]
  · simp [updV, va_up, hq]
/-- new arrays -/
theorem f_newl (X : CX p s m args meth c y cy nl ret g) (hw : Cond.arrayClass .long ∈ tb) {n : Nat} (hn : n ≤ 4) (hR : cells + 1 ≤ R.cells ∧ slots + n ≤ R.slots) (hdg : decode cy pc = .ok (.newarray .long, 2))
    (kk : ∀ (q : Nat) (H1 : Heap), q = H.size → H1.size = H.size + 1 → hxt H H1 → va_at g.1 cl0 (q, .inl (g.2.2.1, n, .inr (.inl (fun _ => 0)))) H1 → W p l e R s m args below meth c H1 locs (cells + 1) (slots + n) Q (F0 m (pc + 2) ls (.ref q :: rest))) : W p l e R s m args below meth c H locs cells slots Q (F0 m pc ls (.int (nI n) :: rest)) := by
  obtain ⟨hx, hb, hml, hown, hts, -, -, hK, -⟩ := X
  refine va_newaK (atype := .long) hx hb (hts _ (List.mem_cons_of_mem _ hw)) rfl hdg rfl (nI_pos (by omega)) (nI_clamp (by omega)) (show n * 8 ≤ 536870912 by omega) hR.1 hR.2 rfl fun H1 cA e1 z1 o1 hAr hNm => ?_
  have hcA : cA = g.2.2.1 := Option.some.inj (hNm.symm.trans (hK.2 1 _ rfl).2)
  subst hcA
  refine kk H.size H1 rfl z1 ⟨by omega, o1⟩ ?_
  show H1[H.size]? = some (vp_cell _ _)
  rw [vp_cell_l]
  exact e1
theorem f_newz (X : CX p s m args meth c y cy nl ret g) (hw : Cond.arrayClass .boolean ∈ tb) {n : Nat} (hn : n ≤ 4) (hR : cells + 1 ≤ R.cells ∧ slots + n ≤ R.slots) (hdg : decode cy pc = .ok (.newarray .boolean, 2))
    (kk : ∀ (q : Nat) (H1 : Heap), q = H.size → H1.size = H.size + 1 → hxt H H1 → va_at g.1 cl0 (q, .inl (g.2.2.2, n, .inl (fun _ => 0))) H1 → W p l e R s m args below meth c H1 locs (cells + 1) (slots + n) Q (F0 m (pc + 2) ls (.ref q :: rest))) : W p l e R s m args below meth c H locs cells slots Q (F0 m pc ls (.int (nI n) :: rest)) := by
  obtain ⟨hx, hb, hml, hown, hts, -, -, hK, -⟩ := X
  refine va_newaK (atype := .boolean) hx hb (hts _ (List.mem_cons_of_mem _ hw)) rfl hdg rfl (nI_pos (by omega)) (nI_clamp (by omega)) (show n * 1 ≤ 536870912 by omega) hR.1 hR.2 rfl fun H1 cA e1 z1 o1 hAr hNm => ?_
  have hcA : cA = g.2.2.2 := Option.some.inj (hNm.symm.trans (hK.2 2 _ rfl).2)
  subst hcA
  refine kk H.size H1 rfl z1 ⟨by omega, o1⟩ ?_
  show H1[H.size]? = some (vp_cell _ _)
  rw [vp_cell_i]
  exact e1
theorem f_newq (X : CX p s m args meth c y cy nl ret g) {idx : Nat} (hw : Cond.classLink y.cls idx RX0 ∈ tb) (hover : va_AO RX0 s) {n : Nat} (hn : n ≤ 4) (hR : cells + 1 ≤ R.cells ∧ slots + n ≤ R.slots) (hdg : decode cy pc = .ok (.anewarray idx, 3))
    (kk : ∀ (q : Nat) (H1 : Heap), q = H.size → H1.size = H.size + 1 → hxt H H1 → va_at g.1 cl0 (q, .inl (g.2.1, n, .inr (.inr (.inr (.inr (fun _ => none)))))) H1 → W p l e R s m args below meth c H1 locs (cells + 1) (slots + n) Q (F0 m (pc + 3) ls (.ref q :: rest))) : W p l e R s m args below meth c H locs cells slots Q (F0 m pc ls (.int (nI n) :: rest)) := by
  obtain ⟨hx, hb, hml, hown, hts, -, -, hK, -⟩ := X
  have hN : (nI n).toNatClampNeg = n := nI_clamp (by omega)
  refine W.anew hx hb hown (hts _ (List.mem_cons_of_mem _ hw)) (va_AO.use hover) rfl hdg rfl (nI_pos (by omega)) (show (nI n).toNatClampNeg * 4 ≤ 536870912 by rw [hN]; omega) hR.1 (by rw [hN]; exact hR.2) fun cA kA comp f1 f2 f3 f4 => ?_
  have hcA : cA = g.2.1 := by
    obtain ⟨kA', comp', k1, k2, k3, k4⟩ := (hK.2 0 _ rfl).2
    exact Option.some.inj (f1.symm.trans k4)
  subst hcA
  rw [hN]
  generalize hH1 : H.push ({ cls := g.2.1, slots := Array.replicate n .null, vm := .none } : Jvm.Cell) = H1
  have z1 : H1.size = H.size + 1 := by rw [← hH1, Array.size_push]
  have e1 : H1[H.size]? = some (arrV g.2.1 n (fun _ => .null)) := by rw [← hH1, Array.getElem?_push_size, ← arrV_new]
  have o1 : ∀ q : Nat, q < H.size → H1[q]? = H[q]? := fun q hq => by rw [← hH1, Array.getElem?_push, if_neg (Nat.ne_of_lt hq)]
  refine kk H.size H1 rfl z1 ⟨by omega, o1⟩ ?_
  show H1[H.size]? = some (vp_cell _ _)
  rw [vp_cell_q]
  exact e1
/-- ends -/
theorem f_lret (X : CX p s m args meth c y cy nl (some .long) g) {v : Int64} (hxx : hxf F s.heap H) (hlo : lok F s.heap.size locs) (hp : post (some (.long v)) H) (hc : cells ≤ mc ∧ slots ≤ ms) (hdg : decode cy pc = .ok (.lreturn, 1)) :
    W p l e R s m args below meth c H locs cells slots (MQ below (fQ F post) args s mc ms (fun q => F q ∨ s.heap.size ≤ q)) (F0 m pc ls [.long v]) := by
  obtain ⟨hx, hb, hml, hown, hts, hr, hlocks, hK, -⟩ := X
  refine W.widen hc.1 hc.2 ?_
  exact W.lret (v := v) hx hb hr (fun t ht hW => ⟨_, rfl, by rw [ht]; exact hxx, by rw [ht]; exact hp⟩) (fun q h => hlo q h) hdg hlocks
theorem f_iret (X : CX p s m args meth c y cy nl (some .int) g) {v : Int32} (hxx : hxf F s.heap H) (hlo : lok F s.heap.size locs) (hp : post (some (.int v)) H) (hc : cells ≤ mc ∧ slots ≤ ms) (hdg : decode cy pc = .ok (.ireturn, 1)) :
    W p l e R s m args below meth c H locs cells slots (MQ below (fQ F post) args s mc ms (fun q => F q ∨ s.heap.size ≤ q)) (F0 m pc ls [.int v]) := by
  obtain ⟨hx, hb, hml, hown, hts, hr, hlocks, hK, -⟩ := X
  refine W.widen hc.1 hc.2 ?_
  exact W.iret (v := v) hx hb hr (fun t ht hW => ⟨_, rfl, by rw [ht]; exact hxx, by rw [ht]; exact hp⟩) (fun q h => hlo q h) hdg hlocks
theorem f_zret (X : CX p s m args meth c y cy nl (some .boolean) g) {v : Bool} (hxx : hxf F s.heap H) (hlo : lok F s.heap.size locs) (hp : post (some (.int (bI v))) H) (hc : cells ≤ mc ∧ slots ≤ ms) (hdg : decode cy pc = .ok (.ireturn, 1)) :
    W p l e R s m args below meth c H locs cells slots (MQ below (fQ F post) args s mc ms (fun q => F q ∨ s.heap.size ≤ q)) (F0 m pc ls [.int (bI v)]) := by
  obtain ⟨hx, hb, hml, hown, hts, hr, hlocks, hK, -⟩ := X
  refine W.widen hc.1 hc.2 ?_
  exact W.zret (v := bI v) hx hb hr (by cases v <;> decide) (fun t ht hW => ⟨_, rfl, by rw [ht]; exact hxx, by rw [ht]; exact hp⟩) (fun q h => hlo q h) hdg hlocks
theorem f_vret (X : CX p s m args meth c y cy nl none g) (hxx : hxf F s.heap H) (hlo : lok F s.heap.size locs) (hp : post none H) (hc : cells ≤ mc ∧ slots ≤ ms) (hdg : decode cy pc = .ok (.return_, 1)) :
    W p l e R s m args below meth c H locs cells slots (MQ below (fQ F post) args s mc ms (fun q => F q ∨ s.heap.size ≤ q)) (F0 m pc ls []) := by
  obtain ⟨hx, hb, hml, hown, hts, hr, hlocks, hK, -⟩ := X
  refine W.widen hc.1 hc.2 ?_
  exact W.vret hx hb hr (fun t ht hW => ⟨_, rfl, by rw [ht]; exact hxx, by rw [ht]; exact hp⟩) (fun q h => hlo q h) hdg hlocks
end FW
