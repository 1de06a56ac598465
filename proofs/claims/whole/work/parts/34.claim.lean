/-! THE CLAIM OUT OF ONE WALK OF THE LAW'S BODY. Your part is whole_start (and what it stands on); all else here is the same for every law, but numbers. -/
def R_law : String := "RafterPlacesLaw"
def lw_P (b : Addr) (xs : List Int32) (args : Array Value) (s : State) : Prop := args = #[.ref b] ∧ s.IntsAt b xs ∧ xs.length ≤ 3072 ∧ (Jvm.Cond.and given_1 narrow_1).before args s = true
def lw_Q (_ : Array Value) (s : State) (o : Outcome) (t : State) : Prop := o = .returned (some (.int 1)) ∧ Framed s o t [] 797979 6702166
def lw_Z (below : List Frame) (a : Array Value) (s : State) : State → Prop := fun t => ∃ o, t.status = .running ∧ Ended t below o ∧ lw_Q a s o t
/-- the law's own end, with 1 on the stack, nothing written that was there before, its room as the claim has it -/
theorem lw_ret {p : Program} {l : Launch} {e : Env} {s : State} {m : MethodId} {below : List Frame} {meth : Method} {c : Code} {b : Nat} (hx : p.tables.exec = Jvm.exec) (hb : c.code = code) (hr : meth.sig.returnType = ret) (hlocks : meth.locks = false) {pc : Nat} {H : Heap} {ls : Array Slot} (hdg : decode code pc = .ok (.ireturn, 1)) : W p l e room_1 s m #[Value.ref b] below meth c H [] 797979 6702166 (lw_Z below #[Value.ref b] s) (F0 m pc ls [.int 1]) := by
  intro T hT X
  obtain ⟨fs, hret, hrun, hended, hW, hframe⟩ := X.leave (v := some (.int 1)) (hlocks := hlocks) (fun h => by rw [hr] at h; cases h)
  have hmeth' : T.vm.method? m = some meth := X.method'
  refine ⟨T.setFrames fs, ?_, .returned (some (.int 1)), hrun, hended, rfl, ⟨_, rfl⟩, hW, hframe⟩
  jvm_step X.here [X.here.top, hx, hb, hdg, hmeth', hr, ret, narrow_b1]
  (try refine ⟨rfl, ?_⟩); (try refine ⟨rfl, ?_⟩)
  first | (intro acts; rw [hret _ acts rfl rfl rfl]) | rw [hret _ _ rfl rfl rfl]
  exact Steps.refl _
/-- what holds at the law's entry: the machine, the code, the tables' words (any of lw_tbl by 'hts w (by decide +kernel)'), the script of L ints xs at the cell b, what the Statement gives of the start (any of its parts by flat_of_before) -/
def lw_At (p : Program) (s : State) (m : MethodId) (meth : Method) (c : Code) (b L : Nat) (xs : Nat → Int32) : Prop :=
  p.tables.exec = Jvm.exec ∧ c.code = code ∧ meth.sig.returnType = ret ∧ c.maxLocals = 8 ∧ s.vm.findClass R_law = some m.cls ∧ (∀ w ∈ lw_tbl, w.before #[Value.ref b] s = true) ∧ va_X b L xs s s.heap ∧ b < s.heap.size ∧ meth.locks = false ∧ (Jvm.Cond.and given_1 narrow_1).before #[Value.ref b] s = true

theorem st_KK {args : Array Value} {s : State} (hts : ∀ w ∈ lw_tbl, w.before args s = true) : ∃ g : En, KK g s := by
  have htb : ∀ w ∈ tb, w.before args s = true := fun w h => hts w (List.mem_filter.mp h).1
  obtain ⟨c0, i0, k0⟩ := u_known htb uX0 (htb _ mw_60)
  obtain ⟨c1, i1, k1⟩ := u_known htb uX1 (htb _ mw_49)
  obtain ⟨c2, i2, k2⟩ := u_known htb uX2 (htb _ mw_457)
  obtain ⟨comp, cq, kq, f1, -, f3, f4, f5⟩ := Cond.arrayOver_spec (hts (.arrayOver (.object RX0)) (List.mem_of_getElem? (i := 59) (by decide +kernel)))
  obtain ⟨cl, kl, pl, g1, g2, g3⟩ := Cond.arrayClass_spec (htb _ mw_489)
  obtain ⟨cz, kz, pz, h1, h2, h3⟩ := Cond.arrayClass_spec (htb _ mw_490)
  refine ⟨((fun k => if k = 0 then c0 else if k = 1 then c1 else c2, fun k => if k = 0 then i0 else if k = 1 then i1 else i2), (cq, cl, cz)), fun j q hq => ?_, fun j q hq => ?_⟩
  · match j, hq with
    | 0, hq => cases hq; exact k0
    | 1, hq => cases hq; exact k1
    | 2, hq => cases hq; exact k2
    | j + 3, hq => simp at hq
  · match j, hq with
    | 0, hq => cases hq; exact ⟨fun N z => ⟨fun k h => (by cases h), kq, f3, comp, f4⟩, kq, comp, f3, f4, f1, f5⟩
    | 1, hq => cases hq; exact ⟨fun N z => ⟨fun k h => (by cases h), kl, g2, pl, g3⟩, g1⟩
    | 2, hq => cases hq; exact ⟨fun N z => ⟨fun k h => (by cases h), kz, h2, pz, h3⟩, h1⟩
    | j + 3, hq => simp at hq
theorem st_str {args : Array Value} {s : State} {k : Nat} {tx : String} (h1 : (Cond.stringRef RX1 k tx).before args s = true) (h2 : (Cond.exactly (.string RX1 k) "java/lang/String").before args s = true) : ∃ a, vk_R RX1 k tx a s := by
  obtain ⟨a, -, -, -, h, -⟩ := Cond.exactly_spec h2
  exact ⟨a, vk_R.of h1 h⟩
theorem st_EX {b : Nat} {s : State} (hts : ∀ w ∈ lw_tbl, w.before #[Value.ref b] s = true) (hgv : (Jvm.Cond.and given_1 narrow_1).before #[Value.ref b] s = true) : EX s := by
  have hf := flat_of_before _ hgv
  have hlt : ∀ a : Nat, a < s.heap.size → ¬ s.heap.size ≤ a := fun a h => Nat.not_le.mpr h
  have hti : (Cond.initialized Bundle.tN).before #[Value.ref b] s = true := hts _ (List.mem_of_getElem? (i := 41) (by decide +kernel))
  refine ⟨vx_Zqof (hts _ (List.mem_of_getElem? (i := 126) (by decide +kernel))) hti (hf _ (by decide +kernel)) hlt, vx_Zqof (hts _ (List.mem_of_getElem? (i := 128) (by decide +kernel))) hti (hf _ (by decide +kernel)) hlt, fun w hw => va_tabs (NG_on w hw) rfl (hts w (NG_tbl w hw)), ⟨va_Nc.of (hf _ (by decide +kernel)), va_Nc.of (hf _ (by decide +kernel)), va_Nc.of (hf _ (by decide +kernel))⟩, ?_, ?_, ?_, ?_⟩
  · exact st_str (hts _ (List.mem_of_getElem? (i := 189) (by decide +kernel))) (hf _ (by decide +kernel))
  · exact st_str (hts _ (List.mem_of_getElem? (i := 140) (by decide +kernel))) (hf _ (by decide +kernel))
  · exact st_str (hts _ (List.mem_of_getElem? (i := 293) (by decide +kernel))) (hf _ (by decide +kernel))
  · exact st_str (hts _ (List.mem_of_getElem? (i := 233) (by decide +kernel))) (hf _ (by decide +kernel))
set_option maxHeartbeats 4000000 in
set_option maxRecDepth 100000 in
theorem st_walk (p : Program) (l : Launch) (e : Env) (s : State) (m : MethodId) (b : Nat) (below : List Frame) (meth : Method) (c : Code) (g : En) (L : Nat) (xs : Nat → Int32) (Q : State → Prop) (hl0 : l.stackTraces = false) (X : CX p s m #[Value.ref b] meth c yL_law cL_law 8 (some .boolean) g) (hE : EX s) (hAO : va_AO RX0 s) (hV : va_X b L xs s s.heap) (hbl : b < s.heap.size) (hL : L ≤ 3072)
    (Kx : ∀ (H : Heap) (ls : Array Slot), W p l e room_1 s m #[Value.ref b] below meth c H [] 797979 6702166 Q (F0 m 1779 ls [.int 1])) (ls : Array Slot) (hl : lv_has ls 8 [(0, .ref b)]) : W p l e room_1 s m #[Value.ref b] below meth c s.heap [] 0 0 Q (F0 m 0 ls []) := by
  refine p_new (C := RX1) (T := TX1) (N := 3) (ci := 1) X tyX1 tyX1_ok uX1 ⟨mw_48, mw_49, mw_38⟩ rfl [.long 0, .long 0, .null] (fun j hj => by rcases (show j = 0 ∨ j = 1 ∨ j = 2 by omega) with rfl | rfl | rfl <;> rfl) ⟨by decide, by decide⟩ dL_law_0 (fun o H1 eo zo ko ho => ?_)
  refine lv_dup X.1 X.2.1 dL_law_3 rfl ?_
  refine p_callJ (b := o) (As := []) (rest := [.ref o]) X hAO (c_X1_init l g o H1.size) ⟨mw_50, mw_51, mw_38, mw_52⟩ rfl sgX1_init ⟨rfl, rfl, ⟨by decide, by decide⟩, by decide, by decide⟩ ⟨PP.one ho, Nat.le_refl _⟩ (ko.1) (by omega) rfl hl.1 rfl (Nat.le_of_ble_eq_true rfl) dL_law_4 (fun H2 hko hpo => ?_)
  refine W.eq (g2 := F0 m 7 ls [.ref o]) rfl ?_
  obtain ⟨r, A, hrN, hD, hRP⟩ := hpo
  have hX := ko.init (Nat.le_of_eq eo.symm) hko
  have sz1 := ko.1
  have sz2 := hko.1
  have hor : o < H2.size ∧ r < H2.size := ⟨va_at.lt (hRP.1.at 0 rfl), va_at.lt (hRP.1.at 1 rfl)⟩
  have hAl : ∀ j, j < 4 → A j < H2.size := fun j hj => va_at.lt (hRP.2 j hj)
  refine lv_astore_n (lv' := [(1, .ref o), (0, .ref b)]) X.1 X.2.1 dL_law_7 rfl hl (by decide) rfl (fun ls hl => ?_)
  refine p_new (C := RX2) (T := TX2) (N := 8) (ci := 2) X tyX2 tyX2_ok uX2 ⟨mw_456, mw_457, mw_40⟩ rfl [.int 0, .long 0, .long 0, .null, .null, .null, .long 0, .long 0] (fun j hj => by rcases (show j = 0 ∨ j = 1 ∨ j = 2 ∨ j = 3 ∨ j = 4 ∨ j = 5 ∨ j = 6 ∨ j = 7 by omega) with rfl | rfl | rfl | rfl | rfl | rfl | rfl | rfl <;> rfl) ⟨by decide, by decide⟩ dL_law_8 (fun mo H3 emo zmo kmo hmo => ?_)
  refine lv_dup X.1 X.2.1 dL_law_11 rfl ?_
  refine p_callJ (b := mo) (As := []) (rest := [.ref mo]) X hAO (c_X2_init l g mo H3.size) ⟨mw_458, mw_459, mw_40, mw_460⟩ rfl sgX2_init ⟨rfl, rfl, ⟨by decide, by decide⟩, by decide, by decide⟩ ⟨PP.one hmo, Nat.le_refl _⟩ (Nat.le_trans hX.1 kmo.1) (by have := hX.1; omega) rfl hl.1 rfl (Nat.le_of_ble_eq_true rfl) dL_law_12 (fun H4 hkmo hpmo => ?_)
  refine W.eq (g2 := F0 m 15 ls [.ref mo]) rfl ?_
  obtain ⟨ua, oa, ga, hf3, hM, hMO⟩ := hpmo
  have h24 := kmo.init (Nat.le_of_eq emo.symm) hkmo
  have hX := hX.tr h24
  have hRP := RP.ext hRP h24
  have sz4 := hX.1
  have sz34 := hkmo.1
  have hml : (mo < H4.size ∧ ua < H4.size ∧ oa < H4.size) ∧ ga < H4.size := ⟨⟨va_at.lt (hMO.at 0 rfl), va_at.lt (hMO.at 1 rfl), va_at.lt (hMO.at 2 rfl)⟩, va_at.lt (hMO.at 3 rfl)⟩
  refine lv_astore_n (lv' := [(2, .ref mo), (1, .ref o), (0, .ref b)]) X.1 X.2.1 dL_law_15 rfl hl (by decide) rfl (fun ls hl => ?_)
  refine lv_iconst (v := nI 1) X.1 X.2.1 dL_law_16 (by decide) ?_
  refine f_newl X mw_489 (n := 1) (by decide) ⟨by decide, by decide⟩ dL_law_17 (fun ou H5 eu zu ku hu => ?_)
  have hX := hX.tr ku
  have hRP := RP.ext hRP ku
  have hMO := PP.ext hMO ku
  refine lv_astore_n (lv' := [(3, .ref ou), (2, .ref mo), (1, .ref o), (0, .ref b)]) X.1 X.2.1 dL_law_19 rfl hl (by decide) rfl (fun ls hl => ?_)
  refine lv_iconst (v := nI 0) X.1 X.2.1 dL_law_20 (by decide) ?_
  refine lv_istore (lv' := [(4, .int (nI 0)), (3, .ref ou), (2, .ref mo), (1, .ref o), (0, .ref b)]) X.1 X.2.1 dL_law_21 hl (by decide) rfl (fun ls hl => ?_)
  have hSP : SP o r mo ua oa ga ou s.heap.size := ⟨hM, ⟨by omega, by omega, by omega, by omega, by omega⟩, ⟨by omega, by omega, by omega, by omega, by omega⟩, ⟨by omega, by omega, by omega, by omega⟩, by omega, by omega, by omega, by omega, by omega, by omega, by omega⟩
  have hAP : AP A mo ua oa ga ou := fun j hj => by have := hAl j hj; refine ⟨?_, ?_, ?_, ?_, ?_⟩ <;> omega
  refine W.widen (k := 100 + 100 * 0) (n := 200 + 200 * 0) (by decide) (by decide) ?_
  exact law_loop p l e s m b below meth c g o r mo ua oa ga ou L xs Q hl0 X hE hV hbl hSP hL Kx 513 0 rfl H5 ls hX ⟨A, 1000, 600, (fun _ => 1), one4, one4, 0, 0, 0, (fun _ => 0), OK_one, hD, MR_one, hAP, hRP, hMO, hu⟩ (lv_sub hl [0, 4, 3, 2, 1] rfl)
theorem whole_start {p : Program} {e : Env} {s : State} {m : MethodId} {below : List Frame} {meth : Method} {c : Code} (l : Launch) (hl0 : l.stackTraces = false) {b L : Nat} {xs : Nat → Int32} (hL : L ≤ 3072) (hcd : (Jvm.Cond.code x code maxLocals ret).before #[Value.ref b] s = true) (hnh : c.exceptionTable.isEmpty = true) (C0 : lw_At p s m meth c b L xs) : W p l e room_1 s m #[Value.ref b] below meth c s.heap [] 0 0 (lw_Z below #[Value.ref b] s) (entryFrame m ([Value.ref b] : List Value).toArray 8) := by
  obtain ⟨hx, hb, hr, hml, hown, hts, hV, hbl, hlocks, hgv⟩ := C0
  obtain ⟨g, hK⟩ := st_KK hts
  have X : CX p s m #[Value.ref b] meth c yL_law cL_law 8 (some .boolean) g := ⟨hx, hb, hml, hown, fun w hw => by
      rcases List.mem_cons.mp hw with rfl | h
      · exact hcd
      · exact hts w (List.mem_filter.mp h).1, hr, hlocks, hK, fun h => absurd h (by decide), hnh⟩
  rw [lg_entry_eq]
  exact st_walk p l e s m b below meth c g L xs _ hl0 X (st_EX hts hgv) (va_AO.of (hts (.arrayOver (.object RX0)) (List.mem_of_getElem? (i := 59) (by decide +kernel)))) hV hbl hL (fun H ls => lw_ret hx hb hr hlocks dL_law_1779) _ (lv_entry [.ref b] (Nat.le_of_ble_eq_true rfl))
set_option maxHeartbeats 4000000 in
theorem lw_walk (l : Launch) (hl0 : l.stackTraces = false) (b : Addr) (xs : List Int32) : MetFree l x (headSpec (Jvm.Cond.code x code maxLocals ret :: tables_1) room_1) (lw_P b xs) (fun _ _ _ _ _ => True) lw_Q := by
  refine MetFree.of_bodyS (code := code) (maxLocals := maxLocals) (ret := ret) (by decide) ?_ ?_
  · intro args s m h hn
    obtain ⟨meth, c, h1, h2, h3, h4, h5, h6, -, -⟩ := Cond.code_spec hn (atoms_spec (ws := Jvm.Cond.code x code maxLocals ret :: tables_1) h _ List.mem_cons_self)
    exact ⟨meth, c, h1, h2, h3, h4, h5, h6⟩
  · intro p e s m args below meth c s₁ B hml0 hP _
    obtain ⟨rfl, hx, hbd, hgv⟩ := hP
    obtain ⟨scr, harrAt, hlist, hof, hsmall⟩ := hx
    obtain ⟨hcb, hkn, -, -⟩ := State.arrayAt?_spec harrAt
    have hown : s.vm.findClass R_law = some m.cls := findClass_of_methodNamed B.named
    have hts0 : ∀ c ∈ (Jvm.Cond.code x code maxLocals ret :: tables_1), c.before #[Value.ref b] s = true := atoms_spec (ws := Jvm.Cond.code x code maxLocals ret :: tables_1) B.pre
    have hts : ∀ w ∈ lw_tbl, w.before #[Value.ref b] s = true := k2_hts_sels lw_privs (fun w hw => hts0 w (List.mem_cons_of_mem _ hw)) lw_privs_ok
    have hml : c.maxLocals = 8 := B.maxLocals_eq (hts0 _ List.mem_cons_self)
    have X₀ : Stand p l e room_1 s m #[Value.ref b] below meth c s₁ [] 0 0 := Stand.of_body B
    have hh0 : s₁.heap = s.heap := by rw [B.state]; rfl
    have hsz : scr.slots.size = xs.length := by rw [← Array.length_toList, hlist, List.length_map]
    have hval : ∀ j : Nat, j < xs.length → scr.slots[j]? = some (.int (xs.getD j 0)) := fun j hj => by
      rw [← Array.getElem?_toList, hlist]
      simp [hj]
    have hbl : b < s.heap.size := (Array.getElem?_eq_some_iff.mp hcb).1
    have hX : va_X b xs.length (fun j => xs.getD j 0) s s.heap := ⟨scr, hcb, hof, hkn, hsz, hval⟩
    have K : W p l e room_1 s m #[Value.ref b] below meth c s₁.heap [] 0 0 (lw_Z below #[Value.ref b] s) (entryFrame m ([Value.ref b] : List Value).toArray 8) := by
      rw [hh0]
      exact whole_start l hl0 hbd (hts0 _ List.mem_cons_self) (B.noHandlers (hts0 _ List.mem_cons_self)) ⟨B.exec, B.bytes, B.returns, hml, hown, hts, hX, hbl, B.notSynchronized, hgv⟩
    obtain ⟨t, a1, o, b1, b2, b3⟩ := K s₁ rfl X₀
    exact ⟨t, o, a1, b1, b2, b3⟩
theorem lw_pre_spec {args : Array Value} {s : State} (h : (Jvm.Cond.and given_1 narrow_1).before args s = true) (hr : rest_1_c.before args s = true) : ∃ (b : Addr) (xs : List Int32), lw_P b xs args s := by
  have hs := flat_of_before _ h
  have hq := flat_of_before _ hr
  have hc : (Cond.count 1).before args s = true := hs _ (by decide +kernel)
  have harr : (Cond.arrayOf (.arg 0) .int).before args s = true := hs _ (by decide +kernel)
  have hle : (Cond.le (.length (.arg 0)) (.int 3072)).before args s = true := hs _ (by decide +kernel)
  have hlen : (Cond.isInt (.length (.arg 0))).before args s = true := hq _ (by decide +kernel)
  have hall : (Cond.all (.arg 0) (.isInt (.elem (.arg 0) (.index 0)))).before args s = true := hq _ (by decide +kernel)
  obtain ⟨b, xs, hb, hx⟩ := State.ints_of_pre rfl harr hlen hall
  have hsm : xs.length < 2 ^ 31 := hx.choose_spec.2.2.2
  have hev : (Term.length (.arg 0)).eval args s none [] s = some (.int xs.length.toInt32) := hx.length_eval hb
  have hv := Cond.le_ints hev (show (Term.int 3072).eval args s none [] s = some (.int 3072) from rfl)
  have hd : xs.length.toInt32 ≤ 3072 := by
    simpa [Cond.before, Cond.holds, hv] using hle
  have hN : xs.length ≤ 3072 := (Int32.ofNat_le_ofNat hsm (by decide)).mp (show Int32.ofNat xs.length ≤ Int32.ofNat 3072 from hd)
  exact ⟨b, xs, Cond.one_arg hc (show args[0]? = some (.ref b) from hb), hx, hN, h⟩
theorem lw_comes (l : Launch) (hl0 : l.stackTraces = false) : Comes l x (Jvm.Cond.code x code maxLocals ret :: tables_1) room_1 (fun tb e args s => Calls_1 tb e args s ∧ rest_1 tb e args s ∧ Pre_1 tb e args s)
    (fun _ _ args s o t => lw_Q args s o t) := by
  intro p e ha hc hk s m args below hf hfit hheap happ hpre
  obtain ⟨b, xs, hP⟩ := lw_pre_spec hpre.2.2 hpre.2.1
  obtain ⟨k, o, h1, h2, h3, hQ⟩ := lw_walk l hl0 b xs p e ha hc hk s m args below hf ((Spec.applies_iff_loose hf).mp happ).1 hP trivial
  exact ⟨k, o, h1, h2, h3, hQ⟩
theorem lw_frame {s t : State} {o : Outcome} {args : Array Value} (h : Framed s o t [] 797979 6702166) :
    Framed s o t (fieldLocs frame_1_writes args s ++ arrayLocs frame_1_arrays args s ++ staticLocs frame_1_statics s) 797979 6702166 := h
theorem lw_limb (L : Cond) (hL : ∀ (args : Array Value) (s t : State), L.after args s (.returned (some (.int 1))) t = true) :
    ArmFor flags0 classFile x code maxLocals ret World_1 tables_1 room_1 Calls_1 rest_1 Pre_1
      (fun tb e a s o t => postC L tb e a s o t ∧ Framed s o t (fieldLocs frame_1_writes a s ++ arrayLocs frame_1_arrays a s ++ staticLocs frame_1_statics s) 797979 6702166) := by
  intro l hfl _ _ p e ha hc hk s m args below hf hfit hheap happ hpre
  obtain ⟨k, o, h1, h2, h3, rfl, hF⟩ := lw_comes l (by unfold Launch.stackTraces; rw [hfl]; decide +kernel) p e ha hc hk s m args below hf hfit hheap happ hpre
  exact ⟨k, _, h1, h2, h3, hL args s _, lw_frame hF⟩
theorem i_vc : Claimed_1_1 ∧ Claimed_1_2 := ⟨lw_limb limb_1_1 (fun args s t => by simp [limb_1_1, Cond.after, Cond.holds, Cond.value]), lw_limb limb_1_2 (fun args s t => Cond.after_iff.mpr (by
  first | (rw [show limb_1_2 = Cond.eq .result (.int 1) from rfl, Cond.eq_ints (x := 1) (y := 1) rfl rfl]; simp; done) | (simp [limb_1_2, Cond.value, Term.eval]; done)))⟩
